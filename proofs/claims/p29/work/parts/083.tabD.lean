/-! the tables of the walking machine, by program out of the bytecode (wip/pm/gen5.py): the library -/
noncomputable def tJ6_bitCount_0f7a4 : pT := [
  [(0, (.iload_n 0, 1, 0, 0, 0, 0, 0, vn, [])), (1, (.iload_n 0, 2, 0, 0, 0, 0, 0, vn, [])), (2, (.iconst 1, 3, 0, 0, 0, 0, 0, vi (1), [])), (3, (.iushr, 4, 0, 0, 0, 0, 0, vn, [])), (4, (.ldc_w 265, 7, 0, 0, 5, 0, 0, vi (1431655765), [])), (7, (.iand, 8, 0, 0, 0, 0, 0, vn, [])), (8, (.isub, 9, 0, 0, 0, 0, 0, vn, [])), (9, (.istore_n 0, 10, 0, 0, 0, 0, 0, vn, [])), (10, (.iload_n 0, 11, 0, 0, 0, 0, 0, vn, [])), (11, (.ldc_w 266, 14, 0, 0, 6, 0, 0, vi (858993459), [])), (14, (.iand, 15, 0, 0, 0, 0, 0, vn, [])), (15, (.iload_n 0, 16, 0, 0, 0, 0, 0, vn, []))],
  [(16, (.iconst 2, 17, 0, 0, 0, 0, 0, vi (2), [])), (17, (.iushr, 18, 0, 0, 0, 0, 0, vn, [])), (18, (.ldc_w 266, 21, 0, 0, 6, 0, 0, vi (858993459), [])), (21, (.iand, 22, 0, 0, 0, 0, 0, vn, [])), (22, (.iadd, 23, 0, 0, 0, 0, 0, vn, [])), (23, (.istore_n 0, 24, 0, 0, 0, 0, 0, vn, [])), (24, (.iload_n 0, 25, 0, 0, 0, 0, 0, vn, [])), (25, (.iload_n 0, 26, 0, 0, 0, 0, 0, vn, [])), (26, (.iconst 4, 27, 0, 0, 0, 0, 0, vi (4), [])), (27, (.iushr, 28, 0, 0, 0, 0, 0, vn, [])), (28, (.iadd, 29, 0, 0, 0, 0, 0, vn, [])), (29, (.ldc_w 267, 32, 0, 0, 7, 0, 0, vi (252645135), []))],
  [(32, (.iand, 33, 0, 0, 0, 0, 0, vn, [])), (33, (.istore_n 0, 34, 0, 0, 0, 0, 0, vn, [])), (34, (.iload_n 0, 35, 0, 0, 0, 0, 0, vn, [])), (35, (.iload_n 0, 36, 0, 0, 0, 0, 0, vn, [])), (36, (.bipush 8, 38, 0, 0, 0, 0, 0, vi (8), [])), (38, (.iushr, 39, 0, 0, 0, 0, 0, vn, [])), (39, (.iadd, 40, 0, 0, 0, 0, 0, vn, [])), (40, (.istore_n 0, 41, 0, 0, 0, 0, 0, vn, [])), (41, (.iload_n 0, 42, 0, 0, 0, 0, 0, vn, [])), (42, (.iload_n 0, 43, 0, 0, 0, 0, 0, vn, [])), (43, (.bipush 16, 45, 0, 0, 0, 0, 0, vi (16), [])), (45, (.iushr, 46, 0, 0, 0, 0, 0, vn, [])), (46, (.iadd, 47, 0, 0, 0, 0, 0, vn, [])), (47, (.istore_n 0, 48, 0, 0, 0, 0, 0, vn, []))],
  [(48, (.iload_n 0, 49, 0, 0, 0, 0, 0, vn, [])), (49, (.bipush 63, 51, 0, 0, 0, 0, 0, vi (63), [])), (51, (.iand, 52, 0, 0, 0, 0, 0, vn, [])), (52, (.ireturn, 53, 0, 0, 0, 0, 0, vn, []))]]
noncomputable def tJ9_floorMod_7cf53 : pT := [
  [(0, (.iload_n 0, 1, 0, 0, 0, 0, 0, vn, [])), (1, (.iload_n 1, 2, 1, 0, 0, 0, 0, vn, [])), (2, (.irem, 3, 0, 0, 0, 0, 0, vn, [])), (3, (.istore_n 2, 4, 2, 0, 0, 0, 0, vn, [])), (4, (.iload_n 0, 5, 0, 0, 0, 0, 0, vn, [])), (5, (.iload_n 1, 6, 1, 0, 0, 0, 0, vn, [])), (6, (.ixor, 7, 0, 0, 0, 0, 0, vn, [])), (7, (.ifCond .ge 11, 10, 18, 0, 0, 0, 0, vn, [])), (10, (.iload_n 2, 11, 2, 0, 0, 0, 0, vn, [])), (11, (.ifCond .eq 7, 14, 18, 0, 0, 0, 0, vn, [])), (14, (.iload_n 2, 15, 2, 0, 0, 0, 0, vn, [])), (15, (.iload_n 1, 16, 1, 0, 0, 0, 0, vn, []))],
  [(16, (.iadd, 17, 0, 0, 0, 0, 0, vn, [])), (17, (.ireturn, 18, 0, 0, 0, 0, 0, vn, [])), (18, (.iload_n 2, 19, 2, 0, 0, 0, 0, vn, [])), (19, (.ireturn, 20, 0, 0, 0, 0, 0, vn, []))]]
noncomputable def tJ9_abs_0f7a4 : pT := [
  [(0, (.iload_n 0, 1, 0, 0, 0, 0, 0, vn, [])), (1, (.ifCond .ge 8, 4, 9, 0, 0, 0, 0, vn, [])), (4, (.iload_n 0, 5, 0, 0, 0, 0, 0, vn, [])), (5, (.ineg, 6, 0, 0, 0, 0, 0, vn, [])), (6, (.goto 4, 9, 10, 0, 0, 0, 0, vn, [])), (9, (.iload_n 0, 10, 0, 0, 0, 0, 0, vn, [])), (10, (.ireturn, 11, 0, 0, 0, 0, 0, vn, []))]]
noncomputable def tJ9_max_7cf53 : pT := [
  [(0, (.iload_n 0, 1, 0, 0, 0, 0, 0, vn, [])), (1, (.iload_n 1, 2, 1, 0, 0, 0, 0, vn, [])), (2, (.if_icmp .lt 7, 5, 9, 0, 0, 0, 0, vn, [])), (5, (.iload_n 0, 6, 0, 0, 0, 0, 0, vn, [])), (6, (.goto 4, 9, 10, 0, 0, 0, 0, vn, [])), (9, (.iload_n 1, 10, 1, 0, 0, 0, 0, vn, [])), (10, (.ireturn, 11, 0, 0, 0, 0, 0, vn, []))]]
noncomputable def tJ9_min_7cf53 : pT := [
  [(0, (.iload_n 0, 1, 0, 0, 0, 0, 0, vn, [])), (1, (.iload_n 1, 2, 1, 0, 0, 0, 0, vn, [])), (2, (.if_icmp .gt 7, 5, 9, 0, 0, 0, 0, vn, [])), (5, (.iload_n 0, 6, 0, 0, 0, 0, 0, vn, [])), (6, (.goto 4, 9, 10, 0, 0, 0, 0, vn, [])), (9, (.iload_n 1, 10, 1, 0, 0, 0, 0, vn, [])), (10, (.ireturn, 11, 0, 0, 0, 0, 0, vn, []))]]
noncomputable def tJ9_min_f86c9 : pT := [
  [(0, (.lload_n 0, 1, 0, 0, 0, 0, 0, vn, [])), (1, (.lload_n 2, 2, 2, 0, 0, 0, 0, vn, [])), (2, (.lcmp, 3, 0, 0, 0, 0, 0, vn, [])), (3, (.ifCond .gt 7, 6, 10, 0, 0, 0, 0, vn, [])), (6, (.lload_n 0, 7, 0, 0, 0, 0, 0, vn, [])), (7, (.goto 4, 10, 11, 0, 0, 0, 0, vn, [])), (10, (.lload_n 2, 11, 2, 0, 0, 0, 0, vn, [])), (11, (.lreturn, 12, 0, 0, 0, 0, 0, vn, []))]]
noncomputable def tJ0_length_8abf5 : pT := [
  [(0, (.aload_n 0, 1, 0, 0, 0, 0, 0, vn, [])), (1, (.getfield 9, 4, 0, 0, 4, 6, 0, vn, [])), (4, (.arraylength, 5, 0, 0, 0, 2, 0, vn, [])), (5, (.aload_n 0, 6, 0, 0, 0, 0, 0, vn, [])), (6, (.invokevirtual 335, 9, 276, 0, 57, 2, 0, vr 130, [])), (9, (.ishr, 10, 0, 0, 0, 0, 0, vn, [])), (10, (.ireturn, 11, 0, 0, 0, 0, 0, vn, []))]]
noncomputable def tJ0_charAt_5068e : pT := [
  [(0, (.aload_n 0, 1, 0, 0, 0, 0, 0, vn, [])), (1, (.invokevirtual 492, 4, 277, 0, 59, 2, 0, vr 130, [])), (4, (.ifCond .eq 12, 7, 16, 0, 0, 0, 0, vn, [])), (7, (.aload_n 0, 8, 0, 0, 0, 0, 0, vn, [])), (8, (.getfield 9, 11, 0, 0, 4, 6, 0, vn, [])), (11, (.iload_n 1, 12, 1, 0, 0, 0, 0, vn, [])), (12, (.invokestatic 495, 15, 279, 2, 60, 0, 0, vn, [])), (15, (.ireturn, 16, 0, 0, 0, 2, 0, vn, []))],
  [(16, (.aload_n 0, 17, 0, 0, 0, 0, 0, vn, [])), (17, (.getfield 9, 20, 0, 0, 4, 6, 0, vn, [])), (20, (.iload_n 1, 21, 1, 0, 0, 0, 0, vn, [])), (24, (.ireturn, 25, 0, 0, 0, 2, 0, vn, []))]]
noncomputable def tJ0_coder_7d493 : pT := [
  [(0, (.getstatic 38, 3, 3, 0, 1, 0, 0, vi 1, [])), (3, (.ifCond .eq 10, 6, 13, 0, 0, 0, 0, vn, [])), (6, (.aload_n 0, 7, 0, 0, 0, 0, 0, vn, [])), (7, (.getfield 15, 10, 0, 0, 5, 7, 0, vn, [])), (10, (.goto 4, 13, 14, 0, 0, 0, 0, vn, [])), (13, (.iconst 1, 14, 0, 0, 0, 0, 0, vi (1), [])), (14, (.ireturn, 15, 0, 0, 0, 3, 0, vn, []))]]
noncomputable def tJ0_isLatin1_aae02 : pT := [
  [(0, (.getstatic 38, 3, 3, 0, 1, 0, 0, vi 1, [])), (3, (.ifCond .eq 14, 6, 17, 0, 0, 0, 0, vn, [])), (6, (.aload_n 0, 7, 0, 0, 0, 0, 0, vn, [])), (7, (.getfield 15, 10, 0, 0, 5, 7, 0, vn, [])), (10, (.ifCond .ne 7, 13, 17, 0, 0, 0, 0, vn, [])), (13, (.iconst 1, 14, 0, 0, 0, 0, 0, vi (1), [])), (14, (.goto 4, 17, 18, 0, 0, 0, 0, vn, []))],
  [(17, (.iconst 0, 18, 0, 0, 0, 0, 0, vi (0), [])), (18, (.ireturn, 19, 0, 0, 0, 1, 0, vn, []))]]
noncomputable def tJ0_checkIndex_df160 : pT := [
  [(0, (.iload_n 0, 1, 0, 0, 0, 0, 0, vn, [])), (1, (.iload_n 1, 2, 1, 0, 0, 0, 0, vn, [])), (2, (.getstatic 1053, 5, 4, 0, 2, 0, 0, vn, [])), (5, (.invokestatic 1059, 8, 280, 3, 62, 0, 0, vn, [])), (8, (.pop, 9, 0, 0, 0, 0, 0, vn, [])), (9, (.return_, 10, 0, 0, 0, 0, 0, vn, []))]]
noncomputable def tJ1_charAt_3b067 : pT := [
  [(0, (.iload_n 1, 1, 1, 0, 0, 0, 0, vn, [])), (1, (.aload_n 0, 2, 0, 0, 0, 0, 0, vn, [])), (2, (.arraylength, 3, 0, 0, 0, 2, 0, vn, [])), (3, (.invokestatic 9, 6, 278, 2, 61, 0, 0, vn, [])), (6, (.aload_n 0, 7, 0, 0, 0, 0, 0, vn, [])), (7, (.iload_n 1, 8, 1, 0, 0, 0, 0, vn, [])), (8, (.baload, 9, 0, 0, 0, 2, 0, vn, [])), (9, (.sipush 255, 12, 0, 0, 0, 0, 0, vi (255), [])), (12, (.iand, 13, 0, 0, 0, 0, 0, vn, [])), (13, (.i2c, 14, 0, 0, 0, 0, 0, vn, [])), (14, (.ireturn, 15, 0, 0, 0, 2, 0, vn, []))]]
noncomputable def tJ3_checkIndex_8e157 : pT := [
  [(0, (.iload_n 0, 1, 0, 0, 0, 0, 0, vn, [])), (1, (.ifCond .lt 8, 4, 9, 0, 0, 0, 0, vn, [])), (4, (.iload_n 0, 5, 0, 0, 0, 0, 0, vn, [])), (5, (.iload_n 1, 6, 1, 0, 0, 0, 0, vn, [])), (6, (.if_icmp .lt 10, 9, 16, 0, 0, 0, 0, vn, [])), (9, (.aload_n 2, 10, 2, 0, 0, 0, 0, vn, [])), (10, (.iload_n 0, 11, 0, 0, 0, 0, 0, vn, [])), (11, (.iload_n 1, 12, 1, 0, 0, 0, 0, vn, []))],
  [(16, (.iload_n 0, 17, 0, 0, 0, 0, 0, vn, [])), (17, (.ireturn, 18, 0, 0, 0, 0, 0, vn, []))]]
abbrev kJ6_bitCount_0f7a4 : Nat := 268
theorem ckJ6_bitCount_0f7a4 : chkT kJ6_bitCount_0f7a4 tJ6_bitCount_0f7a4 = true := chkF (by decide +kernel)
abbrev kJ9_floorMod_7cf53 : Nat := 269
theorem ckJ9_floorMod_7cf53 : chkT kJ9_floorMod_7cf53 tJ9_floorMod_7cf53 = true := chkF (by decide +kernel)
abbrev kJ9_abs_0f7a4 : Nat := 270
theorem ckJ9_abs_0f7a4 : chkT kJ9_abs_0f7a4 tJ9_abs_0f7a4 = true := chkF (by decide +kernel)
abbrev kJ9_max_7cf53 : Nat := 271
theorem ckJ9_max_7cf53 : chkT kJ9_max_7cf53 tJ9_max_7cf53 = true := chkF (by decide +kernel)
abbrev kJ9_min_7cf53 : Nat := 272
theorem ckJ9_min_7cf53 : chkT kJ9_min_7cf53 tJ9_min_7cf53 = true := chkF (by decide +kernel)
abbrev kJ9_min_f86c9 : Nat := 273
theorem ckJ9_min_f86c9 : chkT kJ9_min_f86c9 tJ9_min_f86c9 = true := chkF (by decide +kernel)
abbrev kJ0_length_8abf5 : Nat := 274
theorem ckJ0_length_8abf5 : chkT kJ0_length_8abf5 tJ0_length_8abf5 = true := chkF (by decide +kernel)
abbrev kJ0_charAt_5068e : Nat := 275
theorem ckJ0_charAt_5068e : chkT kJ0_charAt_5068e tJ0_charAt_5068e = true := chkF (by decide +kernel)
abbrev kJ0_coder_7d493 : Nat := 276
theorem ckJ0_coder_7d493 : chkT kJ0_coder_7d493 tJ0_coder_7d493 = true := chkF (by decide +kernel)
abbrev kJ0_isLatin1_aae02 : Nat := 277
theorem ckJ0_isLatin1_aae02 : chkT kJ0_isLatin1_aae02 tJ0_isLatin1_aae02 = true := chkF (by decide +kernel)
abbrev kJ0_checkIndex_df160 : Nat := 278
theorem ckJ0_checkIndex_df160 : chkT kJ0_checkIndex_df160 tJ0_checkIndex_df160 = true := chkF (by decide +kernel)
abbrev kJ1_charAt_3b067 : Nat := 279
theorem ckJ1_charAt_3b067 : chkT kJ1_charAt_3b067 tJ1_charAt_3b067 = true := chkF (by decide +kernel)
abbrev kJ3_checkIndex_8e157 : Nat := 280
theorem ckJ3_checkIndex_8e157 : chkT kJ3_checkIndex_8e157 tJ3_checkIndex_8e157 = true := chkF (by decide +kernel)
