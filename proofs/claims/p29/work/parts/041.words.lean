/-! the tables' words in small rows (by program: wip/pm/gen4.py) -/
def nd_0 : List Jvm.Cond := [.selects "StrengthHouse" ⟨"StrengthHouse", "sheetAt", "(I)LStrengthHouse$Sheet;"⟩ ⟨"StrengthHouse", "sheetAt", "(I)LStrengthHouse$Sheet;"⟩,
  .selects "StrengthHouse" ⟨"StrengthHouse", "refuse", "(I)I"⟩ ⟨"StrengthHouse", "refuse", "(I)I"⟩,
  .selects "StrengthHouse$Piece" ⟨"StrengthHouse$Piece", "answerAt", "(I)I"⟩ ⟨"StrengthHouse$Piece", "answerAt", "(I)I"⟩,
  .selects "StrengthHouse$TextReader" ⟨"StrengthHouse$TextReader", "next", "()V"⟩ ⟨"StrengthHouse$TextReader", "next", "()V"⟩,
  .selects "StrengthHouse$TextReader" ⟨"StrengthHouse$TextReader", "byteAt", "(I)I"⟩ ⟨"StrengthHouse$TextReader", "byteAt", "(I)I"⟩,
  .selects "StrengthHouse$TextReader" ⟨"StrengthHouse$TextReader", "isLetter", "(I)Z"⟩ ⟨"StrengthHouse$TextReader", "isLetter", "(I)Z"⟩,
  .selects "StrengthHouse$TextReader" ⟨"StrengthHouse$TextReader", "isDigit", "(I)Z"⟩ ⟨"StrengthHouse$TextReader", "isDigit", "(I)Z"⟩,
  .selects "StrengthHouse$TextReader" ⟨"StrengthHouse$TextReader", "isMark", "(Ljava/lang/String;)Z"⟩ ⟨"StrengthHouse$TextReader", "isMark", "(Ljava/lang/String;)Z"⟩,
  .selects "StrengthHouse$TextReader" ⟨"StrengthHouse$TextReader", "readPart", "(LStrengthHouse$Program;Z)Z"⟩ ⟨"StrengthHouse$TextReader", "readPart", "(LStrengthHouse$Program;Z)Z"⟩,
  .selects "StrengthHouse$TextReader" ⟨"StrengthHouse$TextReader", "actHere", "()I"⟩ ⟨"StrengthHouse$TextReader", "actHere", "()I"⟩,
  .selects "StrengthHouse$TextReader" ⟨"StrengthHouse$TextReader", "numberHere", "()I"⟩ ⟨"StrengthHouse$TextReader", "numberHere", "()I"⟩,
  .selects "StrengthHouse$Machine" ⟨"StrengthHouse$Machine", "begin", "(LStrengthHouse$Piece;LStrengthHouse$State;)V"⟩ ⟨"StrengthHouse$Machine", "begin", "(LStrengthHouse$Piece;LStrengthHouse$State;)V"⟩,
  .selects "StrengthHouse$Machine" ⟨"StrengthHouse$Machine", "doPart", "(II)V"⟩ ⟨"StrengthHouse$Machine", "doPart", "(II)V"⟩,
  .selects "StrengthHouse$Machine" ⟨"StrengthHouse$Machine", "isWanted", "(II)Z"⟩ ⟨"StrengthHouse$Machine", "isWanted", "(II)Z"⟩,
  .selects "StrengthHouse$Machine" ⟨"StrengthHouse$Machine", "load", "()I"⟩ ⟨"StrengthHouse$Machine", "load", "()I"⟩,
  .selects "StrengthHouse$Machine" ⟨"StrengthHouse$Machine", "doOnce", "(I)V"⟩ ⟨"StrengthHouse$Machine", "doOnce", "(I)V"⟩]
def nd_1 : List Jvm.Cond := [.selects "StrengthHouse$Machine" ⟨"StrengthHouse$Machine", "moreStretch", "(I)I"⟩ ⟨"StrengthHouse$Machine", "moreStretch", "(I)I"⟩,
  .selects "StrengthHouse$Machine" ⟨"StrengthHouse$Machine", "creeps", "()Z"⟩ ⟨"StrengthHouse$Machine", "creeps", "()Z"⟩,
  .selects "StrengthHouse$Machine" ⟨"StrengthHouse$Machine", "take", "()V"⟩ ⟨"StrengthHouse$Machine", "take", "()V"⟩,
  .selects "StrengthHouse$Machine" ⟨"StrengthHouse$Machine", "askLimits", "(I)V"⟩ ⟨"StrengthHouse$Machine", "askLimits", "(I)V"⟩,
  .selects "StrengthHouse$Readings" ⟨"StrengthHouse$Readings", "tryLine", "(II)V"⟩ ⟨"StrengthHouse$Readings", "tryLine", "(II)V"⟩,
  .selects "StrengthHouse$Readings" ⟨"StrengthHouse$Readings", "belowLine", "(IIII)J"⟩ ⟨"StrengthHouse$Readings", "belowLine", "(IIII)J"⟩,
  .selects "StrengthHouse" ⟨"StrengthHouse", "orNone", "(I)I"⟩ ⟨"StrengthHouse", "orNone", "(I)I"⟩,
  .selects "StrengthHouse$Readings" ⟨"StrengthHouse$Readings", "topAt", "()I"⟩ ⟨"StrengthHouse$Readings", "topAt", "()I"⟩,
  .selects "StrengthHouse$Readings" ⟨"StrengthHouse$Readings", "stretchOr", "(I)I"⟩ ⟨"StrengthHouse$Readings", "stretchOr", "(I)I"⟩,
  .selects "StrengthHouse$Readings" ⟨"StrengthHouse$Readings", "spentBetween", "(II)J"⟩ ⟨"StrengthHouse$Readings", "spentBetween", "(II)J"⟩,
  .selects "StrengthHouse" ⟨"StrengthHouse", "orderCurves", "(II)V"⟩ ⟨"StrengthHouse", "orderCurves", "(II)V"⟩,
  .selects "StrengthHouse" ⟨"StrengthHouse", "orderNumbers", "(II)V"⟩ ⟨"StrengthHouse", "orderNumbers", "(II)V"⟩,
  .selects "StrengthHouse$Order" ⟨"StrengthHouse$Order", "isApart", "(III)Z"⟩ ⟨"StrengthHouse$Order", "isApart", "(III)Z"⟩,
  .selects "StrengthHouse$Meters" ⟨"StrengthHouse$Meters", "ledOnce", "(IJ)J"⟩ ⟨"StrengthHouse$Meters", "ledOnce", "(IJ)J"⟩,
  .selects "StrengthHouse$Meters" ⟨"StrengthHouse$Meters", "otherOf", "(I)I"⟩ ⟨"StrengthHouse$Meters", "otherOf", "(I)I"⟩,
  .selects "StrengthHouse" ⟨"StrengthHouse", "fewestPlates", "(LStrengthHouse$Sheet;II)I"⟩ ⟨"StrengthHouse", "fewestPlates", "(LStrengthHouse$Sheet;II)I"⟩]
def nd_2 : List Jvm.Cond := [.selects "StrengthHouse$Voices" ⟨"StrengthHouse$Voices", "say", "(IIII)I"⟩ ⟨"StrengthHouse$Voices", "say", "(IIII)I"⟩,
  .selects "StrengthHouse$Voices" ⟨"StrengthHouse$Voices", "workOut", "(III)I"⟩ ⟨"StrengthHouse$Voices", "workOut", "(III)I"⟩,
  .selects "StrengthHouse$Voices" ⟨"StrengthHouse$Voices", "shareOut", "(I)I"⟩ ⟨"StrengthHouse$Voices", "shareOut", "(I)I"⟩,
  .selects "StrengthHouse" ⟨"StrengthHouse", "firstUnlike", "(ILStrengthHouse$Readings;)I"⟩ ⟨"StrengthHouse", "firstUnlike", "(ILStrengthHouse$Readings;)I"⟩,
  .selects "StrengthHouseModel" ⟨"StrengthHouseModel", "finding", "(I)I"⟩ ⟨"StrengthHouseModel", "finding", "(I)I"⟩,
  .selects "StrengthHouseModel" ⟨"StrengthHouseModel", "is", "(II)Z"⟩ ⟨"StrengthHouseModel", "is", "(II)Z"⟩,
  .selects "StrengthHouseModel" ⟨"StrengthHouseModel", "many", "(I)I"⟩ ⟨"StrengthHouseModel", "many", "(I)I"⟩,
  .selects "StrengthHouseModel" ⟨"StrengthHouseModel", "of", "(II)I"⟩ ⟨"StrengthHouseModel", "of", "(II)I"⟩,
  .selects "StrengthHouseModel" ⟨"StrengthHouseModel", "isGood", "(II)Z"⟩ ⟨"StrengthHouseModel", "isGood", "(II)Z"⟩,
  .selects "StrengthHouseModel" ⟨"StrengthHouseModel", "load", "(II)I"⟩ ⟨"StrengthHouseModel", "load", "(II)I"⟩,
  .selects "StrengthHouseModel" ⟨"StrengthHouseModel", "answered", "(II)I"⟩ ⟨"StrengthHouseModel", "answered", "(II)I"⟩,
  .selects "StrengthHouseModel" ⟨"StrengthHouseModel", "end", "(I)I"⟩ ⟨"StrengthHouseModel", "end", "(I)I"⟩,
  .selects "StrengthHouseModel" ⟨"StrengthHouseModel", "read", "(IIII)V"⟩ ⟨"StrengthHouseModel", "read", "(IIII)V"⟩,
  .selects "StrengthHouseModel" ⟨"StrengthHouseModel", "stretch", "(II)I"⟩ ⟨"StrengthHouseModel", "stretch", "(II)I"⟩,
  .selects "StrengthHouseModel" ⟨"StrengthHouseModel", "become", "(II)I"⟩ ⟨"StrengthHouseModel", "become", "(II)I"⟩,
  .selects "StrengthHouseModel" ⟨"StrengthHouseModel", "isProgram", "(I)Z"⟩ ⟨"StrengthHouseModel", "isProgram", "(I)Z"⟩]
def nd_3 : List Jvm.Cond := [.selects "StrengthHouseModel" ⟨"StrengthHouseModel", "goOn", "()V"⟩ ⟨"StrengthHouseModel", "goOn", "()V"⟩,
  .selects "StrengthHouseModel" ⟨"StrengthHouseModel", "isByte", "(III)Z"⟩ ⟨"StrengthHouseModel", "isByte", "(III)Z"⟩,
  .selects "StrengthHouseModel" ⟨"StrengthHouseModel", "part", "()V"⟩ ⟨"StrengthHouseModel", "part", "()V"⟩,
  .selects "StrengthHouseModel" ⟨"StrengthHouseModel", "takes", "(Ljava/lang/String;)Z"⟩ ⟨"StrengthHouseModel", "takes", "(Ljava/lang/String;)Z"⟩,
  .selects "StrengthHouseModel" ⟨"StrengthHouseModel", "number", "()I"⟩ ⟨"StrengthHouseModel", "number", "()I"⟩,
  .selects "StrengthHouseModel" ⟨"StrengthHouseModel", "hasProgram", "(I)Z"⟩ ⟨"StrengthHouseModel", "hasProgram", "(I)Z"⟩,
  .selects "StrengthHouseModel" ⟨"StrengthHouseModel", "goThrough", "(II)I"⟩ ⟨"StrengthHouseModel", "goThrough", "(II)I"⟩,
  .selects "StrengthHouseModel" ⟨"StrengthHouseModel", "does", "(II)V"⟩ ⟨"StrengthHouseModel", "does", "(II)V"⟩,
  .selects "StrengthHouseModel" ⟨"StrengthHouseModel", "goesOn", "()Z"⟩ ⟨"StrengthHouseModel", "goesOn", "()Z"⟩,
  .selects "StrengthHouseModel" ⟨"StrengthHouseModel", "loadNow", "()I"⟩ ⟨"StrengthHouseModel", "loadNow", "()I"⟩,
  .selects "StrengthHouseModel" ⟨"StrengthHouseModel", "takeReading", "()V"⟩ ⟨"StrengthHouseModel", "takeReading", "()V"⟩,
  .selects "StrengthHouseModel" ⟨"StrengthHouseModel", "tick", "()V"⟩ ⟨"StrengthHouseModel", "tick", "()V"⟩,
  .selects "StrengthHouseModel" ⟨"StrengthHouseModel", "findLine", "(I)Z"⟩ ⟨"StrengthHouseModel", "findLine", "(I)Z"⟩,
  .selects "StrengthHouseModel" ⟨"StrengthHouseModel", "isOn", "(IIII)Z"⟩ ⟨"StrengthHouseModel", "isOn", "(IIII)Z"⟩,
  .selects "StrengthHouseModel" ⟨"StrengthHouseModel", "yieldOf", "(II)I"⟩ ⟨"StrengthHouseModel", "yieldOf", "(II)I"⟩,
  .selects "StrengthHouseModel" ⟨"StrengthHouseModel", "topOf", "(I)I"⟩ ⟨"StrengthHouseModel", "topOf", "(I)I"⟩]
def nd_4 : List Jvm.Cond := [.selects "StrengthHouseModel" ⟨"StrengthHouseModel", "breakOf", "(II)I"⟩ ⟨"StrengthHouseModel", "breakOf", "(II)I"⟩,
  .selects "StrengthHouseModel" ⟨"StrengthHouseModel", "spentOf", "(II)J"⟩ ⟨"StrengthHouseModel", "spentOf", "(II)J"⟩,
  .selects "StrengthHouseModel" ⟨"StrengthHouseModel", "numberOf", "(II)I"⟩ ⟨"StrengthHouseModel", "numberOf", "(II)I"⟩,
  .selects "StrengthHouseModel" ⟨"StrengthHouseModel", "curveOf", "(II)I"⟩ ⟨"StrengthHouseModel", "curveOf", "(II)I"⟩,
  .selects "StrengthHouseModel" ⟨"StrengthHouseModel", "adds", "(II)V"⟩ ⟨"StrengthHouseModel", "adds", "(II)V"⟩,
  .selects "StrengthHouseModel" ⟨"StrengthHouseModel", "findNumbers", "(II)V"⟩ ⟨"StrengthHouseModel", "findNumbers", "(II)V"⟩,
  .selects "StrengthHouseModel" ⟨"StrengthHouseModel", "meter", "(II)I"⟩ ⟨"StrengthHouseModel", "meter", "(II)I"⟩,
  .selects "StrengthHouseModel" ⟨"StrengthHouseModel", "ledOf", "(II)I"⟩ ⟨"StrengthHouseModel", "ledOf", "(II)I"⟩,
  .selects "StrengthHouseModel" ⟨"StrengthHouseModel", "entry", "(II)I"⟩ ⟨"StrengthHouseModel", "entry", "(II)I"⟩,
  .selects "StrengthHouseModel" ⟨"StrengthHouseModel", "voiced", "(II)I"⟩ ⟨"StrengthHouseModel", "voiced", "(II)I"⟩,
  .selects "StrengthHouseModel" ⟨"StrengthHouseModel", "bodyFrom", "(III)I"⟩ ⟨"StrengthHouseModel", "bodyFrom", "(III)I"⟩,
  .selects "StrengthHouseModel" ⟨"StrengthHouseModel", "body", "(III)I"⟩ ⟨"StrengthHouseModel", "body", "(III)I"⟩,
  .selects "StrengthHouseModel" ⟨"StrengthHouseModel", "began", "(I)V"⟩ ⟨"StrengthHouseModel", "began", "(I)V"⟩]
def nd_5 : List Jvm.Cond := [(Jvm.Cond.initialized "StrengthHouseLaw"),
  (Jvm.Cond.initialized "StrengthHouse"),
  (Jvm.Cond.initialized "StrengthHouse$State"),
  (Jvm.Cond.initialized "StrengthHouse$Meters"),
  (Jvm.Cond.initialized "StrengthHouse$Book"),
  (Jvm.Cond.initialized "StrengthHouse$Piece"),
  (Jvm.Cond.initialized "StrengthHouse$Readings"),
  (Jvm.Cond.initialized "StrengthHouse$Program"),
  (Jvm.Cond.initialized "StrengthHouse$Voices"),
  (Jvm.Cond.initialized "StrengthHouse$Machine"),
  (Jvm.Cond.initialized "StrengthHouse$TextReader"),
  (Jvm.Cond.initialized "StrengthHouse$Order"),
  (Jvm.Cond.initialized "StrengthHouse$Sheet"),
  (Jvm.Cond.initialized "StrengthHouseModel"),
  (Jvm.Cond.initialized "java/lang/Math"),
  (Jvm.Cond.initialized "java/lang/String")]
def nd_6 : List Jvm.Cond := [(Jvm.Cond.initialized "java/lang/StringLatin1"),
  (Jvm.Cond.initialized "jdk/internal/util/Preconditions"),
  (Jvm.Cond.initialized "java/lang/StringUTF16"),
  (Jvm.Cond.initialized "java/lang/System"),
  (Jvm.Cond.initialized "java/lang/Integer"),
  (Jvm.Cond.classLink "StrengthHouseLaw" (7 : Nat) "StrengthHouse"),
  (Jvm.Cond.instantiable "StrengthHouse" (11 : Nat)),
  (Jvm.Cond.methodLink "StrengthHouseLaw" (9 : Nat) ({ cls := "StrengthHouse", name := "<init>", desc := "()V" } : Jvm.MethodName)),
  (Jvm.Cond.instanceMethod ({ cls := "StrengthHouse", name := "<init>", desc := "()V" } : Jvm.MethodName)),
  (Jvm.Cond.code ({ cls := "StrengthHouse", name := "<init>", desc := "()V" } : Jvm.MethodName) prog_1_method_1_code (2 : Nat) (Option.none : Option Jvm.ClassFile.FieldType)),
  (Jvm.Cond.methodLink "StrengthHouse" (1 : Nat) ({ cls := "java/lang/Object", name := "<init>", desc := "()V" } : Jvm.MethodName)),
  (Jvm.Cond.instanceMethod ({ cls := "java/lang/Object", name := "<init>", desc := "()V" } : Jvm.MethodName)),
  (Jvm.Cond.code ({ cls := "java/lang/Object", name := "<init>", desc := "()V" } : Jvm.MethodName) object_method_1_code (1 : Nat) (Option.none : Option Jvm.ClassFile.FieldType)),
  (Jvm.Cond.classLink "StrengthHouse" (7 : Nat) "StrengthHouse$State"),
  (Jvm.Cond.instantiable "StrengthHouse$State" (12 : Nat)),
  (Jvm.Cond.methodLink "StrengthHouse" (9 : Nat) ({ cls := "StrengthHouse$State", name := "<init>", desc := "()V" } : Jvm.MethodName))]
def nd_7 : List Jvm.Cond := [(Jvm.Cond.instanceMethod ({ cls := "StrengthHouse$State", name := "<init>", desc := "()V" } : Jvm.MethodName)),
  (Jvm.Cond.code ({ cls := "StrengthHouse$State", name := "<init>", desc := "()V" } : Jvm.MethodName) prog_10_method_1_code (2 : Nat) (Option.none : Option Jvm.ClassFile.FieldType)),
  (Jvm.Cond.methodLink "StrengthHouse$State" (3 : Nat) ({ cls := "java/lang/Object", name := "<init>", desc := "()V" } : Jvm.MethodName)),
  (Jvm.Cond.classLink "StrengthHouse$State" (9 : Nat) "StrengthHouse$Piece"),
  (Jvm.Cond.arrayOver (Jvm.ClassFile.FieldType.object "StrengthHouse$Piece")),
  (Jvm.Cond.classLink "StrengthHouse$State" (21 : Nat) "StrengthHouse$Program"),
  (Jvm.Cond.arrayOver (Jvm.ClassFile.FieldType.object "StrengthHouse$Program")),
  (Jvm.Cond.constant "StrengthHouse$State" (27 : Nat) (99999 : Int32)),
  (Jvm.Cond.classLink "StrengthHouse$State" (46 : Nat) "StrengthHouse$Meters"),
  (Jvm.Cond.instantiable "StrengthHouse$Meters" (4 : Nat)),
  (Jvm.Cond.methodLinkNest "StrengthHouse$State" (48 : Nat) ({ cls := "StrengthHouse$Meters", name := "<init>", desc := "()V" } : Jvm.MethodName) "StrengthHouse"),
  (Jvm.Cond.instanceMethod ({ cls := "StrengthHouse$Meters", name := "<init>", desc := "()V" } : Jvm.MethodName)),
  (Jvm.Cond.code ({ cls := "StrengthHouse$Meters", name := "<init>", desc := "()V" } : Jvm.MethodName) prog_4_method_1_code (1 : Nat) (Option.none : Option Jvm.ClassFile.FieldType)),
  (Jvm.Cond.methodLink "StrengthHouse$Meters" (3 : Nat) ({ cls := "java/lang/Object", name := "<init>", desc := "()V" } : Jvm.MethodName)),
  (Jvm.Cond.fieldLink "StrengthHouse$Meters" (9 : Nat) "StrengthHouse$Meters" "others" "[I"),
  (Jvm.Cond.fieldLink "StrengthHouse$Meters" (15 : Nat) "StrengthHouse$Meters" "ups" "[I")]
def nd_8 : List Jvm.Cond := [(Jvm.Cond.fieldLink "StrengthHouse$Meters" (18 : Nat) "StrengthHouse$Meters" "downs" "[I"),
  (Jvm.Cond.fieldLink "StrengthHouse$Meters" (21 : Nat) "StrengthHouse$Meters" "doubts" "[I"),
  (Jvm.Cond.laysFinal "StrengthHouse$Meters" "StrengthHouse$Meters" "others" "[I"),
  (Jvm.Cond.soleField "StrengthHouse$Meters" "others"),
  (Jvm.Cond.laysFinal "StrengthHouse$Meters" "StrengthHouse$Meters" "ups" "[I"),
  (Jvm.Cond.soleField "StrengthHouse$Meters" "ups"),
  (Jvm.Cond.laysFinal "StrengthHouse$Meters" "StrengthHouse$Meters" "downs" "[I"),
  (Jvm.Cond.soleField "StrengthHouse$Meters" "downs"),
  (Jvm.Cond.laysFinal "StrengthHouse$Meters" "StrengthHouse$Meters" "doubts" "[I"),
  (Jvm.Cond.soleField "StrengthHouse$Meters" "doubts"),
  (Jvm.Cond.superclass "StrengthHouse$Meters" "java/lang/Object"),
  (Jvm.Cond.arrayClass Jvm.ClassFile.FieldType.int),
  (Jvm.Cond.arrayClass Jvm.ClassFile.FieldType.byte),
  (Jvm.Cond.classLink "StrengthHouse$State" (53 : Nat) "StrengthHouse$Book"),
  (Jvm.Cond.instantiable "StrengthHouse$Book" (7 : Nat)),
  (Jvm.Cond.methodLinkNest "StrengthHouse$State" (55 : Nat) ({ cls := "StrengthHouse$Book", name := "<init>", desc := "()V" } : Jvm.MethodName) "StrengthHouse")]
def nd_9 : List Jvm.Cond := [(Jvm.Cond.instanceMethod ({ cls := "StrengthHouse$Book", name := "<init>", desc := "()V" } : Jvm.MethodName)),
  (Jvm.Cond.code ({ cls := "StrengthHouse$Book", name := "<init>", desc := "()V" } : Jvm.MethodName) prog_2_method_1_code (1 : Nat) (Option.none : Option Jvm.ClassFile.FieldType)),
  (Jvm.Cond.methodLink "StrengthHouse$Book" (3 : Nat) ({ cls := "java/lang/Object", name := "<init>", desc := "()V" } : Jvm.MethodName)),
  (Jvm.Cond.fieldLink "StrengthHouse$Book" (9 : Nat) "StrengthHouse$Book" "lots" "[I"),
  (Jvm.Cond.fieldLink "StrengthHouse$Book" (15 : Nat) "StrengthHouse$Book" "laws" "[I"),
  (Jvm.Cond.fieldLink "StrengthHouse$Book" (18 : Nat) "StrengthHouse$Book" "meters" "[I"),
  (Jvm.Cond.fieldLinkNest "StrengthHouse" (319 : Nat) "StrengthHouse$Book" "meters" "[I" "StrengthHouse"),
  (Jvm.Cond.fieldLink "StrengthHouse$Book" (21 : Nat) "StrengthHouse$Book" "greatest" "[I"),
  (Jvm.Cond.fieldLinkNest "StrengthHouse" (313 : Nat) "StrengthHouse$Book" "greatest" "[I" "StrengthHouse"),
  (Jvm.Cond.fieldLink "StrengthHouse$Book" (24 : Nat) "StrengthHouse$Book" "pieceBits" "[I"),
  (Jvm.Cond.fieldLinkNest "StrengthHouse" (316 : Nat) "StrengthHouse$Book" "pieceBits" "[I" "StrengthHouse"),
  (Jvm.Cond.fieldLink "StrengthHouse$Book" (27 : Nat) "StrengthHouse$Book" "takenBackBy" "[I"),
  (Jvm.Cond.fieldLinkNest "StrengthHouse" (321 : Nat) "StrengthHouse$Book" "takenBackBy" "[I" "StrengthHouse"),
  (Jvm.Cond.fieldLink "StrengthHouse$Book" (30 : Nat) "StrengthHouse$Book" "size" "I"),
  (Jvm.Cond.fieldLinkNest "StrengthHouse" (304 : Nat) "StrengthHouse$Book" "size" "I" "StrengthHouse"),
  (Jvm.Cond.laysFinal "StrengthHouse$Book" "StrengthHouse$Book" "lots" "[I")]
def nd_10 : List Jvm.Cond := [(Jvm.Cond.soleField "StrengthHouse$Book" "lots"),
  (Jvm.Cond.laysFinal "StrengthHouse$Book" "StrengthHouse$Book" "laws" "[I"),
  (Jvm.Cond.soleField "StrengthHouse$Book" "laws"),
  (Jvm.Cond.laysFinal "StrengthHouse$Book" "StrengthHouse$Book" "meters" "[I"),
  (Jvm.Cond.soleField "StrengthHouse$Book" "meters"),
  (Jvm.Cond.laysFinal "StrengthHouse$Book" "StrengthHouse$Book" "greatest" "[I"),
  (Jvm.Cond.soleField "StrengthHouse$Book" "greatest"),
  (Jvm.Cond.laysFinal "StrengthHouse$Book" "StrengthHouse$Book" "pieceBits" "[I"),
  (Jvm.Cond.soleField "StrengthHouse$Book" "pieceBits"),
  (Jvm.Cond.laysFinal "StrengthHouse$Book" "StrengthHouse$Book" "takenBackBy" "[I"),
  (Jvm.Cond.soleField "StrengthHouse$Book" "takenBackBy"),
  (Jvm.Cond.lays "StrengthHouse$Book" "StrengthHouse$Book" "size" "I"),
  (Jvm.Cond.soleField "StrengthHouse$Book" "size"),
  (Jvm.Cond.superclass "StrengthHouse$Book" "java/lang/Object"),
  (Jvm.Cond.instantiable "StrengthHouse$Piece" (6 : Nat)),
  (Jvm.Cond.methodLinkNest "StrengthHouse$State" (66 : Nat) ({ cls := "StrengthHouse$Piece", name := "<init>", desc := "()V" } : Jvm.MethodName) "StrengthHouse")]
def nd_11 : List Jvm.Cond := [(Jvm.Cond.instanceMethod ({ cls := "StrengthHouse$Piece", name := "<init>", desc := "()V" } : Jvm.MethodName)),
  (Jvm.Cond.code ({ cls := "StrengthHouse$Piece", name := "<init>", desc := "()V" } : Jvm.MethodName) prog_6_method_1_code (1 : Nat) (Option.none : Option Jvm.ClassFile.FieldType)),
  (Jvm.Cond.methodLink "StrengthHouse$Piece" (3 : Nat) ({ cls := "java/lang/Object", name := "<init>", desc := "()V" } : Jvm.MethodName)),
  (Jvm.Cond.classLink "StrengthHouse$Piece" (28 : Nat) "StrengthHouse$Readings"),
  (Jvm.Cond.instantiable "StrengthHouse$Readings" (6 : Nat)),
  (Jvm.Cond.methodLinkNest "StrengthHouse$Piece" (30 : Nat) ({ cls := "StrengthHouse$Readings", name := "<init>", desc := "()V" } : Jvm.MethodName) "StrengthHouse"),
  (Jvm.Cond.instanceMethod ({ cls := "StrengthHouse$Readings", name := "<init>", desc := "()V" } : Jvm.MethodName)),
  (Jvm.Cond.code ({ cls := "StrengthHouse$Readings", name := "<init>", desc := "()V" } : Jvm.MethodName) prog_8_method_1_code (1 : Nat) (Option.none : Option Jvm.ClassFile.FieldType)),
  (Jvm.Cond.methodLink "StrengthHouse$Readings" (3 : Nat) ({ cls := "java/lang/Object", name := "<init>", desc := "()V" } : Jvm.MethodName)),
  (Jvm.Cond.fieldLink "StrengthHouse$Readings" (9 : Nat) "StrengthHouse$Readings" "stretches" "[I"),
  (Jvm.Cond.fieldLink "StrengthHouse$Readings" (15 : Nat) "StrengthHouse$Readings" "loads" "[I"),
  (Jvm.Cond.fieldLink "StrengthHouse$Readings" (18 : Nat) "StrengthHouse$Readings" "size" "I"),
  (Jvm.Cond.fieldLinkNest "StrengthHouse" (136 : Nat) "StrengthHouse$Readings" "size" "I" "StrengthHouse"),
  (Jvm.Cond.fieldLinkNest "StrengthHouse$State" (75 : Nat) "StrengthHouse$Readings" "size" "I" "StrengthHouse"),
  (Jvm.Cond.fieldLinkNest "StrengthHouse$Machine" (145 : Nat) "StrengthHouse$Readings" "size" "I" "StrengthHouse"),
  (Jvm.Cond.fieldLink "StrengthHouse$Readings" (22 : Nat) "StrengthHouse$Readings" "lineFirst" "I")]
def nd_12 : List Jvm.Cond := [(Jvm.Cond.fieldLinkNest "StrengthHouse" (234 : Nat) "StrengthHouse$Readings" "lineFirst" "I" "StrengthHouse"),
  (Jvm.Cond.fieldLink "StrengthHouse$Readings" (25 : Nat) "StrengthHouse$Readings" "lineSecond" "I"),
  (Jvm.Cond.fieldLinkNest "StrengthHouse" (237 : Nat) "StrengthHouse$Readings" "lineSecond" "I" "StrengthHouse"),
  (Jvm.Cond.fieldLink "StrengthHouse$Readings" (28 : Nat) "StrengthHouse$Readings" "lineCount" "I"),
  (Jvm.Cond.fieldLinkNest "StrengthHouse" (231 : Nat) "StrengthHouse$Readings" "lineCount" "I" "StrengthHouse"),
  (Jvm.Cond.laysFinal "StrengthHouse$Readings" "StrengthHouse$Readings" "stretches" "[I"),
  (Jvm.Cond.soleField "StrengthHouse$Readings" "stretches"),
  (Jvm.Cond.laysFinal "StrengthHouse$Readings" "StrengthHouse$Readings" "loads" "[I"),
  (Jvm.Cond.soleField "StrengthHouse$Readings" "loads"),
  (Jvm.Cond.lays "StrengthHouse$Readings" "StrengthHouse$Readings" "size" "I"),
  (Jvm.Cond.soleField "StrengthHouse$Readings" "size"),
  (Jvm.Cond.lays "StrengthHouse$Readings" "StrengthHouse$Readings" "lineFirst" "I"),
  (Jvm.Cond.soleField "StrengthHouse$Readings" "lineFirst"),
  (Jvm.Cond.lays "StrengthHouse$Readings" "StrengthHouse$Readings" "lineSecond" "I"),
  (Jvm.Cond.soleField "StrengthHouse$Readings" "lineSecond"),
  (Jvm.Cond.lays "StrengthHouse$Readings" "StrengthHouse$Readings" "lineCount" "I")]
def nd_13 : List Jvm.Cond := [(Jvm.Cond.soleField "StrengthHouse$Readings" "lineCount"),
  (Jvm.Cond.superclass "StrengthHouse$Readings" "java/lang/Object"),
  (Jvm.Cond.fieldLink "StrengthHouse$Piece" (9 : Nat) "StrengthHouse$Piece" "kind" "I"),
  (Jvm.Cond.fieldLinkNest "StrengthHouse$Voices" (38 : Nat) "StrengthHouse$Piece" "kind" "I" "StrengthHouse"),
  (Jvm.Cond.fieldLinkNest "StrengthHouse" (120 : Nat) "StrengthHouse$Piece" "kind" "I" "StrengthHouse"),
  (Jvm.Cond.fieldLink "StrengthHouse$Piece" (15 : Nat) "StrengthHouse$Piece" "lot" "I"),
  (Jvm.Cond.fieldLinkNest "StrengthHouse" (123 : Nat) "StrengthHouse$Piece" "lot" "I" "StrengthHouse"),
  (Jvm.Cond.fieldLink "StrengthHouse$Piece" (18 : Nat) "StrengthHouse$Piece" "size" "I"),
  (Jvm.Cond.fieldLinkNest "StrengthHouse$Voices" (41 : Nat) "StrengthHouse$Piece" "size" "I" "StrengthHouse"),
  (Jvm.Cond.fieldLinkNest "StrengthHouse" (126 : Nat) "StrengthHouse$Piece" "size" "I" "StrengthHouse"),
  (Jvm.Cond.fieldLink "StrengthHouse$Piece" (21 : Nat) "StrengthHouse$Piece" "answers" "[I"),
  (Jvm.Cond.fieldLink "StrengthHouse$Piece" (25 : Nat) "StrengthHouse$Piece" "answerCount" "I"),
  (Jvm.Cond.fieldLinkNest "StrengthHouse" (129 : Nat) "StrengthHouse$Piece" "answerCount" "I" "StrengthHouse"),
  (Jvm.Cond.fieldLink "StrengthHouse$Piece" (31 : Nat) "StrengthHouse$Piece" "readings" "LStrengthHouse$Readings;"),
  (Jvm.Cond.fieldLinkNest "StrengthHouse" (132 : Nat) "StrengthHouse$Piece" "readings" "LStrengthHouse$Readings;" "StrengthHouse"),
  (Jvm.Cond.fieldLinkNest "StrengthHouse$State" (71 : Nat) "StrengthHouse$Piece" "readings" "LStrengthHouse$Readings;" "StrengthHouse")]
def nd_14 : List Jvm.Cond := [(Jvm.Cond.lays "StrengthHouse$Piece" "StrengthHouse$Piece" "kind" "I"),
  (Jvm.Cond.soleField "StrengthHouse$Piece" "kind"),
  (Jvm.Cond.lays "StrengthHouse$Piece" "StrengthHouse$Piece" "lot" "I"),
  (Jvm.Cond.soleField "StrengthHouse$Piece" "lot"),
  (Jvm.Cond.lays "StrengthHouse$Piece" "StrengthHouse$Piece" "size" "I"),
  (Jvm.Cond.soleField "StrengthHouse$Piece" "size"),
  (Jvm.Cond.laysFinal "StrengthHouse$Piece" "StrengthHouse$Piece" "answers" "[I"),
  (Jvm.Cond.soleField "StrengthHouse$Piece" "answers"),
  (Jvm.Cond.lays "StrengthHouse$Piece" "StrengthHouse$Piece" "answerCount" "I"),
  (Jvm.Cond.soleField "StrengthHouse$Piece" "answerCount"),
  (Jvm.Cond.laysFinal "StrengthHouse$Piece" "StrengthHouse$Piece" "readings" "LStrengthHouse$Readings;"),
  (Jvm.Cond.soleField "StrengthHouse$Piece" "readings"),
  (Jvm.Cond.superclass "StrengthHouse$Piece" "java/lang/Object"),
  (Jvm.Cond.instantiable "StrengthHouse$Program" (5 : Nat)),
  (Jvm.Cond.methodLinkNest "StrengthHouse$State" (67 : Nat) ({ cls := "StrengthHouse$Program", name := "<init>", desc := "()V" } : Jvm.MethodName) "StrengthHouse"),
  (Jvm.Cond.instanceMethod ({ cls := "StrengthHouse$Program", name := "<init>", desc := "()V" } : Jvm.MethodName))]
def nd_15 : List Jvm.Cond := [(Jvm.Cond.code ({ cls := "StrengthHouse$Program", name := "<init>", desc := "()V" } : Jvm.MethodName) prog_7_method_1_code (1 : Nat) (Option.none : Option Jvm.ClassFile.FieldType)),
  (Jvm.Cond.methodLink "StrengthHouse$Program" (3 : Nat) ({ cls := "java/lang/Object", name := "<init>", desc := "()V" } : Jvm.MethodName)),
  (Jvm.Cond.fieldLink "StrengthHouse$Program" (9 : Nat) "StrengthHouse$Program" "there" "Z"),
  (Jvm.Cond.fieldLinkNest "StrengthHouse$State" (68 : Nat) "StrengthHouse$Program" "there" "Z" "StrengthHouse"),
  (Jvm.Cond.fieldLinkNest "StrengthHouse" (198 : Nat) "StrengthHouse$Program" "there" "Z" "StrengthHouse"),
  (Jvm.Cond.fieldLink "StrengthHouse$Program" (15 : Nat) "StrengthHouse$Program" "acts" "[I"),
  (Jvm.Cond.fieldLink "StrengthHouse$Program" (19 : Nat) "StrengthHouse$Program" "amounts" "[I"),
  (Jvm.Cond.fieldLink "StrengthHouse$Program" (22 : Nat) "StrengthHouse$Program" "firsts" "I"),
  (Jvm.Cond.fieldLinkNest "StrengthHouse$Machine" (71 : Nat) "StrengthHouse$Program" "firsts" "I" "StrengthHouse"),
  (Jvm.Cond.fieldLink "StrengthHouse$Program" (26 : Nat) "StrengthHouse$Program" "count" "I"),
  (Jvm.Cond.fieldLinkNest "StrengthHouse$Machine" (87 : Nat) "StrengthHouse$Program" "count" "I" "StrengthHouse"),
  (Jvm.Cond.fieldLinkNest "StrengthHouse" (202 : Nat) "StrengthHouse$Program" "count" "I" "StrengthHouse"),
  (Jvm.Cond.lays "StrengthHouse$Program" "StrengthHouse$Program" "there" "Z"),
  (Jvm.Cond.soleField "StrengthHouse$Program" "there"),
  (Jvm.Cond.laysFinal "StrengthHouse$Program" "StrengthHouse$Program" "acts" "[I"),
  (Jvm.Cond.soleField "StrengthHouse$Program" "acts")]
def nd_16 : List Jvm.Cond := [(Jvm.Cond.laysFinal "StrengthHouse$Program" "StrengthHouse$Program" "amounts" "[I"),
  (Jvm.Cond.soleField "StrengthHouse$Program" "amounts"),
  (Jvm.Cond.lays "StrengthHouse$Program" "StrengthHouse$Program" "firsts" "I"),
  (Jvm.Cond.soleField "StrengthHouse$Program" "firsts"),
  (Jvm.Cond.lays "StrengthHouse$Program" "StrengthHouse$Program" "count" "I"),
  (Jvm.Cond.soleField "StrengthHouse$Program" "count"),
  (Jvm.Cond.superclass "StrengthHouse$Program" "java/lang/Object"),
  (Jvm.Cond.fieldLink "StrengthHouse$State" (11 : Nat) "StrengthHouse$State" "pieces" "[LStrengthHouse$Piece;"),
  (Jvm.Cond.fieldLink "StrengthHouse$State" (17 : Nat) "StrengthHouse$State" "pieceCount" "I"),
  (Jvm.Cond.fieldLink "StrengthHouse$State" (23 : Nat) "StrengthHouse$State" "programs" "[LStrengthHouse$Program;"),
  (Jvm.Cond.fieldLink "StrengthHouse$State" (28 : Nat) "StrengthHouse$State" "limits" "[I"),
  (Jvm.Cond.fieldLink "StrengthHouse$State" (32 : Nat) "StrengthHouse$State" "tape" "[B"),
  (Jvm.Cond.fieldLinkNest "StrengthHouse" (186 : Nat) "StrengthHouse$State" "tape" "[B" "StrengthHouse"),
  (Jvm.Cond.fieldLink "StrengthHouse$State" (36 : Nat) "StrengthHouse$State" "tapeLength" "I"),
  (Jvm.Cond.fieldLinkNest "StrengthHouse" (175 : Nat) "StrengthHouse$State" "tapeLength" "I" "StrengthHouse"),
  (Jvm.Cond.fieldLink "StrengthHouse$State" (39 : Nat) "StrengthHouse$State" "latestRun" "[I")]
def nd_17 : List Jvm.Cond := [(Jvm.Cond.fieldLink "StrengthHouse$State" (42 : Nat) "StrengthHouse$State" "hasRun" "Z"),
  (Jvm.Cond.fieldLinkNest "StrengthHouse" (222 : Nat) "StrengthHouse$State" "hasRun" "Z" "StrengthHouse"),
  (Jvm.Cond.fieldLink "StrengthHouse$State" (49 : Nat) "StrengthHouse$State" "meters" "LStrengthHouse$Meters;"),
  (Jvm.Cond.fieldLinkNest "StrengthHouse" (282 : Nat) "StrengthHouse$State" "meters" "LStrengthHouse$Meters;" "StrengthHouse"),
  (Jvm.Cond.fieldLink "StrengthHouse$State" (56 : Nat) "StrengthHouse$State" "book" "LStrengthHouse$Book;"),
  (Jvm.Cond.fieldLinkNest "StrengthHouse" (300 : Nat) "StrengthHouse$State" "book" "LStrengthHouse$Book;" "StrengthHouse"),
  (Jvm.Cond.fieldLink "StrengthHouse$State" (60 : Nat) "StrengthHouse$State" "waiting" "[I"),
  (Jvm.Cond.fieldLink "StrengthHouse$State" (63 : Nat) "StrengthHouse$State" "waitingCount" "I"),
  (Jvm.Cond.fieldLinkNest "StrengthHouse" (386 : Nat) "StrengthHouse$State" "waitingCount" "I" "StrengthHouse"),
  (Jvm.Cond.laysFinal "StrengthHouse$State" "StrengthHouse$State" "pieces" "[LStrengthHouse$Piece;"),
  (Jvm.Cond.soleField "StrengthHouse$State" "pieces"),
  (Jvm.Cond.lays "StrengthHouse$State" "StrengthHouse$State" "pieceCount" "I"),
  (Jvm.Cond.soleField "StrengthHouse$State" "pieceCount"),
  (Jvm.Cond.laysFinal "StrengthHouse$State" "StrengthHouse$State" "programs" "[LStrengthHouse$Program;"),
  (Jvm.Cond.soleField "StrengthHouse$State" "programs"),
  (Jvm.Cond.laysFinal "StrengthHouse$State" "StrengthHouse$State" "limits" "[I")]
def nd_18 : List Jvm.Cond := [(Jvm.Cond.soleField "StrengthHouse$State" "limits"),
  (Jvm.Cond.laysFinal "StrengthHouse$State" "StrengthHouse$State" "tape" "[B"),
  (Jvm.Cond.soleField "StrengthHouse$State" "tape"),
  (Jvm.Cond.lays "StrengthHouse$State" "StrengthHouse$State" "tapeLength" "I"),
  (Jvm.Cond.soleField "StrengthHouse$State" "tapeLength"),
  (Jvm.Cond.laysFinal "StrengthHouse$State" "StrengthHouse$State" "latestRun" "[I"),
  (Jvm.Cond.soleField "StrengthHouse$State" "latestRun"),
  (Jvm.Cond.lays "StrengthHouse$State" "StrengthHouse$State" "hasRun" "Z"),
  (Jvm.Cond.soleField "StrengthHouse$State" "hasRun"),
  (Jvm.Cond.laysFinal "StrengthHouse$State" "StrengthHouse$State" "meters" "LStrengthHouse$Meters;"),
  (Jvm.Cond.soleField "StrengthHouse$State" "meters"),
  (Jvm.Cond.laysFinal "StrengthHouse$State" "StrengthHouse$State" "book" "LStrengthHouse$Book;"),
  (Jvm.Cond.soleField "StrengthHouse$State" "book"),
  (Jvm.Cond.laysFinal "StrengthHouse$State" "StrengthHouse$State" "waiting" "[I"),
  (Jvm.Cond.soleField "StrengthHouse$State" "waiting"),
  (Jvm.Cond.lays "StrengthHouse$State" "StrengthHouse$State" "waitingCount" "I")]
def nd_19 : List Jvm.Cond := [(Jvm.Cond.soleField "StrengthHouse$State" "waitingCount"),
  (Jvm.Cond.superclass "StrengthHouse$State" "java/lang/Object"),
  (Jvm.Cond.classLink "StrengthHouse" (27 : Nat) "StrengthHouse$Sheet"),
  (Jvm.Cond.arrayOver (Jvm.ClassFile.FieldType.object "StrengthHouse$Sheet")),
  (Jvm.Cond.classLink "StrengthHouse" (33 : Nat) "StrengthHouse$Voices"),
  (Jvm.Cond.instantiable "StrengthHouse$Voices" (8 : Nat)),
  (Jvm.Cond.methodLinkNest "StrengthHouse" (35 : Nat) ({ cls := "StrengthHouse$Voices", name := "<init>", desc := "()V" } : Jvm.MethodName) "StrengthHouse"),
  (Jvm.Cond.instanceMethod ({ cls := "StrengthHouse$Voices", name := "<init>", desc := "()V" } : Jvm.MethodName)),
  (Jvm.Cond.code ({ cls := "StrengthHouse$Voices", name := "<init>", desc := "()V" } : Jvm.MethodName) prog_12_method_1_code (1 : Nat) (Option.none : Option Jvm.ClassFile.FieldType)),
  (Jvm.Cond.methodLink "StrengthHouse$Voices" (3 : Nat) ({ cls := "java/lang/Object", name := "<init>", desc := "()V" } : Jvm.MethodName)),
  (Jvm.Cond.fieldLink "StrengthHouse$Voices" (11 : Nat) "StrengthHouse$Voices" "begun" "[I"),
  (Jvm.Cond.fieldLink "StrengthHouse$Voices" (15 : Nat) "StrengthHouse$Voices" "begunCount" "I"),
  (Jvm.Cond.fieldLink "StrengthHouse$Voices" (19 : Nat) "StrengthHouse$Voices" "trace" "[I"),
  (Jvm.Cond.fieldLink "StrengthHouse$Voices" (22 : Nat) "StrengthHouse$Voices" "count" "I"),
  (Jvm.Cond.fieldLinkNest "StrengthHouse" (357 : Nat) "StrengthHouse$Voices" "count" "I" "StrengthHouse"),
  (Jvm.Cond.fieldLink "StrengthHouse$Voices" (25 : Nat) "StrengthHouse$Voices" "kind" "I")]
def nd_20 : List Jvm.Cond := [(Jvm.Cond.fieldLink "StrengthHouse$Voices" (28 : Nat) "StrengthHouse$Voices" "size" "I"),
  (Jvm.Cond.fieldLink "StrengthHouse$Voices" (31 : Nat) "StrengthHouse$Voices" "number" "I"),
  (Jvm.Cond.fieldLink "StrengthHouse$Voices" (34 : Nat) "StrengthHouse$Voices" "parted" "Z"),
  (Jvm.Cond.fieldLinkNest "StrengthHouse" (354 : Nat) "StrengthHouse$Voices" "parted" "Z" "StrengthHouse"),
  (Jvm.Cond.laysFinal "StrengthHouse$Voices" "StrengthHouse$Voices" "begun" "[I"),
  (Jvm.Cond.soleField "StrengthHouse$Voices" "begun"),
  (Jvm.Cond.lays "StrengthHouse$Voices" "StrengthHouse$Voices" "begunCount" "I"),
  (Jvm.Cond.soleField "StrengthHouse$Voices" "begunCount"),
  (Jvm.Cond.laysFinal "StrengthHouse$Voices" "StrengthHouse$Voices" "trace" "[I"),
  (Jvm.Cond.soleField "StrengthHouse$Voices" "trace"),
  (Jvm.Cond.lays "StrengthHouse$Voices" "StrengthHouse$Voices" "count" "I"),
  (Jvm.Cond.soleField "StrengthHouse$Voices" "count"),
  (Jvm.Cond.lays "StrengthHouse$Voices" "StrengthHouse$Voices" "kind" "I"),
  (Jvm.Cond.soleField "StrengthHouse$Voices" "kind"),
  (Jvm.Cond.lays "StrengthHouse$Voices" "StrengthHouse$Voices" "size" "I"),
  (Jvm.Cond.soleField "StrengthHouse$Voices" "size")]
def nd_21 : List Jvm.Cond := [(Jvm.Cond.lays "StrengthHouse$Voices" "StrengthHouse$Voices" "number" "I"),
  (Jvm.Cond.soleField "StrengthHouse$Voices" "number"),
  (Jvm.Cond.lays "StrengthHouse$Voices" "StrengthHouse$Voices" "parted" "Z"),
  (Jvm.Cond.soleField "StrengthHouse$Voices" "parted"),
  (Jvm.Cond.superclass "StrengthHouse$Voices" "java/lang/Object"),
  (Jvm.Cond.classLink "StrengthHouse" (40 : Nat) "StrengthHouse$Machine"),
  (Jvm.Cond.instantiable "StrengthHouse$Machine" (15 : Nat)),
  (Jvm.Cond.methodLinkNest "StrengthHouse" (42 : Nat) ({ cls := "StrengthHouse$Machine", name := "<init>", desc := "()V" } : Jvm.MethodName) "StrengthHouse"),
  (Jvm.Cond.instanceMethod ({ cls := "StrengthHouse$Machine", name := "<init>", desc := "()V" } : Jvm.MethodName)),
  (Jvm.Cond.code ({ cls := "StrengthHouse$Machine", name := "<init>", desc := "()V" } : Jvm.MethodName) prog_3_method_1_code (1 : Nat) (Option.none : Option Jvm.ClassFile.FieldType)),
  (Jvm.Cond.methodLink "StrengthHouse$Machine" (3 : Nat) ({ cls := "java/lang/Object", name := "<init>", desc := "()V" } : Jvm.MethodName)),
  (Jvm.Cond.classLink "StrengthHouse$Machine" (15 : Nat) "StrengthHouse$Readings"),
  (Jvm.Cond.methodLinkNest "StrengthHouse$Machine" (17 : Nat) ({ cls := "StrengthHouse$Readings", name := "<init>", desc := "()V" } : Jvm.MethodName) "StrengthHouse"),
  (Jvm.Cond.classLink "StrengthHouse$Machine" (22 : Nat) "StrengthHouse$Piece"),
  (Jvm.Cond.methodLinkNest "StrengthHouse$Machine" (24 : Nat) ({ cls := "StrengthHouse$Piece", name := "<init>", desc := "()V" } : Jvm.MethodName) "StrengthHouse"),
  (Jvm.Cond.fieldLink "StrengthHouse$Machine" (11 : Nat) "StrengthHouse$Machine" "loads" "[I")]
def nd_22 : List Jvm.Cond := [(Jvm.Cond.fieldLink "StrengthHouse$Machine" (18 : Nat) "StrengthHouse$Machine" "taken" "LStrengthHouse$Readings;"),
  (Jvm.Cond.fieldLinkNest "StrengthHouse" (209 : Nat) "StrengthHouse$Machine" "taken" "LStrengthHouse$Readings;" "StrengthHouse"),
  (Jvm.Cond.fieldLink "StrengthHouse$Machine" (25 : Nat) "StrengthHouse$Machine" "piece" "LStrengthHouse$Piece;"),
  (Jvm.Cond.fieldLink "StrengthHouse$Machine" (29 : Nat) "StrengthHouse$Machine" "loadLimit" "I"),
  (Jvm.Cond.fieldLink "StrengthHouse$Machine" (33 : Nat) "StrengthHouse$Machine" "longLimit" "I"),
  (Jvm.Cond.fieldLink "StrengthHouse$Machine" (36 : Nat) "StrengthHouse$Machine" "meterTop" "I"),
  (Jvm.Cond.fieldLink "StrengthHouse$Machine" (39 : Nat) "StrengthHouse$Machine" "noneEach" "I"),
  (Jvm.Cond.fieldLink "StrengthHouse$Machine" (42 : Nat) "StrengthHouse$Machine" "delay" "I"),
  (Jvm.Cond.fieldLink "StrengthHouse$Machine" (45 : Nat) "StrengthHouse$Machine" "stretch" "I"),
  (Jvm.Cond.fieldLinkNest "StrengthHouse$State" (92 : Nat) "StrengthHouse$Machine" "stretch" "I" "StrengthHouse"),
  (Jvm.Cond.fieldLink "StrengthHouse$Machine" (48 : Nat) "StrengthHouse$Machine" "holds" "I"),
  (Jvm.Cond.fieldLink "StrengthHouse$Machine" (51 : Nat) "StrengthHouse$Machine" "ticks" "I"),
  (Jvm.Cond.fieldLinkNest "StrengthHouse$State" (89 : Nat) "StrengthHouse$Machine" "ticks" "I" "StrengthHouse"),
  (Jvm.Cond.fieldLink "StrengthHouse$Machine" (54 : Nat) "StrengthHouse$Machine" "why" "I"),
  (Jvm.Cond.fieldLinkNest "StrengthHouse" (219 : Nat) "StrengthHouse$Machine" "why" "I" "StrengthHouse"),
  (Jvm.Cond.fieldLinkNest "StrengthHouse$State" (86 : Nat) "StrengthHouse$Machine" "why" "I" "StrengthHouse")]
def nd_23 : List Jvm.Cond := [(Jvm.Cond.fieldLink "StrengthHouse$Machine" (57 : Nat) "StrengthHouse$Machine" "endedAt" "I"),
  (Jvm.Cond.fieldLinkNest "StrengthHouse$State" (95 : Nat) "StrengthHouse$Machine" "endedAt" "I" "StrengthHouse"),
  (Jvm.Cond.fieldLink "StrengthHouse$Machine" (60 : Nat) "StrengthHouse$Machine" "broken" "Z"),
  (Jvm.Cond.fieldLink "StrengthHouse$Machine" (64 : Nat) "StrengthHouse$Machine" "inLast" "Z"),
  (Jvm.Cond.laysFinal "StrengthHouse$Machine" "StrengthHouse$Machine" "loads" "[I"),
  (Jvm.Cond.soleField "StrengthHouse$Machine" "loads"),
  (Jvm.Cond.laysFinal "StrengthHouse$Machine" "StrengthHouse$Machine" "taken" "LStrengthHouse$Readings;"),
  (Jvm.Cond.soleField "StrengthHouse$Machine" "taken"),
  (Jvm.Cond.lays "StrengthHouse$Machine" "StrengthHouse$Machine" "piece" "LStrengthHouse$Piece;"),
  (Jvm.Cond.soleField "StrengthHouse$Machine" "piece"),
  (Jvm.Cond.lays "StrengthHouse$Machine" "StrengthHouse$Machine" "loadLimit" "I"),
  (Jvm.Cond.soleField "StrengthHouse$Machine" "loadLimit"),
  (Jvm.Cond.lays "StrengthHouse$Machine" "StrengthHouse$Machine" "longLimit" "I"),
  (Jvm.Cond.soleField "StrengthHouse$Machine" "longLimit"),
  (Jvm.Cond.lays "StrengthHouse$Machine" "StrengthHouse$Machine" "meterTop" "I"),
  (Jvm.Cond.soleField "StrengthHouse$Machine" "meterTop")]
def nd_24 : List Jvm.Cond := [(Jvm.Cond.lays "StrengthHouse$Machine" "StrengthHouse$Machine" "noneEach" "I"),
  (Jvm.Cond.soleField "StrengthHouse$Machine" "noneEach"),
  (Jvm.Cond.lays "StrengthHouse$Machine" "StrengthHouse$Machine" "delay" "I"),
  (Jvm.Cond.soleField "StrengthHouse$Machine" "delay"),
  (Jvm.Cond.lays "StrengthHouse$Machine" "StrengthHouse$Machine" "stretch" "I"),
  (Jvm.Cond.soleField "StrengthHouse$Machine" "stretch"),
  (Jvm.Cond.lays "StrengthHouse$Machine" "StrengthHouse$Machine" "holds" "I"),
  (Jvm.Cond.soleField "StrengthHouse$Machine" "holds"),
  (Jvm.Cond.lays "StrengthHouse$Machine" "StrengthHouse$Machine" "ticks" "I"),
  (Jvm.Cond.soleField "StrengthHouse$Machine" "ticks"),
  (Jvm.Cond.lays "StrengthHouse$Machine" "StrengthHouse$Machine" "why" "I"),
  (Jvm.Cond.soleField "StrengthHouse$Machine" "why"),
  (Jvm.Cond.lays "StrengthHouse$Machine" "StrengthHouse$Machine" "endedAt" "I"),
  (Jvm.Cond.soleField "StrengthHouse$Machine" "endedAt"),
  (Jvm.Cond.lays "StrengthHouse$Machine" "StrengthHouse$Machine" "broken" "Z"),
  (Jvm.Cond.soleField "StrengthHouse$Machine" "broken")]
def nd_25 : List Jvm.Cond := [(Jvm.Cond.lays "StrengthHouse$Machine" "StrengthHouse$Machine" "inLast" "Z"),
  (Jvm.Cond.soleField "StrengthHouse$Machine" "inLast"),
  (Jvm.Cond.superclass "StrengthHouse$Machine" "java/lang/Object"),
  (Jvm.Cond.classLink "StrengthHouse" (47 : Nat) "StrengthHouse$TextReader"),
  (Jvm.Cond.instantiable "StrengthHouse$TextReader" (4 : Nat)),
  (Jvm.Cond.methodLinkNest "StrengthHouse" (49 : Nat) ({ cls := "StrengthHouse$TextReader", name := "<init>", desc := "()V" } : Jvm.MethodName) "StrengthHouse"),
  (Jvm.Cond.instanceMethod ({ cls := "StrengthHouse$TextReader", name := "<init>", desc := "()V" } : Jvm.MethodName)),
  (Jvm.Cond.code ({ cls := "StrengthHouse$TextReader", name := "<init>", desc := "()V" } : Jvm.MethodName) prog_11_method_1_code (1 : Nat) (Option.none : Option Jvm.ClassFile.FieldType)),
  (Jvm.Cond.methodLink "StrengthHouse$TextReader" (3 : Nat) ({ cls := "java/lang/Object", name := "<init>", desc := "()V" } : Jvm.MethodName)),
  (Jvm.Cond.fieldLink "StrengthHouse$TextReader" (9 : Nat) "StrengthHouse$TextReader" "text" "[B"),
  (Jvm.Cond.fieldLink "StrengthHouse$TextReader" (15 : Nat) "StrengthHouse$TextReader" "length" "I"),
  (Jvm.Cond.fieldLink "StrengthHouse$TextReader" (19 : Nat) "StrengthHouse$TextReader" "from" "I"),
  (Jvm.Cond.fieldLink "StrengthHouse$TextReader" (22 : Nat) "StrengthHouse$TextReader" "to" "I"),
  (Jvm.Cond.lays "StrengthHouse$TextReader" "StrengthHouse$TextReader" "text" "[B"),
  (Jvm.Cond.soleField "StrengthHouse$TextReader" "text"),
  (Jvm.Cond.lays "StrengthHouse$TextReader" "StrengthHouse$TextReader" "length" "I")]
def nd_26 : List Jvm.Cond := [(Jvm.Cond.soleField "StrengthHouse$TextReader" "length"),
  (Jvm.Cond.lays "StrengthHouse$TextReader" "StrengthHouse$TextReader" "from" "I"),
  (Jvm.Cond.soleField "StrengthHouse$TextReader" "from"),
  (Jvm.Cond.lays "StrengthHouse$TextReader" "StrengthHouse$TextReader" "to" "I"),
  (Jvm.Cond.soleField "StrengthHouse$TextReader" "to"),
  (Jvm.Cond.superclass "StrengthHouse$TextReader" "java/lang/Object"),
  (Jvm.Cond.classLink "StrengthHouse" (54 : Nat) "StrengthHouse$Program"),
  (Jvm.Cond.methodLinkNest "StrengthHouse" (56 : Nat) ({ cls := "StrengthHouse$Program", name := "<init>", desc := "()V" } : Jvm.MethodName) "StrengthHouse"),
  (Jvm.Cond.classLink "StrengthHouse" (61 : Nat) "StrengthHouse$Order"),
  (Jvm.Cond.instantiable "StrengthHouse$Order" (3 : Nat)),
  (Jvm.Cond.methodLinkNest "StrengthHouse" (63 : Nat) ({ cls := "StrengthHouse$Order", name := "<init>", desc := "()V" } : Jvm.MethodName) "StrengthHouse"),
  (Jvm.Cond.instanceMethod ({ cls := "StrengthHouse$Order", name := "<init>", desc := "()V" } : Jvm.MethodName)),
  (Jvm.Cond.code ({ cls := "StrengthHouse$Order", name := "<init>", desc := "()V" } : Jvm.MethodName) prog_5_method_1_code (1 : Nat) (Option.none : Option Jvm.ClassFile.FieldType)),
  (Jvm.Cond.methodLink "StrengthHouse$Order" (3 : Nat) ({ cls := "java/lang/Object", name := "<init>", desc := "()V" } : Jvm.MethodName)),
  (Jvm.Cond.fieldLink "StrengthHouse$Order" (9 : Nat) "StrengthHouse$Order" "values" "[I"),
  (Jvm.Cond.fieldLink "StrengthHouse$Order" (15 : Nat) "StrengthHouse$Order" "pieces" "[I")]
def nd_27 : List Jvm.Cond := [(Jvm.Cond.fieldLink "StrengthHouse$Order" (18 : Nat) "StrengthHouse$Order" "size" "I"),
  (Jvm.Cond.fieldLinkNest "StrengthHouse$Book" (34 : Nat) "StrengthHouse$Order" "size" "I" "StrengthHouse"),
  (Jvm.Cond.fieldLinkNest "StrengthHouse" (262 : Nat) "StrengthHouse$Order" "size" "I" "StrengthHouse"),
  (Jvm.Cond.laysFinal "StrengthHouse$Order" "StrengthHouse$Order" "values" "[I"),
  (Jvm.Cond.soleField "StrengthHouse$Order" "values"),
  (Jvm.Cond.laysFinal "StrengthHouse$Order" "StrengthHouse$Order" "pieces" "[I"),
  (Jvm.Cond.soleField "StrengthHouse$Order" "pieces"),
  (Jvm.Cond.lays "StrengthHouse$Order" "StrengthHouse$Order" "size" "I"),
  (Jvm.Cond.soleField "StrengthHouse$Order" "size"),
  (Jvm.Cond.superclass "StrengthHouse$Order" "java/lang/Object"),
  (Jvm.Cond.instantiable "StrengthHouse$Sheet" (3 : Nat)),
  (Jvm.Cond.methodLinkNest "StrengthHouse" (71 : Nat) ({ cls := "StrengthHouse$Sheet", name := "<init>", desc := "()V" } : Jvm.MethodName) "StrengthHouse"),
  (Jvm.Cond.instanceMethod ({ cls := "StrengthHouse$Sheet", name := "<init>", desc := "()V" } : Jvm.MethodName)),
  (Jvm.Cond.code ({ cls := "StrengthHouse$Sheet", name := "<init>", desc := "()V" } : Jvm.MethodName) prog_9_method_1_code (1 : Nat) (Option.none : Option Jvm.ClassFile.FieldType)),
  (Jvm.Cond.methodLink "StrengthHouse$Sheet" (3 : Nat) ({ cls := "java/lang/Object", name := "<init>", desc := "()V" } : Jvm.MethodName)),
  (Jvm.Cond.fieldLink "StrengthHouse$Sheet" (9 : Nat) "StrengthHouse$Sheet" "bits" "I")]
def nd_28 : List Jvm.Cond := [(Jvm.Cond.fieldLinkNest "StrengthHouse" (368 : Nat) "StrengthHouse$Sheet" "bits" "I" "StrengthHouse"),
  (Jvm.Cond.fieldLink "StrengthHouse$Sheet" (15 : Nat) "StrengthHouse$Sheet" "length" "I"),
  (Jvm.Cond.fieldLink "StrengthHouse$Sheet" (18 : Nat) "StrengthHouse$Sheet" "numbers" "[I"),
  (Jvm.Cond.fieldLinkNest "StrengthHouse" (371 : Nat) "StrengthHouse$Sheet" "numbers" "[I" "StrengthHouse"),
  (Jvm.Cond.lays "StrengthHouse$Sheet" "StrengthHouse$Sheet" "bits" "I"),
  (Jvm.Cond.soleField "StrengthHouse$Sheet" "bits"),
  (Jvm.Cond.lays "StrengthHouse$Sheet" "StrengthHouse$Sheet" "length" "I"),
  (Jvm.Cond.soleField "StrengthHouse$Sheet" "length"),
  (Jvm.Cond.laysFinal "StrengthHouse$Sheet" "StrengthHouse$Sheet" "numbers" "[I"),
  (Jvm.Cond.soleField "StrengthHouse$Sheet" "numbers"),
  (Jvm.Cond.superclass "StrengthHouse$Sheet" "java/lang/Object"),
  (Jvm.Cond.fieldLink "StrengthHouse" (10 : Nat) "StrengthHouse" "now" "LStrengthHouse$State;"),
  (Jvm.Cond.fieldLink "StrengthHouse" (16 : Nat) "StrengthHouse" "kept" "LStrengthHouse$State;"),
  (Jvm.Cond.fieldLink "StrengthHouse" (19 : Nat) "StrengthHouse" "images" "I"),
  (Jvm.Cond.fieldLink "StrengthHouse" (23 : Nat) "StrengthHouse" "refused" "[I"),
  (Jvm.Cond.fieldLink "StrengthHouse" (29 : Nat) "StrengthHouse" "sheets" "[LStrengthHouse$Sheet;")]
def nd_29 : List Jvm.Cond := [(Jvm.Cond.fieldLink "StrengthHouse" (36 : Nat) "StrengthHouse" "voices" "LStrengthHouse$Voices;"),
  (Jvm.Cond.fieldLink "StrengthHouse" (43 : Nat) "StrengthHouse" "machine" "LStrengthHouse$Machine;"),
  (Jvm.Cond.fieldLink "StrengthHouse" (50 : Nat) "StrengthHouse" "reader" "LStrengthHouse$TextReader;"),
  (Jvm.Cond.fieldLink "StrengthHouse" (57 : Nat) "StrengthHouse" "draft" "LStrengthHouse$Program;"),
  (Jvm.Cond.fieldLink "StrengthHouse" (64 : Nat) "StrengthHouse" "order" "LStrengthHouse$Order;"),
  (Jvm.Cond.fieldLink "StrengthHouse" (68 : Nat) "StrengthHouse" "cuts" "[I"),
  (Jvm.Cond.laysFinal "StrengthHouse" "StrengthHouse" "now" "LStrengthHouse$State;"),
  (Jvm.Cond.soleField "StrengthHouse" "now"),
  (Jvm.Cond.laysFinal "StrengthHouse" "StrengthHouse" "kept" "LStrengthHouse$State;"),
  (Jvm.Cond.soleField "StrengthHouse" "kept"),
  (Jvm.Cond.lays "StrengthHouse" "StrengthHouse" "images" "I"),
  (Jvm.Cond.soleField "StrengthHouse" "images"),
  (Jvm.Cond.laysFinal "StrengthHouse" "StrengthHouse" "refused" "[I"),
  (Jvm.Cond.soleField "StrengthHouse" "refused"),
  (Jvm.Cond.laysFinal "StrengthHouse" "StrengthHouse" "sheets" "[LStrengthHouse$Sheet;"),
  (Jvm.Cond.soleField "StrengthHouse" "sheets")]
def nd_30 : List Jvm.Cond := [(Jvm.Cond.laysFinal "StrengthHouse" "StrengthHouse" "voices" "LStrengthHouse$Voices;"),
  (Jvm.Cond.soleField "StrengthHouse" "voices"),
  (Jvm.Cond.laysFinal "StrengthHouse" "StrengthHouse" "machine" "LStrengthHouse$Machine;"),
  (Jvm.Cond.soleField "StrengthHouse" "machine"),
  (Jvm.Cond.laysFinal "StrengthHouse" "StrengthHouse" "reader" "LStrengthHouse$TextReader;"),
  (Jvm.Cond.soleField "StrengthHouse" "reader"),
  (Jvm.Cond.laysFinal "StrengthHouse" "StrengthHouse" "draft" "LStrengthHouse$Program;"),
  (Jvm.Cond.soleField "StrengthHouse" "draft"),
  (Jvm.Cond.laysFinal "StrengthHouse" "StrengthHouse" "order" "LStrengthHouse$Order;"),
  (Jvm.Cond.soleField "StrengthHouse" "order"),
  (Jvm.Cond.laysFinal "StrengthHouse" "StrengthHouse" "cuts" "[I"),
  (Jvm.Cond.soleField "StrengthHouse" "cuts"),
  (Jvm.Cond.superclass "StrengthHouse" "java/lang/Object"),
  (Jvm.Cond.methodLink "StrengthHouseLaw" (13 : Nat) ({ cls := "StrengthHouse", name := "piece", desc := "(IIIII)I" } : Jvm.MethodName)),
  (Jvm.Cond.instanceMethod ({ cls := "StrengthHouse", name := "piece", desc := "(IIIII)I" } : Jvm.MethodName)),
  (Jvm.Cond.selects "StrengthHouse" ({ cls := "StrengthHouse", name := "piece", desc := "(IIIII)I" } : Jvm.MethodName) ({ cls := "StrengthHouse", name := "piece", desc := "(IIIII)I" } : Jvm.MethodName))]
def nd_31 : List Jvm.Cond := [(Jvm.Cond.code ({ cls := "StrengthHouse", name := "piece", desc := "(IIIII)I" } : Jvm.MethodName) prog_1_method_2_code (9 : Nat) (Option.some Jvm.ClassFile.FieldType.int)),
  (Jvm.Cond.methodLink "StrengthHouse" (72 : Nat) ({ cls := "StrengthHouse", name := "sheetAt", desc := "(I)LStrengthHouse$Sheet;" } : Jvm.MethodName)),
  (Jvm.Cond.privateMethod ({ cls := "StrengthHouse", name := "sheetAt", desc := "(I)LStrengthHouse$Sheet;" } : Jvm.MethodName)),
  (Jvm.Cond.instanceMethod ({ cls := "StrengthHouse", name := "sheetAt", desc := "(I)LStrengthHouse$Sheet;" } : Jvm.MethodName)),
  (Jvm.Cond.code ({ cls := "StrengthHouse", name := "sheetAt", desc := "(I)LStrengthHouse$Sheet;" } : Jvm.MethodName) prog_1_method_45_code (2 : Nat) (Option.some (Jvm.ClassFile.FieldType.object "StrengthHouse$Sheet"))),
  (Jvm.Cond.methodLink "StrengthHouse" (76 : Nat) ({ cls := "StrengthHouse", name := "within", desc := "(III)Z" } : Jvm.MethodName)),
  (Jvm.Cond.static ({ cls := "StrengthHouse", name := "within", desc := "(III)Z" } : Jvm.MethodName)),
  (Jvm.Cond.code ({ cls := "StrengthHouse", name := "within", desc := "(III)Z" } : Jvm.MethodName) prog_1_method_52_code (3 : Nat) (Option.some Jvm.ClassFile.FieldType.boolean)),
  (Jvm.Cond.methodLink "StrengthHouse" (80 : Nat) ({ cls := "StrengthHouse", name := "isLot", desc := "(I)Z" } : Jvm.MethodName)),
  (Jvm.Cond.static ({ cls := "StrengthHouse", name := "isLot", desc := "(I)Z" } : Jvm.MethodName)),
  (Jvm.Cond.code ({ cls := "StrengthHouse", name := "isLot", desc := "(I)Z" } : Jvm.MethodName) prog_1_method_53_code (1 : Nat) (Option.some Jvm.ClassFile.FieldType.boolean)),
  (Jvm.Cond.methodLink "StrengthHouse" (84 : Nat) ({ cls := "StrengthHouse", name := "refuse", desc := "(I)I" } : Jvm.MethodName)),
  (Jvm.Cond.privateMethod ({ cls := "StrengthHouse", name := "refuse", desc := "(I)I" } : Jvm.MethodName)),
  (Jvm.Cond.instanceMethod ({ cls := "StrengthHouse", name := "refuse", desc := "(I)I" } : Jvm.MethodName)),
  (Jvm.Cond.code ({ cls := "StrengthHouse", name := "refuse", desc := "(I)I" } : Jvm.MethodName) prog_1_method_43_code (2 : Nat) (Option.some Jvm.ClassFile.FieldType.int)),
  (Jvm.Cond.constant "StrengthHouse" (402 : Nat) (-1000000 : Int32))]
def nd_32 : List Jvm.Cond := [(Jvm.Cond.methodLink "StrengthHouse" (88 : Nat) ({ cls := "StrengthHouse$Sheet", name := "isMissing", desc := "()Z" } : Jvm.MethodName)),
  (Jvm.Cond.instanceMethod ({ cls := "StrengthHouse$Sheet", name := "isMissing", desc := "()Z" } : Jvm.MethodName)),
  (Jvm.Cond.selects "StrengthHouse$Sheet" ({ cls := "StrengthHouse$Sheet", name := "isMissing", desc := "()Z" } : Jvm.MethodName) ({ cls := "StrengthHouse$Sheet", name := "isMissing", desc := "()Z" } : Jvm.MethodName)),
  (Jvm.Cond.code ({ cls := "StrengthHouse$Sheet", name := "isMissing", desc := "()Z" } : Jvm.MethodName) prog_9_method_3_code (1 : Nat) (Option.some Jvm.ClassFile.FieldType.boolean)),
  (Jvm.Cond.methodLink "StrengthHouse" (92 : Nat) ({ cls := "StrengthHouse$Sheet", name := "begins", desc := "(III)Z" } : Jvm.MethodName)),
  (Jvm.Cond.instanceMethod ({ cls := "StrengthHouse$Sheet", name := "begins", desc := "(III)Z" } : Jvm.MethodName)),
  (Jvm.Cond.selects "StrengthHouse$Sheet" ({ cls := "StrengthHouse$Sheet", name := "begins", desc := "(III)Z" } : Jvm.MethodName) ({ cls := "StrengthHouse$Sheet", name := "begins", desc := "(III)Z" } : Jvm.MethodName)),
  (Jvm.Cond.code ({ cls := "StrengthHouse$Sheet", name := "begins", desc := "(III)Z" } : Jvm.MethodName) prog_9_method_7_code (5 : Nat) (Option.some Jvm.ClassFile.FieldType.boolean)),
  (Jvm.Cond.methodLink "StrengthHouse$Sheet" (31 : Nat) ({ cls := "StrengthHouse$Sheet", name := "spans", desc := "(II)Z" } : Jvm.MethodName)),
  (Jvm.Cond.instanceMethod ({ cls := "StrengthHouse$Sheet", name := "spans", desc := "(II)Z" } : Jvm.MethodName)),
  (Jvm.Cond.selects "StrengthHouse$Sheet" ({ cls := "StrengthHouse$Sheet", name := "spans", desc := "(II)Z" } : Jvm.MethodName) ({ cls := "StrengthHouse$Sheet", name := "spans", desc := "(II)Z" } : Jvm.MethodName)),
  (Jvm.Cond.code ({ cls := "StrengthHouse$Sheet", name := "spans", desc := "(II)Z" } : Jvm.MethodName) prog_9_method_4_code (3 : Nat) (Option.some Jvm.ClassFile.FieldType.boolean)),
  (Jvm.Cond.methodLink "StrengthHouse$Sheet" (35 : Nat) ({ cls := "StrengthHouse$Sheet", name := "numberAt", desc := "(I)I" } : Jvm.MethodName)),
  (Jvm.Cond.instanceMethod ({ cls := "StrengthHouse$Sheet", name := "numberAt", desc := "(I)I" } : Jvm.MethodName)),
  (Jvm.Cond.selects "StrengthHouse$Sheet" ({ cls := "StrengthHouse$Sheet", name := "numberAt", desc := "(I)I" } : Jvm.MethodName) ({ cls := "StrengthHouse$Sheet", name := "numberAt", desc := "(I)I" } : Jvm.MethodName)),
  (Jvm.Cond.code ({ cls := "StrengthHouse$Sheet", name := "numberAt", desc := "(I)I" } : Jvm.MethodName) prog_9_method_5_code (2 : Nat) (Option.some Jvm.ClassFile.FieldType.int))]
def nd_33 : List Jvm.Cond := [(Jvm.Cond.methodLinkNest "StrengthHouse$Sheet" (39 : Nat) ({ cls := "StrengthHouse", name := "within", desc := "(III)Z" } : Jvm.MethodName) "StrengthHouse"),
  (Jvm.Cond.methodLink "StrengthHouse" (95 : Nat) ({ cls := "StrengthHouse$State", name := "addPiece", desc := "()LStrengthHouse$Piece;" } : Jvm.MethodName)),
  (Jvm.Cond.instanceMethod ({ cls := "StrengthHouse$State", name := "addPiece", desc := "()LStrengthHouse$Piece;" } : Jvm.MethodName)),
  (Jvm.Cond.selects "StrengthHouse$State" ({ cls := "StrengthHouse$State", name := "addPiece", desc := "()LStrengthHouse$Piece;" } : Jvm.MethodName) ({ cls := "StrengthHouse$State", name := "addPiece", desc := "()LStrengthHouse$Piece;" } : Jvm.MethodName)),
  (Jvm.Cond.code ({ cls := "StrengthHouse$State", name := "addPiece", desc := "()LStrengthHouse$Piece;" } : Jvm.MethodName) prog_10_method_4_code (1 : Nat) (Option.some (Jvm.ClassFile.FieldType.object "StrengthHouse$Piece"))),
  (Jvm.Cond.methodLink "StrengthHouse" (99 : Nat) ({ cls := "StrengthHouse$Piece", name := "become", desc := "(III)V" } : Jvm.MethodName)),
  (Jvm.Cond.instanceMethod ({ cls := "StrengthHouse$Piece", name := "become", desc := "(III)V" } : Jvm.MethodName)),
  (Jvm.Cond.selects "StrengthHouse$Piece" ({ cls := "StrengthHouse$Piece", name := "become", desc := "(III)V" } : Jvm.MethodName) ({ cls := "StrengthHouse$Piece", name := "become", desc := "(III)V" } : Jvm.MethodName)),
  (Jvm.Cond.code ({ cls := "StrengthHouse$Piece", name := "become", desc := "(III)V" } : Jvm.MethodName) prog_6_method_2_code (4 : Nat) (Option.none : Option Jvm.ClassFile.FieldType)),
  (Jvm.Cond.methodLink "StrengthHouse$Piece" (35 : Nat) ({ cls := "StrengthHouse$Readings", name := "clear", desc := "()V" } : Jvm.MethodName)),
  (Jvm.Cond.instanceMethod ({ cls := "StrengthHouse$Readings", name := "clear", desc := "()V" } : Jvm.MethodName)),
  (Jvm.Cond.selects "StrengthHouse$Readings" ({ cls := "StrengthHouse$Readings", name := "clear", desc := "()V" } : Jvm.MethodName) ({ cls := "StrengthHouse$Readings", name := "clear", desc := "()V" } : Jvm.MethodName)),
  (Jvm.Cond.code ({ cls := "StrengthHouse$Readings", name := "clear", desc := "()V" } : Jvm.MethodName) prog_8_method_2_code (1 : Nat) (Option.none : Option Jvm.ClassFile.FieldType)),
  (Jvm.Cond.methodLink "StrengthHouse" (105 : Nat) ({ cls := "StrengthHouse$Sheet", name := "numberAt", desc := "(I)I" } : Jvm.MethodName)),
  (Jvm.Cond.methodLink "StrengthHouse" (108 : Nat) ({ cls := "StrengthHouse$Piece", name := "addAnswer", desc := "(I)V" } : Jvm.MethodName)),
  (Jvm.Cond.instanceMethod ({ cls := "StrengthHouse$Piece", name := "addAnswer", desc := "(I)V" } : Jvm.MethodName))]
def nd_34 : List Jvm.Cond := [(Jvm.Cond.selects "StrengthHouse$Piece" ({ cls := "StrengthHouse$Piece", name := "addAnswer", desc := "(I)V" } : Jvm.MethodName) ({ cls := "StrengthHouse$Piece", name := "addAnswer", desc := "(I)V" } : Jvm.MethodName)),
  (Jvm.Cond.code ({ cls := "StrengthHouse$Piece", name := "addAnswer", desc := "(I)V" } : Jvm.MethodName) prog_6_method_3_code (2 : Nat) (Option.none : Option Jvm.ClassFile.FieldType)),
  (Jvm.Cond.methodLink "StrengthHouse" (112 : Nat) ({ cls := "StrengthHouse$State", name := "pieces", desc := "()I" } : Jvm.MethodName)),
  (Jvm.Cond.instanceMethod ({ cls := "StrengthHouse$State", name := "pieces", desc := "()I" } : Jvm.MethodName)),
  (Jvm.Cond.selects "StrengthHouse$State" ({ cls := "StrengthHouse$State", name := "pieces", desc := "()I" } : Jvm.MethodName) ({ cls := "StrengthHouse$State", name := "pieces", desc := "()I" } : Jvm.MethodName)),
  (Jvm.Cond.code ({ cls := "StrengthHouse$State", name := "pieces", desc := "()I" } : Jvm.MethodName) prog_10_method_2_code (1 : Nat) (Option.some Jvm.ClassFile.FieldType.int)),
  (Jvm.Cond.methodLink "StrengthHouseLaw" (18 : Nat) ({ cls := "StrengthHouse", name := "pieceIs", desc := "(II)I" } : Jvm.MethodName)),
  (Jvm.Cond.instanceMethod ({ cls := "StrengthHouse", name := "pieceIs", desc := "(II)I" } : Jvm.MethodName)),
  (Jvm.Cond.selects "StrengthHouse" ({ cls := "StrengthHouse", name := "pieceIs", desc := "(II)I" } : Jvm.MethodName) ({ cls := "StrengthHouse", name := "pieceIs", desc := "(II)I" } : Jvm.MethodName)),
  (Jvm.Cond.code ({ cls := "StrengthHouse", name := "pieceIs", desc := "(II)I" } : Jvm.MethodName) prog_1_method_3_code (4 : Nat) (Option.some Jvm.ClassFile.FieldType.int)),
  (Jvm.Cond.methodLink "StrengthHouse" (116 : Nat) ({ cls := "StrengthHouse$State", name := "pieceAt", desc := "(I)LStrengthHouse$Piece;" } : Jvm.MethodName)),
  (Jvm.Cond.instanceMethod ({ cls := "StrengthHouse$State", name := "pieceAt", desc := "(I)LStrengthHouse$Piece;" } : Jvm.MethodName)),
  (Jvm.Cond.selects "StrengthHouse$State" ({ cls := "StrengthHouse$State", name := "pieceAt", desc := "(I)LStrengthHouse$Piece;" } : Jvm.MethodName) ({ cls := "StrengthHouse$State", name := "pieceAt", desc := "(I)LStrengthHouse$Piece;" } : Jvm.MethodName)),
  (Jvm.Cond.code ({ cls := "StrengthHouse$State", name := "pieceAt", desc := "(I)LStrengthHouse$Piece;" } : Jvm.MethodName) prog_10_method_3_code (2 : Nat) (Option.some (Jvm.ClassFile.FieldType.object "StrengthHouse$Piece"))),
  (Jvm.Cond.methodLink "StrengthHouse" (139 : Nat) ({ cls := "StrengthHouse$Readings", name := "goodOnes", desc := "()I" } : Jvm.MethodName)),
  (Jvm.Cond.instanceMethod ({ cls := "StrengthHouse$Readings", name := "goodOnes", desc := "()I" } : Jvm.MethodName))]
def nd_35 : List Jvm.Cond := [(Jvm.Cond.selects "StrengthHouse$Readings" ({ cls := "StrengthHouse$Readings", name := "goodOnes", desc := "()I" } : Jvm.MethodName) ({ cls := "StrengthHouse$Readings", name := "goodOnes", desc := "()I" } : Jvm.MethodName)),
  (Jvm.Cond.code ({ cls := "StrengthHouse$Readings", name := "goodOnes", desc := "()I" } : Jvm.MethodName) prog_8_method_8_code (3 : Nat) (Option.some Jvm.ClassFile.FieldType.int)),
  (Jvm.Cond.methodLink "StrengthHouse$Readings" (38 : Nat) ({ cls := "StrengthHouse$Readings", name := "isGood", desc := "(I)Z" } : Jvm.MethodName)),
  (Jvm.Cond.instanceMethod ({ cls := "StrengthHouse$Readings", name := "isGood", desc := "(I)Z" } : Jvm.MethodName)),
  (Jvm.Cond.selects "StrengthHouse$Readings" ({ cls := "StrengthHouse$Readings", name := "isGood", desc := "(I)Z" } : Jvm.MethodName) ({ cls := "StrengthHouse$Readings", name := "isGood", desc := "(I)Z" } : Jvm.MethodName)),
  (Jvm.Cond.code ({ cls := "StrengthHouse$Readings", name := "isGood", desc := "(I)Z" } : Jvm.MethodName) prog_8_method_7_code (2 : Nat) (Option.some Jvm.ClassFile.FieldType.boolean)),
  (Jvm.Cond.methodLink "StrengthHouse$Readings" (35 : Nat) ({ cls := "StrengthHouse$Readings", name := "loadAt", desc := "(I)I" } : Jvm.MethodName)),
  (Jvm.Cond.instanceMethod ({ cls := "StrengthHouse$Readings", name := "loadAt", desc := "(I)I" } : Jvm.MethodName)),
  (Jvm.Cond.selects "StrengthHouse$Readings" ({ cls := "StrengthHouse$Readings", name := "loadAt", desc := "(I)I" } : Jvm.MethodName) ({ cls := "StrengthHouse$Readings", name := "loadAt", desc := "(I)I" } : Jvm.MethodName)),
  (Jvm.Cond.code ({ cls := "StrengthHouse$Readings", name := "loadAt", desc := "(I)I" } : Jvm.MethodName) prog_8_method_5_code (2 : Nat) (Option.some Jvm.ClassFile.FieldType.int)),
  (Jvm.Cond.methodLink "StrengthHouseLaw" (23 : Nat) ({ cls := "StrengthHouse", name := "as", desc := "(II)I" } : Jvm.MethodName)),
  (Jvm.Cond.instanceMethod ({ cls := "StrengthHouse", name := "as", desc := "(II)I" } : Jvm.MethodName)),
  (Jvm.Cond.selects "StrengthHouse" ({ cls := "StrengthHouse", name := "as", desc := "(II)I" } : Jvm.MethodName) ({ cls := "StrengthHouse", name := "as", desc := "(II)I" } : Jvm.MethodName)),
  (Jvm.Cond.code ({ cls := "StrengthHouse", name := "as", desc := "(II)I" } : Jvm.MethodName) prog_1_method_4_code (4 : Nat) (Option.some Jvm.ClassFile.FieldType.int)),
  (Jvm.Cond.methodLink "StrengthHouse" (142 : Nat) ({ cls := "StrengthHouse$Piece", name := "isOf", desc := "(I)Z" } : Jvm.MethodName)),
  (Jvm.Cond.instanceMethod ({ cls := "StrengthHouse$Piece", name := "isOf", desc := "(I)Z" } : Jvm.MethodName))]
def nd_36 : List Jvm.Cond := [(Jvm.Cond.selects "StrengthHouse$Piece" ({ cls := "StrengthHouse$Piece", name := "isOf", desc := "(I)Z" } : Jvm.MethodName) ({ cls := "StrengthHouse$Piece", name := "isOf", desc := "(I)Z" } : Jvm.MethodName)),
  (Jvm.Cond.code ({ cls := "StrengthHouse$Piece", name := "isOf", desc := "(I)Z" } : Jvm.MethodName) prog_6_method_5_code (4 : Nat) (Option.some Jvm.ClassFile.FieldType.boolean)),
  (Jvm.Cond.methodLink "StrengthHouse$Piece" (41 : Nat) ({ cls := "StrengthHouse$Piece", name := "above", desc := "(I)I" } : Jvm.MethodName)),
  (Jvm.Cond.static ({ cls := "StrengthHouse$Piece", name := "above", desc := "(I)I" } : Jvm.MethodName)),
  (Jvm.Cond.code ({ cls := "StrengthHouse$Piece", name := "above", desc := "(I)I" } : Jvm.MethodName) prog_6_method_4_code (1 : Nat) (Option.some Jvm.ClassFile.FieldType.int)),
  (Jvm.Cond.fieldLink "StrengthHouse$Piece" (38 : Nat) "StrengthHouse$Piece" "ABOVE" "[I"),
  (Jvm.Cond.laysStatic "StrengthHouse$Piece" "ABOVE" "[I"),
  (Jvm.Cond.methodLink "StrengthHouseLaw" (27 : Nat) ({ cls := "StrengthHouse", name := "answer", desc := "(II)I" } : Jvm.MethodName)),
  (Jvm.Cond.instanceMethod ({ cls := "StrengthHouse", name := "answer", desc := "(II)I" } : Jvm.MethodName)),
  (Jvm.Cond.selects "StrengthHouse" ({ cls := "StrengthHouse", name := "answer", desc := "(II)I" } : Jvm.MethodName) ({ cls := "StrengthHouse", name := "answer", desc := "(II)I" } : Jvm.MethodName)),
  (Jvm.Cond.code ({ cls := "StrengthHouse", name := "answer", desc := "(II)I" } : Jvm.MethodName) prog_1_method_5_code (4 : Nat) (Option.some Jvm.ClassFile.FieldType.int)),
  (Jvm.Cond.methodLink "StrengthHouse" (145 : Nat) ({ cls := "StrengthHouse", name := "isStretch", desc := "(I)Z" } : Jvm.MethodName)),
  (Jvm.Cond.static ({ cls := "StrengthHouse", name := "isStretch", desc := "(I)Z" } : Jvm.MethodName)),
  (Jvm.Cond.code ({ cls := "StrengthHouse", name := "isStretch", desc := "(I)Z" } : Jvm.MethodName) prog_1_method_56_code (1 : Nat) (Option.some Jvm.ClassFile.FieldType.boolean)),
  (Jvm.Cond.methodLink "StrengthHouse" (148 : Nat) ({ cls := "StrengthHouse$Piece", name := "loadAt", desc := "(I)I" } : Jvm.MethodName)),
  (Jvm.Cond.instanceMethod ({ cls := "StrengthHouse$Piece", name := "loadAt", desc := "(I)I" } : Jvm.MethodName))]
def nd_37 : List Jvm.Cond := [(Jvm.Cond.selects "StrengthHouse$Piece" ({ cls := "StrengthHouse$Piece", name := "loadAt", desc := "(I)I" } : Jvm.MethodName) ({ cls := "StrengthHouse$Piece", name := "loadAt", desc := "(I)I" } : Jvm.MethodName)),
  (Jvm.Cond.code ({ cls := "StrengthHouse$Piece", name := "loadAt", desc := "(I)I" } : Jvm.MethodName) prog_6_method_7_code (3 : Nat) (Option.some Jvm.ClassFile.FieldType.int)),
  (Jvm.Cond.methodLink "StrengthHouse$Piece" (45 : Nat) ({ cls := "StrengthHouse$Piece", name := "lastStretch", desc := "()I" } : Jvm.MethodName)),
  (Jvm.Cond.instanceMethod ({ cls := "StrengthHouse$Piece", name := "lastStretch", desc := "()I" } : Jvm.MethodName)),
  (Jvm.Cond.selects "StrengthHouse$Piece" ({ cls := "StrengthHouse$Piece", name := "lastStretch", desc := "()I" } : Jvm.MethodName) ({ cls := "StrengthHouse$Piece", name := "lastStretch", desc := "()I" } : Jvm.MethodName)),
  (Jvm.Cond.code ({ cls := "StrengthHouse$Piece", name := "lastStretch", desc := "()I" } : Jvm.MethodName) prog_6_method_6_code (1 : Nat) (Option.some Jvm.ClassFile.FieldType.int)),
  (Jvm.Cond.methodLink "StrengthHouse$Piece" (49 : Nat) ({ cls := "StrengthHouse$Piece", name := "answerAt", desc := "(I)I" } : Jvm.MethodName)),
  (Jvm.Cond.privateMethod ({ cls := "StrengthHouse$Piece", name := "answerAt", desc := "(I)I" } : Jvm.MethodName)),
  (Jvm.Cond.instanceMethod ({ cls := "StrengthHouse$Piece", name := "answerAt", desc := "(I)I" } : Jvm.MethodName)),
  (Jvm.Cond.code ({ cls := "StrengthHouse$Piece", name := "answerAt", desc := "(I)I" } : Jvm.MethodName) prog_6_method_8_code (4 : Nat) (Option.some Jvm.ClassFile.FieldType.int)),
  (Jvm.Cond.methodLinkNest "StrengthHouse$Piece" (62 : Nat) ({ cls := "StrengthHouse", name := "straight", desc := "(IIII)I" } : Jvm.MethodName) "StrengthHouse"),
  (Jvm.Cond.static ({ cls := "StrengthHouse", name := "straight", desc := "(IIII)I" } : Jvm.MethodName)),
  (Jvm.Cond.code ({ cls := "StrengthHouse", name := "straight", desc := "(IIII)I" } : Jvm.MethodName) prog_1_method_58_code (4 : Nat) (Option.some Jvm.ClassFile.FieldType.int)),
  (Jvm.Cond.methodLink "StrengthHouse$Piece" (52 : Nat) ({ cls := "StrengthHouse$Piece", name := "isOf", desc := "(I)Z" } : Jvm.MethodName)),
  (Jvm.Cond.methodLink "StrengthHouse$Piece" (56 : Nat) ({ cls := "java/lang/Math", name := "max", desc := "(II)I" } : Jvm.MethodName)),
  (Jvm.Cond.static ({ cls := "java/lang/Math", name := "max", desc := "(II)I" } : Jvm.MethodName))]
def nd_38 : List Jvm.Cond := [(Jvm.Cond.code ({ cls := "java/lang/Math", name := "max", desc := "(II)I" } : Jvm.MethodName) prog_16_method_65_code (2 : Nat) (Option.some Jvm.ClassFile.FieldType.int)),
  (Jvm.Cond.methodLink "StrengthHouseLaw" (31 : Nat) ({ cls := "StrengthHouse", name := "trace", desc := "(III)I" } : Jvm.MethodName)),
  (Jvm.Cond.instanceMethod ({ cls := "StrengthHouse", name := "trace", desc := "(III)I" } : Jvm.MethodName)),
  (Jvm.Cond.selects "StrengthHouse" ({ cls := "StrengthHouse", name := "trace", desc := "(III)I" } : Jvm.MethodName) ({ cls := "StrengthHouse", name := "trace", desc := "(III)I" } : Jvm.MethodName)),
  (Jvm.Cond.code ({ cls := "StrengthHouse", name := "trace", desc := "(III)I" } : Jvm.MethodName) prog_1_method_6_code (7 : Nat) (Option.some Jvm.ClassFile.FieldType.int)),
  (Jvm.Cond.methodLink "StrengthHouse" (151 : Nat) ({ cls := "StrengthHouse$Sheet", name := "beginsWithReadings", desc := "(I)Z" } : Jvm.MethodName)),
  (Jvm.Cond.instanceMethod ({ cls := "StrengthHouse$Sheet", name := "beginsWithReadings", desc := "(I)Z" } : Jvm.MethodName)),
  (Jvm.Cond.selects "StrengthHouse$Sheet" ({ cls := "StrengthHouse$Sheet", name := "beginsWithReadings", desc := "(I)Z" } : Jvm.MethodName) ({ cls := "StrengthHouse$Sheet", name := "beginsWithReadings", desc := "(I)Z" } : Jvm.MethodName)),
  (Jvm.Cond.code ({ cls := "StrengthHouse$Sheet", name := "beginsWithReadings", desc := "(I)Z" } : Jvm.MethodName) prog_9_method_8_code (4 : Nat) (Option.some Jvm.ClassFile.FieldType.boolean)),
  (Jvm.Cond.constant "StrengthHouse$Sheet" (45 : Nat) (99999 : Int32)),
  (Jvm.Cond.methodLink "StrengthHouse" (154 : Nat) ({ cls := "StrengthHouse$Readings", name := "clear", desc := "()V" } : Jvm.MethodName)),
  (Jvm.Cond.methodLink "StrengthHouse" (157 : Nat) ({ cls := "StrengthHouse$Readings", name := "add", desc := "(II)V" } : Jvm.MethodName)),
  (Jvm.Cond.instanceMethod ({ cls := "StrengthHouse$Readings", name := "add", desc := "(II)V" } : Jvm.MethodName)),
  (Jvm.Cond.selects "StrengthHouse$Readings" ({ cls := "StrengthHouse$Readings", name := "add", desc := "(II)V" } : Jvm.MethodName) ({ cls := "StrengthHouse$Readings", name := "add", desc := "(II)V" } : Jvm.MethodName)),
  (Jvm.Cond.code ({ cls := "StrengthHouse$Readings", name := "add", desc := "(II)V" } : Jvm.MethodName) prog_8_method_3_code (3 : Nat) (Option.none : Option Jvm.ClassFile.FieldType)),
  (Jvm.Cond.methodLink "StrengthHouseLaw" (36 : Nat) ({ cls := "StrengthHouse", name := "reading", desc := "(III)I" } : Jvm.MethodName))]
def nd_39 : List Jvm.Cond := [(Jvm.Cond.instanceMethod ({ cls := "StrengthHouse", name := "reading", desc := "(III)I" } : Jvm.MethodName)),
  (Jvm.Cond.selects "StrengthHouse" ({ cls := "StrengthHouse", name := "reading", desc := "(III)I" } : Jvm.MethodName) ({ cls := "StrengthHouse", name := "reading", desc := "(III)I" } : Jvm.MethodName)),
  (Jvm.Cond.code ({ cls := "StrengthHouse", name := "reading", desc := "(III)I" } : Jvm.MethodName) prog_1_method_7_code (5 : Nat) (Option.some Jvm.ClassFile.FieldType.int)),
  (Jvm.Cond.methodLink "StrengthHouse" (161 : Nat) ({ cls := "StrengthHouse$Readings", name := "stretchAt", desc := "(I)I" } : Jvm.MethodName)),
  (Jvm.Cond.instanceMethod ({ cls := "StrengthHouse$Readings", name := "stretchAt", desc := "(I)I" } : Jvm.MethodName)),
  (Jvm.Cond.selects "StrengthHouse$Readings" ({ cls := "StrengthHouse$Readings", name := "stretchAt", desc := "(I)I" } : Jvm.MethodName) ({ cls := "StrengthHouse$Readings", name := "stretchAt", desc := "(I)I" } : Jvm.MethodName)),
  (Jvm.Cond.code ({ cls := "StrengthHouse$Readings", name := "stretchAt", desc := "(I)I" } : Jvm.MethodName) prog_8_method_4_code (2 : Nat) (Option.some Jvm.ClassFile.FieldType.int)),
  (Jvm.Cond.methodLink "StrengthHouse" (164 : Nat) ({ cls := "StrengthHouse$Readings", name := "loadAt", desc := "(I)I" } : Jvm.MethodName)),
  (Jvm.Cond.methodLink "StrengthHouseLaw" (40 : Nat) ({ cls := "StrengthHouse", name := "limit", desc := "(II)I" } : Jvm.MethodName)),
  (Jvm.Cond.instanceMethod ({ cls := "StrengthHouse", name := "limit", desc := "(II)I" } : Jvm.MethodName)),
  (Jvm.Cond.selects "StrengthHouse" ({ cls := "StrengthHouse", name := "limit", desc := "(II)I" } : Jvm.MethodName) ({ cls := "StrengthHouse", name := "limit", desc := "(II)I" } : Jvm.MethodName)),
  (Jvm.Cond.code ({ cls := "StrengthHouse", name := "limit", desc := "(II)I" } : Jvm.MethodName) prog_1_method_8_code (4 : Nat) (Option.some Jvm.ClassFile.FieldType.int)),
  (Jvm.Cond.methodLink "StrengthHouse" (165 : Nat) ({ cls := "StrengthHouse$State", name := "isLimit", desc := "(II)Z" } : Jvm.MethodName)),
  (Jvm.Cond.static ({ cls := "StrengthHouse$State", name := "isLimit", desc := "(II)Z" } : Jvm.MethodName)),
  (Jvm.Cond.code ({ cls := "StrengthHouse$State", name := "isLimit", desc := "(II)Z" } : Jvm.MethodName) prog_10_method_8_code (2 : Nat) (Option.some Jvm.ClassFile.FieldType.boolean)),
  (Jvm.Cond.methodLinkNest "StrengthHouse$State" (80 : Nat) ({ cls := "StrengthHouse", name := "within", desc := "(III)Z" } : Jvm.MethodName) "StrengthHouse")]
def nd_40 : List Jvm.Cond := [(Jvm.Cond.methodLink "StrengthHouse" (169 : Nat) ({ cls := "StrengthHouse$State", name := "limitAt", desc := "(I)I" } : Jvm.MethodName)),
  (Jvm.Cond.instanceMethod ({ cls := "StrengthHouse$State", name := "limitAt", desc := "(I)I" } : Jvm.MethodName)),
  (Jvm.Cond.selects "StrengthHouse$State" ({ cls := "StrengthHouse$State", name := "limitAt", desc := "(I)I" } : Jvm.MethodName) ({ cls := "StrengthHouse$State", name := "limitAt", desc := "(I)I" } : Jvm.MethodName)),
  (Jvm.Cond.code ({ cls := "StrengthHouse$State", name := "limitAt", desc := "(I)I" } : Jvm.MethodName) prog_10_method_9_code (2 : Nat) (Option.some Jvm.ClassFile.FieldType.int)),
  (Jvm.Cond.methodLink "StrengthHouse" (172 : Nat) ({ cls := "StrengthHouse$State", name := "setLimit", desc := "(II)V" } : Jvm.MethodName)),
  (Jvm.Cond.instanceMethod ({ cls := "StrengthHouse$State", name := "setLimit", desc := "(II)V" } : Jvm.MethodName)),
  (Jvm.Cond.selects "StrengthHouse$State" ({ cls := "StrengthHouse$State", name := "setLimit", desc := "(II)V" } : Jvm.MethodName) ({ cls := "StrengthHouse$State", name := "setLimit", desc := "(II)V" } : Jvm.MethodName)),
  (Jvm.Cond.code ({ cls := "StrengthHouse$State", name := "setLimit", desc := "(II)V" } : Jvm.MethodName) prog_10_method_10_code (3 : Nat) (Option.none : Option Jvm.ClassFile.FieldType)),
  (Jvm.Cond.methodLink "StrengthHouseLaw" (46 : Nat) ({ cls := "StrengthHouse", name := "feed", desc := "(JI)I" } : Jvm.MethodName)),
  (Jvm.Cond.instanceMethod ({ cls := "StrengthHouse", name := "feed", desc := "(JI)I" } : Jvm.MethodName)),
  (Jvm.Cond.selects "StrengthHouse" ({ cls := "StrengthHouse", name := "feed", desc := "(JI)I" } : Jvm.MethodName) ({ cls := "StrengthHouse", name := "feed", desc := "(JI)I" } : Jvm.MethodName)),
  (Jvm.Cond.code ({ cls := "StrengthHouse", name := "feed", desc := "(JI)I" } : Jvm.MethodName) prog_1_method_9_code (5 : Nat) (Option.some Jvm.ClassFile.FieldType.int)),
  (Jvm.Cond.methodLink "StrengthHouse" (178 : Nat) ({ cls := "StrengthHouse$State", name := "addByte", desc := "(B)V" } : Jvm.MethodName)),
  (Jvm.Cond.instanceMethod ({ cls := "StrengthHouse$State", name := "addByte", desc := "(B)V" } : Jvm.MethodName)),
  (Jvm.Cond.selects "StrengthHouse$State" ({ cls := "StrengthHouse$State", name := "addByte", desc := "(B)V" } : Jvm.MethodName) ({ cls := "StrengthHouse$State", name := "addByte", desc := "(B)V" } : Jvm.MethodName)),
  (Jvm.Cond.code ({ cls := "StrengthHouse$State", name := "addByte", desc := "(B)V" } : Jvm.MethodName) prog_10_method_11_code (2 : Nat) (Option.none : Option Jvm.ClassFile.FieldType))]
def nd_41 : List Jvm.Cond := [(Jvm.Cond.methodLink "StrengthHouseLaw" (51 : Nat) ({ cls := "StrengthHouse", name := "program", desc := "(I)I" } : Jvm.MethodName)),
  (Jvm.Cond.instanceMethod ({ cls := "StrengthHouse", name := "program", desc := "(I)I" } : Jvm.MethodName)),
  (Jvm.Cond.selects "StrengthHouse" ({ cls := "StrengthHouse", name := "program", desc := "(I)I" } : Jvm.MethodName) ({ cls := "StrengthHouse", name := "program", desc := "(I)I" } : Jvm.MethodName)),
  (Jvm.Cond.code ({ cls := "StrengthHouse", name := "program", desc := "(I)I" } : Jvm.MethodName) prog_1_method_10_code (4 : Nat) (Option.some Jvm.ClassFile.FieldType.int)),
  (Jvm.Cond.methodLink "StrengthHouse" (182 : Nat) ({ cls := "StrengthHouse$State", name := "programAt", desc := "(I)LStrengthHouse$Program;" } : Jvm.MethodName)),
  (Jvm.Cond.instanceMethod ({ cls := "StrengthHouse$State", name := "programAt", desc := "(I)LStrengthHouse$Program;" } : Jvm.MethodName)),
  (Jvm.Cond.selects "StrengthHouse$State" ({ cls := "StrengthHouse$State", name := "programAt", desc := "(I)LStrengthHouse$Program;" } : Jvm.MethodName) ({ cls := "StrengthHouse$State", name := "programAt", desc := "(I)LStrengthHouse$Program;" } : Jvm.MethodName)),
  (Jvm.Cond.code ({ cls := "StrengthHouse$State", name := "programAt", desc := "(I)LStrengthHouse$Program;" } : Jvm.MethodName) prog_10_method_5_code (2 : Nat) (Option.some (Jvm.ClassFile.FieldType.object "StrengthHouse$Program"))),
  (Jvm.Cond.methodLink "StrengthHouse" (190 : Nat) ({ cls := "StrengthHouse$TextReader", name := "faultOf", desc := "([BILStrengthHouse$Program;)I" } : Jvm.MethodName)),
  (Jvm.Cond.instanceMethod ({ cls := "StrengthHouse$TextReader", name := "faultOf", desc := "([BILStrengthHouse$Program;)I" } : Jvm.MethodName)),
  (Jvm.Cond.selects "StrengthHouse$TextReader" ({ cls := "StrengthHouse$TextReader", name := "faultOf", desc := "([BILStrengthHouse$Program;)I" } : Jvm.MethodName) ({ cls := "StrengthHouse$TextReader", name := "faultOf", desc := "([BILStrengthHouse$Program;)I" } : Jvm.MethodName)),
  (Jvm.Cond.code ({ cls := "StrengthHouse$TextReader", name := "faultOf", desc := "([BILStrengthHouse$Program;)I" } : Jvm.MethodName) prog_11_method_2_code (6 : Nat) (Option.some Jvm.ClassFile.FieldType.int)),
  (Jvm.Cond.methodLink "StrengthHouse$TextReader" (25 : Nat) ({ cls := "java/lang/Math", name := "min", desc := "(II)I" } : Jvm.MethodName)),
  (Jvm.Cond.static ({ cls := "java/lang/Math", name := "min", desc := "(II)I" } : Jvm.MethodName)),
  (Jvm.Cond.code ({ cls := "java/lang/Math", name := "min", desc := "(II)I" } : Jvm.MethodName) prog_16_method_69_code (2 : Nat) (Option.some Jvm.ClassFile.FieldType.int)),
  (Jvm.Cond.methodLink "StrengthHouse$TextReader" (31 : Nat) ({ cls := "java/lang/Math", name := "max", desc := "(II)I" } : Jvm.MethodName))]
def nd_42 : List Jvm.Cond := [(Jvm.Cond.methodLink "StrengthHouse$TextReader" (34 : Nat) ({ cls := "StrengthHouse$Program", name := "clear", desc := "()V" } : Jvm.MethodName)),
  (Jvm.Cond.instanceMethod ({ cls := "StrengthHouse$Program", name := "clear", desc := "()V" } : Jvm.MethodName)),
  (Jvm.Cond.selects "StrengthHouse$Program" ({ cls := "StrengthHouse$Program", name := "clear", desc := "()V" } : Jvm.MethodName) ({ cls := "StrengthHouse$Program", name := "clear", desc := "()V" } : Jvm.MethodName)),
  (Jvm.Cond.code ({ cls := "StrengthHouse$Program", name := "clear", desc := "()V" } : Jvm.MethodName) prog_7_method_2_code (1 : Nat) (Option.none : Option Jvm.ClassFile.FieldType)),
  (Jvm.Cond.methodLink "StrengthHouse$TextReader" (39 : Nat) ({ cls := "StrengthHouse$TextReader", name := "next", desc := "()V" } : Jvm.MethodName)),
  (Jvm.Cond.privateMethod ({ cls := "StrengthHouse$TextReader", name := "next", desc := "()V" } : Jvm.MethodName)),
  (Jvm.Cond.instanceMethod ({ cls := "StrengthHouse$TextReader", name := "next", desc := "()V" } : Jvm.MethodName)),
  (Jvm.Cond.code ({ cls := "StrengthHouse$TextReader", name := "next", desc := "()V" } : Jvm.MethodName) prog_11_method_8_code (1 : Nat) (Option.none : Option Jvm.ClassFile.FieldType)),
  (Jvm.Cond.methodLink "StrengthHouse$TextReader" (87 : Nat) ({ cls := "StrengthHouse$TextReader", name := "byteAt", desc := "(I)I" } : Jvm.MethodName)),
  (Jvm.Cond.privateMethod ({ cls := "StrengthHouse$TextReader", name := "byteAt", desc := "(I)I" } : Jvm.MethodName)),
  (Jvm.Cond.instanceMethod ({ cls := "StrengthHouse$TextReader", name := "byteAt", desc := "(I)I" } : Jvm.MethodName)),
  (Jvm.Cond.code ({ cls := "StrengthHouse$TextReader", name := "byteAt", desc := "(I)I" } : Jvm.MethodName) prog_11_method_9_code (2 : Nat) (Option.some Jvm.ClassFile.FieldType.int)),
  (Jvm.Cond.methodLink "StrengthHouse$TextReader" (99 : Nat) ({ cls := "StrengthHouse$TextReader", name := "isLetter", desc := "(I)Z" } : Jvm.MethodName)),
  (Jvm.Cond.privateMethod ({ cls := "StrengthHouse$TextReader", name := "isLetter", desc := "(I)Z" } : Jvm.MethodName)),
  (Jvm.Cond.instanceMethod ({ cls := "StrengthHouse$TextReader", name := "isLetter", desc := "(I)Z" } : Jvm.MethodName)),
  (Jvm.Cond.code ({ cls := "StrengthHouse$TextReader", name := "isLetter", desc := "(I)Z" } : Jvm.MethodName) prog_11_method_10_code (2 : Nat) (Option.some Jvm.ClassFile.FieldType.boolean))]
def nd_43 : List Jvm.Cond := [(Jvm.Cond.methodLinkNest "StrengthHouse$TextReader" (102 : Nat) ({ cls := "StrengthHouse", name := "within", desc := "(III)Z" } : Jvm.MethodName) "StrengthHouse"),
  (Jvm.Cond.methodLink "StrengthHouse$TextReader" (83 : Nat) ({ cls := "StrengthHouse$TextReader", name := "isDigit", desc := "(I)Z" } : Jvm.MethodName)),
  (Jvm.Cond.privateMethod ({ cls := "StrengthHouse$TextReader", name := "isDigit", desc := "(I)Z" } : Jvm.MethodName)),
  (Jvm.Cond.instanceMethod ({ cls := "StrengthHouse$TextReader", name := "isDigit", desc := "(I)Z" } : Jvm.MethodName)),
  (Jvm.Cond.code ({ cls := "StrengthHouse$TextReader", name := "isDigit", desc := "(I)Z" } : Jvm.MethodName) prog_11_method_11_code (2 : Nat) (Option.some Jvm.ClassFile.FieldType.boolean)),
  (Jvm.Cond.stringRef "StrengthHouse$TextReader" (42 : Nat) "last"),
  (Jvm.Cond.methodLink "StrengthHouse$TextReader" (44 : Nat) ({ cls := "StrengthHouse$TextReader", name := "isMark", desc := "(Ljava/lang/String;)Z" } : Jvm.MethodName)),
  (Jvm.Cond.privateMethod ({ cls := "StrengthHouse$TextReader", name := "isMark", desc := "(Ljava/lang/String;)Z" } : Jvm.MethodName)),
  (Jvm.Cond.instanceMethod ({ cls := "StrengthHouse$TextReader", name := "isMark", desc := "(Ljava/lang/String;)Z" } : Jvm.MethodName)),
  (Jvm.Cond.code ({ cls := "StrengthHouse$TextReader", name := "isMark", desc := "(Ljava/lang/String;)Z" } : Jvm.MethodName) prog_11_method_7_code (3 : Nat) (Option.some Jvm.ClassFile.FieldType.boolean)),
  (Jvm.Cond.methodLink "StrengthHouse$TextReader" (91 : Nat) ({ cls := "java/lang/String", name := "length", desc := "()I" } : Jvm.MethodName)),
  (Jvm.Cond.instanceMethod ({ cls := "java/lang/String", name := "length", desc := "()I" } : Jvm.MethodName)),
  (Jvm.Cond.selects "java/lang/String" ({ cls := "java/lang/String", name := "length", desc := "()I" } : Jvm.MethodName) ({ cls := "java/lang/String", name := "length", desc := "()I" } : Jvm.MethodName)),
  (Jvm.Cond.code ({ cls := "java/lang/String", name := "length", desc := "()I" } : Jvm.MethodName) prog_17_method_54_code (1 : Nat) (Option.some Jvm.ClassFile.FieldType.int)),
  (Jvm.Cond.methodLink "java/lang/String" (335 : Nat) ({ cls := "java/lang/String", name := "coder", desc := "()B" } : Jvm.MethodName)),
  (Jvm.Cond.instanceMethod ({ cls := "java/lang/String", name := "coder", desc := "()B" } : Jvm.MethodName))]
def nd_44 : List Jvm.Cond := [(Jvm.Cond.selects "java/lang/String" ({ cls := "java/lang/String", name := "coder", desc := "()B" } : Jvm.MethodName) ({ cls := "java/lang/String", name := "coder", desc := "()B" } : Jvm.MethodName)),
  (Jvm.Cond.code ({ cls := "java/lang/String", name := "coder", desc := "()B" } : Jvm.MethodName) prog_17_method_152_code (1 : Nat) (Option.some Jvm.ClassFile.FieldType.byte)),
  (Jvm.Cond.fieldLink "java/lang/String" (38 : Nat) "java/lang/String" "COMPACT_STRINGS" "Z"),
  (Jvm.Cond.laysStatic "java/lang/String" "COMPACT_STRINGS" "Z"),
  (Jvm.Cond.methodLink "StrengthHouse$TextReader" (95 : Nat) ({ cls := "java/lang/String", name := "charAt", desc := "(I)C" } : Jvm.MethodName)),
  (Jvm.Cond.instanceMethod ({ cls := "java/lang/String", name := "charAt", desc := "(I)C" } : Jvm.MethodName)),
  (Jvm.Cond.selects "java/lang/String" ({ cls := "java/lang/String", name := "charAt", desc := "(I)C" } : Jvm.MethodName) ({ cls := "java/lang/String", name := "charAt", desc := "(I)C" } : Jvm.MethodName)),
  (Jvm.Cond.code ({ cls := "java/lang/String", name := "charAt", desc := "(I)C" } : Jvm.MethodName) prog_17_method_56_code (2 : Nat) (Option.some Jvm.ClassFile.FieldType.char)),
  (Jvm.Cond.methodLink "java/lang/String" (492 : Nat) ({ cls := "java/lang/String", name := "isLatin1", desc := "()Z" } : Jvm.MethodName)),
  (Jvm.Cond.instanceMethod ({ cls := "java/lang/String", name := "isLatin1", desc := "()Z" } : Jvm.MethodName)),
  (Jvm.Cond.selects "java/lang/String" ({ cls := "java/lang/String", name := "isLatin1", desc := "()Z" } : Jvm.MethodName) ({ cls := "java/lang/String", name := "isLatin1", desc := "()Z" } : Jvm.MethodName)),
  (Jvm.Cond.code ({ cls := "java/lang/String", name := "isLatin1", desc := "()Z" } : Jvm.MethodName) prog_17_method_154_code (1 : Nat) (Option.some Jvm.ClassFile.FieldType.boolean)),
  (Jvm.Cond.methodLink "java/lang/String" (495 : Nat) ({ cls := "java/lang/StringLatin1", name := "charAt", desc := "([BI)C" } : Jvm.MethodName)),
  (Jvm.Cond.static ({ cls := "java/lang/StringLatin1", name := "charAt", desc := "([BI)C" } : Jvm.MethodName)),
  (Jvm.Cond.code ({ cls := "java/lang/StringLatin1", name := "charAt", desc := "([BI)C" } : Jvm.MethodName) prog_18_method_2_code (2 : Nat) (Option.some Jvm.ClassFile.FieldType.char)),
  (Jvm.Cond.methodLink "java/lang/StringLatin1" (9 : Nat) ({ cls := "java/lang/String", name := "checkIndex", desc := "(II)V" } : Jvm.MethodName))]
def nd_45 : List Jvm.Cond := [(Jvm.Cond.static ({ cls := "java/lang/String", name := "checkIndex", desc := "(II)V" } : Jvm.MethodName)),
  (Jvm.Cond.code ({ cls := "java/lang/String", name := "checkIndex", desc := "(II)V" } : Jvm.MethodName) prog_17_method_155_code (2 : Nat) (Option.none : Option Jvm.ClassFile.FieldType)),
  (Jvm.Cond.fieldLink "java/lang/String" (1053 : Nat) "jdk/internal/util/Preconditions" "SIOOBE_FORMATTER" "Ljava/util/function/BiFunction;"),
  (Jvm.Cond.laysStatic "jdk/internal/util/Preconditions" "SIOOBE_FORMATTER" "Ljava/util/function/BiFunction;"),
  (Jvm.Cond.methodLink "java/lang/String" (1059 : Nat) ({ cls := "jdk/internal/util/Preconditions", name := "checkIndex", desc := "(IILjava/util/function/BiFunction;)I" } : Jvm.MethodName)),
  (Jvm.Cond.static ({ cls := "jdk/internal/util/Preconditions", name := "checkIndex", desc := "(IILjava/util/function/BiFunction;)I" } : Jvm.MethodName)),
  (Jvm.Cond.code ({ cls := "jdk/internal/util/Preconditions", name := "checkIndex", desc := "(IILjava/util/function/BiFunction;)I" } : Jvm.MethodName) prog_21_method_11_code (3 : Nat) (Option.some Jvm.ClassFile.FieldType.int)),
  (Jvm.Cond.methodLink "java/lang/String" (498 : Nat) ({ cls := "java/lang/StringUTF16", name := "charAt", desc := "([BI)C" } : Jvm.MethodName)),
  (Jvm.Cond.static ({ cls := "java/lang/StringUTF16", name := "charAt", desc := "([BI)C" } : Jvm.MethodName)),
  (Jvm.Cond.code ({ cls := "java/lang/StringUTF16", name := "charAt", desc := "([BI)C" } : Jvm.MethodName) prog_19_method_83_code (2 : Nat) (Option.some Jvm.ClassFile.FieldType.char)),
  (Jvm.Cond.methodLink "java/lang/StringUTF16" (67 : Nat) ({ cls := "java/lang/StringUTF16", name := "checkIndex", desc := "(I[B)V" } : Jvm.MethodName)),
  (Jvm.Cond.static ({ cls := "java/lang/StringUTF16", name := "checkIndex", desc := "(I[B)V" } : Jvm.MethodName)),
  (Jvm.Cond.code ({ cls := "java/lang/StringUTF16", name := "checkIndex", desc := "(I[B)V" } : Jvm.MethodName) prog_19_method_91_code (2 : Nat) (Option.none : Option Jvm.ClassFile.FieldType)),
  (Jvm.Cond.methodLink "java/lang/StringUTF16" (48 : Nat) ({ cls := "java/lang/StringUTF16", name := "length", desc := "([B)I" } : Jvm.MethodName)),
  (Jvm.Cond.static ({ cls := "java/lang/StringUTF16", name := "length", desc := "([B)I" } : Jvm.MethodName)),
  (Jvm.Cond.code ({ cls := "java/lang/StringUTF16", name := "length", desc := "([B)I" } : Jvm.MethodName) prog_19_method_6_code (1 : Nat) (Option.some Jvm.ClassFile.FieldType.int))]
def nd_46 : List Jvm.Cond := [(Jvm.Cond.methodLink "java/lang/StringUTF16" (414 : Nat) ({ cls := "java/lang/String", name := "checkIndex", desc := "(II)V" } : Jvm.MethodName)),
  (Jvm.Cond.methodLink "java/lang/StringUTF16" (71 : Nat) ({ cls := "java/lang/StringUTF16", name := "getChar", desc := "([BI)C" } : Jvm.MethodName)),
  (Jvm.Cond.static ({ cls := "java/lang/StringUTF16", name := "getChar", desc := "([BI)C" } : Jvm.MethodName)),
  (Jvm.Cond.code ({ cls := "java/lang/StringUTF16", name := "getChar", desc := "([BI)C" } : Jvm.MethodName) prog_19_method_5_code (2 : Nat) (Option.some Jvm.ClassFile.FieldType.char)),
  (Jvm.Cond.fieldLink "java/lang/StringUTF16" (44 : Nat) "java/lang/StringUTF16" "$assertionsDisabled" "Z"),
  (Jvm.Cond.laysStatic "java/lang/StringUTF16" "$assertionsDisabled" "Z"),
  (Jvm.Cond.fieldLink "java/lang/StringUTF16" (59 : Nat) "java/lang/StringUTF16" "HI_BYTE_SHIFT" "I"),
  (Jvm.Cond.laysStatic "java/lang/StringUTF16" "HI_BYTE_SHIFT" "I"),
  (Jvm.Cond.fieldLink "java/lang/StringUTF16" (63 : Nat) "java/lang/StringUTF16" "LO_BYTE_SHIFT" "I"),
  (Jvm.Cond.laysStatic "java/lang/StringUTF16" "LO_BYTE_SHIFT" "I"),
  (Jvm.Cond.methodLink "StrengthHouse$TextReader" (48 : Nat) ({ cls := "StrengthHouse$TextReader", name := "readPart", desc := "(LStrengthHouse$Program;Z)Z" } : Jvm.MethodName)),
  (Jvm.Cond.privateMethod ({ cls := "StrengthHouse$TextReader", name := "readPart", desc := "(LStrengthHouse$Program;Z)Z" } : Jvm.MethodName)),
  (Jvm.Cond.instanceMethod ({ cls := "StrengthHouse$TextReader", name := "readPart", desc := "(LStrengthHouse$Program;Z)Z" } : Jvm.MethodName)),
  (Jvm.Cond.code ({ cls := "StrengthHouse$TextReader", name := "readPart", desc := "(LStrengthHouse$Program;Z)Z" } : Jvm.MethodName) prog_11_method_3_code (5 : Nat) (Option.some Jvm.ClassFile.FieldType.boolean)),
  (Jvm.Cond.methodLink "StrengthHouse$TextReader" (56 : Nat) ({ cls := "StrengthHouse$TextReader", name := "actHere", desc := "()I" } : Jvm.MethodName)),
  (Jvm.Cond.privateMethod ({ cls := "StrengthHouse$TextReader", name := "actHere", desc := "()I" } : Jvm.MethodName))]
def nd_47 : List Jvm.Cond := [(Jvm.Cond.instanceMethod ({ cls := "StrengthHouse$TextReader", name := "actHere", desc := "()I" } : Jvm.MethodName)),
  (Jvm.Cond.code ({ cls := "StrengthHouse$TextReader", name := "actHere", desc := "()I" } : Jvm.MethodName) prog_11_method_4_code (2 : Nat) (Option.some Jvm.ClassFile.FieldType.int)),
  (Jvm.Cond.methodLink "StrengthHouse$TextReader" (67 : Nat) ({ cls := "StrengthHouse$TextReader", name := "wordOf", desc := "(I)Ljava/lang/String;" } : Jvm.MethodName)),
  (Jvm.Cond.static ({ cls := "StrengthHouse$TextReader", name := "wordOf", desc := "(I)Ljava/lang/String;" } : Jvm.MethodName)),
  (Jvm.Cond.code ({ cls := "StrengthHouse$TextReader", name := "wordOf", desc := "(I)Ljava/lang/String;" } : Jvm.MethodName) prog_11_method_5_code (1 : Nat) (Option.some (Jvm.ClassFile.FieldType.object "java/lang/String"))),
  (Jvm.Cond.stringRef "StrengthHouse$TextReader" (71 : Nat) "go"),
  (Jvm.Cond.stringRef "StrengthHouse$TextReader" (73 : Nat) "load"),
  (Jvm.Cond.stringRef "StrengthHouse$TextReader" (75 : Nat) "hold"),
  (Jvm.Cond.stringRef "StrengthHouse$TextReader" (77 : Nat) "back"),
  (Jvm.Cond.stringRef "StrengthHouse$TextReader" (79 : Nat) "read"),
  (Jvm.Cond.stringRef "StrengthHouse$TextReader" (81 : Nat) "till"),
  (Jvm.Cond.methodLink "StrengthHouse$TextReader" (60 : Nat) ({ cls := "StrengthHouse$Program", name := "add", desc := "(IIZ)V" } : Jvm.MethodName)),
  (Jvm.Cond.instanceMethod ({ cls := "StrengthHouse$Program", name := "add", desc := "(IIZ)V" } : Jvm.MethodName)),
  (Jvm.Cond.selects "StrengthHouse$Program" ({ cls := "StrengthHouse$Program", name := "add", desc := "(IIZ)V" } : Jvm.MethodName) ({ cls := "StrengthHouse$Program", name := "add", desc := "(IIZ)V" } : Jvm.MethodName)),
  (Jvm.Cond.code ({ cls := "StrengthHouse$Program", name := "add", desc := "(IIZ)V" } : Jvm.MethodName) prog_7_method_3_code (4 : Nat) (Option.none : Option Jvm.ClassFile.FieldType)),
  (Jvm.Cond.methodLink "StrengthHouse$TextReader" (64 : Nat) ({ cls := "StrengthHouse$TextReader", name := "numberHere", desc := "()I" } : Jvm.MethodName))]
def nd_48 : List Jvm.Cond := [(Jvm.Cond.privateMethod ({ cls := "StrengthHouse$TextReader", name := "numberHere", desc := "()I" } : Jvm.MethodName)),
  (Jvm.Cond.instanceMethod ({ cls := "StrengthHouse$TextReader", name := "numberHere", desc := "()I" } : Jvm.MethodName)),
  (Jvm.Cond.code ({ cls := "StrengthHouse$TextReader", name := "numberHere", desc := "()I" } : Jvm.MethodName) prog_11_method_6_code (3 : Nat) (Option.some Jvm.ClassFile.FieldType.int)),
  (Jvm.Cond.stringRef "StrengthHouse$TextReader" (52 : Nat) ","),
  (Jvm.Cond.stringRef "StrengthHouse$TextReader" (54 : Nat) ";"),
  (Jvm.Cond.methodLink "StrengthHouse" (194 : Nat) ({ cls := "StrengthHouse$Program", name := "copyFrom", desc := "(LStrengthHouse$Program;)V" } : Jvm.MethodName)),
  (Jvm.Cond.instanceMethod ({ cls := "StrengthHouse$Program", name := "copyFrom", desc := "(LStrengthHouse$Program;)V" } : Jvm.MethodName)),
  (Jvm.Cond.selects "StrengthHouse$Program" ({ cls := "StrengthHouse$Program", name := "copyFrom", desc := "(LStrengthHouse$Program;)V" } : Jvm.MethodName) ({ cls := "StrengthHouse$Program", name := "copyFrom", desc := "(LStrengthHouse$Program;)V" } : Jvm.MethodName)),
  (Jvm.Cond.code ({ cls := "StrengthHouse$Program", name := "copyFrom", desc := "(LStrengthHouse$Program;)V" } : Jvm.MethodName) prog_7_method_6_code (2 : Nat) (Option.none : Option Jvm.ClassFile.FieldType)),
  (Jvm.Cond.methodLink "StrengthHouse$Program" (29 : Nat) ({ cls := "java/lang/System", name := "arraycopy", desc := "(Ljava/lang/Object;ILjava/lang/Object;II)V" } : Jvm.MethodName)),
  (Jvm.Cond.static ({ cls := "java/lang/System", name := "arraycopy", desc := "(Ljava/lang/Object;ILjava/lang/Object;II)V" } : Jvm.MethodName)),
  (Jvm.Cond.native ({ cls := "java/lang/System", name := "arraycopy", desc := "(Ljava/lang/Object;ILjava/lang/Object;II)V" } : Jvm.MethodName)),
  (Jvm.Cond.methodLink "StrengthHouseLaw" (56 : Nat) ({ cls := "StrengthHouse", name := "run", desc := "(II)I" } : Jvm.MethodName)),
  (Jvm.Cond.instanceMethod ({ cls := "StrengthHouse", name := "run", desc := "(II)I" } : Jvm.MethodName)),
  (Jvm.Cond.selects "StrengthHouse" ({ cls := "StrengthHouse", name := "run", desc := "(II)I" } : Jvm.MethodName) ({ cls := "StrengthHouse", name := "run", desc := "(II)I" } : Jvm.MethodName)),
  (Jvm.Cond.code ({ cls := "StrengthHouse", name := "run", desc := "(II)I" } : Jvm.MethodName) prog_1_method_11_code (5 : Nat) (Option.some Jvm.ClassFile.FieldType.int))]
def nd_49 : List Jvm.Cond := [(Jvm.Cond.methodLink "StrengthHouse" (205 : Nat) ({ cls := "StrengthHouse$Machine", name := "perform", desc := "(LStrengthHouse$Program;LStrengthHouse$Piece;LStrengthHouse$State;)V" } : Jvm.MethodName)),
  (Jvm.Cond.instanceMethod ({ cls := "StrengthHouse$Machine", name := "perform", desc := "(LStrengthHouse$Program;LStrengthHouse$Piece;LStrengthHouse$State;)V" } : Jvm.MethodName)),
  (Jvm.Cond.selects "StrengthHouse$Machine" ({ cls := "StrengthHouse$Machine", name := "perform", desc := "(LStrengthHouse$Program;LStrengthHouse$Piece;LStrengthHouse$State;)V" } : Jvm.MethodName) ({ cls := "StrengthHouse$Machine", name := "perform", desc := "(LStrengthHouse$Program;LStrengthHouse$Piece;LStrengthHouse$State;)V" } : Jvm.MethodName)),
  (Jvm.Cond.code ({ cls := "StrengthHouse$Machine", name := "perform", desc := "(LStrengthHouse$Program;LStrengthHouse$Piece;LStrengthHouse$State;)V" } : Jvm.MethodName) prog_3_method_2_code (6 : Nat) (Option.none : Option Jvm.ClassFile.FieldType)),
  (Jvm.Cond.methodLink "StrengthHouse$Machine" (67 : Nat) ({ cls := "StrengthHouse$Machine", name := "begin", desc := "(LStrengthHouse$Piece;LStrengthHouse$State;)V" } : Jvm.MethodName)),
  (Jvm.Cond.privateMethod ({ cls := "StrengthHouse$Machine", name := "begin", desc := "(LStrengthHouse$Piece;LStrengthHouse$State;)V" } : Jvm.MethodName)),
  (Jvm.Cond.instanceMethod ({ cls := "StrengthHouse$Machine", name := "begin", desc := "(LStrengthHouse$Piece;LStrengthHouse$State;)V" } : Jvm.MethodName)),
  (Jvm.Cond.code ({ cls := "StrengthHouse$Machine", name := "begin", desc := "(LStrengthHouse$Piece;LStrengthHouse$State;)V" } : Jvm.MethodName) prog_3_method_3_code (3 : Nat) (Option.none : Option Jvm.ClassFile.FieldType)),
  (Jvm.Cond.methodLink "StrengthHouse$Machine" (90 : Nat) ({ cls := "StrengthHouse$Readings", name := "clear", desc := "()V" } : Jvm.MethodName)),
  (Jvm.Cond.methodLink "StrengthHouse$Machine" (93 : Nat) ({ cls := "StrengthHouse$State", name := "limitAt", desc := "(I)I" } : Jvm.MethodName)),
  (Jvm.Cond.methodLink "StrengthHouse$Machine" (76 : Nat) ({ cls := "StrengthHouse$Program", name := "actAt", desc := "(I)I" } : Jvm.MethodName)),
  (Jvm.Cond.instanceMethod ({ cls := "StrengthHouse$Program", name := "actAt", desc := "(I)I" } : Jvm.MethodName)),
  (Jvm.Cond.selects "StrengthHouse$Program" ({ cls := "StrengthHouse$Program", name := "actAt", desc := "(I)I" } : Jvm.MethodName) ({ cls := "StrengthHouse$Program", name := "actAt", desc := "(I)I" } : Jvm.MethodName)),
  (Jvm.Cond.code ({ cls := "StrengthHouse$Program", name := "actAt", desc := "(I)I" } : Jvm.MethodName) prog_7_method_4_code (2 : Nat) (Option.some Jvm.ClassFile.FieldType.int)),
  (Jvm.Cond.methodLink "StrengthHouse$Machine" (80 : Nat) ({ cls := "StrengthHouse$Program", name := "amountAt", desc := "(I)I" } : Jvm.MethodName)),
  (Jvm.Cond.instanceMethod ({ cls := "StrengthHouse$Program", name := "amountAt", desc := "(I)I" } : Jvm.MethodName))]
def nd_50 : List Jvm.Cond := [(Jvm.Cond.selects "StrengthHouse$Program" ({ cls := "StrengthHouse$Program", name := "amountAt", desc := "(I)I" } : Jvm.MethodName) ({ cls := "StrengthHouse$Program", name := "amountAt", desc := "(I)I" } : Jvm.MethodName)),
  (Jvm.Cond.code ({ cls := "StrengthHouse$Program", name := "amountAt", desc := "(I)I" } : Jvm.MethodName) prog_7_method_5_code (2 : Nat) (Option.some Jvm.ClassFile.FieldType.int)),
  (Jvm.Cond.methodLink "StrengthHouse$Machine" (83 : Nat) ({ cls := "StrengthHouse$Machine", name := "doPart", desc := "(II)V" } : Jvm.MethodName)),
  (Jvm.Cond.privateMethod ({ cls := "StrengthHouse$Machine", name := "doPart", desc := "(II)V" } : Jvm.MethodName)),
  (Jvm.Cond.instanceMethod ({ cls := "StrengthHouse$Machine", name := "doPart", desc := "(II)V" } : Jvm.MethodName)),
  (Jvm.Cond.code ({ cls := "StrengthHouse$Machine", name := "doPart", desc := "(II)V" } : Jvm.MethodName) prog_3_method_4_code (5 : Nat) (Option.none : Option Jvm.ClassFile.FieldType)),
  (Jvm.Cond.methodLink "StrengthHouse$Machine" (98 : Nat) ({ cls := "StrengthHouse$Machine", name := "timesAtMost", desc := "(II)I" } : Jvm.MethodName)),
  (Jvm.Cond.static ({ cls := "StrengthHouse$Machine", name := "timesAtMost", desc := "(II)I" } : Jvm.MethodName)),
  (Jvm.Cond.code ({ cls := "StrengthHouse$Machine", name := "timesAtMost", desc := "(II)I" } : Jvm.MethodName) prog_3_method_5_code (2 : Nat) (Option.some Jvm.ClassFile.FieldType.int)),
  (Jvm.Cond.methodLink "StrengthHouse$Machine" (102 : Nat) ({ cls := "StrengthHouse$Machine", name := "isWanted", desc := "(II)Z" } : Jvm.MethodName)),
  (Jvm.Cond.privateMethod ({ cls := "StrengthHouse$Machine", name := "isWanted", desc := "(II)Z" } : Jvm.MethodName)),
  (Jvm.Cond.instanceMethod ({ cls := "StrengthHouse$Machine", name := "isWanted", desc := "(II)Z" } : Jvm.MethodName)),
  (Jvm.Cond.code ({ cls := "StrengthHouse$Machine", name := "isWanted", desc := "(II)Z" } : Jvm.MethodName) prog_3_method_6_code (3 : Nat) (Option.some Jvm.ClassFile.FieldType.boolean)),
  (Jvm.Cond.methodLink "StrengthHouse$Machine" (110 : Nat) ({ cls := "StrengthHouse$Machine", name := "load", desc := "()I" } : Jvm.MethodName)),
  (Jvm.Cond.privateMethod ({ cls := "StrengthHouse$Machine", name := "load", desc := "()I" } : Jvm.MethodName)),
  (Jvm.Cond.instanceMethod ({ cls := "StrengthHouse$Machine", name := "load", desc := "()I" } : Jvm.MethodName))]
def nd_51 : List Jvm.Cond := [(Jvm.Cond.code ({ cls := "StrengthHouse$Machine", name := "load", desc := "()I" } : Jvm.MethodName) prog_3_method_10_code (1 : Nat) (Option.some Jvm.ClassFile.FieldType.int)),
  (Jvm.Cond.methodLink "StrengthHouse$Machine" (142 : Nat) ({ cls := "StrengthHouse$Piece", name := "loadAt", desc := "(I)I" } : Jvm.MethodName)),
  (Jvm.Cond.methodLink "StrengthHouse$Machine" (106 : Nat) ({ cls := "StrengthHouse$Machine", name := "doOnce", desc := "(I)V" } : Jvm.MethodName)),
  (Jvm.Cond.privateMethod ({ cls := "StrengthHouse$Machine", name := "doOnce", desc := "(I)V" } : Jvm.MethodName)),
  (Jvm.Cond.instanceMethod ({ cls := "StrengthHouse$Machine", name := "doOnce", desc := "(I)V" } : Jvm.MethodName)),
  (Jvm.Cond.code ({ cls := "StrengthHouse$Machine", name := "doOnce", desc := "(I)V" } : Jvm.MethodName) prog_3_method_7_code (3 : Nat) (Option.none : Option Jvm.ClassFile.FieldType)),
  (Jvm.Cond.methodLink "StrengthHouse$Machine" (114 : Nat) ({ cls := "StrengthHouse$Machine", name := "moreStretch", desc := "(I)I" } : Jvm.MethodName)),
  (Jvm.Cond.privateMethod ({ cls := "StrengthHouse$Machine", name := "moreStretch", desc := "(I)I" } : Jvm.MethodName)),
  (Jvm.Cond.instanceMethod ({ cls := "StrengthHouse$Machine", name := "moreStretch", desc := "(I)I" } : Jvm.MethodName)),
  (Jvm.Cond.code ({ cls := "StrengthHouse$Machine", name := "moreStretch", desc := "(I)I" } : Jvm.MethodName) prog_3_method_8_code (2 : Nat) (Option.some Jvm.ClassFile.FieldType.int)),
  (Jvm.Cond.methodLink "StrengthHouse$Machine" (134 : Nat) ({ cls := "StrengthHouse$Machine", name := "creeps", desc := "()Z" } : Jvm.MethodName)),
  (Jvm.Cond.privateMethod ({ cls := "StrengthHouse$Machine", name := "creeps", desc := "()Z" } : Jvm.MethodName)),
  (Jvm.Cond.instanceMethod ({ cls := "StrengthHouse$Machine", name := "creeps", desc := "()Z" } : Jvm.MethodName)),
  (Jvm.Cond.code ({ cls := "StrengthHouse$Machine", name := "creeps", desc := "()Z" } : Jvm.MethodName) prog_3_method_9_code (1 : Nat) (Option.some Jvm.ClassFile.FieldType.boolean)),
  (Jvm.Cond.methodLink "StrengthHouse$Machine" (138 : Nat) ({ cls := "StrengthHouse$Piece", name := "isOf", desc := "(I)Z" } : Jvm.MethodName)),
  (Jvm.Cond.methodLink "StrengthHouse$Machine" (117 : Nat) ({ cls := "java/lang/Math", name := "max", desc := "(II)I" } : Jvm.MethodName))]
def nd_52 : List Jvm.Cond := [(Jvm.Cond.methodLink "StrengthHouse$Machine" (122 : Nat) ({ cls := "StrengthHouse$Piece", name := "lastStretch", desc := "()I" } : Jvm.MethodName)),
  (Jvm.Cond.methodLink "StrengthHouse$Machine" (125 : Nat) ({ cls := "java/lang/Math", name := "floorMod", desc := "(II)I" } : Jvm.MethodName)),
  (Jvm.Cond.static ({ cls := "java/lang/Math", name := "floorMod", desc := "(II)I" } : Jvm.MethodName)),
  (Jvm.Cond.code ({ cls := "java/lang/Math", name := "floorMod", desc := "(II)I" } : Jvm.MethodName) prog_16_method_50_code (3 : Nat) (Option.some Jvm.ClassFile.FieldType.int)),
  (Jvm.Cond.methodLink "StrengthHouse$Machine" (128 : Nat) ({ cls := "StrengthHouse$Machine", name := "take", desc := "()V" } : Jvm.MethodName)),
  (Jvm.Cond.privateMethod ({ cls := "StrengthHouse$Machine", name := "take", desc := "()V" } : Jvm.MethodName)),
  (Jvm.Cond.instanceMethod ({ cls := "StrengthHouse$Machine", name := "take", desc := "()V" } : Jvm.MethodName)),
  (Jvm.Cond.code ({ cls := "StrengthHouse$Machine", name := "take", desc := "()V" } : Jvm.MethodName) prog_3_method_11_code (3 : Nat) (Option.none : Option Jvm.ClassFile.FieldType)),
  (Jvm.Cond.methodLink "StrengthHouse$Machine" (148 : Nat) ({ cls := "StrengthHouse$Readings", name := "add", desc := "(II)V" } : Jvm.MethodName)),
  (Jvm.Cond.methodLink "StrengthHouse$Machine" (131 : Nat) ({ cls := "StrengthHouse$Machine", name := "askLimits", desc := "(I)V" } : Jvm.MethodName)),
  (Jvm.Cond.privateMethod ({ cls := "StrengthHouse$Machine", name := "askLimits", desc := "(I)V" } : Jvm.MethodName)),
  (Jvm.Cond.instanceMethod ({ cls := "StrengthHouse$Machine", name := "askLimits", desc := "(I)V" } : Jvm.MethodName)),
  (Jvm.Cond.code ({ cls := "StrengthHouse$Machine", name := "askLimits", desc := "(I)V" } : Jvm.MethodName) prog_3_method_12_code (2 : Nat) (Option.none : Option Jvm.ClassFile.FieldType)),
  (Jvm.Cond.methodLink "StrengthHouse" (212 : Nat) ({ cls := "StrengthHouse$Readings", name := "copyFrom", desc := "(LStrengthHouse$Readings;)V" } : Jvm.MethodName)),
  (Jvm.Cond.instanceMethod ({ cls := "StrengthHouse$Readings", name := "copyFrom", desc := "(LStrengthHouse$Readings;)V" } : Jvm.MethodName)),
  (Jvm.Cond.selects "StrengthHouse$Readings" ({ cls := "StrengthHouse$Readings", name := "copyFrom", desc := "(LStrengthHouse$Readings;)V" } : Jvm.MethodName) ({ cls := "StrengthHouse$Readings", name := "copyFrom", desc := "(LStrengthHouse$Readings;)V" } : Jvm.MethodName))]
def nd_53 : List Jvm.Cond := [(Jvm.Cond.code ({ cls := "StrengthHouse$Readings", name := "copyFrom", desc := "(LStrengthHouse$Readings;)V" } : Jvm.MethodName) prog_8_method_20_code (2 : Nat) (Option.none : Option Jvm.ClassFile.FieldType)),
  (Jvm.Cond.methodLink "StrengthHouse$Readings" (93 : Nat) ({ cls := "java/lang/System", name := "arraycopy", desc := "(Ljava/lang/Object;ILjava/lang/Object;II)V" } : Jvm.MethodName)),
  (Jvm.Cond.methodLink "StrengthHouse" (215 : Nat) ({ cls := "StrengthHouse$State", name := "keepRun", desc := "(LStrengthHouse$Machine;)V" } : Jvm.MethodName)),
  (Jvm.Cond.instanceMethod ({ cls := "StrengthHouse$State", name := "keepRun", desc := "(LStrengthHouse$Machine;)V" } : Jvm.MethodName)),
  (Jvm.Cond.selects "StrengthHouse$State" ({ cls := "StrengthHouse$State", name := "keepRun", desc := "(LStrengthHouse$Machine;)V" } : Jvm.MethodName) ({ cls := "StrengthHouse$State", name := "keepRun", desc := "(LStrengthHouse$Machine;)V" } : Jvm.MethodName)),
  (Jvm.Cond.code ({ cls := "StrengthHouse$State", name := "keepRun", desc := "(LStrengthHouse$Machine;)V" } : Jvm.MethodName) prog_10_method_12_code (2 : Nat) (Option.none : Option Jvm.ClassFile.FieldType)),
  (Jvm.Cond.methodLink "StrengthHouseLaw" (60 : Nat) ({ cls := "StrengthHouse", name := "ran", desc := "(I)I" } : Jvm.MethodName)),
  (Jvm.Cond.instanceMethod ({ cls := "StrengthHouse", name := "ran", desc := "(I)I" } : Jvm.MethodName)),
  (Jvm.Cond.selects "StrengthHouse" ({ cls := "StrengthHouse", name := "ran", desc := "(I)I" } : Jvm.MethodName) ({ cls := "StrengthHouse", name := "ran", desc := "(I)I" } : Jvm.MethodName)),
  (Jvm.Cond.code ({ cls := "StrengthHouse", name := "ran", desc := "(I)I" } : Jvm.MethodName) prog_1_method_12_code (2 : Nat) (Option.some Jvm.ClassFile.FieldType.int)),
  (Jvm.Cond.methodLink "StrengthHouse" (225 : Nat) ({ cls := "StrengthHouse$State", name := "ranAt", desc := "(I)I" } : Jvm.MethodName)),
  (Jvm.Cond.instanceMethod ({ cls := "StrengthHouse$State", name := "ranAt", desc := "(I)I" } : Jvm.MethodName)),
  (Jvm.Cond.selects "StrengthHouse$State" ({ cls := "StrengthHouse$State", name := "ranAt", desc := "(I)I" } : Jvm.MethodName) ({ cls := "StrengthHouse$State", name := "ranAt", desc := "(I)I" } : Jvm.MethodName)),
  (Jvm.Cond.code ({ cls := "StrengthHouse$State", name := "ranAt", desc := "(I)I" } : Jvm.MethodName) prog_10_method_13_code (2 : Nat) (Option.some Jvm.ClassFile.FieldType.int)),
  (Jvm.Cond.methodLink "StrengthHouseLaw" (64 : Nat) ({ cls := "StrengthHouse", name := "line", desc := "(II)I" } : Jvm.MethodName)),
  (Jvm.Cond.instanceMethod ({ cls := "StrengthHouse", name := "line", desc := "(II)I" } : Jvm.MethodName))]
def nd_54 : List Jvm.Cond := [(Jvm.Cond.selects "StrengthHouse" ({ cls := "StrengthHouse", name := "line", desc := "(II)I" } : Jvm.MethodName) ({ cls := "StrengthHouse", name := "line", desc := "(II)I" } : Jvm.MethodName)),
  (Jvm.Cond.code ({ cls := "StrengthHouse", name := "line", desc := "(II)I" } : Jvm.MethodName) prog_1_method_13_code (5 : Nat) (Option.some Jvm.ClassFile.FieldType.int)),
  (Jvm.Cond.methodLink "StrengthHouse" (228 : Nat) ({ cls := "StrengthHouse$Readings", name := "findLine", desc := "()Z" } : Jvm.MethodName)),
  (Jvm.Cond.instanceMethod ({ cls := "StrengthHouse$Readings", name := "findLine", desc := "()Z" } : Jvm.MethodName)),
  (Jvm.Cond.selects "StrengthHouse$Readings" ({ cls := "StrengthHouse$Readings", name := "findLine", desc := "()Z" } : Jvm.MethodName) ({ cls := "StrengthHouse$Readings", name := "findLine", desc := "()Z" } : Jvm.MethodName)),
  (Jvm.Cond.code ({ cls := "StrengthHouse$Readings", name := "findLine", desc := "()Z" } : Jvm.MethodName) prog_8_method_9_code (3 : Nat) (Option.some Jvm.ClassFile.FieldType.boolean)),
  (Jvm.Cond.methodLink "StrengthHouse$Readings" (42 : Nat) ({ cls := "StrengthHouse$Readings", name := "tryLine", desc := "(II)V" } : Jvm.MethodName)),
  (Jvm.Cond.privateMethod ({ cls := "StrengthHouse$Readings", name := "tryLine", desc := "(II)V" } : Jvm.MethodName)),
  (Jvm.Cond.instanceMethod ({ cls := "StrengthHouse$Readings", name := "tryLine", desc := "(II)V" } : Jvm.MethodName)),
  (Jvm.Cond.code ({ cls := "StrengthHouse$Readings", name := "tryLine", desc := "(II)V" } : Jvm.MethodName) prog_8_method_10_code (5 : Nat) (Option.none : Option Jvm.ClassFile.FieldType)),
  (Jvm.Cond.methodLink "StrengthHouse$Readings" (31 : Nat) ({ cls := "StrengthHouse$Readings", name := "stretchAt", desc := "(I)I" } : Jvm.MethodName)),
  (Jvm.Cond.methodLink "StrengthHouse$Readings" (46 : Nat) ({ cls := "StrengthHouse$Readings", name := "belowLine", desc := "(IIII)J" } : Jvm.MethodName)),
  (Jvm.Cond.privateMethod ({ cls := "StrengthHouse$Readings", name := "belowLine", desc := "(IIII)J" } : Jvm.MethodName)),
  (Jvm.Cond.instanceMethod ({ cls := "StrengthHouse$Readings", name := "belowLine", desc := "(IIII)J" } : Jvm.MethodName)),
  (Jvm.Cond.code ({ cls := "StrengthHouse$Readings", name := "belowLine", desc := "(IIII)J" } : Jvm.MethodName) prog_8_method_11_code (13 : Nat) (Option.some Jvm.ClassFile.FieldType.long)),
  (Jvm.Cond.methodLink "StrengthHouseLaw" (68 : Nat) ({ cls := "StrengthHouse", name := "yields", desc := "(II)I" } : Jvm.MethodName))]
def nd_55 : List Jvm.Cond := [(Jvm.Cond.instanceMethod ({ cls := "StrengthHouse", name := "yields", desc := "(II)I" } : Jvm.MethodName)),
  (Jvm.Cond.selects "StrengthHouse" ({ cls := "StrengthHouse", name := "yields", desc := "(II)I" } : Jvm.MethodName) ({ cls := "StrengthHouse", name := "yields", desc := "(II)I" } : Jvm.MethodName)),
  (Jvm.Cond.code ({ cls := "StrengthHouse", name := "yields", desc := "(II)I" } : Jvm.MethodName) prog_1_method_14_code (4 : Nat) (Option.some Jvm.ClassFile.FieldType.int)),
  (Jvm.Cond.methodLink "StrengthHouse" (240 : Nat) ({ cls := "StrengthHouse$Readings", name := "yieldAt", desc := "(I)I" } : Jvm.MethodName)),
  (Jvm.Cond.instanceMethod ({ cls := "StrengthHouse$Readings", name := "yieldAt", desc := "(I)I" } : Jvm.MethodName)),
  (Jvm.Cond.selects "StrengthHouse$Readings" ({ cls := "StrengthHouse$Readings", name := "yieldAt", desc := "(I)I" } : Jvm.MethodName) ({ cls := "StrengthHouse$Readings", name := "yieldAt", desc := "(I)I" } : Jvm.MethodName)),
  (Jvm.Cond.code ({ cls := "StrengthHouse$Readings", name := "yieldAt", desc := "(I)I" } : Jvm.MethodName) prog_8_method_12_code (3 : Nat) (Option.some Jvm.ClassFile.FieldType.int)),
  (Jvm.Cond.methodLink "StrengthHouse$Readings" (50 : Nat) ({ cls := "StrengthHouse$Readings", name := "findLine", desc := "()Z" } : Jvm.MethodName)),
  (Jvm.Cond.methodLink "StrengthHouse" (243 : Nat) ({ cls := "StrengthHouse", name := "orNone", desc := "(I)I" } : Jvm.MethodName)),
  (Jvm.Cond.privateMethod ({ cls := "StrengthHouse", name := "orNone", desc := "(I)I" } : Jvm.MethodName)),
  (Jvm.Cond.instanceMethod ({ cls := "StrengthHouse", name := "orNone", desc := "(I)I" } : Jvm.MethodName)),
  (Jvm.Cond.code ({ cls := "StrengthHouse", name := "orNone", desc := "(I)I" } : Jvm.MethodName) prog_1_method_44_code (2 : Nat) (Option.some Jvm.ClassFile.FieldType.int)),
  (Jvm.Cond.methodLink "StrengthHouseLaw" (72 : Nat) ({ cls := "StrengthHouse", name := "top", desc := "(I)I" } : Jvm.MethodName)),
  (Jvm.Cond.instanceMethod ({ cls := "StrengthHouse", name := "top", desc := "(I)I" } : Jvm.MethodName)),
  (Jvm.Cond.selects "StrengthHouse" ({ cls := "StrengthHouse", name := "top", desc := "(I)I" } : Jvm.MethodName) ({ cls := "StrengthHouse", name := "top", desc := "(I)I" } : Jvm.MethodName)),
  (Jvm.Cond.code ({ cls := "StrengthHouse", name := "top", desc := "(I)I" } : Jvm.MethodName) prog_1_method_15_code (3 : Nat) (Option.some Jvm.ClassFile.FieldType.int))]
def nd_56 : List Jvm.Cond := [(Jvm.Cond.methodLink "StrengthHouse" (246 : Nat) ({ cls := "StrengthHouse$Readings", name := "numberBy", desc := "(I)I" } : Jvm.MethodName)),
  (Jvm.Cond.instanceMethod ({ cls := "StrengthHouse$Readings", name := "numberBy", desc := "(I)I" } : Jvm.MethodName)),
  (Jvm.Cond.selects "StrengthHouse$Readings" ({ cls := "StrengthHouse$Readings", name := "numberBy", desc := "(I)I" } : Jvm.MethodName) ({ cls := "StrengthHouse$Readings", name := "numberBy", desc := "(I)I" } : Jvm.MethodName)),
  (Jvm.Cond.code ({ cls := "StrengthHouse$Readings", name := "numberBy", desc := "(I)I" } : Jvm.MethodName) prog_8_method_17_code (3 : Nat) (Option.some Jvm.ClassFile.FieldType.int)),
  (Jvm.Cond.methodLink "StrengthHouse$Readings" (54 : Nat) ({ cls := "StrengthHouse$Readings", name := "topAt", desc := "()I" } : Jvm.MethodName)),
  (Jvm.Cond.privateMethod ({ cls := "StrengthHouse$Readings", name := "topAt", desc := "()I" } : Jvm.MethodName)),
  (Jvm.Cond.instanceMethod ({ cls := "StrengthHouse$Readings", name := "topAt", desc := "()I" } : Jvm.MethodName)),
  (Jvm.Cond.code ({ cls := "StrengthHouse$Readings", name := "topAt", desc := "()I" } : Jvm.MethodName) prog_8_method_13_code (3 : Nat) (Option.some Jvm.ClassFile.FieldType.int)),
  (Jvm.Cond.methodLink "StrengthHouse$Readings" (70 : Nat) ({ cls := "StrengthHouse$Readings", name := "yieldAt", desc := "(I)I" } : Jvm.MethodName)),
  (Jvm.Cond.methodLink "StrengthHouse$Readings" (73 : Nat) ({ cls := "StrengthHouse$Readings", name := "stretchOr", desc := "(I)I" } : Jvm.MethodName)),
  (Jvm.Cond.privateMethod ({ cls := "StrengthHouse$Readings", name := "stretchOr", desc := "(I)I" } : Jvm.MethodName)),
  (Jvm.Cond.instanceMethod ({ cls := "StrengthHouse$Readings", name := "stretchOr", desc := "(I)I" } : Jvm.MethodName)),
  (Jvm.Cond.code ({ cls := "StrengthHouse$Readings", name := "stretchOr", desc := "(I)I" } : Jvm.MethodName) prog_8_method_18_code (2 : Nat) (Option.some Jvm.ClassFile.FieldType.int)),
  (Jvm.Cond.methodLink "StrengthHouse$Readings" (76 : Nat) ({ cls := "StrengthHouse$Readings", name := "breakAt", desc := "(I)I" } : Jvm.MethodName)),
  (Jvm.Cond.instanceMethod ({ cls := "StrengthHouse$Readings", name := "breakAt", desc := "(I)I" } : Jvm.MethodName)),
  (Jvm.Cond.selects "StrengthHouse$Readings" ({ cls := "StrengthHouse$Readings", name := "breakAt", desc := "(I)I" } : Jvm.MethodName) ({ cls := "StrengthHouse$Readings", name := "breakAt", desc := "(I)I" } : Jvm.MethodName))]
def nd_57 : List Jvm.Cond := [(Jvm.Cond.code ({ cls := "StrengthHouse$Readings", name := "breakAt", desc := "(I)I" } : Jvm.MethodName) prog_8_method_14_code (4 : Nat) (Option.some Jvm.ClassFile.FieldType.int)),
  (Jvm.Cond.constantLong "StrengthHouse$Readings" (58 : Nat) (100 : Int64)),
  (Jvm.Cond.constantLong "StrengthHouse$Readings" (79 : Nat) (2000000000 : Int64)),
  (Jvm.Cond.methodLink "StrengthHouse$Readings" (81 : Nat) ({ cls := "StrengthHouse$Readings", name := "spentUpTo", desc := "(I)J" } : Jvm.MethodName)),
  (Jvm.Cond.instanceMethod ({ cls := "StrengthHouse$Readings", name := "spentUpTo", desc := "(I)J" } : Jvm.MethodName)),
  (Jvm.Cond.selects "StrengthHouse$Readings" ({ cls := "StrengthHouse$Readings", name := "spentUpTo", desc := "(I)J" } : Jvm.MethodName) ({ cls := "StrengthHouse$Readings", name := "spentUpTo", desc := "(I)J" } : Jvm.MethodName)),
  (Jvm.Cond.code ({ cls := "StrengthHouse$Readings", name := "spentUpTo", desc := "(I)J" } : Jvm.MethodName) prog_8_method_15_code (6 : Nat) (Option.some Jvm.ClassFile.FieldType.long)),
  (Jvm.Cond.methodLink "StrengthHouse$Readings" (60 : Nat) ({ cls := "StrengthHouse$Readings", name := "spentBetween", desc := "(II)J" } : Jvm.MethodName)),
  (Jvm.Cond.privateMethod ({ cls := "StrengthHouse$Readings", name := "spentBetween", desc := "(II)J" } : Jvm.MethodName)),
  (Jvm.Cond.instanceMethod ({ cls := "StrengthHouse$Readings", name := "spentBetween", desc := "(II)J" } : Jvm.MethodName)),
  (Jvm.Cond.code ({ cls := "StrengthHouse$Readings", name := "spentBetween", desc := "(II)J" } : Jvm.MethodName) prog_8_method_16_code (5 : Nat) (Option.some Jvm.ClassFile.FieldType.long)),
  (Jvm.Cond.methodLink "StrengthHouse$Readings" (64 : Nat) ({ cls := "java/lang/Math", name := "max", desc := "(II)I" } : Jvm.MethodName)),
  (Jvm.Cond.methodLink "StrengthHouse$Readings" (85 : Nat) ({ cls := "java/lang/Math", name := "min", desc := "(JJ)J" } : Jvm.MethodName)),
  (Jvm.Cond.static ({ cls := "java/lang/Math", name := "min", desc := "(JJ)J" } : Jvm.MethodName)),
  (Jvm.Cond.code ({ cls := "java/lang/Math", name := "min", desc := "(JJ)J" } : Jvm.MethodName) prog_16_method_70_code (4 : Nat) (Option.some Jvm.ClassFile.FieldType.long)),
  (Jvm.Cond.methodLink "StrengthHouseLaw" (76 : Nat) ({ cls := "StrengthHouse", name := "breaks", desc := "(II)I" } : Jvm.MethodName))]
def nd_58 : List Jvm.Cond := [(Jvm.Cond.instanceMethod ({ cls := "StrengthHouse", name := "breaks", desc := "(II)I" } : Jvm.MethodName)),
  (Jvm.Cond.selects "StrengthHouse" ({ cls := "StrengthHouse", name := "breaks", desc := "(II)I" } : Jvm.MethodName) ({ cls := "StrengthHouse", name := "breaks", desc := "(II)I" } : Jvm.MethodName)),
  (Jvm.Cond.code ({ cls := "StrengthHouse", name := "breaks", desc := "(II)I" } : Jvm.MethodName) prog_1_method_16_code (4 : Nat) (Option.some Jvm.ClassFile.FieldType.int)),
  (Jvm.Cond.methodLink "StrengthHouse" (249 : Nat) ({ cls := "StrengthHouse$Readings", name := "breakAt", desc := "(I)I" } : Jvm.MethodName)),
  (Jvm.Cond.methodLink "StrengthHouseLaw" (80 : Nat) ({ cls := "StrengthHouse", name := "spent", desc := "(II)J" } : Jvm.MethodName)),
  (Jvm.Cond.instanceMethod ({ cls := "StrengthHouse", name := "spent", desc := "(II)J" } : Jvm.MethodName)),
  (Jvm.Cond.selects "StrengthHouse" ({ cls := "StrengthHouse", name := "spent", desc := "(II)J" } : Jvm.MethodName) ({ cls := "StrengthHouse", name := "spent", desc := "(II)J" } : Jvm.MethodName)),
  (Jvm.Cond.code ({ cls := "StrengthHouse", name := "spent", desc := "(II)J" } : Jvm.MethodName) prog_1_method_17_code (4 : Nat) (Option.some Jvm.ClassFile.FieldType.long)),
  (Jvm.Cond.methodLink "StrengthHouse" (252 : Nat) ({ cls := "StrengthHouse$Readings", name := "spentUpTo", desc := "(I)J" } : Jvm.MethodName)),
  (Jvm.Cond.methodLink "StrengthHouseLaw" (85 : Nat) ({ cls := "StrengthHouse", name := "number", desc := "(II)I" } : Jvm.MethodName)),
  (Jvm.Cond.instanceMethod ({ cls := "StrengthHouse", name := "number", desc := "(II)I" } : Jvm.MethodName)),
  (Jvm.Cond.selects "StrengthHouse" ({ cls := "StrengthHouse", name := "number", desc := "(II)I" } : Jvm.MethodName) ({ cls := "StrengthHouse", name := "number", desc := "(II)I" } : Jvm.MethodName)),
  (Jvm.Cond.code ({ cls := "StrengthHouse", name := "number", desc := "(II)I" } : Jvm.MethodName) prog_1_method_18_code (4 : Nat) (Option.some Jvm.ClassFile.FieldType.int)),
  (Jvm.Cond.methodLink "StrengthHouse" (256 : Nat) ({ cls := "StrengthHouse", name := "isLaw", desc := "(I)Z" } : Jvm.MethodName)),
  (Jvm.Cond.static ({ cls := "StrengthHouse", name := "isLaw", desc := "(I)Z" } : Jvm.MethodName)),
  (Jvm.Cond.code ({ cls := "StrengthHouse", name := "isLaw", desc := "(I)Z" } : Jvm.MethodName) prog_1_method_54_code (1 : Nat) (Option.some Jvm.ClassFile.FieldType.boolean))]
def nd_59 : List Jvm.Cond := [(Jvm.Cond.methodLink "StrengthHouseLaw" (89 : Nat) ({ cls := "StrengthHouse", name := "curve", desc := "(III)I" } : Jvm.MethodName)),
  (Jvm.Cond.instanceMethod ({ cls := "StrengthHouse", name := "curve", desc := "(III)I" } : Jvm.MethodName)),
  (Jvm.Cond.selects "StrengthHouse" ({ cls := "StrengthHouse", name := "curve", desc := "(III)I" } : Jvm.MethodName) ({ cls := "StrengthHouse", name := "curve", desc := "(III)I" } : Jvm.MethodName)),
  (Jvm.Cond.code ({ cls := "StrengthHouse", name := "curve", desc := "(III)I" } : Jvm.MethodName) prog_1_method_19_code (5 : Nat) (Option.some Jvm.ClassFile.FieldType.int)),
  (Jvm.Cond.methodLink "StrengthHouse" (259 : Nat) ({ cls := "StrengthHouse", name := "orderCurves", desc := "(II)V" } : Jvm.MethodName)),
  (Jvm.Cond.privateMethod ({ cls := "StrengthHouse", name := "orderCurves", desc := "(II)V" } : Jvm.MethodName)),
  (Jvm.Cond.instanceMethod ({ cls := "StrengthHouse", name := "orderCurves", desc := "(II)V" } : Jvm.MethodName)),
  (Jvm.Cond.code ({ cls := "StrengthHouse", name := "orderCurves", desc := "(II)V" } : Jvm.MethodName) prog_1_method_46_code (6 : Nat) (Option.none : Option Jvm.ClassFile.FieldType)),
  (Jvm.Cond.methodLink "StrengthHouse" (403 : Nat) ({ cls := "StrengthHouse$Order", name := "clear", desc := "()V" } : Jvm.MethodName)),
  (Jvm.Cond.instanceMethod ({ cls := "StrengthHouse$Order", name := "clear", desc := "()V" } : Jvm.MethodName)),
  (Jvm.Cond.selects "StrengthHouse$Order" ({ cls := "StrengthHouse$Order", name := "clear", desc := "()V" } : Jvm.MethodName) ({ cls := "StrengthHouse$Order", name := "clear", desc := "()V" } : Jvm.MethodName)),
  (Jvm.Cond.code ({ cls := "StrengthHouse$Order", name := "clear", desc := "()V" } : Jvm.MethodName) prog_5_method_2_code (1 : Nat) (Option.none : Option Jvm.ClassFile.FieldType)),
  (Jvm.Cond.methodLink "StrengthHouse" (404 : Nat) ({ cls := "StrengthHouse$Readings", name := "curveAt", desc := "(I)I" } : Jvm.MethodName)),
  (Jvm.Cond.instanceMethod ({ cls := "StrengthHouse$Readings", name := "curveAt", desc := "(I)I" } : Jvm.MethodName)),
  (Jvm.Cond.selects "StrengthHouse$Readings" ({ cls := "StrengthHouse$Readings", name := "curveAt", desc := "(I)I" } : Jvm.MethodName) ({ cls := "StrengthHouse$Readings", name := "curveAt", desc := "(I)I" } : Jvm.MethodName)),
  (Jvm.Cond.code ({ cls := "StrengthHouse$Readings", name := "curveAt", desc := "(I)I" } : Jvm.MethodName) prog_8_method_19_code (4 : Nat) (Option.some Jvm.ClassFile.FieldType.int))]
def nd_60 : List Jvm.Cond := [(Jvm.Cond.methodLinkNest "StrengthHouse$Readings" (89 : Nat) ({ cls := "StrengthHouse", name := "straight", desc := "(IIII)I" } : Jvm.MethodName) "StrengthHouse"),
  (Jvm.Cond.methodLink "StrengthHouse" (407 : Nat) ({ cls := "StrengthHouse$Order", name := "insert", desc := "(II)V" } : Jvm.MethodName)),
  (Jvm.Cond.instanceMethod ({ cls := "StrengthHouse$Order", name := "insert", desc := "(II)V" } : Jvm.MethodName)),
  (Jvm.Cond.selects "StrengthHouse$Order" ({ cls := "StrengthHouse$Order", name := "insert", desc := "(II)V" } : Jvm.MethodName) ({ cls := "StrengthHouse$Order", name := "insert", desc := "(II)V" } : Jvm.MethodName)),
  (Jvm.Cond.code ({ cls := "StrengthHouse$Order", name := "insert", desc := "(II)V" } : Jvm.MethodName) prog_5_method_3_code (4 : Nat) (Option.none : Option Jvm.ClassFile.FieldType)),
  (Jvm.Cond.methodLink "StrengthHouse" (263 : Nat) ({ cls := "StrengthHouse$Order", name := "valueAt", desc := "(I)I" } : Jvm.MethodName)),
  (Jvm.Cond.instanceMethod ({ cls := "StrengthHouse$Order", name := "valueAt", desc := "(I)I" } : Jvm.MethodName)),
  (Jvm.Cond.selects "StrengthHouse$Order" ({ cls := "StrengthHouse$Order", name := "valueAt", desc := "(I)I" } : Jvm.MethodName) ({ cls := "StrengthHouse$Order", name := "valueAt", desc := "(I)I" } : Jvm.MethodName)),
  (Jvm.Cond.code ({ cls := "StrengthHouse$Order", name := "valueAt", desc := "(I)I" } : Jvm.MethodName) prog_5_method_4_code (2 : Nat) (Option.some Jvm.ClassFile.FieldType.int)),
  (Jvm.Cond.methodLink "StrengthHouseLaw" (93 : Nat) ({ cls := "StrengthHouse", name := "odd", desc := "(III)I" } : Jvm.MethodName)),
  (Jvm.Cond.instanceMethod ({ cls := "StrengthHouse", name := "odd", desc := "(III)I" } : Jvm.MethodName)),
  (Jvm.Cond.selects "StrengthHouse" ({ cls := "StrengthHouse", name := "odd", desc := "(III)I" } : Jvm.MethodName) ({ cls := "StrengthHouse", name := "odd", desc := "(III)I" } : Jvm.MethodName)),
  (Jvm.Cond.code ({ cls := "StrengthHouse", name := "odd", desc := "(III)I" } : Jvm.MethodName) prog_1_method_20_code (4 : Nat) (Option.some Jvm.ClassFile.FieldType.int)),
  (Jvm.Cond.methodLink "StrengthHouse" (266 : Nat) ({ cls := "StrengthHouse", name := "orderNumbers", desc := "(II)V" } : Jvm.MethodName)),
  (Jvm.Cond.privateMethod ({ cls := "StrengthHouse", name := "orderNumbers", desc := "(II)V" } : Jvm.MethodName)),
  (Jvm.Cond.instanceMethod ({ cls := "StrengthHouse", name := "orderNumbers", desc := "(II)V" } : Jvm.MethodName))]
def nd_61 : List Jvm.Cond := [(Jvm.Cond.code ({ cls := "StrengthHouse", name := "orderNumbers", desc := "(II)V" } : Jvm.MethodName) prog_1_method_47_code (6 : Nat) (Option.none : Option Jvm.ClassFile.FieldType)),
  (Jvm.Cond.methodLink "StrengthHouse" (269 : Nat) ({ cls := "StrengthHouse$Order", name := "oddPiece", desc := "(I)I" } : Jvm.MethodName)),
  (Jvm.Cond.instanceMethod ({ cls := "StrengthHouse$Order", name := "oddPiece", desc := "(I)I" } : Jvm.MethodName)),
  (Jvm.Cond.selects "StrengthHouse$Order" ({ cls := "StrengthHouse$Order", name := "oddPiece", desc := "(I)I" } : Jvm.MethodName) ({ cls := "StrengthHouse$Order", name := "oddPiece", desc := "(I)I" } : Jvm.MethodName)),
  (Jvm.Cond.code ({ cls := "StrengthHouse$Order", name := "oddPiece", desc := "(I)I" } : Jvm.MethodName) prog_5_method_6_code (3 : Nat) (Option.some Jvm.ClassFile.FieldType.int)),
  (Jvm.Cond.methodLink "StrengthHouse$Order" (22 : Nat) ({ cls := "StrengthHouse$Order", name := "isApart", desc := "(III)Z" } : Jvm.MethodName)),
  (Jvm.Cond.privateMethod ({ cls := "StrengthHouse$Order", name := "isApart", desc := "(III)Z" } : Jvm.MethodName)),
  (Jvm.Cond.instanceMethod ({ cls := "StrengthHouse$Order", name := "isApart", desc := "(III)Z" } : Jvm.MethodName)),
  (Jvm.Cond.code ({ cls := "StrengthHouse$Order", name := "isApart", desc := "(III)Z" } : Jvm.MethodName) prog_5_method_7_code (8 : Nat) (Option.some Jvm.ClassFile.FieldType.boolean)),
  (Jvm.Cond.methodLink "StrengthHouse$Order" (26 : Nat) ({ cls := "StrengthHouse$Order", name := "valueAt", desc := "(I)I" } : Jvm.MethodName)),
  (Jvm.Cond.constantLong "StrengthHouse$Order" (30 : Nat) (100 : Int64)),
  (Jvm.Cond.methodLink "StrengthHouseLaw" (97 : Nat) ({ cls := "StrengthHouse", name := "sure", desc := "(IIII)I" } : Jvm.MethodName)),
  (Jvm.Cond.instanceMethod ({ cls := "StrengthHouse", name := "sure", desc := "(IIII)I" } : Jvm.MethodName)),
  (Jvm.Cond.selects "StrengthHouse" ({ cls := "StrengthHouse", name := "sure", desc := "(IIII)I" } : Jvm.MethodName) ({ cls := "StrengthHouse", name := "sure", desc := "(IIII)I" } : Jvm.MethodName)),
  (Jvm.Cond.code ({ cls := "StrengthHouse", name := "sure", desc := "(IIII)I" } : Jvm.MethodName) prog_1_method_21_code (6 : Nat) (Option.some Jvm.ClassFile.FieldType.int)),
  (Jvm.Cond.methodLink "StrengthHouse" (272 : Nat) ({ cls := "StrengthHouse", name := "isTenths", desc := "(I)Z" } : Jvm.MethodName))]
def nd_62 : List Jvm.Cond := [(Jvm.Cond.static ({ cls := "StrengthHouse", name := "isTenths", desc := "(I)Z" } : Jvm.MethodName)),
  (Jvm.Cond.code ({ cls := "StrengthHouse", name := "isTenths", desc := "(I)Z" } : Jvm.MethodName) prog_1_method_57_code (1 : Nat) (Option.some Jvm.ClassFile.FieldType.boolean)),
  (Jvm.Cond.methodLink "StrengthHouse" (275 : Nat) ({ cls := "StrengthHouse$Order", name := "surePlace", desc := "(III)I" } : Jvm.MethodName)),
  (Jvm.Cond.static ({ cls := "StrengthHouse$Order", name := "surePlace", desc := "(III)I" } : Jvm.MethodName)),
  (Jvm.Cond.code ({ cls := "StrengthHouse$Order", name := "surePlace", desc := "(III)I" } : Jvm.MethodName) prog_5_method_8_code (10 : Nat) (Option.some Jvm.ClassFile.FieldType.int)),
  (Jvm.Cond.methodLink "StrengthHouse$Order" (32 : Nat) ({ cls := "StrengthHouse$Order", name := "power", desc := "(II)J" } : Jvm.MethodName)),
  (Jvm.Cond.static ({ cls := "StrengthHouse$Order", name := "power", desc := "(II)J" } : Jvm.MethodName)),
  (Jvm.Cond.code ({ cls := "StrengthHouse$Order", name := "power", desc := "(II)J" } : Jvm.MethodName) prog_5_method_9_code (5 : Nat) (Option.some Jvm.ClassFile.FieldType.long)),
  (Jvm.Cond.constantLong "StrengthHouse$Order" (36 : Nat) (10 : Int64)),
  (Jvm.Cond.methodLink "StrengthHouseLaw" (102 : Nat) ({ cls := "StrengthHouse", name := "few", desc := "(II)I" } : Jvm.MethodName)),
  (Jvm.Cond.instanceMethod ({ cls := "StrengthHouse", name := "few", desc := "(II)I" } : Jvm.MethodName)),
  (Jvm.Cond.selects "StrengthHouse" ({ cls := "StrengthHouse", name := "few", desc := "(II)I" } : Jvm.MethodName) ({ cls := "StrengthHouse", name := "few", desc := "(II)I" } : Jvm.MethodName)),
  (Jvm.Cond.code ({ cls := "StrengthHouse", name := "few", desc := "(II)I" } : Jvm.MethodName) prog_1_method_22_code (4 : Nat) (Option.some Jvm.ClassFile.FieldType.int)),
  (Jvm.Cond.methodLink "StrengthHouseLaw" (106 : Nat) ({ cls := "StrengthHouse", name := "prove", desc := "(IIII)I" } : Jvm.MethodName)),
  (Jvm.Cond.instanceMethod ({ cls := "StrengthHouse", name := "prove", desc := "(IIII)I" } : Jvm.MethodName)),
  (Jvm.Cond.selects "StrengthHouse" ({ cls := "StrengthHouse", name := "prove", desc := "(IIII)I" } : Jvm.MethodName) ({ cls := "StrengthHouse", name := "prove", desc := "(IIII)I" } : Jvm.MethodName))]
def nd_63 : List Jvm.Cond := [(Jvm.Cond.code ({ cls := "StrengthHouse", name := "prove", desc := "(IIII)I" } : Jvm.MethodName) prog_1_method_23_code (7 : Nat) (Option.some Jvm.ClassFile.FieldType.int)),
  (Jvm.Cond.methodLink "StrengthHouse" (279 : Nat) ({ cls := "StrengthHouse", name := "isMeter", desc := "(I)Z" } : Jvm.MethodName)),
  (Jvm.Cond.static ({ cls := "StrengthHouse", name := "isMeter", desc := "(I)Z" } : Jvm.MethodName)),
  (Jvm.Cond.code ({ cls := "StrengthHouse", name := "isMeter", desc := "(I)Z" } : Jvm.MethodName) prog_1_method_55_code (1 : Nat) (Option.some Jvm.ClassFile.FieldType.boolean)),
  (Jvm.Cond.methodLink "StrengthHouse" (286 : Nat) ({ cls := "StrengthHouse$Meters", name := "set", desc := "(IIIII)V" } : Jvm.MethodName)),
  (Jvm.Cond.instanceMethod ({ cls := "StrengthHouse$Meters", name := "set", desc := "(IIIII)V" } : Jvm.MethodName)),
  (Jvm.Cond.selects "StrengthHouse$Meters" ({ cls := "StrengthHouse$Meters", name := "set", desc := "(IIIII)V" } : Jvm.MethodName) ({ cls := "StrengthHouse$Meters", name := "set", desc := "(IIIII)V" } : Jvm.MethodName)),
  (Jvm.Cond.code ({ cls := "StrengthHouse$Meters", name := "set", desc := "(IIIII)V" } : Jvm.MethodName) prog_4_method_2_code (6 : Nat) (Option.none : Option Jvm.ClassFile.FieldType)),
  (Jvm.Cond.methodLinkNest "StrengthHouse$Meters" (24 : Nat) ({ cls := "StrengthHouse", name := "isMeter", desc := "(I)Z" } : Jvm.MethodName) "StrengthHouse"),
  (Jvm.Cond.methodLink "StrengthHouseLaw" (110 : Nat) ({ cls := "StrengthHouse", name := "led", desc := "(III)I" } : Jvm.MethodName)),
  (Jvm.Cond.instanceMethod ({ cls := "StrengthHouse", name := "led", desc := "(III)I" } : Jvm.MethodName)),
  (Jvm.Cond.selects "StrengthHouse" ({ cls := "StrengthHouse", name := "led", desc := "(III)I" } : Jvm.MethodName) ({ cls := "StrengthHouse", name := "led", desc := "(III)I" } : Jvm.MethodName)),
  (Jvm.Cond.code ({ cls := "StrengthHouse", name := "led", desc := "(III)I" } : Jvm.MethodName) prog_1_method_24_code (4 : Nat) (Option.some Jvm.ClassFile.FieldType.int)),
  (Jvm.Cond.constant "StrengthHouse" (292 : Nat) (99999 : Int32)),
  (Jvm.Cond.methodLink "StrengthHouse" (293 : Nat) ({ cls := "StrengthHouse$Meters", name := "ledToHouse", desc := "(II)I" } : Jvm.MethodName)),
  (Jvm.Cond.instanceMethod ({ cls := "StrengthHouse$Meters", name := "ledToHouse", desc := "(II)I" } : Jvm.MethodName))]
def nd_64 : List Jvm.Cond := [(Jvm.Cond.selects "StrengthHouse$Meters" ({ cls := "StrengthHouse$Meters", name := "ledToHouse", desc := "(II)I" } : Jvm.MethodName) ({ cls := "StrengthHouse$Meters", name := "ledToHouse", desc := "(II)I" } : Jvm.MethodName)),
  (Jvm.Cond.code ({ cls := "StrengthHouse$Meters", name := "ledToHouse", desc := "(II)I" } : Jvm.MethodName) prog_4_method_4_code (7 : Nat) (Option.some Jvm.ClassFile.FieldType.int)),
  (Jvm.Cond.methodLink "StrengthHouse$Meters" (28 : Nat) ({ cls := "StrengthHouse$Meters", name := "ledOnce", desc := "(IJ)J" } : Jvm.MethodName)),
  (Jvm.Cond.privateMethod ({ cls := "StrengthHouse$Meters", name := "ledOnce", desc := "(IJ)J" } : Jvm.MethodName)),
  (Jvm.Cond.instanceMethod ({ cls := "StrengthHouse$Meters", name := "ledOnce", desc := "(IJ)J" } : Jvm.MethodName)),
  (Jvm.Cond.code ({ cls := "StrengthHouse$Meters", name := "ledOnce", desc := "(IJ)J" } : Jvm.MethodName) prog_4_method_5_code (4 : Nat) (Option.some Jvm.ClassFile.FieldType.long)),
  (Jvm.Cond.constantLong "StrengthHouse$Meters" (36 : Nat) (2000000000 : Int64)),
  (Jvm.Cond.methodLink "StrengthHouse$Meters" (38 : Nat) ({ cls := "java/lang/Math", name := "min", desc := "(JJ)J" } : Jvm.MethodName)),
  (Jvm.Cond.methodLink "StrengthHouse$Meters" (32 : Nat) ({ cls := "StrengthHouse$Meters", name := "otherOf", desc := "(I)I" } : Jvm.MethodName)),
  (Jvm.Cond.privateMethod ({ cls := "StrengthHouse$Meters", name := "otherOf", desc := "(I)I" } : Jvm.MethodName)),
  (Jvm.Cond.instanceMethod ({ cls := "StrengthHouse$Meters", name := "otherOf", desc := "(I)I" } : Jvm.MethodName)),
  (Jvm.Cond.code ({ cls := "StrengthHouse$Meters", name := "otherOf", desc := "(I)I" } : Jvm.MethodName) prog_4_method_3_code (2 : Nat) (Option.some Jvm.ClassFile.FieldType.int)),
  (Jvm.Cond.methodLink "StrengthHouse" (297 : Nat) ({ cls := "StrengthHouse$Meters", name := "doubtOf", desc := "(I)I" } : Jvm.MethodName)),
  (Jvm.Cond.instanceMethod ({ cls := "StrengthHouse$Meters", name := "doubtOf", desc := "(I)I" } : Jvm.MethodName)),
  (Jvm.Cond.selects "StrengthHouse$Meters" ({ cls := "StrengthHouse$Meters", name := "doubtOf", desc := "(I)I" } : Jvm.MethodName) ({ cls := "StrengthHouse$Meters", name := "doubtOf", desc := "(I)I" } : Jvm.MethodName)),
  (Jvm.Cond.code ({ cls := "StrengthHouse$Meters", name := "doubtOf", desc := "(I)I" } : Jvm.MethodName) prog_4_method_6_code (6 : Nat) (Option.some Jvm.ClassFile.FieldType.int))]
def nd_65 : List Jvm.Cond := [(Jvm.Cond.methodLink "StrengthHouse$Meters" (44 : Nat) ({ cls := "StrengthHouse$Meters", name := "ledToHouse", desc := "(II)I" } : Jvm.MethodName)),
  (Jvm.Cond.methodLink "StrengthHouseLaw" (114 : Nat) ({ cls := "StrengthHouse", name := "enter", desc := "(III)I" } : Jvm.MethodName)),
  (Jvm.Cond.instanceMethod ({ cls := "StrengthHouse", name := "enter", desc := "(III)I" } : Jvm.MethodName)),
  (Jvm.Cond.selects "StrengthHouse" ({ cls := "StrengthHouse", name := "enter", desc := "(III)I" } : Jvm.MethodName) ({ cls := "StrengthHouse", name := "enter", desc := "(III)I" } : Jvm.MethodName)),
  (Jvm.Cond.code ({ cls := "StrengthHouse", name := "enter", desc := "(III)I" } : Jvm.MethodName) prog_1_method_25_code (4 : Nat) (Option.some Jvm.ClassFile.FieldType.int)),
  (Jvm.Cond.methodLink "StrengthHouse" (307 : Nat) ({ cls := "StrengthHouse$Book", name := "add", desc := "(IIILStrengthHouse$Order;)I" } : Jvm.MethodName)),
  (Jvm.Cond.instanceMethod ({ cls := "StrengthHouse$Book", name := "add", desc := "(IIILStrengthHouse$Order;)I" } : Jvm.MethodName)),
  (Jvm.Cond.selects "StrengthHouse$Book" ({ cls := "StrengthHouse$Book", name := "add", desc := "(IIILStrengthHouse$Order;)I" } : Jvm.MethodName) ({ cls := "StrengthHouse$Book", name := "add", desc := "(IIILStrengthHouse$Order;)I" } : Jvm.MethodName)),
  (Jvm.Cond.code ({ cls := "StrengthHouse$Book", name := "add", desc := "(IIILStrengthHouse$Order;)I" } : Jvm.MethodName) prog_2_method_3_code (6 : Nat) (Option.some Jvm.ClassFile.FieldType.int)),
  (Jvm.Cond.methodLink "StrengthHouse$Book" (37 : Nat) ({ cls := "StrengthHouse$Order", name := "valueAt", desc := "(I)I" } : Jvm.MethodName)),
  (Jvm.Cond.methodLink "StrengthHouse$Book" (41 : Nat) ({ cls := "StrengthHouse$Order", name := "pieceBits", desc := "()I" } : Jvm.MethodName)),
  (Jvm.Cond.instanceMethod ({ cls := "StrengthHouse$Order", name := "pieceBits", desc := "()I" } : Jvm.MethodName)),
  (Jvm.Cond.selects "StrengthHouse$Order" ({ cls := "StrengthHouse$Order", name := "pieceBits", desc := "()I" } : Jvm.MethodName) ({ cls := "StrengthHouse$Order", name := "pieceBits", desc := "()I" } : Jvm.MethodName)),
  (Jvm.Cond.code ({ cls := "StrengthHouse$Order", name := "pieceBits", desc := "()I" } : Jvm.MethodName) prog_5_method_5_code (3 : Nat) (Option.some Jvm.ClassFile.FieldType.int)),
  (Jvm.Cond.methodLink "StrengthHouseLaw" (118 : Nat) ({ cls := "StrengthHouse", name := "entryIs", desc := "(II)I" } : Jvm.MethodName)),
  (Jvm.Cond.instanceMethod ({ cls := "StrengthHouse", name := "entryIs", desc := "(II)I" } : Jvm.MethodName))]
def nd_66 : List Jvm.Cond := [(Jvm.Cond.selects "StrengthHouse" ({ cls := "StrengthHouse", name := "entryIs", desc := "(II)I" } : Jvm.MethodName) ({ cls := "StrengthHouse", name := "entryIs", desc := "(II)I" } : Jvm.MethodName)),
  (Jvm.Cond.code ({ cls := "StrengthHouse", name := "entryIs", desc := "(II)I" } : Jvm.MethodName) prog_1_method_26_code (4 : Nat) (Option.some Jvm.ClassFile.FieldType.int)),
  (Jvm.Cond.methodLink "StrengthHouse" (310 : Nat) ({ cls := "StrengthHouse$Book", name := "has", desc := "(I)Z" } : Jvm.MethodName)),
  (Jvm.Cond.instanceMethod ({ cls := "StrengthHouse$Book", name := "has", desc := "(I)Z" } : Jvm.MethodName)),
  (Jvm.Cond.selects "StrengthHouse$Book" ({ cls := "StrengthHouse$Book", name := "has", desc := "(I)Z" } : Jvm.MethodName) ({ cls := "StrengthHouse$Book", name := "has", desc := "(I)Z" } : Jvm.MethodName)),
  (Jvm.Cond.code ({ cls := "StrengthHouse$Book", name := "has", desc := "(I)Z" } : Jvm.MethodName) prog_2_method_2_code (2 : Nat) (Option.some Jvm.ClassFile.FieldType.boolean)),
  (Jvm.Cond.methodLink "StrengthHouseLaw" (122 : Nat) ({ cls := "StrengthHouse", name := "back", desc := "(II)I" } : Jvm.MethodName)),
  (Jvm.Cond.instanceMethod ({ cls := "StrengthHouse", name := "back", desc := "(II)I" } : Jvm.MethodName)),
  (Jvm.Cond.selects "StrengthHouse" ({ cls := "StrengthHouse", name := "back", desc := "(II)I" } : Jvm.MethodName) ({ cls := "StrengthHouse", name := "back", desc := "(II)I" } : Jvm.MethodName)),
  (Jvm.Cond.code ({ cls := "StrengthHouse", name := "back", desc := "(II)I" } : Jvm.MethodName) prog_1_method_27_code (3 : Nat) (Option.some Jvm.ClassFile.FieldType.int)),
  (Jvm.Cond.methodLink "StrengthHouse" (324 : Nat) ({ cls := "StrengthHouse$Book", name := "canTakeBack", desc := "(II)Z" } : Jvm.MethodName)),
  (Jvm.Cond.instanceMethod ({ cls := "StrengthHouse$Book", name := "canTakeBack", desc := "(II)Z" } : Jvm.MethodName)),
  (Jvm.Cond.selects "StrengthHouse$Book" ({ cls := "StrengthHouse$Book", name := "canTakeBack", desc := "(II)Z" } : Jvm.MethodName) ({ cls := "StrengthHouse$Book", name := "canTakeBack", desc := "(II)Z" } : Jvm.MethodName)),
  (Jvm.Cond.code ({ cls := "StrengthHouse$Book", name := "canTakeBack", desc := "(II)Z" } : Jvm.MethodName) prog_2_method_4_code (3 : Nat) (Option.some Jvm.ClassFile.FieldType.boolean)),
  (Jvm.Cond.methodLink "StrengthHouse$Book" (44 : Nat) ({ cls := "StrengthHouse$Book", name := "has", desc := "(I)Z" } : Jvm.MethodName)),
  (Jvm.Cond.methodLink "StrengthHouse" (327 : Nat) ({ cls := "StrengthHouse$Book", name := "takeBack", desc := "(II)V" } : Jvm.MethodName))]
def nd_67 : List Jvm.Cond := [(Jvm.Cond.instanceMethod ({ cls := "StrengthHouse$Book", name := "takeBack", desc := "(II)V" } : Jvm.MethodName)),
  (Jvm.Cond.selects "StrengthHouse$Book" ({ cls := "StrengthHouse$Book", name := "takeBack", desc := "(II)V" } : Jvm.MethodName) ({ cls := "StrengthHouse$Book", name := "takeBack", desc := "(II)V" } : Jvm.MethodName)),
  (Jvm.Cond.code ({ cls := "StrengthHouse$Book", name := "takeBack", desc := "(II)V" } : Jvm.MethodName) prog_2_method_5_code (3 : Nat) (Option.none : Option Jvm.ClassFile.FieldType)),
  (Jvm.Cond.methodLink "StrengthHouseLaw" (126 : Nat) ({ cls := "StrengthHouse", name := "book", desc := "(II)I" } : Jvm.MethodName)),
  (Jvm.Cond.instanceMethod ({ cls := "StrengthHouse", name := "book", desc := "(II)I" } : Jvm.MethodName)),
  (Jvm.Cond.selects "StrengthHouse" ({ cls := "StrengthHouse", name := "book", desc := "(II)I" } : Jvm.MethodName) ({ cls := "StrengthHouse", name := "book", desc := "(II)I" } : Jvm.MethodName)),
  (Jvm.Cond.code ({ cls := "StrengthHouse", name := "book", desc := "(II)I" } : Jvm.MethodName) prog_1_method_28_code (3 : Nat) (Option.some Jvm.ClassFile.FieldType.int)),
  (Jvm.Cond.methodLink "StrengthHouse" (330 : Nat) ({ cls := "StrengthHouse$Book", name := "latest", desc := "(II)I" } : Jvm.MethodName)),
  (Jvm.Cond.instanceMethod ({ cls := "StrengthHouse$Book", name := "latest", desc := "(II)I" } : Jvm.MethodName)),
  (Jvm.Cond.selects "StrengthHouse$Book" ({ cls := "StrengthHouse$Book", name := "latest", desc := "(II)I" } : Jvm.MethodName) ({ cls := "StrengthHouse$Book", name := "latest", desc := "(II)I" } : Jvm.MethodName)),
  (Jvm.Cond.code ({ cls := "StrengthHouse$Book", name := "latest", desc := "(II)I" } : Jvm.MethodName) prog_2_method_7_code (5 : Nat) (Option.some Jvm.ClassFile.FieldType.int)),
  (Jvm.Cond.methodLink "StrengthHouseLaw" (130 : Nat) ({ cls := "StrengthHouse", name := "hangs", desc := "(I)I" } : Jvm.MethodName)),
  (Jvm.Cond.instanceMethod ({ cls := "StrengthHouse", name := "hangs", desc := "(I)I" } : Jvm.MethodName)),
  (Jvm.Cond.selects "StrengthHouse" ({ cls := "StrengthHouse", name := "hangs", desc := "(I)I" } : Jvm.MethodName) ({ cls := "StrengthHouse", name := "hangs", desc := "(I)I" } : Jvm.MethodName)),
  (Jvm.Cond.code ({ cls := "StrengthHouse", name := "hangs", desc := "(I)I" } : Jvm.MethodName) prog_1_method_29_code (2 : Nat) (Option.some Jvm.ClassFile.FieldType.int)),
  (Jvm.Cond.methodLink "StrengthHouse" (333 : Nat) ({ cls := "StrengthHouse$Book", name := "hanging", desc := "(ILStrengthHouse$Meters;)I" } : Jvm.MethodName))]
def nd_68 : List Jvm.Cond := [(Jvm.Cond.instanceMethod ({ cls := "StrengthHouse$Book", name := "hanging", desc := "(ILStrengthHouse$Meters;)I" } : Jvm.MethodName)),
  (Jvm.Cond.selects "StrengthHouse$Book" ({ cls := "StrengthHouse$Book", name := "hanging", desc := "(ILStrengthHouse$Meters;)I" } : Jvm.MethodName) ({ cls := "StrengthHouse$Book", name := "hanging", desc := "(ILStrengthHouse$Meters;)I" } : Jvm.MethodName)),
  (Jvm.Cond.code ({ cls := "StrengthHouse$Book", name := "hanging", desc := "(ILStrengthHouse$Meters;)I" } : Jvm.MethodName) prog_2_method_8_code (5 : Nat) (Option.some Jvm.ClassFile.FieldType.int)),
  (Jvm.Cond.methodLink "StrengthHouse$Book" (48 : Nat) ({ cls := "StrengthHouse$Meters", name := "goesOver", desc := "(II)Z" } : Jvm.MethodName)),
  (Jvm.Cond.instanceMethod ({ cls := "StrengthHouse$Meters", name := "goesOver", desc := "(II)Z" } : Jvm.MethodName)),
  (Jvm.Cond.selects "StrengthHouse$Meters" ({ cls := "StrengthHouse$Meters", name := "goesOver", desc := "(II)Z" } : Jvm.MethodName) ({ cls := "StrengthHouse$Meters", name := "goesOver", desc := "(II)Z" } : Jvm.MethodName)),
  (Jvm.Cond.code ({ cls := "StrengthHouse$Meters", name := "goesOver", desc := "(II)Z" } : Jvm.MethodName) prog_4_method_7_code (5 : Nat) (Option.some Jvm.ClassFile.FieldType.boolean)),
  (Jvm.Cond.methodLink "StrengthHouseLaw" (134 : Nat) ({ cls := "StrengthHouse", name := "plates", desc := "(III)I" } : Jvm.MethodName)),
  (Jvm.Cond.instanceMethod ({ cls := "StrengthHouse", name := "plates", desc := "(III)I" } : Jvm.MethodName)),
  (Jvm.Cond.selects "StrengthHouse" ({ cls := "StrengthHouse", name := "plates", desc := "(III)I" } : Jvm.MethodName) ({ cls := "StrengthHouse", name := "plates", desc := "(III)I" } : Jvm.MethodName)),
  (Jvm.Cond.code ({ cls := "StrengthHouse", name := "plates", desc := "(III)I" } : Jvm.MethodName) prog_1_method_30_code (5 : Nat) (Option.some Jvm.ClassFile.FieldType.int)),
  (Jvm.Cond.methodLink "StrengthHouse" (337 : Nat) ({ cls := "StrengthHouse", name := "fewestPlates", desc := "(LStrengthHouse$Sheet;II)I" } : Jvm.MethodName)),
  (Jvm.Cond.privateMethod ({ cls := "StrengthHouse", name := "fewestPlates", desc := "(LStrengthHouse$Sheet;II)I" } : Jvm.MethodName)),
  (Jvm.Cond.instanceMethod ({ cls := "StrengthHouse", name := "fewestPlates", desc := "(LStrengthHouse$Sheet;II)I" } : Jvm.MethodName)),
  (Jvm.Cond.code ({ cls := "StrengthHouse", name := "fewestPlates", desc := "(LStrengthHouse$Sheet;II)I" } : Jvm.MethodName) prog_1_method_48_code (7 : Nat) (Option.some Jvm.ClassFile.FieldType.int)),
  (Jvm.Cond.constant "StrengthHouse" (341 : Nat) (2000000000 : Int32))]
def nd_69 : List Jvm.Cond := [(Jvm.Cond.methodLink "StrengthHouse" (410 : Nat) ({ cls := "StrengthHouse", name := "cutOneMore", desc := "(III)I" } : Jvm.MethodName)),
  (Jvm.Cond.static ({ cls := "StrengthHouse", name := "cutOneMore", desc := "(III)I" } : Jvm.MethodName)),
  (Jvm.Cond.code ({ cls := "StrengthHouse", name := "cutOneMore", desc := "(III)I" } : Jvm.MethodName) prog_1_method_49_code (4 : Nat) (Option.some Jvm.ClassFile.FieldType.int)),
  (Jvm.Cond.methodLink "StrengthHouse" (413 : Nat) ({ cls := "java/lang/Math", name := "min", desc := "(II)I" } : Jvm.MethodName)),
  (Jvm.Cond.methodLink "StrengthHouseLaw" (138 : Nat) ({ cls := "StrengthHouse", name := "drift", desc := "(I)I" } : Jvm.MethodName)),
  (Jvm.Cond.instanceMethod ({ cls := "StrengthHouse", name := "drift", desc := "(I)I" } : Jvm.MethodName)),
  (Jvm.Cond.selects "StrengthHouse" ({ cls := "StrengthHouse", name := "drift", desc := "(I)I" } : Jvm.MethodName) ({ cls := "StrengthHouse", name := "drift", desc := "(I)I" } : Jvm.MethodName)),
  (Jvm.Cond.code ({ cls := "StrengthHouse", name := "drift", desc := "(I)I" } : Jvm.MethodName) prog_1_method_31_code (5 : Nat) (Option.some Jvm.ClassFile.FieldType.int)),
  (Jvm.Cond.methodLink "StrengthHouse" (342 : Nat) ({ cls := "java/lang/Integer", name := "bitCount", desc := "(I)I" } : Jvm.MethodName)),
  (Jvm.Cond.static ({ cls := "java/lang/Integer", name := "bitCount", desc := "(I)I" } : Jvm.MethodName)),
  (Jvm.Cond.code ({ cls := "java/lang/Integer", name := "bitCount", desc := "(I)I" } : Jvm.MethodName) prog_15_method_49_code (1 : Nat) (Option.some Jvm.ClassFile.FieldType.int)),
  (Jvm.Cond.constant "java/lang/Integer" (265 : Nat) (1431655765 : Int32)),
  (Jvm.Cond.constant "java/lang/Integer" (266 : Nat) (858993459 : Int32)),
  (Jvm.Cond.constant "java/lang/Integer" (267 : Nat) (252645135 : Int32)),
  (Jvm.Cond.methodLink "StrengthHouse" (347 : Nat) ({ cls := "StrengthHouse", name := "sumsApart", desc := "(II)I" } : Jvm.MethodName)),
  (Jvm.Cond.static ({ cls := "StrengthHouse", name := "sumsApart", desc := "(II)I" } : Jvm.MethodName))]
def nd_70 : List Jvm.Cond := [(Jvm.Cond.code ({ cls := "StrengthHouse", name := "sumsApart", desc := "(II)I" } : Jvm.MethodName) prog_1_method_50_code (4 : Nat) (Option.some Jvm.ClassFile.FieldType.int)),
  (Jvm.Cond.methodLink "StrengthHouse" (418 : Nat) ({ cls := "java/lang/Math", name := "abs", desc := "(I)I" } : Jvm.MethodName)),
  (Jvm.Cond.static ({ cls := "java/lang/Math", name := "abs", desc := "(I)I" } : Jvm.MethodName)),
  (Jvm.Cond.code ({ cls := "java/lang/Math", name := "abs", desc := "(I)I" } : Jvm.MethodName) prog_16_method_59_code (1 : Nat) (Option.some Jvm.ClassFile.FieldType.int)),
  (Jvm.Cond.methodLink "StrengthHouseLaw" (142 : Nat) ({ cls := "StrengthHouse", name := "voice", desc := "(III)I" } : Jvm.MethodName)),
  (Jvm.Cond.instanceMethod ({ cls := "StrengthHouse", name := "voice", desc := "(III)I" } : Jvm.MethodName)),
  (Jvm.Cond.selects "StrengthHouse" ({ cls := "StrengthHouse", name := "voice", desc := "(III)I" } : Jvm.MethodName) ({ cls := "StrengthHouse", name := "voice", desc := "(III)I" } : Jvm.MethodName)),
  (Jvm.Cond.code ({ cls := "StrengthHouse", name := "voice", desc := "(III)I" } : Jvm.MethodName) prog_1_method_32_code (6 : Nat) (Option.some Jvm.ClassFile.FieldType.int)),
  (Jvm.Cond.methodLink "StrengthHouse" (350 : Nat) ({ cls := "StrengthHouse$Voices", name := "ask", desc := "(LStrengthHouse$Piece;III)I" } : Jvm.MethodName)),
  (Jvm.Cond.instanceMethod ({ cls := "StrengthHouse$Voices", name := "ask", desc := "(LStrengthHouse$Piece;III)I" } : Jvm.MethodName)),
  (Jvm.Cond.selects "StrengthHouse$Voices" ({ cls := "StrengthHouse$Voices", name := "ask", desc := "(LStrengthHouse$Piece;III)I" } : Jvm.MethodName) ({ cls := "StrengthHouse$Voices", name := "ask", desc := "(LStrengthHouse$Piece;III)I" } : Jvm.MethodName)),
  (Jvm.Cond.code ({ cls := "StrengthHouse$Voices", name := "ask", desc := "(LStrengthHouse$Piece;III)I" } : Jvm.MethodName) prog_12_method_2_code (6 : Nat) (Option.some Jvm.ClassFile.FieldType.int)),
  (Jvm.Cond.methodLink "StrengthHouse$Voices" (42 : Nat) ({ cls := "StrengthHouse$Voices", name := "say", desc := "(IIII)I" } : Jvm.MethodName)),
  (Jvm.Cond.privateMethod ({ cls := "StrengthHouse$Voices", name := "say", desc := "(IIII)I" } : Jvm.MethodName)),
  (Jvm.Cond.instanceMethod ({ cls := "StrengthHouse$Voices", name := "say", desc := "(IIII)I" } : Jvm.MethodName)),
  (Jvm.Cond.code ({ cls := "StrengthHouse$Voices", name := "say", desc := "(IIII)I" } : Jvm.MethodName) prog_12_method_4_code (7 : Nat) (Option.some Jvm.ClassFile.FieldType.int))]
def nd_71 : List Jvm.Cond := [(Jvm.Cond.methodLink "StrengthHouse$Voices" (52 : Nat) ({ cls := "StrengthHouse$Voices", name := "bodyOf", desc := "(II)I" } : Jvm.MethodName)),
  (Jvm.Cond.static ({ cls := "StrengthHouse$Voices", name := "bodyOf", desc := "(II)I" } : Jvm.MethodName)),
  (Jvm.Cond.code ({ cls := "StrengthHouse$Voices", name := "bodyOf", desc := "(II)I" } : Jvm.MethodName) prog_12_method_5_code (3 : Nat) (Option.some Jvm.ClassFile.FieldType.int)),
  (Jvm.Cond.fieldLink "StrengthHouse$Voices" (64 : Nat) "StrengthHouse$Voices" "BODIES" "[I"),
  (Jvm.Cond.laysStatic "StrengthHouse$Voices" "BODIES" "[I"),
  (Jvm.Cond.methodLink "StrengthHouse$Voices" (56 : Nat) ({ cls := "StrengthHouse$Piece", name := "above", desc := "(I)I" } : Jvm.MethodName)),
  (Jvm.Cond.methodLink "StrengthHouse$Voices" (60 : Nat) ({ cls := "StrengthHouse$Voices", name := "workOut", desc := "(III)I" } : Jvm.MethodName)),
  (Jvm.Cond.privateMethod ({ cls := "StrengthHouse$Voices", name := "workOut", desc := "(III)I" } : Jvm.MethodName)),
  (Jvm.Cond.instanceMethod ({ cls := "StrengthHouse$Voices", name := "workOut", desc := "(III)I" } : Jvm.MethodName)),
  (Jvm.Cond.code ({ cls := "StrengthHouse$Voices", name := "workOut", desc := "(III)I" } : Jvm.MethodName) prog_12_method_6_code (4 : Nat) (Option.some Jvm.ClassFile.FieldType.int)),
  (Jvm.Cond.methodLink "StrengthHouse$Voices" (67 : Nat) ({ cls := "StrengthHouse$Voices", name := "shareOut", desc := "(I)I" } : Jvm.MethodName)),
  (Jvm.Cond.privateMethod ({ cls := "StrengthHouse$Voices", name := "shareOut", desc := "(I)I" } : Jvm.MethodName)),
  (Jvm.Cond.instanceMethod ({ cls := "StrengthHouse$Voices", name := "shareOut", desc := "(I)I" } : Jvm.MethodName)),
  (Jvm.Cond.code ({ cls := "StrengthHouse$Voices", name := "shareOut", desc := "(I)I" } : Jvm.MethodName) prog_12_method_7_code (3 : Nat) (Option.some Jvm.ClassFile.FieldType.int)),
  (Jvm.Cond.methodLink "StrengthHouse$Voices" (46 : Nat) ({ cls := "java/lang/System", name := "arraycopy", desc := "(Ljava/lang/Object;ILjava/lang/Object;II)V" } : Jvm.MethodName)),
  (Jvm.Cond.methodLink "StrengthHouseLaw" (146 : Nat) ({ cls := "StrengthHouse", name := "body", desc := "(I)I" } : Jvm.MethodName))]
def nd_72 : List Jvm.Cond := [(Jvm.Cond.instanceMethod ({ cls := "StrengthHouse", name := "body", desc := "(I)I" } : Jvm.MethodName)),
  (Jvm.Cond.selects "StrengthHouse" ({ cls := "StrengthHouse", name := "body", desc := "(I)I" } : Jvm.MethodName) ({ cls := "StrengthHouse", name := "body", desc := "(I)I" } : Jvm.MethodName)),
  (Jvm.Cond.code ({ cls := "StrengthHouse", name := "body", desc := "(I)I" } : Jvm.MethodName) prog_1_method_33_code (2 : Nat) (Option.some Jvm.ClassFile.FieldType.int)),
  (Jvm.Cond.methodLink "StrengthHouse" (358 : Nat) ({ cls := "StrengthHouse$Voices", name := "bodyAt", desc := "(I)I" } : Jvm.MethodName)),
  (Jvm.Cond.instanceMethod ({ cls := "StrengthHouse$Voices", name := "bodyAt", desc := "(I)I" } : Jvm.MethodName)),
  (Jvm.Cond.selects "StrengthHouse$Voices" ({ cls := "StrengthHouse$Voices", name := "bodyAt", desc := "(I)I" } : Jvm.MethodName) ({ cls := "StrengthHouse$Voices", name := "bodyAt", desc := "(I)I" } : Jvm.MethodName)),
  (Jvm.Cond.code ({ cls := "StrengthHouse$Voices", name := "bodyAt", desc := "(I)I" } : Jvm.MethodName) prog_12_method_3_code (2 : Nat) (Option.some Jvm.ClassFile.FieldType.int)),
  (Jvm.Cond.methodLink "StrengthHouseLaw" (150 : Nat) ({ cls := "StrengthHouse", name := "sheet", desc := "(III)I" } : Jvm.MethodName)),
  (Jvm.Cond.instanceMethod ({ cls := "StrengthHouse", name := "sheet", desc := "(III)I" } : Jvm.MethodName)),
  (Jvm.Cond.selects "StrengthHouse" ({ cls := "StrengthHouse", name := "sheet", desc := "(III)I" } : Jvm.MethodName) ({ cls := "StrengthHouse", name := "sheet", desc := "(III)I" } : Jvm.MethodName)),
  (Jvm.Cond.code ({ cls := "StrengthHouse", name := "sheet", desc := "(III)I" } : Jvm.MethodName) prog_1_method_34_code (5 : Nat) (Option.some Jvm.ClassFile.FieldType.int)),
  (Jvm.Cond.methodLink "StrengthHouse" (361 : Nat) ({ cls := "StrengthHouse$Sheet", name := "become", desc := "(II)V" } : Jvm.MethodName)),
  (Jvm.Cond.instanceMethod ({ cls := "StrengthHouse$Sheet", name := "become", desc := "(II)V" } : Jvm.MethodName)),
  (Jvm.Cond.selects "StrengthHouse$Sheet" ({ cls := "StrengthHouse$Sheet", name := "become", desc := "(II)V" } : Jvm.MethodName) ({ cls := "StrengthHouse$Sheet", name := "become", desc := "(II)V" } : Jvm.MethodName)),
  (Jvm.Cond.code ({ cls := "StrengthHouse$Sheet", name := "become", desc := "(II)V" } : Jvm.MethodName) prog_9_method_2_code (4 : Nat) (Option.none : Option Jvm.ClassFile.FieldType)),
  (Jvm.Cond.methodLink "StrengthHouse$Sheet" (22 : Nat) ({ cls := "java/lang/Math", name := "min", desc := "(II)I" } : Jvm.MethodName))]
def nd_73 : List Jvm.Cond := [(Jvm.Cond.methodLink "StrengthHouse$Sheet" (28 : Nat) ({ cls := "java/lang/Math", name := "max", desc := "(II)I" } : Jvm.MethodName)),
  (Jvm.Cond.methodLink "StrengthHouseLaw" (154 : Nat) ({ cls := "StrengthHouse", name := "put", desc := "(III)I" } : Jvm.MethodName)),
  (Jvm.Cond.instanceMethod ({ cls := "StrengthHouse", name := "put", desc := "(III)I" } : Jvm.MethodName)),
  (Jvm.Cond.selects "StrengthHouse" ({ cls := "StrengthHouse", name := "put", desc := "(III)I" } : Jvm.MethodName) ({ cls := "StrengthHouse", name := "put", desc := "(III)I" } : Jvm.MethodName)),
  (Jvm.Cond.code ({ cls := "StrengthHouse", name := "put", desc := "(III)I" } : Jvm.MethodName) prog_1_method_35_code (5 : Nat) (Option.some Jvm.ClassFile.FieldType.int)),
  (Jvm.Cond.methodLink "StrengthHouse" (363 : Nat) ({ cls := "StrengthHouse$Sheet", name := "spans", desc := "(II)Z" } : Jvm.MethodName)),
  (Jvm.Cond.methodLink "StrengthHouse" (366 : Nat) ({ cls := "StrengthHouse$Sheet", name := "set", desc := "(II)V" } : Jvm.MethodName)),
  (Jvm.Cond.instanceMethod ({ cls := "StrengthHouse$Sheet", name := "set", desc := "(II)V" } : Jvm.MethodName)),
  (Jvm.Cond.selects "StrengthHouse$Sheet" ({ cls := "StrengthHouse$Sheet", name := "set", desc := "(II)V" } : Jvm.MethodName) ({ cls := "StrengthHouse$Sheet", name := "set", desc := "(II)V" } : Jvm.MethodName)),
  (Jvm.Cond.code ({ cls := "StrengthHouse$Sheet", name := "set", desc := "(II)V" } : Jvm.MethodName) prog_9_method_6_code (3 : Nat) (Option.none : Option Jvm.ClassFile.FieldType)),
  (Jvm.Cond.methodLink "StrengthHouseLaw" (158 : Nat) ({ cls := "StrengthHouse", name := "move", desc := "(IIIII)I" } : Jvm.MethodName)),
  (Jvm.Cond.instanceMethod ({ cls := "StrengthHouse", name := "move", desc := "(IIIII)I" } : Jvm.MethodName)),
  (Jvm.Cond.selects "StrengthHouse" ({ cls := "StrengthHouse", name := "move", desc := "(IIIII)I" } : Jvm.MethodName) ({ cls := "StrengthHouse", name := "move", desc := "(IIIII)I" } : Jvm.MethodName)),
  (Jvm.Cond.code ({ cls := "StrengthHouse", name := "move", desc := "(IIIII)I" } : Jvm.MethodName) prog_1_method_36_code (8 : Nat) (Option.some Jvm.ClassFile.FieldType.int)),
  (Jvm.Cond.methodLink "StrengthHouse" (374 : Nat) ({ cls := "java/lang/System", name := "arraycopy", desc := "(Ljava/lang/Object;ILjava/lang/Object;II)V" } : Jvm.MethodName)),
  (Jvm.Cond.methodLink "StrengthHouseLaw" (162 : Nat) ({ cls := "StrengthHouse", name := "image", desc := "()I" } : Jvm.MethodName))]
def nd_74 : List Jvm.Cond := [(Jvm.Cond.instanceMethod ({ cls := "StrengthHouse", name := "image", desc := "()I" } : Jvm.MethodName)),
  (Jvm.Cond.selects "StrengthHouse" ({ cls := "StrengthHouse", name := "image", desc := "()I" } : Jvm.MethodName) ({ cls := "StrengthHouse", name := "image", desc := "()I" } : Jvm.MethodName)),
  (Jvm.Cond.code ({ cls := "StrengthHouse", name := "image", desc := "()I" } : Jvm.MethodName) prog_1_method_37_code (1 : Nat) (Option.some Jvm.ClassFile.FieldType.int)),
  (Jvm.Cond.methodLink "StrengthHouse" (380 : Nat) ({ cls := "StrengthHouse$State", name := "copyFrom", desc := "(LStrengthHouse$State;)V" } : Jvm.MethodName)),
  (Jvm.Cond.instanceMethod ({ cls := "StrengthHouse$State", name := "copyFrom", desc := "(LStrengthHouse$State;)V" } : Jvm.MethodName)),
  (Jvm.Cond.selects "StrengthHouse$State" ({ cls := "StrengthHouse$State", name := "copyFrom", desc := "(LStrengthHouse$State;)V" } : Jvm.MethodName) ({ cls := "StrengthHouse$State", name := "copyFrom", desc := "(LStrengthHouse$State;)V" } : Jvm.MethodName)),
  (Jvm.Cond.code ({ cls := "StrengthHouse$State", name := "copyFrom", desc := "(LStrengthHouse$State;)V" } : Jvm.MethodName) prog_10_method_16_code (3 : Nat) (Option.none : Option Jvm.ClassFile.FieldType)),
  (Jvm.Cond.methodLink "StrengthHouse$State" (98 : Nat) ({ cls := "StrengthHouse$Piece", name := "copyFrom", desc := "(LStrengthHouse$Piece;)V" } : Jvm.MethodName)),
  (Jvm.Cond.instanceMethod ({ cls := "StrengthHouse$Piece", name := "copyFrom", desc := "(LStrengthHouse$Piece;)V" } : Jvm.MethodName)),
  (Jvm.Cond.selects "StrengthHouse$Piece" ({ cls := "StrengthHouse$Piece", name := "copyFrom", desc := "(LStrengthHouse$Piece;)V" } : Jvm.MethodName) ({ cls := "StrengthHouse$Piece", name := "copyFrom", desc := "(LStrengthHouse$Piece;)V" } : Jvm.MethodName)),
  (Jvm.Cond.code ({ cls := "StrengthHouse$Piece", name := "copyFrom", desc := "(LStrengthHouse$Piece;)V" } : Jvm.MethodName) prog_6_method_9_code (2 : Nat) (Option.none : Option Jvm.ClassFile.FieldType)),
  (Jvm.Cond.methodLink "StrengthHouse$Piece" (66 : Nat) ({ cls := "java/lang/System", name := "arraycopy", desc := "(Ljava/lang/Object;ILjava/lang/Object;II)V" } : Jvm.MethodName)),
  (Jvm.Cond.methodLink "StrengthHouse$Piece" (72 : Nat) ({ cls := "StrengthHouse$Readings", name := "copyFrom", desc := "(LStrengthHouse$Readings;)V" } : Jvm.MethodName)),
  (Jvm.Cond.methodLink "StrengthHouse$State" (102 : Nat) ({ cls := "StrengthHouse$Program", name := "copyFrom", desc := "(LStrengthHouse$Program;)V" } : Jvm.MethodName)),
  (Jvm.Cond.methodLink "StrengthHouse$State" (105 : Nat) ({ cls := "java/lang/System", name := "arraycopy", desc := "(Ljava/lang/Object;ILjava/lang/Object;II)V" } : Jvm.MethodName)),
  (Jvm.Cond.methodLink "StrengthHouse$State" (111 : Nat) ({ cls := "StrengthHouse$Meters", name := "copyFrom", desc := "(LStrengthHouse$Meters;)V" } : Jvm.MethodName))]
def nd_75 : List Jvm.Cond := [(Jvm.Cond.instanceMethod ({ cls := "StrengthHouse$Meters", name := "copyFrom", desc := "(LStrengthHouse$Meters;)V" } : Jvm.MethodName)),
  (Jvm.Cond.selects "StrengthHouse$Meters" ({ cls := "StrengthHouse$Meters", name := "copyFrom", desc := "(LStrengthHouse$Meters;)V" } : Jvm.MethodName) ({ cls := "StrengthHouse$Meters", name := "copyFrom", desc := "(LStrengthHouse$Meters;)V" } : Jvm.MethodName)),
  (Jvm.Cond.code ({ cls := "StrengthHouse$Meters", name := "copyFrom", desc := "(LStrengthHouse$Meters;)V" } : Jvm.MethodName) prog_4_method_8_code (2 : Nat) (Option.none : Option Jvm.ClassFile.FieldType)),
  (Jvm.Cond.methodLink "StrengthHouse$Meters" (48 : Nat) ({ cls := "java/lang/System", name := "arraycopy", desc := "(Ljava/lang/Object;ILjava/lang/Object;II)V" } : Jvm.MethodName)),
  (Jvm.Cond.methodLink "StrengthHouse$State" (114 : Nat) ({ cls := "StrengthHouse$Book", name := "copyFrom", desc := "(LStrengthHouse$Book;)V" } : Jvm.MethodName)),
  (Jvm.Cond.instanceMethod ({ cls := "StrengthHouse$Book", name := "copyFrom", desc := "(LStrengthHouse$Book;)V" } : Jvm.MethodName)),
  (Jvm.Cond.selects "StrengthHouse$Book" ({ cls := "StrengthHouse$Book", name := "copyFrom", desc := "(LStrengthHouse$Book;)V" } : Jvm.MethodName) ({ cls := "StrengthHouse$Book", name := "copyFrom", desc := "(LStrengthHouse$Book;)V" } : Jvm.MethodName)),
  (Jvm.Cond.code ({ cls := "StrengthHouse$Book", name := "copyFrom", desc := "(LStrengthHouse$Book;)V" } : Jvm.MethodName) prog_2_method_9_code (2 : Nat) (Option.none : Option Jvm.ClassFile.FieldType)),
  (Jvm.Cond.methodLink "StrengthHouse$Book" (54 : Nat) ({ cls := "java/lang/System", name := "arraycopy", desc := "(Ljava/lang/Object;ILjava/lang/Object;II)V" } : Jvm.MethodName)),
  (Jvm.Cond.methodLink "StrengthHouseLaw" (167 : Nat) ({ cls := "StrengthHouse", name := "restore", desc := "()I" } : Jvm.MethodName)),
  (Jvm.Cond.instanceMethod ({ cls := "StrengthHouse", name := "restore", desc := "()I" } : Jvm.MethodName)),
  (Jvm.Cond.selects "StrengthHouse" ({ cls := "StrengthHouse", name := "restore", desc := "()I" } : Jvm.MethodName) ({ cls := "StrengthHouse", name := "restore", desc := "()I" } : Jvm.MethodName)),
  (Jvm.Cond.code ({ cls := "StrengthHouse", name := "restore", desc := "()I" } : Jvm.MethodName) prog_1_method_38_code (1 : Nat) (Option.some Jvm.ClassFile.FieldType.int)),
  (Jvm.Cond.methodLink "StrengthHouseLaw" (171 : Nat) ({ cls := "StrengthHouse", name := "tell", desc := "(I)I" } : Jvm.MethodName)),
  (Jvm.Cond.instanceMethod ({ cls := "StrengthHouse", name := "tell", desc := "(I)I" } : Jvm.MethodName)),
  (Jvm.Cond.selects "StrengthHouse" ({ cls := "StrengthHouse", name := "tell", desc := "(I)I" } : Jvm.MethodName) ({ cls := "StrengthHouse", name := "tell", desc := "(I)I" } : Jvm.MethodName))]
def nd_76 : List Jvm.Cond := [(Jvm.Cond.code ({ cls := "StrengthHouse", name := "tell", desc := "(I)I" } : Jvm.MethodName) prog_1_method_39_code (2 : Nat) (Option.some Jvm.ClassFile.FieldType.int)),
  (Jvm.Cond.methodLink "StrengthHouse" (383 : Nat) ({ cls := "StrengthHouse$State", name := "addWaiting", desc := "(I)Z" } : Jvm.MethodName)),
  (Jvm.Cond.instanceMethod ({ cls := "StrengthHouse$State", name := "addWaiting", desc := "(I)Z" } : Jvm.MethodName)),
  (Jvm.Cond.selects "StrengthHouse$State" ({ cls := "StrengthHouse$State", name := "addWaiting", desc := "(I)Z" } : Jvm.MethodName) ({ cls := "StrengthHouse$State", name := "addWaiting", desc := "(I)Z" } : Jvm.MethodName)),
  (Jvm.Cond.code ({ cls := "StrengthHouse$State", name := "addWaiting", desc := "(I)Z" } : Jvm.MethodName) prog_10_method_14_code (2 : Nat) (Option.some Jvm.ClassFile.FieldType.boolean)),
  (Jvm.Cond.methodLink "StrengthHouseLaw" (175 : Nat) ({ cls := "StrengthHouse", name := "check", desc := "(II)I" } : Jvm.MethodName)),
  (Jvm.Cond.instanceMethod ({ cls := "StrengthHouse", name := "check", desc := "(II)I" } : Jvm.MethodName)),
  (Jvm.Cond.selects "StrengthHouse" ({ cls := "StrengthHouse", name := "check", desc := "(II)I" } : Jvm.MethodName) ({ cls := "StrengthHouse", name := "check", desc := "(II)I" } : Jvm.MethodName)),
  (Jvm.Cond.code ({ cls := "StrengthHouse", name := "check", desc := "(II)I" } : Jvm.MethodName) prog_1_method_40_code (6 : Nat) (Option.some Jvm.ClassFile.FieldType.int)),
  (Jvm.Cond.methodLink "StrengthHouse" (389 : Nat) ({ cls := "StrengthHouse", name := "firstUnlike", desc := "(ILStrengthHouse$Readings;)I" } : Jvm.MethodName)),
  (Jvm.Cond.privateMethod ({ cls := "StrengthHouse", name := "firstUnlike", desc := "(ILStrengthHouse$Readings;)I" } : Jvm.MethodName)),
  (Jvm.Cond.instanceMethod ({ cls := "StrengthHouse", name := "firstUnlike", desc := "(ILStrengthHouse$Readings;)I" } : Jvm.MethodName)),
  (Jvm.Cond.code ({ cls := "StrengthHouse", name := "firstUnlike", desc := "(ILStrengthHouse$Readings;)I" } : Jvm.MethodName) prog_1_method_51_code (5 : Nat) (Option.some Jvm.ClassFile.FieldType.int)),
  (Jvm.Cond.methodLink "StrengthHouse" (421 : Nat) ({ cls := "java/lang/Math", name := "max", desc := "(II)I" } : Jvm.MethodName)),
  (Jvm.Cond.methodLink "StrengthHouse" (424 : Nat) ({ cls := "StrengthHouse$State", name := "waitingAt", desc := "(I)I" } : Jvm.MethodName)),
  (Jvm.Cond.instanceMethod ({ cls := "StrengthHouse$State", name := "waitingAt", desc := "(I)I" } : Jvm.MethodName))]
def nd_77 : List Jvm.Cond := [(Jvm.Cond.selects "StrengthHouse$State" ({ cls := "StrengthHouse$State", name := "waitingAt", desc := "(I)I" } : Jvm.MethodName) ({ cls := "StrengthHouse$State", name := "waitingAt", desc := "(I)I" } : Jvm.MethodName)),
  (Jvm.Cond.code ({ cls := "StrengthHouse$State", name := "waitingAt", desc := "(I)I" } : Jvm.MethodName) prog_10_method_15_code (2 : Nat) (Option.some Jvm.ClassFile.FieldType.int)),
  (Jvm.Cond.methodLink "StrengthHouse" (427 : Nat) ({ cls := "StrengthHouse$Readings", name := "flatAt", desc := "(I)I" } : Jvm.MethodName)),
  (Jvm.Cond.instanceMethod ({ cls := "StrengthHouse$Readings", name := "flatAt", desc := "(I)I" } : Jvm.MethodName)),
  (Jvm.Cond.selects "StrengthHouse$Readings" ({ cls := "StrengthHouse$Readings", name := "flatAt", desc := "(I)I" } : Jvm.MethodName) ({ cls := "StrengthHouse$Readings", name := "flatAt", desc := "(I)I" } : Jvm.MethodName)),
  (Jvm.Cond.code ({ cls := "StrengthHouse$Readings", name := "flatAt", desc := "(I)I" } : Jvm.MethodName) prog_8_method_6_code (2 : Nat) (Option.some Jvm.ClassFile.FieldType.int)),
  (Jvm.Cond.methodLink "StrengthHouseLaw" (179 : Nat) ({ cls := "StrengthHouse", name := "count", desc := "(I)I" } : Jvm.MethodName)),
  (Jvm.Cond.instanceMethod ({ cls := "StrengthHouse", name := "count", desc := "(I)I" } : Jvm.MethodName)),
  (Jvm.Cond.selects "StrengthHouse" ({ cls := "StrengthHouse", name := "count", desc := "(I)I" } : Jvm.MethodName) ({ cls := "StrengthHouse", name := "count", desc := "(I)I" } : Jvm.MethodName)),
  (Jvm.Cond.code ({ cls := "StrengthHouse", name := "count", desc := "(I)I" } : Jvm.MethodName) prog_1_method_41_code (2 : Nat) (Option.some Jvm.ClassFile.FieldType.int)),
  (Jvm.Cond.methodLink "StrengthHouse" (393 : Nat) ({ cls := "StrengthHouse$Book", name := "takenBack", desc := "()I" } : Jvm.MethodName)),
  (Jvm.Cond.instanceMethod ({ cls := "StrengthHouse$Book", name := "takenBack", desc := "()I" } : Jvm.MethodName)),
  (Jvm.Cond.selects "StrengthHouse$Book" ({ cls := "StrengthHouse$Book", name := "takenBack", desc := "()I" } : Jvm.MethodName) ({ cls := "StrengthHouse$Book", name := "takenBack", desc := "()I" } : Jvm.MethodName)),
  (Jvm.Cond.code ({ cls := "StrengthHouse$Book", name := "takenBack", desc := "()I" } : Jvm.MethodName) prog_2_method_6_code (3 : Nat) (Option.some Jvm.ClassFile.FieldType.int)),
  (Jvm.Cond.methodLink "StrengthHouse" (396 : Nat) ({ cls := "StrengthHouse$State", name := "programsThere", desc := "()I" } : Jvm.MethodName)),
  (Jvm.Cond.instanceMethod ({ cls := "StrengthHouse$State", name := "programsThere", desc := "()I" } : Jvm.MethodName))]
def nd_78 : List Jvm.Cond := [(Jvm.Cond.selects "StrengthHouse$State" ({ cls := "StrengthHouse$State", name := "programsThere", desc := "()I" } : Jvm.MethodName) ({ cls := "StrengthHouse$State", name := "programsThere", desc := "()I" } : Jvm.MethodName)),
  (Jvm.Cond.code ({ cls := "StrengthHouse$State", name := "programsThere", desc := "()I" } : Jvm.MethodName) prog_10_method_6_code (3 : Nat) (Option.some Jvm.ClassFile.FieldType.int)),
  (Jvm.Cond.methodLink "StrengthHouse" (399 : Nat) ({ cls := "StrengthHouse$State", name := "readingsOfAll", desc := "()I" } : Jvm.MethodName)),
  (Jvm.Cond.instanceMethod ({ cls := "StrengthHouse$State", name := "readingsOfAll", desc := "()I" } : Jvm.MethodName)),
  (Jvm.Cond.selects "StrengthHouse$State" ({ cls := "StrengthHouse$State", name := "readingsOfAll", desc := "()I" } : Jvm.MethodName) ({ cls := "StrengthHouse$State", name := "readingsOfAll", desc := "()I" } : Jvm.MethodName)),
  (Jvm.Cond.code ({ cls := "StrengthHouse$State", name := "readingsOfAll", desc := "()I" } : Jvm.MethodName) prog_10_method_7_code (3 : Nat) (Option.some Jvm.ClassFile.FieldType.int)),
  (Jvm.Cond.methodLink "StrengthHouseLaw" (183 : Nat) ({ cls := "StrengthHouse", name := "told", desc := "(I)I" } : Jvm.MethodName)),
  (Jvm.Cond.instanceMethod ({ cls := "StrengthHouse", name := "told", desc := "(I)I" } : Jvm.MethodName)),
  (Jvm.Cond.selects "StrengthHouse" ({ cls := "StrengthHouse", name := "told", desc := "(I)I" } : Jvm.MethodName) ({ cls := "StrengthHouse", name := "told", desc := "(I)I" } : Jvm.MethodName)),
  (Jvm.Cond.code ({ cls := "StrengthHouse", name := "told", desc := "(I)I" } : Jvm.MethodName) prog_1_method_42_code (2 : Nat) (Option.some Jvm.ClassFile.FieldType.int)),
  (Jvm.Cond.classLink "StrengthHouseLaw" (10 : Nat) "StrengthHouseModel"),
  (Jvm.Cond.instantiable "StrengthHouseModel" (38 : Nat)),
  (Jvm.Cond.methodLink "StrengthHouseLaw" (12 : Nat) ({ cls := "StrengthHouseModel", name := "<init>", desc := "()V" } : Jvm.MethodName)),
  (Jvm.Cond.instanceMethod ({ cls := "StrengthHouseModel", name := "<init>", desc := "()V" } : Jvm.MethodName)),
  (Jvm.Cond.code ({ cls := "StrengthHouseModel", name := "<init>", desc := "()V" } : Jvm.MethodName) prog_14_method_1_code (2 : Nat) (Option.none : Option Jvm.ClassFile.FieldType)),
  (Jvm.Cond.methodLink "StrengthHouseModel" (3 : Nat) ({ cls := "java/lang/Object", name := "<init>", desc := "()V" } : Jvm.MethodName))]
def nd_79 : List Jvm.Cond := [(Jvm.Cond.constant "StrengthHouseModel" (19 : Nat) (99999 : Int32)),
  (Jvm.Cond.classLink "StrengthHouseModel" (23 : Nat) "java/lang/String"),
  (Jvm.Cond.arrayOver (Jvm.ClassFile.FieldType.object "java/lang/String")),
  (Jvm.Cond.stringRef "StrengthHouseModel" (25 : Nat) "go"),
  (Jvm.Cond.stringRef "StrengthHouseModel" (27 : Nat) "load"),
  (Jvm.Cond.stringRef "StrengthHouseModel" (29 : Nat) "hold"),
  (Jvm.Cond.stringRef "StrengthHouseModel" (31 : Nat) "back"),
  (Jvm.Cond.stringRef "StrengthHouseModel" (33 : Nat) "read"),
  (Jvm.Cond.stringRef "StrengthHouseModel" (35 : Nat) "till"),
  (Jvm.Cond.fieldLink "StrengthHouseModel" (9 : Nat) "StrengthHouseModel" "now" "[I"),
  (Jvm.Cond.fieldLink "StrengthHouseModel" (13 : Nat) "StrengthHouseModel" "kept" "[I"),
  (Jvm.Cond.fieldLink "StrengthHouseModel" (351 : Nat) "StrengthHouseModel" "images" "I"),
  (Jvm.Cond.fieldLink "StrengthHouseModel" (16 : Nat) "StrengthHouseModel" "found" "[I"),
  (Jvm.Cond.fieldLink "StrengthHouseModel" (20 : Nat) "StrengthHouseModel" "MOST" "[I"),
  (Jvm.Cond.fieldLink "StrengthHouseModel" (37 : Nat) "StrengthHouseModel" "WORDS" "[Ljava/lang/String;"),
  (Jvm.Cond.fieldLink "StrengthHouseModel" (143 : Nat) "StrengthHouseModel" "from" "I")]
def nd_80 : List Jvm.Cond := [(Jvm.Cond.fieldLink "StrengthHouseModel" (139 : Nat) "StrengthHouseModel" "to" "I"),
  (Jvm.Cond.fieldLink "StrengthHouseModel" (149 : Nat) "StrengthHouseModel" "isWrong" "Z"),
  (Jvm.Cond.fieldLink "StrengthHouseModel" (171 : Nat) "StrengthHouseModel" "parts" "I"),
  (Jvm.Cond.fieldLink "StrengthHouseModel" (41 : Nat) "StrengthHouseModel" "row" "[I"),
  (Jvm.Cond.fieldLink "StrengthHouseModel" (189 : Nat) "StrengthHouseModel" "tried" "I"),
  (Jvm.Cond.fieldLink "StrengthHouseModel" (192 : Nat) "StrengthHouseModel" "x" "I"),
  (Jvm.Cond.fieldLink "StrengthHouseModel" (186 : Nat) "StrengthHouseModel" "isBroken" "Z"),
  (Jvm.Cond.fieldLink "StrengthHouseModel" (201 : Nat) "StrengthHouseModel" "isLastPart" "Z"),
  (Jvm.Cond.fieldLink "StrengthHouseModel" (204 : Nat) "StrengthHouseModel" "why" "I"),
  (Jvm.Cond.fieldLink "StrengthHouseModel" (195 : Nat) "StrengthHouseModel" "ticks" "I"),
  (Jvm.Cond.fieldLink "StrengthHouseModel" (214 : Nat) "StrengthHouseModel" "held" "I"),
  (Jvm.Cond.fieldLink "StrengthHouseModel" (207 : Nat) "StrengthHouseModel" "taken" "I"),
  (Jvm.Cond.fieldLink "StrengthHouseModel" (44 : Nat) "StrengthHouseModel" "behind" "[I"),
  (Jvm.Cond.fieldLink "StrengthHouseModel" (47 : Nat) "StrengthHouseModel" "takenAt" "[I"),
  (Jvm.Cond.fieldLink "StrengthHouseModel" (50 : Nat) "StrengthHouseModel" "takenLoad" "[I"),
  (Jvm.Cond.fieldLink "StrengthHouseModel" (240 : Nat) "StrengthHouseModel" "lineFirst" "I")]
def nd_81 : List Jvm.Cond := [(Jvm.Cond.fieldLink "StrengthHouseModel" (243 : Nat) "StrengthHouseModel" "lineSecond" "I"),
  (Jvm.Cond.fieldLink "StrengthHouseModel" (233 : Nat) "StrengthHouseModel" "onLine" "I"),
  (Jvm.Cond.fieldLink "StrengthHouseModel" (53 : Nat) "StrengthHouseModel" "ordered" "[I"),
  (Jvm.Cond.fieldLink "StrengthHouseModel" (56 : Nat) "StrengthHouseModel" "whose" "[I"),
  (Jvm.Cond.fieldLink "StrengthHouseModel" (276 : Nat) "StrengthHouseModel" "orderedMany" "I"),
  (Jvm.Cond.fieldLink "StrengthHouseModel" (59 : Nat) "StrengthHouseModel" "plates" "[I"),
  (Jvm.Cond.fieldLink "StrengthHouseModel" (62 : Nat) "StrengthHouseModel" "cut" "[I"),
  (Jvm.Cond.fieldLink "StrengthHouseModel" (65 : Nat) "StrengthHouseModel" "trace" "[I"),
  (Jvm.Cond.fieldLink "StrengthHouseModel" (321 : Nat) "StrengthHouseModel" "traced" "I"),
  (Jvm.Cond.fieldLink "StrengthHouseModel" (324 : Nat) "StrengthHouseModel" "speaker" "I"),
  (Jvm.Cond.fieldLink "StrengthHouseModel" (333 : Nat) "StrengthHouseModel" "isParted" "Z"),
  (Jvm.Cond.fieldLink "StrengthHouseModel" (68 : Nat) "StrengthHouseModel" "widths" "[I"),
  (Jvm.Cond.fieldLink "StrengthHouseModel" (71 : Nat) "StrengthHouseModel" "sizes" "[I"),
  (Jvm.Cond.fieldLink "StrengthHouseModel" (74 : Nat) "StrengthHouseModel" "numbers" "[I"),
  (Jvm.Cond.fieldLink "StrengthHouseModel" (77 : Nat) "StrengthHouseModel" "carried" "[I"),
  (Jvm.Cond.laysFinal "StrengthHouseModel" "StrengthHouseModel" "now" "[I")]
def nd_82 : List Jvm.Cond := [(Jvm.Cond.soleField "StrengthHouseModel" "now"),
  (Jvm.Cond.laysFinal "StrengthHouseModel" "StrengthHouseModel" "kept" "[I"),
  (Jvm.Cond.soleField "StrengthHouseModel" "kept"),
  (Jvm.Cond.lays "StrengthHouseModel" "StrengthHouseModel" "images" "I"),
  (Jvm.Cond.soleField "StrengthHouseModel" "images"),
  (Jvm.Cond.laysFinal "StrengthHouseModel" "StrengthHouseModel" "found" "[I"),
  (Jvm.Cond.soleField "StrengthHouseModel" "found"),
  (Jvm.Cond.laysFinal "StrengthHouseModel" "StrengthHouseModel" "MOST" "[I"),
  (Jvm.Cond.soleField "StrengthHouseModel" "MOST"),
  (Jvm.Cond.laysFinal "StrengthHouseModel" "StrengthHouseModel" "WORDS" "[Ljava/lang/String;"),
  (Jvm.Cond.soleField "StrengthHouseModel" "WORDS"),
  (Jvm.Cond.lays "StrengthHouseModel" "StrengthHouseModel" "from" "I"),
  (Jvm.Cond.soleField "StrengthHouseModel" "from"),
  (Jvm.Cond.lays "StrengthHouseModel" "StrengthHouseModel" "to" "I"),
  (Jvm.Cond.soleField "StrengthHouseModel" "to"),
  (Jvm.Cond.lays "StrengthHouseModel" "StrengthHouseModel" "isWrong" "Z")]
def nd_83 : List Jvm.Cond := [(Jvm.Cond.soleField "StrengthHouseModel" "isWrong"),
  (Jvm.Cond.lays "StrengthHouseModel" "StrengthHouseModel" "parts" "I"),
  (Jvm.Cond.soleField "StrengthHouseModel" "parts"),
  (Jvm.Cond.laysFinal "StrengthHouseModel" "StrengthHouseModel" "row" "[I"),
  (Jvm.Cond.soleField "StrengthHouseModel" "row"),
  (Jvm.Cond.lays "StrengthHouseModel" "StrengthHouseModel" "tried" "I"),
  (Jvm.Cond.soleField "StrengthHouseModel" "tried"),
  (Jvm.Cond.lays "StrengthHouseModel" "StrengthHouseModel" "x" "I"),
  (Jvm.Cond.soleField "StrengthHouseModel" "x"),
  (Jvm.Cond.lays "StrengthHouseModel" "StrengthHouseModel" "isBroken" "Z"),
  (Jvm.Cond.soleField "StrengthHouseModel" "isBroken"),
  (Jvm.Cond.lays "StrengthHouseModel" "StrengthHouseModel" "isLastPart" "Z"),
  (Jvm.Cond.soleField "StrengthHouseModel" "isLastPart"),
  (Jvm.Cond.lays "StrengthHouseModel" "StrengthHouseModel" "why" "I"),
  (Jvm.Cond.soleField "StrengthHouseModel" "why"),
  (Jvm.Cond.lays "StrengthHouseModel" "StrengthHouseModel" "ticks" "I")]
def nd_84 : List Jvm.Cond := [(Jvm.Cond.soleField "StrengthHouseModel" "ticks"),
  (Jvm.Cond.lays "StrengthHouseModel" "StrengthHouseModel" "held" "I"),
  (Jvm.Cond.soleField "StrengthHouseModel" "held"),
  (Jvm.Cond.lays "StrengthHouseModel" "StrengthHouseModel" "taken" "I"),
  (Jvm.Cond.soleField "StrengthHouseModel" "taken"),
  (Jvm.Cond.laysFinal "StrengthHouseModel" "StrengthHouseModel" "behind" "[I"),
  (Jvm.Cond.soleField "StrengthHouseModel" "behind"),
  (Jvm.Cond.laysFinal "StrengthHouseModel" "StrengthHouseModel" "takenAt" "[I"),
  (Jvm.Cond.soleField "StrengthHouseModel" "takenAt"),
  (Jvm.Cond.laysFinal "StrengthHouseModel" "StrengthHouseModel" "takenLoad" "[I"),
  (Jvm.Cond.soleField "StrengthHouseModel" "takenLoad"),
  (Jvm.Cond.lays "StrengthHouseModel" "StrengthHouseModel" "lineFirst" "I"),
  (Jvm.Cond.soleField "StrengthHouseModel" "lineFirst"),
  (Jvm.Cond.lays "StrengthHouseModel" "StrengthHouseModel" "lineSecond" "I"),
  (Jvm.Cond.soleField "StrengthHouseModel" "lineSecond"),
  (Jvm.Cond.lays "StrengthHouseModel" "StrengthHouseModel" "onLine" "I")]
def nd_85 : List Jvm.Cond := [(Jvm.Cond.soleField "StrengthHouseModel" "onLine"),
  (Jvm.Cond.laysFinal "StrengthHouseModel" "StrengthHouseModel" "ordered" "[I"),
  (Jvm.Cond.soleField "StrengthHouseModel" "ordered"),
  (Jvm.Cond.laysFinal "StrengthHouseModel" "StrengthHouseModel" "whose" "[I"),
  (Jvm.Cond.soleField "StrengthHouseModel" "whose"),
  (Jvm.Cond.lays "StrengthHouseModel" "StrengthHouseModel" "orderedMany" "I"),
  (Jvm.Cond.soleField "StrengthHouseModel" "orderedMany"),
  (Jvm.Cond.laysFinal "StrengthHouseModel" "StrengthHouseModel" "plates" "[I"),
  (Jvm.Cond.soleField "StrengthHouseModel" "plates"),
  (Jvm.Cond.laysFinal "StrengthHouseModel" "StrengthHouseModel" "cut" "[I"),
  (Jvm.Cond.soleField "StrengthHouseModel" "cut"),
  (Jvm.Cond.laysFinal "StrengthHouseModel" "StrengthHouseModel" "trace" "[I"),
  (Jvm.Cond.soleField "StrengthHouseModel" "trace"),
  (Jvm.Cond.lays "StrengthHouseModel" "StrengthHouseModel" "traced" "I"),
  (Jvm.Cond.soleField "StrengthHouseModel" "traced"),
  (Jvm.Cond.lays "StrengthHouseModel" "StrengthHouseModel" "speaker" "I")]
def nd_86 : List Jvm.Cond := [(Jvm.Cond.soleField "StrengthHouseModel" "speaker"),
  (Jvm.Cond.lays "StrengthHouseModel" "StrengthHouseModel" "isParted" "Z"),
  (Jvm.Cond.soleField "StrengthHouseModel" "isParted"),
  (Jvm.Cond.laysFinal "StrengthHouseModel" "StrengthHouseModel" "widths" "[I"),
  (Jvm.Cond.soleField "StrengthHouseModel" "widths"),
  (Jvm.Cond.laysFinal "StrengthHouseModel" "StrengthHouseModel" "sizes" "[I"),
  (Jvm.Cond.soleField "StrengthHouseModel" "sizes"),
  (Jvm.Cond.laysFinal "StrengthHouseModel" "StrengthHouseModel" "numbers" "[I"),
  (Jvm.Cond.soleField "StrengthHouseModel" "numbers"),
  (Jvm.Cond.laysFinal "StrengthHouseModel" "StrengthHouseModel" "carried" "[I"),
  (Jvm.Cond.soleField "StrengthHouseModel" "carried"),
  (Jvm.Cond.superclass "StrengthHouseModel" "java/lang/Object"),
  (Jvm.Cond.methodLink "StrengthHouseLaw" (17 : Nat) ({ cls := "StrengthHouseModel", name := "piece", desc := "(IIIII)I" } : Jvm.MethodName)),
  (Jvm.Cond.instanceMethod ({ cls := "StrengthHouseModel", name := "piece", desc := "(IIIII)I" } : Jvm.MethodName)),
  (Jvm.Cond.selects "StrengthHouseModel" ({ cls := "StrengthHouseModel", name := "piece", desc := "(IIIII)I" } : Jvm.MethodName) ({ cls := "StrengthHouseModel", name := "piece", desc := "(IIIII)I" } : Jvm.MethodName)),
  (Jvm.Cond.code ({ cls := "StrengthHouseModel", name := "piece", desc := "(IIIII)I" } : Jvm.MethodName) prog_14_method_9_code (10 : Nat) (Option.some Jvm.ClassFile.FieldType.int))]
def nd_87 : List Jvm.Cond := [(Jvm.Cond.methodLink "StrengthHouseModel" (81 : Nat) ({ cls := "StrengthHouseModel", name := "within", desc := "(III)Z" } : Jvm.MethodName)),
  (Jvm.Cond.static ({ cls := "StrengthHouseModel", name := "within", desc := "(III)Z" } : Jvm.MethodName)),
  (Jvm.Cond.code ({ cls := "StrengthHouseModel", name := "within", desc := "(III)Z" } : Jvm.MethodName) prog_14_method_3_code (3 : Nat) (Option.some Jvm.ClassFile.FieldType.boolean)),
  (Jvm.Cond.methodLink "StrengthHouseModel" (85 : Nat) ({ cls := "StrengthHouseModel", name := "isSheet", desc := "(I)Z" } : Jvm.MethodName)),
  (Jvm.Cond.static ({ cls := "StrengthHouseModel", name := "isSheet", desc := "(I)Z" } : Jvm.MethodName)),
  (Jvm.Cond.code ({ cls := "StrengthHouseModel", name := "isSheet", desc := "(I)Z" } : Jvm.MethodName) prog_14_method_85_code (1 : Nat) (Option.some Jvm.ClassFile.FieldType.boolean)),
  (Jvm.Cond.constant "StrengthHouseModel" (89 : Nat) (-1000001 : Int32)),
  (Jvm.Cond.methodLink "StrengthHouseModel" (90 : Nat) ({ cls := "StrengthHouseModel", name := "finding", desc := "(I)I" } : Jvm.MethodName)),
  (Jvm.Cond.privateMethod ({ cls := "StrengthHouseModel", name := "finding", desc := "(I)I" } : Jvm.MethodName)),
  (Jvm.Cond.instanceMethod ({ cls := "StrengthHouseModel", name := "finding", desc := "(I)I" } : Jvm.MethodName)),
  (Jvm.Cond.code ({ cls := "StrengthHouseModel", name := "finding", desc := "(I)I" } : Jvm.MethodName) prog_14_method_2_code (2 : Nat) (Option.some Jvm.ClassFile.FieldType.int)),
  (Jvm.Cond.constant "StrengthHouseModel" (80 : Nat) (-1000000 : Int32)),
  (Jvm.Cond.constant "StrengthHouseModel" (94 : Nat) (-1000002 : Int32)),
  (Jvm.Cond.constant "StrengthHouseModel" (95 : Nat) (-1000004 : Int32)),
  (Jvm.Cond.methodLink "StrengthHouseLaw" (22 : Nat) ({ cls := "StrengthHouseModel", name := "pieceIs", desc := "(II)I" } : Jvm.MethodName)),
  (Jvm.Cond.instanceMethod ({ cls := "StrengthHouseModel", name := "pieceIs", desc := "(II)I" } : Jvm.MethodName))]
def nd_88 : List Jvm.Cond := [(Jvm.Cond.selects "StrengthHouseModel" ({ cls := "StrengthHouseModel", name := "pieceIs", desc := "(II)I" } : Jvm.MethodName) ({ cls := "StrengthHouseModel", name := "pieceIs", desc := "(II)I" } : Jvm.MethodName)),
  (Jvm.Cond.code ({ cls := "StrengthHouseModel", name := "pieceIs", desc := "(II)I" } : Jvm.MethodName) prog_14_method_14_code (5 : Nat) (Option.some Jvm.ClassFile.FieldType.int)),
  (Jvm.Cond.methodLink "StrengthHouseModel" (102 : Nat) ({ cls := "StrengthHouseModel", name := "is", desc := "(II)Z" } : Jvm.MethodName)),
  (Jvm.Cond.privateMethod ({ cls := "StrengthHouseModel", name := "is", desc := "(II)Z" } : Jvm.MethodName)),
  (Jvm.Cond.instanceMethod ({ cls := "StrengthHouseModel", name := "is", desc := "(II)Z" } : Jvm.MethodName)),
  (Jvm.Cond.code ({ cls := "StrengthHouseModel", name := "is", desc := "(II)Z" } : Jvm.MethodName) prog_14_method_4_code (3 : Nat) (Option.some Jvm.ClassFile.FieldType.boolean)),
  (Jvm.Cond.methodLink "StrengthHouseModel" (106 : Nat) ({ cls := "StrengthHouseModel", name := "many", desc := "(I)I" } : Jvm.MethodName)),
  (Jvm.Cond.privateMethod ({ cls := "StrengthHouseModel", name := "many", desc := "(I)I" } : Jvm.MethodName)),
  (Jvm.Cond.instanceMethod ({ cls := "StrengthHouseModel", name := "many", desc := "(I)I" } : Jvm.MethodName)),
  (Jvm.Cond.code ({ cls := "StrengthHouseModel", name := "many", desc := "(I)I" } : Jvm.MethodName) prog_14_method_10_code (2 : Nat) (Option.some Jvm.ClassFile.FieldType.int)),
  (Jvm.Cond.methodLink "StrengthHouseModel" (96 : Nat) ({ cls := "StrengthHouseModel", name := "of", desc := "(II)I" } : Jvm.MethodName)),
  (Jvm.Cond.privateMethod ({ cls := "StrengthHouseModel", name := "of", desc := "(II)I" } : Jvm.MethodName)),
  (Jvm.Cond.instanceMethod ({ cls := "StrengthHouseModel", name := "of", desc := "(II)I" } : Jvm.MethodName)),
  (Jvm.Cond.code ({ cls := "StrengthHouseModel", name := "of", desc := "(II)I" } : Jvm.MethodName) prog_14_method_8_code (3 : Nat) (Option.some Jvm.ClassFile.FieldType.int)),
  (Jvm.Cond.methodLink "StrengthHouseModel" (109 : Nat) ({ cls := "StrengthHouseModel", name := "isGood", desc := "(II)Z" } : Jvm.MethodName)),
  (Jvm.Cond.privateMethod ({ cls := "StrengthHouseModel", name := "isGood", desc := "(II)Z" } : Jvm.MethodName))]
def nd_89 : List Jvm.Cond := [(Jvm.Cond.instanceMethod ({ cls := "StrengthHouseModel", name := "isGood", desc := "(II)Z" } : Jvm.MethodName)),
  (Jvm.Cond.code ({ cls := "StrengthHouseModel", name := "isGood", desc := "(II)Z" } : Jvm.MethodName) prog_14_method_13_code (3 : Nat) (Option.some Jvm.ClassFile.FieldType.boolean)),
  (Jvm.Cond.methodLink "StrengthHouseModel" (100 : Nat) ({ cls := "StrengthHouseModel", name := "load", desc := "(II)I" } : Jvm.MethodName)),
  (Jvm.Cond.privateMethod ({ cls := "StrengthHouseModel", name := "load", desc := "(II)I" } : Jvm.MethodName)),
  (Jvm.Cond.instanceMethod ({ cls := "StrengthHouseModel", name := "load", desc := "(II)I" } : Jvm.MethodName)),
  (Jvm.Cond.code ({ cls := "StrengthHouseModel", name := "load", desc := "(II)I" } : Jvm.MethodName) prog_14_method_12_code (3 : Nat) (Option.some Jvm.ClassFile.FieldType.int)),
  (Jvm.Cond.methodLink "StrengthHouseLaw" (26 : Nat) ({ cls := "StrengthHouseModel", name := "as", desc := "(II)I" } : Jvm.MethodName)),
  (Jvm.Cond.instanceMethod ({ cls := "StrengthHouseModel", name := "as", desc := "(II)I" } : Jvm.MethodName)),
  (Jvm.Cond.selects "StrengthHouseModel" ({ cls := "StrengthHouseModel", name := "as", desc := "(II)I" } : Jvm.MethodName) ({ cls := "StrengthHouseModel", name := "as", desc := "(II)I" } : Jvm.MethodName)),
  (Jvm.Cond.code ({ cls := "StrengthHouseModel", name := "as", desc := "(II)I" } : Jvm.MethodName) prog_14_method_16_code (4 : Nat) (Option.some Jvm.ClassFile.FieldType.int)),
  (Jvm.Cond.methodLink "StrengthHouseModel" (112 : Nat) ({ cls := "StrengthHouseModel", name := "above", desc := "(I)I" } : Jvm.MethodName)),
  (Jvm.Cond.static ({ cls := "StrengthHouseModel", name := "above", desc := "(I)I" } : Jvm.MethodName)),
  (Jvm.Cond.code ({ cls := "StrengthHouseModel", name := "above", desc := "(I)I" } : Jvm.MethodName) prog_14_method_15_code (1 : Nat) (Option.some Jvm.ClassFile.FieldType.int)),
  (Jvm.Cond.constant "StrengthHouseModel" (115 : Nat) (-1000005 : Int32)),
  (Jvm.Cond.methodLink "StrengthHouseLaw" (30 : Nat) ({ cls := "StrengthHouseModel", name := "answer", desc := "(II)I" } : Jvm.MethodName)),
  (Jvm.Cond.instanceMethod ({ cls := "StrengthHouseModel", name := "answer", desc := "(II)I" } : Jvm.MethodName))]
def nd_90 : List Jvm.Cond := [(Jvm.Cond.selects "StrengthHouseModel" ({ cls := "StrengthHouseModel", name := "answer", desc := "(II)I" } : Jvm.MethodName) ({ cls := "StrengthHouseModel", name := "answer", desc := "(II)I" } : Jvm.MethodName)),
  (Jvm.Cond.code ({ cls := "StrengthHouseModel", name := "answer", desc := "(II)I" } : Jvm.MethodName) prog_14_method_19_code (3 : Nat) (Option.some Jvm.ClassFile.FieldType.int)),
  (Jvm.Cond.methodLink "StrengthHouseModel" (124 : Nat) ({ cls := "StrengthHouseModel", name := "answered", desc := "(II)I" } : Jvm.MethodName)),
  (Jvm.Cond.privateMethod ({ cls := "StrengthHouseModel", name := "answered", desc := "(II)I" } : Jvm.MethodName)),
  (Jvm.Cond.instanceMethod ({ cls := "StrengthHouseModel", name := "answered", desc := "(II)I" } : Jvm.MethodName)),
  (Jvm.Cond.code ({ cls := "StrengthHouseModel", name := "answered", desc := "(II)I" } : Jvm.MethodName) prog_14_method_18_code (7 : Nat) (Option.some Jvm.ClassFile.FieldType.int)),
  (Jvm.Cond.methodLink "StrengthHouseModel" (116 : Nat) ({ cls := "StrengthHouseModel", name := "end", desc := "(I)I" } : Jvm.MethodName)),
  (Jvm.Cond.privateMethod ({ cls := "StrengthHouseModel", name := "end", desc := "(I)I" } : Jvm.MethodName)),
  (Jvm.Cond.instanceMethod ({ cls := "StrengthHouseModel", name := "end", desc := "(I)I" } : Jvm.MethodName)),
  (Jvm.Cond.code ({ cls := "StrengthHouseModel", name := "end", desc := "(I)I" } : Jvm.MethodName) prog_14_method_17_code (2 : Nat) (Option.some Jvm.ClassFile.FieldType.int)),
  (Jvm.Cond.methodLink "StrengthHouseModel" (119 : Nat) ({ cls := "java/lang/Math", name := "max", desc := "(II)I" } : Jvm.MethodName)),
  (Jvm.Cond.methodLink "StrengthHouseLaw" (35 : Nat) ({ cls := "StrengthHouseModel", name := "trace", desc := "(III)I" } : Jvm.MethodName)),
  (Jvm.Cond.instanceMethod ({ cls := "StrengthHouseModel", name := "trace", desc := "(III)I" } : Jvm.MethodName)),
  (Jvm.Cond.selects "StrengthHouseModel" ({ cls := "StrengthHouseModel", name := "trace", desc := "(III)I" } : Jvm.MethodName) ({ cls := "StrengthHouseModel", name := "trace", desc := "(III)I" } : Jvm.MethodName)),
  (Jvm.Cond.code ({ cls := "StrengthHouseModel", name := "trace", desc := "(III)I" } : Jvm.MethodName) prog_14_method_21_code (7 : Nat) (Option.some Jvm.ClassFile.FieldType.int)),
  (Jvm.Cond.constant "StrengthHouseModel" (127 : Nat) (-1000003 : Int32))]
def nd_91 : List Jvm.Cond := [(Jvm.Cond.methodLink "StrengthHouseModel" (128 : Nat) ({ cls := "StrengthHouseModel", name := "read", desc := "(IIII)V" } : Jvm.MethodName)),
  (Jvm.Cond.privateMethod ({ cls := "StrengthHouseModel", name := "read", desc := "(IIII)V" } : Jvm.MethodName)),
  (Jvm.Cond.instanceMethod ({ cls := "StrengthHouseModel", name := "read", desc := "(IIII)V" } : Jvm.MethodName)),
  (Jvm.Cond.code ({ cls := "StrengthHouseModel", name := "read", desc := "(IIII)V" } : Jvm.MethodName) prog_14_method_20_code (5 : Nat) (Option.none : Option Jvm.ClassFile.FieldType)),
  (Jvm.Cond.methodLink "StrengthHouseLaw" (39 : Nat) ({ cls := "StrengthHouseModel", name := "reading", desc := "(III)I" } : Jvm.MethodName)),
  (Jvm.Cond.instanceMethod ({ cls := "StrengthHouseModel", name := "reading", desc := "(III)I" } : Jvm.MethodName)),
  (Jvm.Cond.selects "StrengthHouseModel" ({ cls := "StrengthHouseModel", name := "reading", desc := "(III)I" } : Jvm.MethodName) ({ cls := "StrengthHouseModel", name := "reading", desc := "(III)I" } : Jvm.MethodName)),
  (Jvm.Cond.code ({ cls := "StrengthHouseModel", name := "reading", desc := "(III)I" } : Jvm.MethodName) prog_14_method_22_code (4 : Nat) (Option.some Jvm.ClassFile.FieldType.int)),
  (Jvm.Cond.methodLink "StrengthHouseModel" (131 : Nat) ({ cls := "StrengthHouseModel", name := "stretch", desc := "(II)I" } : Jvm.MethodName)),
  (Jvm.Cond.privateMethod ({ cls := "StrengthHouseModel", name := "stretch", desc := "(II)I" } : Jvm.MethodName)),
  (Jvm.Cond.instanceMethod ({ cls := "StrengthHouseModel", name := "stretch", desc := "(II)I" } : Jvm.MethodName)),
  (Jvm.Cond.code ({ cls := "StrengthHouseModel", name := "stretch", desc := "(II)I" } : Jvm.MethodName) prog_14_method_11_code (3 : Nat) (Option.some Jvm.ClassFile.FieldType.int)),
  (Jvm.Cond.methodLink "StrengthHouseLaw" (43 : Nat) ({ cls := "StrengthHouseModel", name := "limit", desc := "(II)I" } : Jvm.MethodName)),
  (Jvm.Cond.instanceMethod ({ cls := "StrengthHouseModel", name := "limit", desc := "(II)I" } : Jvm.MethodName)),
  (Jvm.Cond.selects "StrengthHouseModel" ({ cls := "StrengthHouseModel", name := "limit", desc := "(II)I" } : Jvm.MethodName) ({ cls := "StrengthHouseModel", name := "limit", desc := "(II)I" } : Jvm.MethodName)),
  (Jvm.Cond.code ({ cls := "StrengthHouseModel", name := "limit", desc := "(II)I" } : Jvm.MethodName) prog_14_method_23_code (3 : Nat) (Option.some Jvm.ClassFile.FieldType.int))]
def nd_92 : List Jvm.Cond := [(Jvm.Cond.methodLink "StrengthHouseModel" (134 : Nat) ({ cls := "StrengthHouseModel", name := "become", desc := "(II)I" } : Jvm.MethodName)),
  (Jvm.Cond.privateMethod ({ cls := "StrengthHouseModel", name := "become", desc := "(II)I" } : Jvm.MethodName)),
  (Jvm.Cond.instanceMethod ({ cls := "StrengthHouseModel", name := "become", desc := "(II)I" } : Jvm.MethodName)),
  (Jvm.Cond.code ({ cls := "StrengthHouseModel", name := "become", desc := "(II)I" } : Jvm.MethodName) prog_14_method_7_code (4 : Nat) (Option.some Jvm.ClassFile.FieldType.int)),
  (Jvm.Cond.methodLink "StrengthHouseLaw" (50 : Nat) ({ cls := "StrengthHouseModel", name := "feed", desc := "(JI)I" } : Jvm.MethodName)),
  (Jvm.Cond.instanceMethod ({ cls := "StrengthHouseModel", name := "feed", desc := "(JI)I" } : Jvm.MethodName)),
  (Jvm.Cond.selects "StrengthHouseModel" ({ cls := "StrengthHouseModel", name := "feed", desc := "(JI)I" } : Jvm.MethodName) ({ cls := "StrengthHouseModel", name := "feed", desc := "(JI)I" } : Jvm.MethodName)),
  (Jvm.Cond.code ({ cls := "StrengthHouseModel", name := "feed", desc := "(JI)I" } : Jvm.MethodName) prog_14_method_24_code (5 : Nat) (Option.some Jvm.ClassFile.FieldType.int)),
  (Jvm.Cond.constantLong "StrengthHouseModel" (137 : Nat) (255 : Int64)),
  (Jvm.Cond.methodLink "StrengthHouseLaw" (55 : Nat) ({ cls := "StrengthHouseModel", name := "program", desc := "(I)I" } : Jvm.MethodName)),
  (Jvm.Cond.instanceMethod ({ cls := "StrengthHouseModel", name := "program", desc := "(I)I" } : Jvm.MethodName)),
  (Jvm.Cond.selects "StrengthHouseModel" ({ cls := "StrengthHouseModel", name := "program", desc := "(I)I" } : Jvm.MethodName) ({ cls := "StrengthHouseModel", name := "program", desc := "(I)I" } : Jvm.MethodName)),
  (Jvm.Cond.code ({ cls := "StrengthHouseModel", name := "program", desc := "(I)I" } : Jvm.MethodName) prog_14_method_31_code (5 : Nat) (Option.some Jvm.ClassFile.FieldType.int)),
  (Jvm.Cond.methodLink "StrengthHouseModel" (174 : Nat) ({ cls := "StrengthHouseModel", name := "isProgram", desc := "(I)Z" } : Jvm.MethodName)),
  (Jvm.Cond.privateMethod ({ cls := "StrengthHouseModel", name := "isProgram", desc := "(I)Z" } : Jvm.MethodName)),
  (Jvm.Cond.instanceMethod ({ cls := "StrengthHouseModel", name := "isProgram", desc := "(I)Z" } : Jvm.MethodName))]
def nd_93 : List Jvm.Cond := [(Jvm.Cond.code ({ cls := "StrengthHouseModel", name := "isProgram", desc := "(I)Z" } : Jvm.MethodName) prog_14_method_30_code (2 : Nat) (Option.some Jvm.ClassFile.FieldType.boolean)),
  (Jvm.Cond.methodLink "StrengthHouseModel" (161 : Nat) ({ cls := "StrengthHouseModel", name := "goOn", desc := "()V" } : Jvm.MethodName)),
  (Jvm.Cond.privateMethod ({ cls := "StrengthHouseModel", name := "goOn", desc := "()V" } : Jvm.MethodName)),
  (Jvm.Cond.instanceMethod ({ cls := "StrengthHouseModel", name := "goOn", desc := "()V" } : Jvm.MethodName)),
  (Jvm.Cond.code ({ cls := "StrengthHouseModel", name := "goOn", desc := "()V" } : Jvm.MethodName) prog_14_method_26_code (3 : Nat) (Option.none : Option Jvm.ClassFile.FieldType)),
  (Jvm.Cond.methodLink "StrengthHouseModel" (146 : Nat) ({ cls := "StrengthHouseModel", name := "isByte", desc := "(III)Z" } : Jvm.MethodName)),
  (Jvm.Cond.privateMethod ({ cls := "StrengthHouseModel", name := "isByte", desc := "(III)Z" } : Jvm.MethodName)),
  (Jvm.Cond.instanceMethod ({ cls := "StrengthHouseModel", name := "isByte", desc := "(III)Z" } : Jvm.MethodName)),
  (Jvm.Cond.code ({ cls := "StrengthHouseModel", name := "isByte", desc := "(III)Z" } : Jvm.MethodName) prog_14_method_25_code (4 : Nat) (Option.some Jvm.ClassFile.FieldType.boolean)),
  (Jvm.Cond.methodLink "StrengthHouseModel" (177 : Nat) ({ cls := "StrengthHouseModel", name := "part", desc := "()V" } : Jvm.MethodName)),
  (Jvm.Cond.privateMethod ({ cls := "StrengthHouseModel", name := "part", desc := "()V" } : Jvm.MethodName)),
  (Jvm.Cond.instanceMethod ({ cls := "StrengthHouseModel", name := "part", desc := "()V" } : Jvm.MethodName)),
  (Jvm.Cond.code ({ cls := "StrengthHouseModel", name := "part", desc := "()V" } : Jvm.MethodName) prog_14_method_29_code (3 : Nat) (Option.none : Option Jvm.ClassFile.FieldType)),
  (Jvm.Cond.methodLink "StrengthHouseModel" (164 : Nat) ({ cls := "StrengthHouseModel", name := "takes", desc := "(Ljava/lang/String;)Z" } : Jvm.MethodName)),
  (Jvm.Cond.privateMethod ({ cls := "StrengthHouseModel", name := "takes", desc := "(Ljava/lang/String;)Z" } : Jvm.MethodName)),
  (Jvm.Cond.instanceMethod ({ cls := "StrengthHouseModel", name := "takes", desc := "(Ljava/lang/String;)Z" } : Jvm.MethodName))]
def nd_94 : List Jvm.Cond := [(Jvm.Cond.code ({ cls := "StrengthHouseModel", name := "takes", desc := "(Ljava/lang/String;)Z" } : Jvm.MethodName) prog_14_method_27_code (4 : Nat) (Option.some Jvm.ClassFile.FieldType.boolean)),
  (Jvm.Cond.methodLink "StrengthHouseModel" (153 : Nat) ({ cls := "java/lang/String", name := "length", desc := "()I" } : Jvm.MethodName)),
  (Jvm.Cond.methodLink "StrengthHouseModel" (157 : Nat) ({ cls := "java/lang/String", name := "charAt", desc := "(I)C" } : Jvm.MethodName)),
  (Jvm.Cond.methodLink "StrengthHouseModel" (168 : Nat) ({ cls := "StrengthHouseModel", name := "number", desc := "()I" } : Jvm.MethodName)),
  (Jvm.Cond.privateMethod ({ cls := "StrengthHouseModel", name := "number", desc := "()I" } : Jvm.MethodName)),
  (Jvm.Cond.instanceMethod ({ cls := "StrengthHouseModel", name := "number", desc := "()I" } : Jvm.MethodName)),
  (Jvm.Cond.code ({ cls := "StrengthHouseModel", name := "number", desc := "()I" } : Jvm.MethodName) prog_14_method_28_code (3 : Nat) (Option.some Jvm.ClassFile.FieldType.int)),
  (Jvm.Cond.stringRef "StrengthHouseModel" (180 : Nat) ","),
  (Jvm.Cond.stringRef "StrengthHouseModel" (182 : Nat) ";"),
  (Jvm.Cond.stringRef "StrengthHouseModel" (184 : Nat) "last"),
  (Jvm.Cond.methodLink "StrengthHouseLaw" (59 : Nat) ({ cls := "StrengthHouseModel", name := "run", desc := "(II)I" } : Jvm.MethodName)),
  (Jvm.Cond.instanceMethod ({ cls := "StrengthHouseModel", name := "run", desc := "(II)I" } : Jvm.MethodName)),
  (Jvm.Cond.selects "StrengthHouseModel" ({ cls := "StrengthHouseModel", name := "run", desc := "(II)I" } : Jvm.MethodName) ({ cls := "StrengthHouseModel", name := "run", desc := "(II)I" } : Jvm.MethodName)),
  (Jvm.Cond.code ({ cls := "StrengthHouseModel", name := "run", desc := "(II)I" } : Jvm.MethodName) prog_14_method_39_code (5 : Nat) (Option.some Jvm.ClassFile.FieldType.int)),
  (Jvm.Cond.methodLink "StrengthHouseModel" (227 : Nat) ({ cls := "StrengthHouseModel", name := "hasProgram", desc := "(I)Z" } : Jvm.MethodName)),
  (Jvm.Cond.privateMethod ({ cls := "StrengthHouseModel", name := "hasProgram", desc := "(I)Z" } : Jvm.MethodName))]
def nd_95 : List Jvm.Cond := [(Jvm.Cond.instanceMethod ({ cls := "StrengthHouseModel", name := "hasProgram", desc := "(I)Z" } : Jvm.MethodName)),
  (Jvm.Cond.code ({ cls := "StrengthHouseModel", name := "hasProgram", desc := "(I)Z" } : Jvm.MethodName) prog_14_method_32_code (2 : Nat) (Option.some Jvm.ClassFile.FieldType.boolean)),
  (Jvm.Cond.methodLink "StrengthHouseModel" (230 : Nat) ({ cls := "StrengthHouseModel", name := "goThrough", desc := "(II)I" } : Jvm.MethodName)),
  (Jvm.Cond.privateMethod ({ cls := "StrengthHouseModel", name := "goThrough", desc := "(II)I" } : Jvm.MethodName)),
  (Jvm.Cond.instanceMethod ({ cls := "StrengthHouseModel", name := "goThrough", desc := "(II)I" } : Jvm.MethodName)),
  (Jvm.Cond.code ({ cls := "StrengthHouseModel", name := "goThrough", desc := "(II)I" } : Jvm.MethodName) prog_14_method_38_code (6 : Nat) (Option.some Jvm.ClassFile.FieldType.int)),
  (Jvm.Cond.methodLink "StrengthHouseModel" (223 : Nat) ({ cls := "StrengthHouseModel", name := "does", desc := "(II)V" } : Jvm.MethodName)),
  (Jvm.Cond.privateMethod ({ cls := "StrengthHouseModel", name := "does", desc := "(II)V" } : Jvm.MethodName)),
  (Jvm.Cond.instanceMethod ({ cls := "StrengthHouseModel", name := "does", desc := "(II)V" } : Jvm.MethodName)),
  (Jvm.Cond.code ({ cls := "StrengthHouseModel", name := "does", desc := "(II)V" } : Jvm.MethodName) prog_14_method_37_code (5 : Nat) (Option.none : Option Jvm.ClassFile.FieldType)),
  (Jvm.Cond.methodLink "StrengthHouseModel" (210 : Nat) ({ cls := "StrengthHouseModel", name := "goesOn", desc := "()Z" } : Jvm.MethodName)),
  (Jvm.Cond.privateMethod ({ cls := "StrengthHouseModel", name := "goesOn", desc := "()Z" } : Jvm.MethodName)),
  (Jvm.Cond.instanceMethod ({ cls := "StrengthHouseModel", name := "goesOn", desc := "()Z" } : Jvm.MethodName)),
  (Jvm.Cond.code ({ cls := "StrengthHouseModel", name := "goesOn", desc := "()Z" } : Jvm.MethodName) prog_14_method_35_code (1 : Nat) (Option.some Jvm.ClassFile.FieldType.boolean)),
  (Jvm.Cond.methodLink "StrengthHouseModel" (198 : Nat) ({ cls := "StrengthHouseModel", name := "loadNow", desc := "()I" } : Jvm.MethodName)),
  (Jvm.Cond.privateMethod ({ cls := "StrengthHouseModel", name := "loadNow", desc := "()I" } : Jvm.MethodName))]
def nd_96 : List Jvm.Cond := [(Jvm.Cond.instanceMethod ({ cls := "StrengthHouseModel", name := "loadNow", desc := "()I" } : Jvm.MethodName)),
  (Jvm.Cond.code ({ cls := "StrengthHouseModel", name := "loadNow", desc := "()I" } : Jvm.MethodName) prog_14_method_33_code (1 : Nat) (Option.some Jvm.ClassFile.FieldType.int)),
  (Jvm.Cond.methodLink "StrengthHouseModel" (217 : Nat) ({ cls := "StrengthHouseModel", name := "takeReading", desc := "()V" } : Jvm.MethodName)),
  (Jvm.Cond.privateMethod ({ cls := "StrengthHouseModel", name := "takeReading", desc := "()V" } : Jvm.MethodName)),
  (Jvm.Cond.instanceMethod ({ cls := "StrengthHouseModel", name := "takeReading", desc := "()V" } : Jvm.MethodName)),
  (Jvm.Cond.code ({ cls := "StrengthHouseModel", name := "takeReading", desc := "()V" } : Jvm.MethodName) prog_14_method_36_code (4 : Nat) (Option.none : Option Jvm.ClassFile.FieldType)),
  (Jvm.Cond.methodLink "StrengthHouseModel" (220 : Nat) ({ cls := "StrengthHouseModel", name := "tick", desc := "()V" } : Jvm.MethodName)),
  (Jvm.Cond.privateMethod ({ cls := "StrengthHouseModel", name := "tick", desc := "()V" } : Jvm.MethodName)),
  (Jvm.Cond.instanceMethod ({ cls := "StrengthHouseModel", name := "tick", desc := "()V" } : Jvm.MethodName)),
  (Jvm.Cond.code ({ cls := "StrengthHouseModel", name := "tick", desc := "()V" } : Jvm.MethodName) prog_14_method_34_code (1 : Nat) (Option.none : Option Jvm.ClassFile.FieldType)),
  (Jvm.Cond.methodLink "StrengthHouseLaw" (63 : Nat) ({ cls := "StrengthHouseModel", name := "ran", desc := "(I)I" } : Jvm.MethodName)),
  (Jvm.Cond.instanceMethod ({ cls := "StrengthHouseModel", name := "ran", desc := "(I)I" } : Jvm.MethodName)),
  (Jvm.Cond.selects "StrengthHouseModel" ({ cls := "StrengthHouseModel", name := "ran", desc := "(I)I" } : Jvm.MethodName) ({ cls := "StrengthHouseModel", name := "ran", desc := "(I)I" } : Jvm.MethodName)),
  (Jvm.Cond.code ({ cls := "StrengthHouseModel", name := "ran", desc := "(I)I" } : Jvm.MethodName) prog_14_method_40_code (2 : Nat) (Option.some Jvm.ClassFile.FieldType.int)),
  (Jvm.Cond.methodLink "StrengthHouseLaw" (67 : Nat) ({ cls := "StrengthHouseModel", name := "line", desc := "(II)I" } : Jvm.MethodName)),
  (Jvm.Cond.instanceMethod ({ cls := "StrengthHouseModel", name := "line", desc := "(II)I" } : Jvm.MethodName))]
def nd_97 : List Jvm.Cond := [(Jvm.Cond.selects "StrengthHouseModel" ({ cls := "StrengthHouseModel", name := "line", desc := "(II)I" } : Jvm.MethodName) ({ cls := "StrengthHouseModel", name := "line", desc := "(II)I" } : Jvm.MethodName)),
  (Jvm.Cond.code ({ cls := "StrengthHouseModel", name := "line", desc := "(II)I" } : Jvm.MethodName) prog_14_method_43_code (3 : Nat) (Option.some Jvm.ClassFile.FieldType.int)),
  (Jvm.Cond.methodLink "StrengthHouseModel" (246 : Nat) ({ cls := "StrengthHouseModel", name := "findLine", desc := "(I)Z" } : Jvm.MethodName)),
  (Jvm.Cond.privateMethod ({ cls := "StrengthHouseModel", name := "findLine", desc := "(I)Z" } : Jvm.MethodName)),
  (Jvm.Cond.instanceMethod ({ cls := "StrengthHouseModel", name := "findLine", desc := "(I)Z" } : Jvm.MethodName)),
  (Jvm.Cond.code ({ cls := "StrengthHouseModel", name := "findLine", desc := "(I)Z" } : Jvm.MethodName) prog_14_method_42_code (6 : Nat) (Option.some Jvm.ClassFile.FieldType.boolean)),
  (Jvm.Cond.methodLink "StrengthHouseModel" (236 : Nat) ({ cls := "StrengthHouseModel", name := "isOn", desc := "(IIII)Z" } : Jvm.MethodName)),
  (Jvm.Cond.privateMethod ({ cls := "StrengthHouseModel", name := "isOn", desc := "(IIII)Z" } : Jvm.MethodName)),
  (Jvm.Cond.instanceMethod ({ cls := "StrengthHouseModel", name := "isOn", desc := "(IIII)Z" } : Jvm.MethodName)),
  (Jvm.Cond.code ({ cls := "StrengthHouseModel", name := "isOn", desc := "(IIII)Z" } : Jvm.MethodName) prog_14_method_41_code (9 : Nat) (Option.some Jvm.ClassFile.FieldType.boolean)),
  (Jvm.Cond.methodLink "StrengthHouseLaw" (71 : Nat) ({ cls := "StrengthHouseModel", name := "yields", desc := "(II)I" } : Jvm.MethodName)),
  (Jvm.Cond.instanceMethod ({ cls := "StrengthHouseModel", name := "yields", desc := "(II)I" } : Jvm.MethodName)),
  (Jvm.Cond.selects "StrengthHouseModel" ({ cls := "StrengthHouseModel", name := "yields", desc := "(II)I" } : Jvm.MethodName) ({ cls := "StrengthHouseModel", name := "yields", desc := "(II)I" } : Jvm.MethodName)),
  (Jvm.Cond.code ({ cls := "StrengthHouseModel", name := "yields", desc := "(II)I" } : Jvm.MethodName) prog_14_method_45_code (4 : Nat) (Option.some Jvm.ClassFile.FieldType.int)),
  (Jvm.Cond.methodLink "StrengthHouseModel" (249 : Nat) ({ cls := "StrengthHouseModel", name := "yieldOf", desc := "(II)I" } : Jvm.MethodName)),
  (Jvm.Cond.privateMethod ({ cls := "StrengthHouseModel", name := "yieldOf", desc := "(II)I" } : Jvm.MethodName))]
def nd_98 : List Jvm.Cond := [(Jvm.Cond.instanceMethod ({ cls := "StrengthHouseModel", name := "yieldOf", desc := "(II)I" } : Jvm.MethodName)),
  (Jvm.Cond.code ({ cls := "StrengthHouseModel", name := "yieldOf", desc := "(II)I" } : Jvm.MethodName) prog_14_method_44_code (10 : Nat) (Option.some Jvm.ClassFile.FieldType.int)),
  (Jvm.Cond.methodLink "StrengthHouseLaw" (75 : Nat) ({ cls := "StrengthHouseModel", name := "top", desc := "(I)I" } : Jvm.MethodName)),
  (Jvm.Cond.instanceMethod ({ cls := "StrengthHouseModel", name := "top", desc := "(I)I" } : Jvm.MethodName)),
  (Jvm.Cond.selects "StrengthHouseModel" ({ cls := "StrengthHouseModel", name := "top", desc := "(I)I" } : Jvm.MethodName) ({ cls := "StrengthHouseModel", name := "top", desc := "(I)I" } : Jvm.MethodName)),
  (Jvm.Cond.code ({ cls := "StrengthHouseModel", name := "top", desc := "(I)I" } : Jvm.MethodName) prog_14_method_47_code (3 : Nat) (Option.some Jvm.ClassFile.FieldType.int)),
  (Jvm.Cond.methodLink "StrengthHouseModel" (252 : Nat) ({ cls := "StrengthHouseModel", name := "topOf", desc := "(I)I" } : Jvm.MethodName)),
  (Jvm.Cond.privateMethod ({ cls := "StrengthHouseModel", name := "topOf", desc := "(I)I" } : Jvm.MethodName)),
  (Jvm.Cond.instanceMethod ({ cls := "StrengthHouseModel", name := "topOf", desc := "(I)I" } : Jvm.MethodName)),
  (Jvm.Cond.code ({ cls := "StrengthHouseModel", name := "topOf", desc := "(I)I" } : Jvm.MethodName) prog_14_method_46_code (4 : Nat) (Option.some Jvm.ClassFile.FieldType.int)),
  (Jvm.Cond.methodLink "StrengthHouseLaw" (79 : Nat) ({ cls := "StrengthHouseModel", name := "breaks", desc := "(II)I" } : Jvm.MethodName)),
  (Jvm.Cond.instanceMethod ({ cls := "StrengthHouseModel", name := "breaks", desc := "(II)I" } : Jvm.MethodName)),
  (Jvm.Cond.selects "StrengthHouseModel" ({ cls := "StrengthHouseModel", name := "breaks", desc := "(II)I" } : Jvm.MethodName) ({ cls := "StrengthHouseModel", name := "breaks", desc := "(II)I" } : Jvm.MethodName)),
  (Jvm.Cond.code ({ cls := "StrengthHouseModel", name := "breaks", desc := "(II)I" } : Jvm.MethodName) prog_14_method_49_code (4 : Nat) (Option.some Jvm.ClassFile.FieldType.int)),
  (Jvm.Cond.methodLink "StrengthHouseModel" (257 : Nat) ({ cls := "StrengthHouseModel", name := "breakOf", desc := "(II)I" } : Jvm.MethodName)),
  (Jvm.Cond.privateMethod ({ cls := "StrengthHouseModel", name := "breakOf", desc := "(II)I" } : Jvm.MethodName))]
def nd_99 : List Jvm.Cond := [(Jvm.Cond.instanceMethod ({ cls := "StrengthHouseModel", name := "breakOf", desc := "(II)I" } : Jvm.MethodName)),
  (Jvm.Cond.code ({ cls := "StrengthHouseModel", name := "breakOf", desc := "(II)I" } : Jvm.MethodName) prog_14_method_48_code (5 : Nat) (Option.some Jvm.ClassFile.FieldType.int)),
  (Jvm.Cond.constantLong "StrengthHouseModel" (255 : Nat) (100 : Int64)),
  (Jvm.Cond.methodLink "StrengthHouseLaw" (84 : Nat) ({ cls := "StrengthHouseModel", name := "spent", desc := "(II)J" } : Jvm.MethodName)),
  (Jvm.Cond.instanceMethod ({ cls := "StrengthHouseModel", name := "spent", desc := "(II)J" } : Jvm.MethodName)),
  (Jvm.Cond.selects "StrengthHouseModel" ({ cls := "StrengthHouseModel", name := "spent", desc := "(II)J" } : Jvm.MethodName) ({ cls := "StrengthHouseModel", name := "spent", desc := "(II)J" } : Jvm.MethodName)),
  (Jvm.Cond.code ({ cls := "StrengthHouseModel", name := "spent", desc := "(II)J" } : Jvm.MethodName) prog_14_method_51_code (3 : Nat) (Option.some Jvm.ClassFile.FieldType.long)),
  (Jvm.Cond.methodLink "StrengthHouseModel" (260 : Nat) ({ cls := "StrengthHouseModel", name := "spentOf", desc := "(II)J" } : Jvm.MethodName)),
  (Jvm.Cond.privateMethod ({ cls := "StrengthHouseModel", name := "spentOf", desc := "(II)J" } : Jvm.MethodName)),
  (Jvm.Cond.instanceMethod ({ cls := "StrengthHouseModel", name := "spentOf", desc := "(II)J" } : Jvm.MethodName)),
  (Jvm.Cond.code ({ cls := "StrengthHouseModel", name := "spentOf", desc := "(II)J" } : Jvm.MethodName) prog_14_method_50_code (7 : Nat) (Option.some Jvm.ClassFile.FieldType.long)),
  (Jvm.Cond.methodLink "StrengthHouseLaw" (88 : Nat) ({ cls := "StrengthHouseModel", name := "number", desc := "(II)I" } : Jvm.MethodName)),
  (Jvm.Cond.instanceMethod ({ cls := "StrengthHouseModel", name := "number", desc := "(II)I" } : Jvm.MethodName)),
  (Jvm.Cond.selects "StrengthHouseModel" ({ cls := "StrengthHouseModel", name := "number", desc := "(II)I" } : Jvm.MethodName) ({ cls := "StrengthHouseModel", name := "number", desc := "(II)I" } : Jvm.MethodName)),
  (Jvm.Cond.code ({ cls := "StrengthHouseModel", name := "number", desc := "(II)I" } : Jvm.MethodName) prog_14_method_54_code (4 : Nat) (Option.some Jvm.ClassFile.FieldType.int)),
  (Jvm.Cond.methodLink "StrengthHouseModel" (270 : Nat) ({ cls := "StrengthHouseModel", name := "isLaw", desc := "(I)Z" } : Jvm.MethodName))]
def nd_100 : List Jvm.Cond := [(Jvm.Cond.static ({ cls := "StrengthHouseModel", name := "isLaw", desc := "(I)Z" } : Jvm.MethodName)),
  (Jvm.Cond.code ({ cls := "StrengthHouseModel", name := "isLaw", desc := "(I)Z" } : Jvm.MethodName) prog_14_method_53_code (1 : Nat) (Option.some Jvm.ClassFile.FieldType.boolean)),
  (Jvm.Cond.methodLink "StrengthHouseModel" (273 : Nat) ({ cls := "StrengthHouseModel", name := "numberOf", desc := "(II)I" } : Jvm.MethodName)),
  (Jvm.Cond.privateMethod ({ cls := "StrengthHouseModel", name := "numberOf", desc := "(II)I" } : Jvm.MethodName)),
  (Jvm.Cond.instanceMethod ({ cls := "StrengthHouseModel", name := "numberOf", desc := "(II)I" } : Jvm.MethodName)),
  (Jvm.Cond.code ({ cls := "StrengthHouseModel", name := "numberOf", desc := "(II)I" } : Jvm.MethodName) prog_14_method_52_code (5 : Nat) (Option.some Jvm.ClassFile.FieldType.int)),
  (Jvm.Cond.constantLong "StrengthHouseModel" (264 : Nat) (2000000000 : Int64)),
  (Jvm.Cond.methodLink "StrengthHouseModel" (266 : Nat) ({ cls := "java/lang/Math", name := "min", desc := "(JJ)J" } : Jvm.MethodName)),
  (Jvm.Cond.methodLink "StrengthHouseLaw" (92 : Nat) ({ cls := "StrengthHouseModel", name := "curve", desc := "(III)I" } : Jvm.MethodName)),
  (Jvm.Cond.instanceMethod ({ cls := "StrengthHouseModel", name := "curve", desc := "(III)I" } : Jvm.MethodName)),
  (Jvm.Cond.selects "StrengthHouseModel" ({ cls := "StrengthHouseModel", name := "curve", desc := "(III)I" } : Jvm.MethodName) ({ cls := "StrengthHouseModel", name := "curve", desc := "(III)I" } : Jvm.MethodName)),
  (Jvm.Cond.code ({ cls := "StrengthHouseModel", name := "curve", desc := "(III)I" } : Jvm.MethodName) prog_14_method_58_code (6 : Nat) (Option.some Jvm.ClassFile.FieldType.int)),
  (Jvm.Cond.methodLink "StrengthHouseModel" (279 : Nat) ({ cls := "StrengthHouseModel", name := "isLot", desc := "(I)Z" } : Jvm.MethodName)),
  (Jvm.Cond.static ({ cls := "StrengthHouseModel", name := "isLot", desc := "(I)Z" } : Jvm.MethodName)),
  (Jvm.Cond.code ({ cls := "StrengthHouseModel", name := "isLot", desc := "(I)Z" } : Jvm.MethodName) prog_14_method_57_code (1 : Nat) (Option.some Jvm.ClassFile.FieldType.boolean)),
  (Jvm.Cond.methodLink "StrengthHouseModel" (282 : Nat) ({ cls := "StrengthHouseModel", name := "curveOf", desc := "(II)I" } : Jvm.MethodName))]
def nd_101 : List Jvm.Cond := [(Jvm.Cond.privateMethod ({ cls := "StrengthHouseModel", name := "curveOf", desc := "(II)I" } : Jvm.MethodName)),
  (Jvm.Cond.instanceMethod ({ cls := "StrengthHouseModel", name := "curveOf", desc := "(II)I" } : Jvm.MethodName)),
  (Jvm.Cond.code ({ cls := "StrengthHouseModel", name := "curveOf", desc := "(II)I" } : Jvm.MethodName) prog_14_method_56_code (8 : Nat) (Option.some Jvm.ClassFile.FieldType.int)),
  (Jvm.Cond.methodLink "StrengthHouseModel" (285 : Nat) ({ cls := "StrengthHouseModel", name := "adds", desc := "(II)V" } : Jvm.MethodName)),
  (Jvm.Cond.privateMethod ({ cls := "StrengthHouseModel", name := "adds", desc := "(II)V" } : Jvm.MethodName)),
  (Jvm.Cond.instanceMethod ({ cls := "StrengthHouseModel", name := "adds", desc := "(II)V" } : Jvm.MethodName)),
  (Jvm.Cond.code ({ cls := "StrengthHouseModel", name := "adds", desc := "(II)V" } : Jvm.MethodName) prog_14_method_55_code (4 : Nat) (Option.none : Option Jvm.ClassFile.FieldType)),
  (Jvm.Cond.methodLink "StrengthHouseLaw" (96 : Nat) ({ cls := "StrengthHouseModel", name := "odd", desc := "(III)I" } : Jvm.MethodName)),
  (Jvm.Cond.instanceMethod ({ cls := "StrengthHouseModel", name := "odd", desc := "(III)I" } : Jvm.MethodName)),
  (Jvm.Cond.selects "StrengthHouseModel" ({ cls := "StrengthHouseModel", name := "odd", desc := "(III)I" } : Jvm.MethodName) ({ cls := "StrengthHouseModel", name := "odd", desc := "(III)I" } : Jvm.MethodName)),
  (Jvm.Cond.code ({ cls := "StrengthHouseModel", name := "odd", desc := "(III)I" } : Jvm.MethodName) prog_14_method_60_code (7 : Nat) (Option.some Jvm.ClassFile.FieldType.int)),
  (Jvm.Cond.methodLink "StrengthHouseModel" (288 : Nat) ({ cls := "StrengthHouseModel", name := "findNumbers", desc := "(II)V" } : Jvm.MethodName)),
  (Jvm.Cond.privateMethod ({ cls := "StrengthHouseModel", name := "findNumbers", desc := "(II)V" } : Jvm.MethodName)),
  (Jvm.Cond.instanceMethod ({ cls := "StrengthHouseModel", name := "findNumbers", desc := "(II)V" } : Jvm.MethodName)),
  (Jvm.Cond.code ({ cls := "StrengthHouseModel", name := "findNumbers", desc := "(II)V" } : Jvm.MethodName) prog_14_method_59_code (5 : Nat) (Option.none : Option Jvm.ClassFile.FieldType)),
  (Jvm.Cond.methodLink "StrengthHouseLaw" (101 : Nat) ({ cls := "StrengthHouseModel", name := "sure", desc := "(IIII)I" } : Jvm.MethodName))]
def nd_102 : List Jvm.Cond := [(Jvm.Cond.instanceMethod ({ cls := "StrengthHouseModel", name := "sure", desc := "(IIII)I" } : Jvm.MethodName)),
  (Jvm.Cond.selects "StrengthHouseModel" ({ cls := "StrengthHouseModel", name := "sure", desc := "(IIII)I" } : Jvm.MethodName) ({ cls := "StrengthHouseModel", name := "sure", desc := "(IIII)I" } : Jvm.MethodName)),
  (Jvm.Cond.code ({ cls := "StrengthHouseModel", name := "sure", desc := "(IIII)I" } : Jvm.MethodName) prog_14_method_63_code (6 : Nat) (Option.some Jvm.ClassFile.FieldType.int)),
  (Jvm.Cond.methodLink "StrengthHouseModel" (293 : Nat) ({ cls := "StrengthHouseModel", name := "areTenths", desc := "(II)Z" } : Jvm.MethodName)),
  (Jvm.Cond.static ({ cls := "StrengthHouseModel", name := "areTenths", desc := "(II)Z" } : Jvm.MethodName)),
  (Jvm.Cond.code ({ cls := "StrengthHouseModel", name := "areTenths", desc := "(II)Z" } : Jvm.MethodName) prog_14_method_62_code (2 : Nat) (Option.some Jvm.ClassFile.FieldType.boolean)),
  (Jvm.Cond.methodLink "StrengthHouseModel" (296 : Nat) ({ cls := "StrengthHouseModel", name := "rankOf", desc := "(III)I" } : Jvm.MethodName)),
  (Jvm.Cond.static ({ cls := "StrengthHouseModel", name := "rankOf", desc := "(III)I" } : Jvm.MethodName)),
  (Jvm.Cond.code ({ cls := "StrengthHouseModel", name := "rankOf", desc := "(III)I" } : Jvm.MethodName) prog_14_method_61_code (12 : Nat) (Option.some Jvm.ClassFile.FieldType.int)),
  (Jvm.Cond.constantLong "StrengthHouseModel" (291 : Nat) (10 : Int64)),
  (Jvm.Cond.methodLink "StrengthHouseLaw" (105 : Nat) ({ cls := "StrengthHouseModel", name := "few", desc := "(II)I" } : Jvm.MethodName)),
  (Jvm.Cond.instanceMethod ({ cls := "StrengthHouseModel", name := "few", desc := "(II)I" } : Jvm.MethodName)),
  (Jvm.Cond.selects "StrengthHouseModel" ({ cls := "StrengthHouseModel", name := "few", desc := "(II)I" } : Jvm.MethodName) ({ cls := "StrengthHouseModel", name := "few", desc := "(II)I" } : Jvm.MethodName)),
  (Jvm.Cond.code ({ cls := "StrengthHouseModel", name := "few", desc := "(II)I" } : Jvm.MethodName) prog_14_method_64_code (4 : Nat) (Option.some Jvm.ClassFile.FieldType.int)),
  (Jvm.Cond.methodLink "StrengthHouseLaw" (109 : Nat) ({ cls := "StrengthHouseModel", name := "prove", desc := "(IIII)I" } : Jvm.MethodName)),
  (Jvm.Cond.instanceMethod ({ cls := "StrengthHouseModel", name := "prove", desc := "(IIII)I" } : Jvm.MethodName))]
def nd_103 : List Jvm.Cond := [(Jvm.Cond.selects "StrengthHouseModel" ({ cls := "StrengthHouseModel", name := "prove", desc := "(IIII)I" } : Jvm.MethodName) ({ cls := "StrengthHouseModel", name := "prove", desc := "(IIII)I" } : Jvm.MethodName)),
  (Jvm.Cond.code ({ cls := "StrengthHouseModel", name := "prove", desc := "(IIII)I" } : Jvm.MethodName) prog_14_method_67_code (6 : Nat) (Option.some Jvm.ClassFile.FieldType.int)),
  (Jvm.Cond.methodLink "StrengthHouseModel" (300 : Nat) ({ cls := "StrengthHouseModel", name := "isMeter", desc := "(I)Z" } : Jvm.MethodName)),
  (Jvm.Cond.static ({ cls := "StrengthHouseModel", name := "isMeter", desc := "(I)Z" } : Jvm.MethodName)),
  (Jvm.Cond.code ({ cls := "StrengthHouseModel", name := "isMeter", desc := "(I)Z" } : Jvm.MethodName) prog_14_method_65_code (1 : Nat) (Option.some Jvm.ClassFile.FieldType.boolean)),
  (Jvm.Cond.methodLink "StrengthHouseLaw" (113 : Nat) ({ cls := "StrengthHouseModel", name := "led", desc := "(III)I" } : Jvm.MethodName)),
  (Jvm.Cond.instanceMethod ({ cls := "StrengthHouseModel", name := "led", desc := "(III)I" } : Jvm.MethodName)),
  (Jvm.Cond.selects "StrengthHouseModel" ({ cls := "StrengthHouseModel", name := "led", desc := "(III)I" } : Jvm.MethodName) ({ cls := "StrengthHouseModel", name := "led", desc := "(III)I" } : Jvm.MethodName)),
  (Jvm.Cond.code ({ cls := "StrengthHouseModel", name := "led", desc := "(III)I" } : Jvm.MethodName) prog_14_method_69_code (7 : Nat) (Option.some Jvm.ClassFile.FieldType.int)),
  (Jvm.Cond.methodLink "StrengthHouseModel" (303 : Nat) ({ cls := "StrengthHouseModel", name := "meter", desc := "(II)I" } : Jvm.MethodName)),
  (Jvm.Cond.privateMethod ({ cls := "StrengthHouseModel", name := "meter", desc := "(II)I" } : Jvm.MethodName)),
  (Jvm.Cond.instanceMethod ({ cls := "StrengthHouseModel", name := "meter", desc := "(II)I" } : Jvm.MethodName)),
  (Jvm.Cond.code ({ cls := "StrengthHouseModel", name := "meter", desc := "(II)I" } : Jvm.MethodName) prog_14_method_66_code (3 : Nat) (Option.some Jvm.ClassFile.FieldType.int)),
  (Jvm.Cond.methodLink "StrengthHouseModel" (306 : Nat) ({ cls := "StrengthHouseModel", name := "ledOf", desc := "(II)I" } : Jvm.MethodName)),
  (Jvm.Cond.privateMethod ({ cls := "StrengthHouseModel", name := "ledOf", desc := "(II)I" } : Jvm.MethodName)),
  (Jvm.Cond.instanceMethod ({ cls := "StrengthHouseModel", name := "ledOf", desc := "(II)I" } : Jvm.MethodName))]
def nd_104 : List Jvm.Cond := [(Jvm.Cond.code ({ cls := "StrengthHouseModel", name := "ledOf", desc := "(II)I" } : Jvm.MethodName) prog_14_method_68_code (6 : Nat) (Option.some Jvm.ClassFile.FieldType.int)),
  (Jvm.Cond.methodLink "StrengthHouseLaw" (117 : Nat) ({ cls := "StrengthHouseModel", name := "enter", desc := "(III)I" } : Jvm.MethodName)),
  (Jvm.Cond.instanceMethod ({ cls := "StrengthHouseModel", name := "enter", desc := "(III)I" } : Jvm.MethodName)),
  (Jvm.Cond.selects "StrengthHouseModel" ({ cls := "StrengthHouseModel", name := "enter", desc := "(III)I" } : Jvm.MethodName) ({ cls := "StrengthHouseModel", name := "enter", desc := "(III)I" } : Jvm.MethodName)),
  (Jvm.Cond.code ({ cls := "StrengthHouseModel", name := "enter", desc := "(III)I" } : Jvm.MethodName) prog_14_method_71_code (7 : Nat) (Option.some Jvm.ClassFile.FieldType.int)),
  (Jvm.Cond.methodLink "StrengthHouseLaw" (121 : Nat) ({ cls := "StrengthHouseModel", name := "entryIs", desc := "(II)I" } : Jvm.MethodName)),
  (Jvm.Cond.instanceMethod ({ cls := "StrengthHouseModel", name := "entryIs", desc := "(II)I" } : Jvm.MethodName)),
  (Jvm.Cond.selects "StrengthHouseModel" ({ cls := "StrengthHouseModel", name := "entryIs", desc := "(II)I" } : Jvm.MethodName) ({ cls := "StrengthHouseModel", name := "entryIs", desc := "(II)I" } : Jvm.MethodName)),
  (Jvm.Cond.code ({ cls := "StrengthHouseModel", name := "entryIs", desc := "(II)I" } : Jvm.MethodName) prog_14_method_72_code (4 : Nat) (Option.some Jvm.ClassFile.FieldType.int)),
  (Jvm.Cond.methodLink "StrengthHouseModel" (309 : Nat) ({ cls := "StrengthHouseModel", name := "entry", desc := "(II)I" } : Jvm.MethodName)),
  (Jvm.Cond.privateMethod ({ cls := "StrengthHouseModel", name := "entry", desc := "(II)I" } : Jvm.MethodName)),
  (Jvm.Cond.instanceMethod ({ cls := "StrengthHouseModel", name := "entry", desc := "(II)I" } : Jvm.MethodName)),
  (Jvm.Cond.code ({ cls := "StrengthHouseModel", name := "entry", desc := "(II)I" } : Jvm.MethodName) prog_14_method_70_code (3 : Nat) (Option.some Jvm.ClassFile.FieldType.int)),
  (Jvm.Cond.methodLink "StrengthHouseLaw" (125 : Nat) ({ cls := "StrengthHouseModel", name := "back", desc := "(II)I" } : Jvm.MethodName)),
  (Jvm.Cond.instanceMethod ({ cls := "StrengthHouseModel", name := "back", desc := "(II)I" } : Jvm.MethodName)),
  (Jvm.Cond.selects "StrengthHouseModel" ({ cls := "StrengthHouseModel", name := "back", desc := "(II)I" } : Jvm.MethodName) ({ cls := "StrengthHouseModel", name := "back", desc := "(II)I" } : Jvm.MethodName))]
def nd_105 : List Jvm.Cond := [(Jvm.Cond.code ({ cls := "StrengthHouseModel", name := "back", desc := "(II)I" } : Jvm.MethodName) prog_14_method_73_code (4 : Nat) (Option.some Jvm.ClassFile.FieldType.int)),
  (Jvm.Cond.methodLink "StrengthHouseLaw" (129 : Nat) ({ cls := "StrengthHouseModel", name := "book", desc := "(II)I" } : Jvm.MethodName)),
  (Jvm.Cond.instanceMethod ({ cls := "StrengthHouseModel", name := "book", desc := "(II)I" } : Jvm.MethodName)),
  (Jvm.Cond.selects "StrengthHouseModel" ({ cls := "StrengthHouseModel", name := "book", desc := "(II)I" } : Jvm.MethodName) ({ cls := "StrengthHouseModel", name := "book", desc := "(II)I" } : Jvm.MethodName)),
  (Jvm.Cond.code ({ cls := "StrengthHouseModel", name := "book", desc := "(II)I" } : Jvm.MethodName) prog_14_method_74_code (5 : Nat) (Option.some Jvm.ClassFile.FieldType.int)),
  (Jvm.Cond.methodLink "StrengthHouseLaw" (133 : Nat) ({ cls := "StrengthHouseModel", name := "hangs", desc := "(I)I" } : Jvm.MethodName)),
  (Jvm.Cond.instanceMethod ({ cls := "StrengthHouseModel", name := "hangs", desc := "(I)I" } : Jvm.MethodName)),
  (Jvm.Cond.selects "StrengthHouseModel" ({ cls := "StrengthHouseModel", name := "hangs", desc := "(I)I" } : Jvm.MethodName) ({ cls := "StrengthHouseModel", name := "hangs", desc := "(I)I" } : Jvm.MethodName)),
  (Jvm.Cond.code ({ cls := "StrengthHouseModel", name := "hangs", desc := "(I)I" } : Jvm.MethodName) prog_14_method_75_code (5 : Nat) (Option.some Jvm.ClassFile.FieldType.int)),
  (Jvm.Cond.methodLink "StrengthHouseLaw" (137 : Nat) ({ cls := "StrengthHouseModel", name := "plates", desc := "(III)I" } : Jvm.MethodName)),
  (Jvm.Cond.instanceMethod ({ cls := "StrengthHouseModel", name := "plates", desc := "(III)I" } : Jvm.MethodName)),
  (Jvm.Cond.selects "StrengthHouseModel" ({ cls := "StrengthHouseModel", name := "plates", desc := "(III)I" } : Jvm.MethodName) ({ cls := "StrengthHouseModel", name := "plates", desc := "(III)I" } : Jvm.MethodName)),
  (Jvm.Cond.code ({ cls := "StrengthHouseModel", name := "plates", desc := "(III)I" } : Jvm.MethodName) prog_14_method_76_code (13 : Nat) (Option.some Jvm.ClassFile.FieldType.int)),
  (Jvm.Cond.methodLink "StrengthHouseModel" (312 : Nat) ({ cls := "StrengthHouseModel", name := "has", desc := "(II)Z" } : Jvm.MethodName)),
  (Jvm.Cond.static ({ cls := "StrengthHouseModel", name := "has", desc := "(II)Z" } : Jvm.MethodName)),
  (Jvm.Cond.code ({ cls := "StrengthHouseModel", name := "has", desc := "(II)Z" } : Jvm.MethodName) prog_14_method_5_code (2 : Nat) (Option.some Jvm.ClassFile.FieldType.boolean))]
def nd_106 : List Jvm.Cond := [(Jvm.Cond.methodLink "StrengthHouseLaw" (141 : Nat) ({ cls := "StrengthHouseModel", name := "drift", desc := "(I)I" } : Jvm.MethodName)),
  (Jvm.Cond.instanceMethod ({ cls := "StrengthHouseModel", name := "drift", desc := "(I)I" } : Jvm.MethodName)),
  (Jvm.Cond.selects "StrengthHouseModel" ({ cls := "StrengthHouseModel", name := "drift", desc := "(I)I" } : Jvm.MethodName) ({ cls := "StrengthHouseModel", name := "drift", desc := "(I)I" } : Jvm.MethodName)),
  (Jvm.Cond.code ({ cls := "StrengthHouseModel", name := "drift", desc := "(I)I" } : Jvm.MethodName) prog_14_method_77_code (7 : Nat) (Option.some Jvm.ClassFile.FieldType.int)),
  (Jvm.Cond.methodLink "StrengthHouseModel" (315 : Nat) ({ cls := "StrengthHouseModel", name := "bits", desc := "(I)I" } : Jvm.MethodName)),
  (Jvm.Cond.static ({ cls := "StrengthHouseModel", name := "bits", desc := "(I)I" } : Jvm.MethodName)),
  (Jvm.Cond.code ({ cls := "StrengthHouseModel", name := "bits", desc := "(I)I" } : Jvm.MethodName) prog_14_method_6_code (3 : Nat) (Option.some Jvm.ClassFile.FieldType.int)),
  (Jvm.Cond.methodLink "StrengthHouseModel" (318 : Nat) ({ cls := "java/lang/Math", name := "abs", desc := "(I)I" } : Jvm.MethodName)),
  (Jvm.Cond.methodLink "StrengthHouseLaw" (145 : Nat) ({ cls := "StrengthHouseModel", name := "voice", desc := "(III)I" } : Jvm.MethodName)),
  (Jvm.Cond.instanceMethod ({ cls := "StrengthHouseModel", name := "voice", desc := "(III)I" } : Jvm.MethodName)),
  (Jvm.Cond.selects "StrengthHouseModel" ({ cls := "StrengthHouseModel", name := "voice", desc := "(III)I" } : Jvm.MethodName) ({ cls := "StrengthHouseModel", name := "voice", desc := "(III)I" } : Jvm.MethodName)),
  (Jvm.Cond.code ({ cls := "StrengthHouseModel", name := "voice", desc := "(III)I" } : Jvm.MethodName) prog_14_method_83_code (5 : Nat) (Option.some Jvm.ClassFile.FieldType.int)),
  (Jvm.Cond.methodLink "StrengthHouseModel" (343 : Nat) ({ cls := "StrengthHouseModel", name := "voiced", desc := "(II)I" } : Jvm.MethodName)),
  (Jvm.Cond.privateMethod ({ cls := "StrengthHouseModel", name := "voiced", desc := "(II)I" } : Jvm.MethodName)),
  (Jvm.Cond.instanceMethod ({ cls := "StrengthHouseModel", name := "voiced", desc := "(II)I" } : Jvm.MethodName)),
  (Jvm.Cond.code ({ cls := "StrengthHouseModel", name := "voiced", desc := "(II)I" } : Jvm.MethodName) prog_14_method_80_code (3 : Nat) (Option.some Jvm.ClassFile.FieldType.int))]
def nd_107 : List Jvm.Cond := [(Jvm.Cond.methodLink "StrengthHouseModel" (327 : Nat) ({ cls := "StrengthHouseModel", name := "bodyFrom", desc := "(III)I" } : Jvm.MethodName)),
  (Jvm.Cond.privateMethod ({ cls := "StrengthHouseModel", name := "bodyFrom", desc := "(III)I" } : Jvm.MethodName)),
  (Jvm.Cond.instanceMethod ({ cls := "StrengthHouseModel", name := "bodyFrom", desc := "(III)I" } : Jvm.MethodName)),
  (Jvm.Cond.code ({ cls := "StrengthHouseModel", name := "bodyFrom", desc := "(III)I" } : Jvm.MethodName) prog_14_method_81_code (5 : Nat) (Option.some Jvm.ClassFile.FieldType.int)),
  (Jvm.Cond.methodLink "StrengthHouseModel" (330 : Nat) ({ cls := "StrengthHouseModel", name := "hasOwn", desc := "(II)Z" } : Jvm.MethodName)),
  (Jvm.Cond.static ({ cls := "StrengthHouseModel", name := "hasOwn", desc := "(II)Z" } : Jvm.MethodName)),
  (Jvm.Cond.code ({ cls := "StrengthHouseModel", name := "hasOwn", desc := "(II)Z" } : Jvm.MethodName) prog_14_method_79_code (2 : Nat) (Option.some Jvm.ClassFile.FieldType.boolean)),
  (Jvm.Cond.methodLink "StrengthHouseModel" (336 : Nat) ({ cls := "StrengthHouseModel", name := "body", desc := "(III)I" } : Jvm.MethodName)),
  (Jvm.Cond.privateMethod ({ cls := "StrengthHouseModel", name := "body", desc := "(III)I" } : Jvm.MethodName)),
  (Jvm.Cond.instanceMethod ({ cls := "StrengthHouseModel", name := "body", desc := "(III)I" } : Jvm.MethodName)),
  (Jvm.Cond.code ({ cls := "StrengthHouseModel", name := "body", desc := "(III)I" } : Jvm.MethodName) prog_14_method_82_code (6 : Nat) (Option.some Jvm.ClassFile.FieldType.int)),
  (Jvm.Cond.methodLink "StrengthHouseModel" (339 : Nat) ({ cls := "StrengthHouseModel", name := "began", desc := "(I)V" } : Jvm.MethodName)),
  (Jvm.Cond.privateMethod ({ cls := "StrengthHouseModel", name := "began", desc := "(I)V" } : Jvm.MethodName)),
  (Jvm.Cond.instanceMethod ({ cls := "StrengthHouseModel", name := "began", desc := "(I)V" } : Jvm.MethodName)),
  (Jvm.Cond.code ({ cls := "StrengthHouseModel", name := "began", desc := "(I)V" } : Jvm.MethodName) prog_14_method_78_code (2 : Nat) (Option.none : Option Jvm.ClassFile.FieldType)),
  (Jvm.Cond.constant "StrengthHouseModel" (346 : Nat) (-1000006 : Int32))]
def nd_108 : List Jvm.Cond := [(Jvm.Cond.methodLink "StrengthHouseLaw" (149 : Nat) ({ cls := "StrengthHouseModel", name := "body", desc := "(I)I" } : Jvm.MethodName)),
  (Jvm.Cond.instanceMethod ({ cls := "StrengthHouseModel", name := "body", desc := "(I)I" } : Jvm.MethodName)),
  (Jvm.Cond.selects "StrengthHouseModel" ({ cls := "StrengthHouseModel", name := "body", desc := "(I)I" } : Jvm.MethodName) ({ cls := "StrengthHouseModel", name := "body", desc := "(I)I" } : Jvm.MethodName)),
  (Jvm.Cond.code ({ cls := "StrengthHouseModel", name := "body", desc := "(I)I" } : Jvm.MethodName) prog_14_method_84_code (2 : Nat) (Option.some Jvm.ClassFile.FieldType.int)),
  (Jvm.Cond.methodLink "StrengthHouseLaw" (153 : Nat) ({ cls := "StrengthHouseModel", name := "sheet", desc := "(III)I" } : Jvm.MethodName)),
  (Jvm.Cond.instanceMethod ({ cls := "StrengthHouseModel", name := "sheet", desc := "(III)I" } : Jvm.MethodName)),
  (Jvm.Cond.selects "StrengthHouseModel" ({ cls := "StrengthHouseModel", name := "sheet", desc := "(III)I" } : Jvm.MethodName) ({ cls := "StrengthHouseModel", name := "sheet", desc := "(III)I" } : Jvm.MethodName)),
  (Jvm.Cond.code ({ cls := "StrengthHouseModel", name := "sheet", desc := "(III)I" } : Jvm.MethodName) prog_14_method_86_code (5 : Nat) (Option.some Jvm.ClassFile.FieldType.int)),
  (Jvm.Cond.methodLink "StrengthHouseLaw" (157 : Nat) ({ cls := "StrengthHouseModel", name := "put", desc := "(III)I" } : Jvm.MethodName)),
  (Jvm.Cond.instanceMethod ({ cls := "StrengthHouseModel", name := "put", desc := "(III)I" } : Jvm.MethodName)),
  (Jvm.Cond.selects "StrengthHouseModel" ({ cls := "StrengthHouseModel", name := "put", desc := "(III)I" } : Jvm.MethodName) ({ cls := "StrengthHouseModel", name := "put", desc := "(III)I" } : Jvm.MethodName)),
  (Jvm.Cond.code ({ cls := "StrengthHouseModel", name := "put", desc := "(III)I" } : Jvm.MethodName) prog_14_method_87_code (4 : Nat) (Option.some Jvm.ClassFile.FieldType.int)),
  (Jvm.Cond.methodLink "StrengthHouseLaw" (161 : Nat) ({ cls := "StrengthHouseModel", name := "move", desc := "(IIIII)I" } : Jvm.MethodName)),
  (Jvm.Cond.instanceMethod ({ cls := "StrengthHouseModel", name := "move", desc := "(IIIII)I" } : Jvm.MethodName)),
  (Jvm.Cond.selects "StrengthHouseModel" ({ cls := "StrengthHouseModel", name := "move", desc := "(IIIII)I" } : Jvm.MethodName) ({ cls := "StrengthHouseModel", name := "move", desc := "(IIIII)I" } : Jvm.MethodName)),
  (Jvm.Cond.code ({ cls := "StrengthHouseModel", name := "move", desc := "(IIIII)I" } : Jvm.MethodName) prog_14_method_88_code (7 : Nat) (Option.some Jvm.ClassFile.FieldType.int))]
def nd_109 : List Jvm.Cond := [(Jvm.Cond.methodLink "StrengthHouseLaw" (166 : Nat) ({ cls := "StrengthHouseModel", name := "image", desc := "()I" } : Jvm.MethodName)),
  (Jvm.Cond.instanceMethod ({ cls := "StrengthHouseModel", name := "image", desc := "()I" } : Jvm.MethodName)),
  (Jvm.Cond.selects "StrengthHouseModel" ({ cls := "StrengthHouseModel", name := "image", desc := "()I" } : Jvm.MethodName) ({ cls := "StrengthHouseModel", name := "image", desc := "()I" } : Jvm.MethodName)),
  (Jvm.Cond.code ({ cls := "StrengthHouseModel", name := "image", desc := "()I" } : Jvm.MethodName) prog_14_method_90_code (1 : Nat) (Option.some Jvm.ClassFile.FieldType.int)),
  (Jvm.Cond.methodLink "StrengthHouseModel" (347 : Nat) ({ cls := "StrengthHouseModel", name := "copy", desc := "([I[I)V" } : Jvm.MethodName)),
  (Jvm.Cond.static ({ cls := "StrengthHouseModel", name := "copy", desc := "([I[I)V" } : Jvm.MethodName)),
  (Jvm.Cond.code ({ cls := "StrengthHouseModel", name := "copy", desc := "([I[I)V" } : Jvm.MethodName) prog_14_method_89_code (3 : Nat) (Option.none : Option Jvm.ClassFile.FieldType)),
  (Jvm.Cond.methodLink "StrengthHouseLaw" (170 : Nat) ({ cls := "StrengthHouseModel", name := "restore", desc := "()I" } : Jvm.MethodName)),
  (Jvm.Cond.instanceMethod ({ cls := "StrengthHouseModel", name := "restore", desc := "()I" } : Jvm.MethodName)),
  (Jvm.Cond.selects "StrengthHouseModel" ({ cls := "StrengthHouseModel", name := "restore", desc := "()I" } : Jvm.MethodName) ({ cls := "StrengthHouseModel", name := "restore", desc := "()I" } : Jvm.MethodName)),
  (Jvm.Cond.code ({ cls := "StrengthHouseModel", name := "restore", desc := "()I" } : Jvm.MethodName) prog_14_method_91_code (1 : Nat) (Option.some Jvm.ClassFile.FieldType.int)),
  (Jvm.Cond.methodLink "StrengthHouseLaw" (174 : Nat) ({ cls := "StrengthHouseModel", name := "tell", desc := "(I)I" } : Jvm.MethodName)),
  (Jvm.Cond.instanceMethod ({ cls := "StrengthHouseModel", name := "tell", desc := "(I)I" } : Jvm.MethodName)),
  (Jvm.Cond.selects "StrengthHouseModel" ({ cls := "StrengthHouseModel", name := "tell", desc := "(I)I" } : Jvm.MethodName) ({ cls := "StrengthHouseModel", name := "tell", desc := "(I)I" } : Jvm.MethodName)),
  (Jvm.Cond.code ({ cls := "StrengthHouseModel", name := "tell", desc := "(I)I" } : Jvm.MethodName) prog_14_method_92_code (2 : Nat) (Option.some Jvm.ClassFile.FieldType.int)),
  (Jvm.Cond.methodLink "StrengthHouseLaw" (178 : Nat) ({ cls := "StrengthHouseModel", name := "check", desc := "(II)I" } : Jvm.MethodName))]
def nd_110 : List Jvm.Cond := [(Jvm.Cond.instanceMethod ({ cls := "StrengthHouseModel", name := "check", desc := "(II)I" } : Jvm.MethodName)),
  (Jvm.Cond.selects "StrengthHouseModel" ({ cls := "StrengthHouseModel", name := "check", desc := "(II)I" } : Jvm.MethodName) ({ cls := "StrengthHouseModel", name := "check", desc := "(II)I" } : Jvm.MethodName)),
  (Jvm.Cond.code ({ cls := "StrengthHouseModel", name := "check", desc := "(II)I" } : Jvm.MethodName) prog_14_method_93_code (6 : Nat) (Option.some Jvm.ClassFile.FieldType.int)),
  (Jvm.Cond.methodLink "StrengthHouseLaw" (182 : Nat) ({ cls := "StrengthHouseModel", name := "count", desc := "(I)I" } : Jvm.MethodName)),
  (Jvm.Cond.instanceMethod ({ cls := "StrengthHouseModel", name := "count", desc := "(I)I" } : Jvm.MethodName)),
  (Jvm.Cond.selects "StrengthHouseModel" ({ cls := "StrengthHouseModel", name := "count", desc := "(I)I" } : Jvm.MethodName) ({ cls := "StrengthHouseModel", name := "count", desc := "(I)I" } : Jvm.MethodName)),
  (Jvm.Cond.code ({ cls := "StrengthHouseModel", name := "count", desc := "(I)I" } : Jvm.MethodName) prog_14_method_94_code (4 : Nat) (Option.some Jvm.ClassFile.FieldType.int)),
  (Jvm.Cond.methodLink "StrengthHouseLaw" (186 : Nat) ({ cls := "StrengthHouseModel", name := "told", desc := "(I)I" } : Jvm.MethodName)),
  (Jvm.Cond.instanceMethod ({ cls := "StrengthHouseModel", name := "told", desc := "(I)I" } : Jvm.MethodName)),
  (Jvm.Cond.selects "StrengthHouseModel" ({ cls := "StrengthHouseModel", name := "told", desc := "(I)I" } : Jvm.MethodName) ({ cls := "StrengthHouseModel", name := "told", desc := "(I)I" } : Jvm.MethodName)),
  (Jvm.Cond.code ({ cls := "StrengthHouseModel", name := "told", desc := "(I)I" } : Jvm.MethodName) prog_14_method_95_code (2 : Nat) (Option.some Jvm.ClassFile.FieldType.int)),
  (Jvm.Cond.constantLong "StrengthHouseLaw" (44 : Nat) (4294967295 : Int64)),
  (Jvm.Cond.fieldLink "java/lang/String" (9 : Nat) "java/lang/String" "value" "[B"),
  (Jvm.Cond.fieldLink "java/lang/String" (15 : Nat) "java/lang/String" "coder" "B")]
def ndT : List (List Jvm.Cond) := [nd_0, nd_1, nd_2, nd_3, nd_4, nd_5, nd_6, nd_7, nd_8, nd_9, nd_10, nd_11, nd_12, nd_13, nd_14, nd_15, nd_16, nd_17, nd_18, nd_19, nd_20, nd_21, nd_22, nd_23, nd_24, nd_25, nd_26, nd_27, nd_28, nd_29, nd_30, nd_31, nd_32, nd_33, nd_34, nd_35, nd_36, nd_37, nd_38, nd_39, nd_40, nd_41, nd_42, nd_43, nd_44, nd_45, nd_46, nd_47, nd_48, nd_49, nd_50, nd_51, nd_52, nd_53, nd_54, nd_55, nd_56, nd_57, nd_58, nd_59, nd_60, nd_61, nd_62, nd_63, nd_64, nd_65, nd_66, nd_67, nd_68, nd_69, nd_70, nd_71, nd_72, nd_73, nd_74, nd_75, nd_76, nd_77, nd_78, nd_79, nd_80, nd_81, nd_82, nd_83, nd_84, nd_85, nd_86, nd_87, nd_88, nd_89, nd_90, nd_91, nd_92, nd_93, nd_94, nd_95, nd_96, nd_97, nd_98, nd_99, nd_100, nd_101, nd_102, nd_103, nd_104, nd_105, nd_106, nd_107, nd_108, nd_109, nd_110]
set_option maxRecDepth 100000 in
theorem ndS_0 : k2_sels lw_privs = nd_0 ++ (nd_1 ++ (nd_2 ++ (nd_3 ++ (nd_4)))) := rfl
set_option maxRecDepth 100000 in
theorem ndS_1 : tables_1_1 = nd_5 ++ (nd_6 ++ (nd_7 ++ (nd_8 ++ (nd_9 ++ (nd_10 ++ (nd_11 ++ (nd_12 ++ (nd_13 ++ (nd_14 ++ (nd_15 ++ (nd_16 ++ (nd_17 ++ (nd_18 ++ (nd_19)))))))))))))) := rfl
set_option maxRecDepth 100000 in
theorem ndS_2 : tables_1_2 = nd_20 ++ (nd_21 ++ (nd_22 ++ (nd_23 ++ (nd_24 ++ (nd_25 ++ (nd_26 ++ (nd_27 ++ (nd_28 ++ (nd_29 ++ (nd_30 ++ (nd_31 ++ (nd_32 ++ (nd_33 ++ (nd_34)))))))))))))) := rfl
set_option maxRecDepth 100000 in
theorem ndS_3 : tables_1_3 = nd_35 ++ (nd_36 ++ (nd_37 ++ (nd_38 ++ (nd_39 ++ (nd_40 ++ (nd_41 ++ (nd_42 ++ (nd_43 ++ (nd_44 ++ (nd_45 ++ (nd_46 ++ (nd_47 ++ (nd_48 ++ (nd_49)))))))))))))) := rfl
set_option maxRecDepth 100000 in
theorem ndS_4 : tables_1_4 = nd_50 ++ (nd_51 ++ (nd_52 ++ (nd_53 ++ (nd_54 ++ (nd_55 ++ (nd_56 ++ (nd_57 ++ (nd_58 ++ (nd_59 ++ (nd_60 ++ (nd_61 ++ (nd_62 ++ (nd_63 ++ (nd_64)))))))))))))) := rfl
set_option maxRecDepth 100000 in
theorem ndS_5 : tables_1_5 = nd_65 ++ (nd_66 ++ (nd_67 ++ (nd_68 ++ (nd_69 ++ (nd_70 ++ (nd_71 ++ (nd_72 ++ (nd_73 ++ (nd_74 ++ (nd_75 ++ (nd_76 ++ (nd_77 ++ (nd_78 ++ (nd_79)))))))))))))) := rfl
set_option maxRecDepth 100000 in
theorem ndS_6 : tables_1_6 = nd_80 ++ (nd_81 ++ (nd_82 ++ (nd_83 ++ (nd_84 ++ (nd_85 ++ (nd_86 ++ (nd_87 ++ (nd_88 ++ (nd_89 ++ (nd_90 ++ (nd_91 ++ (nd_92 ++ (nd_93 ++ (nd_94)))))))))))))) := rfl
set_option maxRecDepth 100000 in
theorem ndS_7 : tables_1_7 = nd_95 ++ (nd_96 ++ (nd_97 ++ (nd_98 ++ (nd_99 ++ (nd_100 ++ (nd_101 ++ (nd_102 ++ (nd_103 ++ (nd_104 ++ (nd_105 ++ (nd_106 ++ (nd_107 ++ (nd_108 ++ (nd_109)))))))))))))) := rfl
set_option maxRecDepth 100000 in
theorem ndS_8 : tables_1_8 = nd_110 := rfl
theorem ndM_0 : ∀ w, w ∈ k2_sels lw_privs → w ∈ lw_tbl := fun w h => List.mem_append_left _ h
theorem ndM_1 : ∀ w, w ∈ tables_1_1 → w ∈ lw_tbl := fun w h => List.mem_append_right _ (show w ∈ tables_1 from List.mem_append_left _ h)
theorem ndM_2 : ∀ w, w ∈ tables_1_2 → w ∈ lw_tbl := fun w h => List.mem_append_right _ (show w ∈ tables_1 from List.mem_append_right _ (List.mem_append_left _ h))
theorem ndM_3 : ∀ w, w ∈ tables_1_3 → w ∈ lw_tbl := fun w h => List.mem_append_right _ (show w ∈ tables_1 from List.mem_append_right _ (List.mem_append_right _ (List.mem_append_left _ h)))
theorem ndM_4 : ∀ w, w ∈ tables_1_4 → w ∈ lw_tbl := fun w h => List.mem_append_right _ (show w ∈ tables_1 from List.mem_append_right _ (List.mem_append_right _ (List.mem_append_right _ (List.mem_append_left _ h))))
theorem ndM_5 : ∀ w, w ∈ tables_1_5 → w ∈ lw_tbl := fun w h => List.mem_append_right _ (show w ∈ tables_1 from List.mem_append_right _ (List.mem_append_right _ (List.mem_append_right _ (List.mem_append_right _ (List.mem_append_left _ h)))))
theorem ndM_6 : ∀ w, w ∈ tables_1_6 → w ∈ lw_tbl := fun w h => List.mem_append_right _ (show w ∈ tables_1 from List.mem_append_right _ (List.mem_append_right _ (List.mem_append_right _ (List.mem_append_right _ (List.mem_append_right _ (List.mem_append_left _ h))))))
theorem ndM_7 : ∀ w, w ∈ tables_1_7 → w ∈ lw_tbl := fun w h => List.mem_append_right _ (show w ∈ tables_1 from List.mem_append_right _ (List.mem_append_right _ (List.mem_append_right _ (List.mem_append_right _ (List.mem_append_right _ (List.mem_append_right _ (List.mem_append_left _ h)))))))
theorem ndM_8 : ∀ w, w ∈ tables_1_8 → w ∈ lw_tbl := fun w h => List.mem_append_right _ (show w ∈ tables_1 from List.mem_append_right _ (List.mem_append_right _ (List.mem_append_right _ (List.mem_append_right _ (List.mem_append_right _ (List.mem_append_right _ (List.mem_append_right _ (h))))))))
theorem ndK_0 : ∀ w, w ∈ nd_0 → w ∈ lw_tbl := fun w h => ndM_0 w (by rw [ndS_0]; exact List.mem_append_left _ h)
theorem ndK_1 : ∀ w, w ∈ nd_1 → w ∈ lw_tbl := fun w h => ndM_0 w (by rw [ndS_0]; exact List.mem_append_right _ (List.mem_append_left _ h))
theorem ndK_2 : ∀ w, w ∈ nd_2 → w ∈ lw_tbl := fun w h => ndM_0 w (by rw [ndS_0]; exact List.mem_append_right _ (List.mem_append_right _ (List.mem_append_left _ h)))
theorem ndK_3 : ∀ w, w ∈ nd_3 → w ∈ lw_tbl := fun w h => ndM_0 w (by rw [ndS_0]; exact List.mem_append_right _ (List.mem_append_right _ (List.mem_append_right _ (List.mem_append_left _ h))))
theorem ndK_4 : ∀ w, w ∈ nd_4 → w ∈ lw_tbl := fun w h => ndM_0 w (by rw [ndS_0]; exact List.mem_append_right _ (List.mem_append_right _ (List.mem_append_right _ (List.mem_append_right _ (h)))))
theorem ndK_5 : ∀ w, w ∈ nd_5 → w ∈ lw_tbl := fun w h => ndM_1 w (by rw [ndS_1]; exact List.mem_append_left _ h)
theorem ndK_6 : ∀ w, w ∈ nd_6 → w ∈ lw_tbl := fun w h => ndM_1 w (by rw [ndS_1]; exact List.mem_append_right _ (List.mem_append_left _ h))
theorem ndK_7 : ∀ w, w ∈ nd_7 → w ∈ lw_tbl := fun w h => ndM_1 w (by rw [ndS_1]; exact List.mem_append_right _ (List.mem_append_right _ (List.mem_append_left _ h)))
theorem ndK_8 : ∀ w, w ∈ nd_8 → w ∈ lw_tbl := fun w h => ndM_1 w (by rw [ndS_1]; exact List.mem_append_right _ (List.mem_append_right _ (List.mem_append_right _ (List.mem_append_left _ h))))
theorem ndK_9 : ∀ w, w ∈ nd_9 → w ∈ lw_tbl := fun w h => ndM_1 w (by rw [ndS_1]; exact List.mem_append_right _ (List.mem_append_right _ (List.mem_append_right _ (List.mem_append_right _ (List.mem_append_left _ h)))))
theorem ndK_10 : ∀ w, w ∈ nd_10 → w ∈ lw_tbl := fun w h => ndM_1 w (by rw [ndS_1]; exact List.mem_append_right _ (List.mem_append_right _ (List.mem_append_right _ (List.mem_append_right _ (List.mem_append_right _ (List.mem_append_left _ h))))))
theorem ndK_11 : ∀ w, w ∈ nd_11 → w ∈ lw_tbl := fun w h => ndM_1 w (by rw [ndS_1]; exact List.mem_append_right _ (List.mem_append_right _ (List.mem_append_right _ (List.mem_append_right _ (List.mem_append_right _ (List.mem_append_right _ (List.mem_append_left _ h)))))))
theorem ndK_12 : ∀ w, w ∈ nd_12 → w ∈ lw_tbl := fun w h => ndM_1 w (by rw [ndS_1]; exact List.mem_append_right _ (List.mem_append_right _ (List.mem_append_right _ (List.mem_append_right _ (List.mem_append_right _ (List.mem_append_right _ (List.mem_append_right _ (List.mem_append_left _ h))))))))
theorem ndK_13 : ∀ w, w ∈ nd_13 → w ∈ lw_tbl := fun w h => ndM_1 w (by rw [ndS_1]; exact List.mem_append_right _ (List.mem_append_right _ (List.mem_append_right _ (List.mem_append_right _ (List.mem_append_right _ (List.mem_append_right _ (List.mem_append_right _ (List.mem_append_right _ (List.mem_append_left _ h)))))))))
theorem ndK_14 : ∀ w, w ∈ nd_14 → w ∈ lw_tbl := fun w h => ndM_1 w (by rw [ndS_1]; exact List.mem_append_right _ (List.mem_append_right _ (List.mem_append_right _ (List.mem_append_right _ (List.mem_append_right _ (List.mem_append_right _ (List.mem_append_right _ (List.mem_append_right _ (List.mem_append_right _ (List.mem_append_left _ h))))))))))
theorem ndK_15 : ∀ w, w ∈ nd_15 → w ∈ lw_tbl := fun w h => ndM_1 w (by rw [ndS_1]; exact List.mem_append_right _ (List.mem_append_right _ (List.mem_append_right _ (List.mem_append_right _ (List.mem_append_right _ (List.mem_append_right _ (List.mem_append_right _ (List.mem_append_right _ (List.mem_append_right _ (List.mem_append_right _ (List.mem_append_left _ h)))))))))))
theorem ndK_16 : ∀ w, w ∈ nd_16 → w ∈ lw_tbl := fun w h => ndM_1 w (by rw [ndS_1]; exact List.mem_append_right _ (List.mem_append_right _ (List.mem_append_right _ (List.mem_append_right _ (List.mem_append_right _ (List.mem_append_right _ (List.mem_append_right _ (List.mem_append_right _ (List.mem_append_right _ (List.mem_append_right _ (List.mem_append_right _ (List.mem_append_left _ h))))))))))))
theorem ndK_17 : ∀ w, w ∈ nd_17 → w ∈ lw_tbl := fun w h => ndM_1 w (by rw [ndS_1]; exact List.mem_append_right _ (List.mem_append_right _ (List.mem_append_right _ (List.mem_append_right _ (List.mem_append_right _ (List.mem_append_right _ (List.mem_append_right _ (List.mem_append_right _ (List.mem_append_right _ (List.mem_append_right _ (List.mem_append_right _ (List.mem_append_right _ (List.mem_append_left _ h)))))))))))))
theorem ndK_18 : ∀ w, w ∈ nd_18 → w ∈ lw_tbl := fun w h => ndM_1 w (by rw [ndS_1]; exact List.mem_append_right _ (List.mem_append_right _ (List.mem_append_right _ (List.mem_append_right _ (List.mem_append_right _ (List.mem_append_right _ (List.mem_append_right _ (List.mem_append_right _ (List.mem_append_right _ (List.mem_append_right _ (List.mem_append_right _ (List.mem_append_right _ (List.mem_append_right _ (List.mem_append_left _ h))))))))))))))
theorem ndK_19 : ∀ w, w ∈ nd_19 → w ∈ lw_tbl := fun w h => ndM_1 w (by rw [ndS_1]; exact List.mem_append_right _ (List.mem_append_right _ (List.mem_append_right _ (List.mem_append_right _ (List.mem_append_right _ (List.mem_append_right _ (List.mem_append_right _ (List.mem_append_right _ (List.mem_append_right _ (List.mem_append_right _ (List.mem_append_right _ (List.mem_append_right _ (List.mem_append_right _ (List.mem_append_right _ (h)))))))))))))))
theorem ndK_20 : ∀ w, w ∈ nd_20 → w ∈ lw_tbl := fun w h => ndM_2 w (by rw [ndS_2]; exact List.mem_append_left _ h)
theorem ndK_21 : ∀ w, w ∈ nd_21 → w ∈ lw_tbl := fun w h => ndM_2 w (by rw [ndS_2]; exact List.mem_append_right _ (List.mem_append_left _ h))
theorem ndK_22 : ∀ w, w ∈ nd_22 → w ∈ lw_tbl := fun w h => ndM_2 w (by rw [ndS_2]; exact List.mem_append_right _ (List.mem_append_right _ (List.mem_append_left _ h)))
theorem ndK_23 : ∀ w, w ∈ nd_23 → w ∈ lw_tbl := fun w h => ndM_2 w (by rw [ndS_2]; exact List.mem_append_right _ (List.mem_append_right _ (List.mem_append_right _ (List.mem_append_left _ h))))
theorem ndK_24 : ∀ w, w ∈ nd_24 → w ∈ lw_tbl := fun w h => ndM_2 w (by rw [ndS_2]; exact List.mem_append_right _ (List.mem_append_right _ (List.mem_append_right _ (List.mem_append_right _ (List.mem_append_left _ h)))))
theorem ndK_25 : ∀ w, w ∈ nd_25 → w ∈ lw_tbl := fun w h => ndM_2 w (by rw [ndS_2]; exact List.mem_append_right _ (List.mem_append_right _ (List.mem_append_right _ (List.mem_append_right _ (List.mem_append_right _ (List.mem_append_left _ h))))))
theorem ndK_26 : ∀ w, w ∈ nd_26 → w ∈ lw_tbl := fun w h => ndM_2 w (by rw [ndS_2]; exact List.mem_append_right _ (List.mem_append_right _ (List.mem_append_right _ (List.mem_append_right _ (List.mem_append_right _ (List.mem_append_right _ (List.mem_append_left _ h)))))))
theorem ndK_27 : ∀ w, w ∈ nd_27 → w ∈ lw_tbl := fun w h => ndM_2 w (by rw [ndS_2]; exact List.mem_append_right _ (List.mem_append_right _ (List.mem_append_right _ (List.mem_append_right _ (List.mem_append_right _ (List.mem_append_right _ (List.mem_append_right _ (List.mem_append_left _ h))))))))
theorem ndK_28 : ∀ w, w ∈ nd_28 → w ∈ lw_tbl := fun w h => ndM_2 w (by rw [ndS_2]; exact List.mem_append_right _ (List.mem_append_right _ (List.mem_append_right _ (List.mem_append_right _ (List.mem_append_right _ (List.mem_append_right _ (List.mem_append_right _ (List.mem_append_right _ (List.mem_append_left _ h)))))))))
theorem ndK_29 : ∀ w, w ∈ nd_29 → w ∈ lw_tbl := fun w h => ndM_2 w (by rw [ndS_2]; exact List.mem_append_right _ (List.mem_append_right _ (List.mem_append_right _ (List.mem_append_right _ (List.mem_append_right _ (List.mem_append_right _ (List.mem_append_right _ (List.mem_append_right _ (List.mem_append_right _ (List.mem_append_left _ h))))))))))
theorem ndK_30 : ∀ w, w ∈ nd_30 → w ∈ lw_tbl := fun w h => ndM_2 w (by rw [ndS_2]; exact List.mem_append_right _ (List.mem_append_right _ (List.mem_append_right _ (List.mem_append_right _ (List.mem_append_right _ (List.mem_append_right _ (List.mem_append_right _ (List.mem_append_right _ (List.mem_append_right _ (List.mem_append_right _ (List.mem_append_left _ h)))))))))))
theorem ndK_31 : ∀ w, w ∈ nd_31 → w ∈ lw_tbl := fun w h => ndM_2 w (by rw [ndS_2]; exact List.mem_append_right _ (List.mem_append_right _ (List.mem_append_right _ (List.mem_append_right _ (List.mem_append_right _ (List.mem_append_right _ (List.mem_append_right _ (List.mem_append_right _ (List.mem_append_right _ (List.mem_append_right _ (List.mem_append_right _ (List.mem_append_left _ h))))))))))))
theorem ndK_32 : ∀ w, w ∈ nd_32 → w ∈ lw_tbl := fun w h => ndM_2 w (by rw [ndS_2]; exact List.mem_append_right _ (List.mem_append_right _ (List.mem_append_right _ (List.mem_append_right _ (List.mem_append_right _ (List.mem_append_right _ (List.mem_append_right _ (List.mem_append_right _ (List.mem_append_right _ (List.mem_append_right _ (List.mem_append_right _ (List.mem_append_right _ (List.mem_append_left _ h)))))))))))))
theorem ndK_33 : ∀ w, w ∈ nd_33 → w ∈ lw_tbl := fun w h => ndM_2 w (by rw [ndS_2]; exact List.mem_append_right _ (List.mem_append_right _ (List.mem_append_right _ (List.mem_append_right _ (List.mem_append_right _ (List.mem_append_right _ (List.mem_append_right _ (List.mem_append_right _ (List.mem_append_right _ (List.mem_append_right _ (List.mem_append_right _ (List.mem_append_right _ (List.mem_append_right _ (List.mem_append_left _ h))))))))))))))
theorem ndK_34 : ∀ w, w ∈ nd_34 → w ∈ lw_tbl := fun w h => ndM_2 w (by rw [ndS_2]; exact List.mem_append_right _ (List.mem_append_right _ (List.mem_append_right _ (List.mem_append_right _ (List.mem_append_right _ (List.mem_append_right _ (List.mem_append_right _ (List.mem_append_right _ (List.mem_append_right _ (List.mem_append_right _ (List.mem_append_right _ (List.mem_append_right _ (List.mem_append_right _ (List.mem_append_right _ (h)))))))))))))))
theorem ndK_35 : ∀ w, w ∈ nd_35 → w ∈ lw_tbl := fun w h => ndM_3 w (by rw [ndS_3]; exact List.mem_append_left _ h)
theorem ndK_36 : ∀ w, w ∈ nd_36 → w ∈ lw_tbl := fun w h => ndM_3 w (by rw [ndS_3]; exact List.mem_append_right _ (List.mem_append_left _ h))
theorem ndK_37 : ∀ w, w ∈ nd_37 → w ∈ lw_tbl := fun w h => ndM_3 w (by rw [ndS_3]; exact List.mem_append_right _ (List.mem_append_right _ (List.mem_append_left _ h)))
theorem ndK_38 : ∀ w, w ∈ nd_38 → w ∈ lw_tbl := fun w h => ndM_3 w (by rw [ndS_3]; exact List.mem_append_right _ (List.mem_append_right _ (List.mem_append_right _ (List.mem_append_left _ h))))
theorem ndK_39 : ∀ w, w ∈ nd_39 → w ∈ lw_tbl := fun w h => ndM_3 w (by rw [ndS_3]; exact List.mem_append_right _ (List.mem_append_right _ (List.mem_append_right _ (List.mem_append_right _ (List.mem_append_left _ h)))))
theorem ndK_40 : ∀ w, w ∈ nd_40 → w ∈ lw_tbl := fun w h => ndM_3 w (by rw [ndS_3]; exact List.mem_append_right _ (List.mem_append_right _ (List.mem_append_right _ (List.mem_append_right _ (List.mem_append_right _ (List.mem_append_left _ h))))))
theorem ndK_41 : ∀ w, w ∈ nd_41 → w ∈ lw_tbl := fun w h => ndM_3 w (by rw [ndS_3]; exact List.mem_append_right _ (List.mem_append_right _ (List.mem_append_right _ (List.mem_append_right _ (List.mem_append_right _ (List.mem_append_right _ (List.mem_append_left _ h)))))))
theorem ndK_42 : ∀ w, w ∈ nd_42 → w ∈ lw_tbl := fun w h => ndM_3 w (by rw [ndS_3]; exact List.mem_append_right _ (List.mem_append_right _ (List.mem_append_right _ (List.mem_append_right _ (List.mem_append_right _ (List.mem_append_right _ (List.mem_append_right _ (List.mem_append_left _ h))))))))
theorem ndK_43 : ∀ w, w ∈ nd_43 → w ∈ lw_tbl := fun w h => ndM_3 w (by rw [ndS_3]; exact List.mem_append_right _ (List.mem_append_right _ (List.mem_append_right _ (List.mem_append_right _ (List.mem_append_right _ (List.mem_append_right _ (List.mem_append_right _ (List.mem_append_right _ (List.mem_append_left _ h)))))))))
theorem ndK_44 : ∀ w, w ∈ nd_44 → w ∈ lw_tbl := fun w h => ndM_3 w (by rw [ndS_3]; exact List.mem_append_right _ (List.mem_append_right _ (List.mem_append_right _ (List.mem_append_right _ (List.mem_append_right _ (List.mem_append_right _ (List.mem_append_right _ (List.mem_append_right _ (List.mem_append_right _ (List.mem_append_left _ h))))))))))
theorem ndK_45 : ∀ w, w ∈ nd_45 → w ∈ lw_tbl := fun w h => ndM_3 w (by rw [ndS_3]; exact List.mem_append_right _ (List.mem_append_right _ (List.mem_append_right _ (List.mem_append_right _ (List.mem_append_right _ (List.mem_append_right _ (List.mem_append_right _ (List.mem_append_right _ (List.mem_append_right _ (List.mem_append_right _ (List.mem_append_left _ h)))))))))))
theorem ndK_46 : ∀ w, w ∈ nd_46 → w ∈ lw_tbl := fun w h => ndM_3 w (by rw [ndS_3]; exact List.mem_append_right _ (List.mem_append_right _ (List.mem_append_right _ (List.mem_append_right _ (List.mem_append_right _ (List.mem_append_right _ (List.mem_append_right _ (List.mem_append_right _ (List.mem_append_right _ (List.mem_append_right _ (List.mem_append_right _ (List.mem_append_left _ h))))))))))))
theorem ndK_47 : ∀ w, w ∈ nd_47 → w ∈ lw_tbl := fun w h => ndM_3 w (by rw [ndS_3]; exact List.mem_append_right _ (List.mem_append_right _ (List.mem_append_right _ (List.mem_append_right _ (List.mem_append_right _ (List.mem_append_right _ (List.mem_append_right _ (List.mem_append_right _ (List.mem_append_right _ (List.mem_append_right _ (List.mem_append_right _ (List.mem_append_right _ (List.mem_append_left _ h)))))))))))))
theorem ndK_48 : ∀ w, w ∈ nd_48 → w ∈ lw_tbl := fun w h => ndM_3 w (by rw [ndS_3]; exact List.mem_append_right _ (List.mem_append_right _ (List.mem_append_right _ (List.mem_append_right _ (List.mem_append_right _ (List.mem_append_right _ (List.mem_append_right _ (List.mem_append_right _ (List.mem_append_right _ (List.mem_append_right _ (List.mem_append_right _ (List.mem_append_right _ (List.mem_append_right _ (List.mem_append_left _ h))))))))))))))
theorem ndK_49 : ∀ w, w ∈ nd_49 → w ∈ lw_tbl := fun w h => ndM_3 w (by rw [ndS_3]; exact List.mem_append_right _ (List.mem_append_right _ (List.mem_append_right _ (List.mem_append_right _ (List.mem_append_right _ (List.mem_append_right _ (List.mem_append_right _ (List.mem_append_right _ (List.mem_append_right _ (List.mem_append_right _ (List.mem_append_right _ (List.mem_append_right _ (List.mem_append_right _ (List.mem_append_right _ (h)))))))))))))))
theorem ndK_50 : ∀ w, w ∈ nd_50 → w ∈ lw_tbl := fun w h => ndM_4 w (by rw [ndS_4]; exact List.mem_append_left _ h)
theorem ndK_51 : ∀ w, w ∈ nd_51 → w ∈ lw_tbl := fun w h => ndM_4 w (by rw [ndS_4]; exact List.mem_append_right _ (List.mem_append_left _ h))
theorem ndK_52 : ∀ w, w ∈ nd_52 → w ∈ lw_tbl := fun w h => ndM_4 w (by rw [ndS_4]; exact List.mem_append_right _ (List.mem_append_right _ (List.mem_append_left _ h)))
theorem ndK_53 : ∀ w, w ∈ nd_53 → w ∈ lw_tbl := fun w h => ndM_4 w (by rw [ndS_4]; exact List.mem_append_right _ (List.mem_append_right _ (List.mem_append_right _ (List.mem_append_left _ h))))
theorem ndK_54 : ∀ w, w ∈ nd_54 → w ∈ lw_tbl := fun w h => ndM_4 w (by rw [ndS_4]; exact List.mem_append_right _ (List.mem_append_right _ (List.mem_append_right _ (List.mem_append_right _ (List.mem_append_left _ h)))))
theorem ndK_55 : ∀ w, w ∈ nd_55 → w ∈ lw_tbl := fun w h => ndM_4 w (by rw [ndS_4]; exact List.mem_append_right _ (List.mem_append_right _ (List.mem_append_right _ (List.mem_append_right _ (List.mem_append_right _ (List.mem_append_left _ h))))))
theorem ndK_56 : ∀ w, w ∈ nd_56 → w ∈ lw_tbl := fun w h => ndM_4 w (by rw [ndS_4]; exact List.mem_append_right _ (List.mem_append_right _ (List.mem_append_right _ (List.mem_append_right _ (List.mem_append_right _ (List.mem_append_right _ (List.mem_append_left _ h)))))))
theorem ndK_57 : ∀ w, w ∈ nd_57 → w ∈ lw_tbl := fun w h => ndM_4 w (by rw [ndS_4]; exact List.mem_append_right _ (List.mem_append_right _ (List.mem_append_right _ (List.mem_append_right _ (List.mem_append_right _ (List.mem_append_right _ (List.mem_append_right _ (List.mem_append_left _ h))))))))
theorem ndK_58 : ∀ w, w ∈ nd_58 → w ∈ lw_tbl := fun w h => ndM_4 w (by rw [ndS_4]; exact List.mem_append_right _ (List.mem_append_right _ (List.mem_append_right _ (List.mem_append_right _ (List.mem_append_right _ (List.mem_append_right _ (List.mem_append_right _ (List.mem_append_right _ (List.mem_append_left _ h)))))))))
theorem ndK_59 : ∀ w, w ∈ nd_59 → w ∈ lw_tbl := fun w h => ndM_4 w (by rw [ndS_4]; exact List.mem_append_right _ (List.mem_append_right _ (List.mem_append_right _ (List.mem_append_right _ (List.mem_append_right _ (List.mem_append_right _ (List.mem_append_right _ (List.mem_append_right _ (List.mem_append_right _ (List.mem_append_left _ h))))))))))
theorem ndK_60 : ∀ w, w ∈ nd_60 → w ∈ lw_tbl := fun w h => ndM_4 w (by rw [ndS_4]; exact List.mem_append_right _ (List.mem_append_right _ (List.mem_append_right _ (List.mem_append_right _ (List.mem_append_right _ (List.mem_append_right _ (List.mem_append_right _ (List.mem_append_right _ (List.mem_append_right _ (List.mem_append_right _ (List.mem_append_left _ h)))))))))))
theorem ndK_61 : ∀ w, w ∈ nd_61 → w ∈ lw_tbl := fun w h => ndM_4 w (by rw [ndS_4]; exact List.mem_append_right _ (List.mem_append_right _ (List.mem_append_right _ (List.mem_append_right _ (List.mem_append_right _ (List.mem_append_right _ (List.mem_append_right _ (List.mem_append_right _ (List.mem_append_right _ (List.mem_append_right _ (List.mem_append_right _ (List.mem_append_left _ h))))))))))))
theorem ndK_62 : ∀ w, w ∈ nd_62 → w ∈ lw_tbl := fun w h => ndM_4 w (by rw [ndS_4]; exact List.mem_append_right _ (List.mem_append_right _ (List.mem_append_right _ (List.mem_append_right _ (List.mem_append_right _ (List.mem_append_right _ (List.mem_append_right _ (List.mem_append_right _ (List.mem_append_right _ (List.mem_append_right _ (List.mem_append_right _ (List.mem_append_right _ (List.mem_append_left _ h)))))))))))))
theorem ndK_63 : ∀ w, w ∈ nd_63 → w ∈ lw_tbl := fun w h => ndM_4 w (by rw [ndS_4]; exact List.mem_append_right _ (List.mem_append_right _ (List.mem_append_right _ (List.mem_append_right _ (List.mem_append_right _ (List.mem_append_right _ (List.mem_append_right _ (List.mem_append_right _ (List.mem_append_right _ (List.mem_append_right _ (List.mem_append_right _ (List.mem_append_right _ (List.mem_append_right _ (List.mem_append_left _ h))))))))))))))
theorem ndK_64 : ∀ w, w ∈ nd_64 → w ∈ lw_tbl := fun w h => ndM_4 w (by rw [ndS_4]; exact List.mem_append_right _ (List.mem_append_right _ (List.mem_append_right _ (List.mem_append_right _ (List.mem_append_right _ (List.mem_append_right _ (List.mem_append_right _ (List.mem_append_right _ (List.mem_append_right _ (List.mem_append_right _ (List.mem_append_right _ (List.mem_append_right _ (List.mem_append_right _ (List.mem_append_right _ (h)))))))))))))))
theorem ndK_65 : ∀ w, w ∈ nd_65 → w ∈ lw_tbl := fun w h => ndM_5 w (by rw [ndS_5]; exact List.mem_append_left _ h)
theorem ndK_66 : ∀ w, w ∈ nd_66 → w ∈ lw_tbl := fun w h => ndM_5 w (by rw [ndS_5]; exact List.mem_append_right _ (List.mem_append_left _ h))
theorem ndK_67 : ∀ w, w ∈ nd_67 → w ∈ lw_tbl := fun w h => ndM_5 w (by rw [ndS_5]; exact List.mem_append_right _ (List.mem_append_right _ (List.mem_append_left _ h)))
theorem ndK_68 : ∀ w, w ∈ nd_68 → w ∈ lw_tbl := fun w h => ndM_5 w (by rw [ndS_5]; exact List.mem_append_right _ (List.mem_append_right _ (List.mem_append_right _ (List.mem_append_left _ h))))
theorem ndK_69 : ∀ w, w ∈ nd_69 → w ∈ lw_tbl := fun w h => ndM_5 w (by rw [ndS_5]; exact List.mem_append_right _ (List.mem_append_right _ (List.mem_append_right _ (List.mem_append_right _ (List.mem_append_left _ h)))))
theorem ndK_70 : ∀ w, w ∈ nd_70 → w ∈ lw_tbl := fun w h => ndM_5 w (by rw [ndS_5]; exact List.mem_append_right _ (List.mem_append_right _ (List.mem_append_right _ (List.mem_append_right _ (List.mem_append_right _ (List.mem_append_left _ h))))))
theorem ndK_71 : ∀ w, w ∈ nd_71 → w ∈ lw_tbl := fun w h => ndM_5 w (by rw [ndS_5]; exact List.mem_append_right _ (List.mem_append_right _ (List.mem_append_right _ (List.mem_append_right _ (List.mem_append_right _ (List.mem_append_right _ (List.mem_append_left _ h)))))))
theorem ndK_72 : ∀ w, w ∈ nd_72 → w ∈ lw_tbl := fun w h => ndM_5 w (by rw [ndS_5]; exact List.mem_append_right _ (List.mem_append_right _ (List.mem_append_right _ (List.mem_append_right _ (List.mem_append_right _ (List.mem_append_right _ (List.mem_append_right _ (List.mem_append_left _ h))))))))
theorem ndK_73 : ∀ w, w ∈ nd_73 → w ∈ lw_tbl := fun w h => ndM_5 w (by rw [ndS_5]; exact List.mem_append_right _ (List.mem_append_right _ (List.mem_append_right _ (List.mem_append_right _ (List.mem_append_right _ (List.mem_append_right _ (List.mem_append_right _ (List.mem_append_right _ (List.mem_append_left _ h)))))))))
theorem ndK_74 : ∀ w, w ∈ nd_74 → w ∈ lw_tbl := fun w h => ndM_5 w (by rw [ndS_5]; exact List.mem_append_right _ (List.mem_append_right _ (List.mem_append_right _ (List.mem_append_right _ (List.mem_append_right _ (List.mem_append_right _ (List.mem_append_right _ (List.mem_append_right _ (List.mem_append_right _ (List.mem_append_left _ h))))))))))
theorem ndK_75 : ∀ w, w ∈ nd_75 → w ∈ lw_tbl := fun w h => ndM_5 w (by rw [ndS_5]; exact List.mem_append_right _ (List.mem_append_right _ (List.mem_append_right _ (List.mem_append_right _ (List.mem_append_right _ (List.mem_append_right _ (List.mem_append_right _ (List.mem_append_right _ (List.mem_append_right _ (List.mem_append_right _ (List.mem_append_left _ h)))))))))))
theorem ndK_76 : ∀ w, w ∈ nd_76 → w ∈ lw_tbl := fun w h => ndM_5 w (by rw [ndS_5]; exact List.mem_append_right _ (List.mem_append_right _ (List.mem_append_right _ (List.mem_append_right _ (List.mem_append_right _ (List.mem_append_right _ (List.mem_append_right _ (List.mem_append_right _ (List.mem_append_right _ (List.mem_append_right _ (List.mem_append_right _ (List.mem_append_left _ h))))))))))))
theorem ndK_77 : ∀ w, w ∈ nd_77 → w ∈ lw_tbl := fun w h => ndM_5 w (by rw [ndS_5]; exact List.mem_append_right _ (List.mem_append_right _ (List.mem_append_right _ (List.mem_append_right _ (List.mem_append_right _ (List.mem_append_right _ (List.mem_append_right _ (List.mem_append_right _ (List.mem_append_right _ (List.mem_append_right _ (List.mem_append_right _ (List.mem_append_right _ (List.mem_append_left _ h)))))))))))))
theorem ndK_78 : ∀ w, w ∈ nd_78 → w ∈ lw_tbl := fun w h => ndM_5 w (by rw [ndS_5]; exact List.mem_append_right _ (List.mem_append_right _ (List.mem_append_right _ (List.mem_append_right _ (List.mem_append_right _ (List.mem_append_right _ (List.mem_append_right _ (List.mem_append_right _ (List.mem_append_right _ (List.mem_append_right _ (List.mem_append_right _ (List.mem_append_right _ (List.mem_append_right _ (List.mem_append_left _ h))))))))))))))
theorem ndK_79 : ∀ w, w ∈ nd_79 → w ∈ lw_tbl := fun w h => ndM_5 w (by rw [ndS_5]; exact List.mem_append_right _ (List.mem_append_right _ (List.mem_append_right _ (List.mem_append_right _ (List.mem_append_right _ (List.mem_append_right _ (List.mem_append_right _ (List.mem_append_right _ (List.mem_append_right _ (List.mem_append_right _ (List.mem_append_right _ (List.mem_append_right _ (List.mem_append_right _ (List.mem_append_right _ (h)))))))))))))))
theorem ndK_80 : ∀ w, w ∈ nd_80 → w ∈ lw_tbl := fun w h => ndM_6 w (by rw [ndS_6]; exact List.mem_append_left _ h)
theorem ndK_81 : ∀ w, w ∈ nd_81 → w ∈ lw_tbl := fun w h => ndM_6 w (by rw [ndS_6]; exact List.mem_append_right _ (List.mem_append_left _ h))
theorem ndK_82 : ∀ w, w ∈ nd_82 → w ∈ lw_tbl := fun w h => ndM_6 w (by rw [ndS_6]; exact List.mem_append_right _ (List.mem_append_right _ (List.mem_append_left _ h)))
theorem ndK_83 : ∀ w, w ∈ nd_83 → w ∈ lw_tbl := fun w h => ndM_6 w (by rw [ndS_6]; exact List.mem_append_right _ (List.mem_append_right _ (List.mem_append_right _ (List.mem_append_left _ h))))
theorem ndK_84 : ∀ w, w ∈ nd_84 → w ∈ lw_tbl := fun w h => ndM_6 w (by rw [ndS_6]; exact List.mem_append_right _ (List.mem_append_right _ (List.mem_append_right _ (List.mem_append_right _ (List.mem_append_left _ h)))))
theorem ndK_85 : ∀ w, w ∈ nd_85 → w ∈ lw_tbl := fun w h => ndM_6 w (by rw [ndS_6]; exact List.mem_append_right _ (List.mem_append_right _ (List.mem_append_right _ (List.mem_append_right _ (List.mem_append_right _ (List.mem_append_left _ h))))))
theorem ndK_86 : ∀ w, w ∈ nd_86 → w ∈ lw_tbl := fun w h => ndM_6 w (by rw [ndS_6]; exact List.mem_append_right _ (List.mem_append_right _ (List.mem_append_right _ (List.mem_append_right _ (List.mem_append_right _ (List.mem_append_right _ (List.mem_append_left _ h)))))))
theorem ndK_87 : ∀ w, w ∈ nd_87 → w ∈ lw_tbl := fun w h => ndM_6 w (by rw [ndS_6]; exact List.mem_append_right _ (List.mem_append_right _ (List.mem_append_right _ (List.mem_append_right _ (List.mem_append_right _ (List.mem_append_right _ (List.mem_append_right _ (List.mem_append_left _ h))))))))
theorem ndK_88 : ∀ w, w ∈ nd_88 → w ∈ lw_tbl := fun w h => ndM_6 w (by rw [ndS_6]; exact List.mem_append_right _ (List.mem_append_right _ (List.mem_append_right _ (List.mem_append_right _ (List.mem_append_right _ (List.mem_append_right _ (List.mem_append_right _ (List.mem_append_right _ (List.mem_append_left _ h)))))))))
theorem ndK_89 : ∀ w, w ∈ nd_89 → w ∈ lw_tbl := fun w h => ndM_6 w (by rw [ndS_6]; exact List.mem_append_right _ (List.mem_append_right _ (List.mem_append_right _ (List.mem_append_right _ (List.mem_append_right _ (List.mem_append_right _ (List.mem_append_right _ (List.mem_append_right _ (List.mem_append_right _ (List.mem_append_left _ h))))))))))
theorem ndK_90 : ∀ w, w ∈ nd_90 → w ∈ lw_tbl := fun w h => ndM_6 w (by rw [ndS_6]; exact List.mem_append_right _ (List.mem_append_right _ (List.mem_append_right _ (List.mem_append_right _ (List.mem_append_right _ (List.mem_append_right _ (List.mem_append_right _ (List.mem_append_right _ (List.mem_append_right _ (List.mem_append_right _ (List.mem_append_left _ h)))))))))))
theorem ndK_91 : ∀ w, w ∈ nd_91 → w ∈ lw_tbl := fun w h => ndM_6 w (by rw [ndS_6]; exact List.mem_append_right _ (List.mem_append_right _ (List.mem_append_right _ (List.mem_append_right _ (List.mem_append_right _ (List.mem_append_right _ (List.mem_append_right _ (List.mem_append_right _ (List.mem_append_right _ (List.mem_append_right _ (List.mem_append_right _ (List.mem_append_left _ h))))))))))))
theorem ndK_92 : ∀ w, w ∈ nd_92 → w ∈ lw_tbl := fun w h => ndM_6 w (by rw [ndS_6]; exact List.mem_append_right _ (List.mem_append_right _ (List.mem_append_right _ (List.mem_append_right _ (List.mem_append_right _ (List.mem_append_right _ (List.mem_append_right _ (List.mem_append_right _ (List.mem_append_right _ (List.mem_append_right _ (List.mem_append_right _ (List.mem_append_right _ (List.mem_append_left _ h)))))))))))))
theorem ndK_93 : ∀ w, w ∈ nd_93 → w ∈ lw_tbl := fun w h => ndM_6 w (by rw [ndS_6]; exact List.mem_append_right _ (List.mem_append_right _ (List.mem_append_right _ (List.mem_append_right _ (List.mem_append_right _ (List.mem_append_right _ (List.mem_append_right _ (List.mem_append_right _ (List.mem_append_right _ (List.mem_append_right _ (List.mem_append_right _ (List.mem_append_right _ (List.mem_append_right _ (List.mem_append_left _ h))))))))))))))
theorem ndK_94 : ∀ w, w ∈ nd_94 → w ∈ lw_tbl := fun w h => ndM_6 w (by rw [ndS_6]; exact List.mem_append_right _ (List.mem_append_right _ (List.mem_append_right _ (List.mem_append_right _ (List.mem_append_right _ (List.mem_append_right _ (List.mem_append_right _ (List.mem_append_right _ (List.mem_append_right _ (List.mem_append_right _ (List.mem_append_right _ (List.mem_append_right _ (List.mem_append_right _ (List.mem_append_right _ (h)))))))))))))))
theorem ndK_95 : ∀ w, w ∈ nd_95 → w ∈ lw_tbl := fun w h => ndM_7 w (by rw [ndS_7]; exact List.mem_append_left _ h)
theorem ndK_96 : ∀ w, w ∈ nd_96 → w ∈ lw_tbl := fun w h => ndM_7 w (by rw [ndS_7]; exact List.mem_append_right _ (List.mem_append_left _ h))
theorem ndK_97 : ∀ w, w ∈ nd_97 → w ∈ lw_tbl := fun w h => ndM_7 w (by rw [ndS_7]; exact List.mem_append_right _ (List.mem_append_right _ (List.mem_append_left _ h)))
theorem ndK_98 : ∀ w, w ∈ nd_98 → w ∈ lw_tbl := fun w h => ndM_7 w (by rw [ndS_7]; exact List.mem_append_right _ (List.mem_append_right _ (List.mem_append_right _ (List.mem_append_left _ h))))
theorem ndK_99 : ∀ w, w ∈ nd_99 → w ∈ lw_tbl := fun w h => ndM_7 w (by rw [ndS_7]; exact List.mem_append_right _ (List.mem_append_right _ (List.mem_append_right _ (List.mem_append_right _ (List.mem_append_left _ h)))))
theorem ndK_100 : ∀ w, w ∈ nd_100 → w ∈ lw_tbl := fun w h => ndM_7 w (by rw [ndS_7]; exact List.mem_append_right _ (List.mem_append_right _ (List.mem_append_right _ (List.mem_append_right _ (List.mem_append_right _ (List.mem_append_left _ h))))))
theorem ndK_101 : ∀ w, w ∈ nd_101 → w ∈ lw_tbl := fun w h => ndM_7 w (by rw [ndS_7]; exact List.mem_append_right _ (List.mem_append_right _ (List.mem_append_right _ (List.mem_append_right _ (List.mem_append_right _ (List.mem_append_right _ (List.mem_append_left _ h)))))))
theorem ndK_102 : ∀ w, w ∈ nd_102 → w ∈ lw_tbl := fun w h => ndM_7 w (by rw [ndS_7]; exact List.mem_append_right _ (List.mem_append_right _ (List.mem_append_right _ (List.mem_append_right _ (List.mem_append_right _ (List.mem_append_right _ (List.mem_append_right _ (List.mem_append_left _ h))))))))
theorem ndK_103 : ∀ w, w ∈ nd_103 → w ∈ lw_tbl := fun w h => ndM_7 w (by rw [ndS_7]; exact List.mem_append_right _ (List.mem_append_right _ (List.mem_append_right _ (List.mem_append_right _ (List.mem_append_right _ (List.mem_append_right _ (List.mem_append_right _ (List.mem_append_right _ (List.mem_append_left _ h)))))))))
theorem ndK_104 : ∀ w, w ∈ nd_104 → w ∈ lw_tbl := fun w h => ndM_7 w (by rw [ndS_7]; exact List.mem_append_right _ (List.mem_append_right _ (List.mem_append_right _ (List.mem_append_right _ (List.mem_append_right _ (List.mem_append_right _ (List.mem_append_right _ (List.mem_append_right _ (List.mem_append_right _ (List.mem_append_left _ h))))))))))
theorem ndK_105 : ∀ w, w ∈ nd_105 → w ∈ lw_tbl := fun w h => ndM_7 w (by rw [ndS_7]; exact List.mem_append_right _ (List.mem_append_right _ (List.mem_append_right _ (List.mem_append_right _ (List.mem_append_right _ (List.mem_append_right _ (List.mem_append_right _ (List.mem_append_right _ (List.mem_append_right _ (List.mem_append_right _ (List.mem_append_left _ h)))))))))))
theorem ndK_106 : ∀ w, w ∈ nd_106 → w ∈ lw_tbl := fun w h => ndM_7 w (by rw [ndS_7]; exact List.mem_append_right _ (List.mem_append_right _ (List.mem_append_right _ (List.mem_append_right _ (List.mem_append_right _ (List.mem_append_right _ (List.mem_append_right _ (List.mem_append_right _ (List.mem_append_right _ (List.mem_append_right _ (List.mem_append_right _ (List.mem_append_left _ h))))))))))))
theorem ndK_107 : ∀ w, w ∈ nd_107 → w ∈ lw_tbl := fun w h => ndM_7 w (by rw [ndS_7]; exact List.mem_append_right _ (List.mem_append_right _ (List.mem_append_right _ (List.mem_append_right _ (List.mem_append_right _ (List.mem_append_right _ (List.mem_append_right _ (List.mem_append_right _ (List.mem_append_right _ (List.mem_append_right _ (List.mem_append_right _ (List.mem_append_right _ (List.mem_append_left _ h)))))))))))))
theorem ndK_108 : ∀ w, w ∈ nd_108 → w ∈ lw_tbl := fun w h => ndM_7 w (by rw [ndS_7]; exact List.mem_append_right _ (List.mem_append_right _ (List.mem_append_right _ (List.mem_append_right _ (List.mem_append_right _ (List.mem_append_right _ (List.mem_append_right _ (List.mem_append_right _ (List.mem_append_right _ (List.mem_append_right _ (List.mem_append_right _ (List.mem_append_right _ (List.mem_append_right _ (List.mem_append_left _ h))))))))))))))
theorem ndK_109 : ∀ w, w ∈ nd_109 → w ∈ lw_tbl := fun w h => ndM_7 w (by rw [ndS_7]; exact List.mem_append_right _ (List.mem_append_right _ (List.mem_append_right _ (List.mem_append_right _ (List.mem_append_right _ (List.mem_append_right _ (List.mem_append_right _ (List.mem_append_right _ (List.mem_append_right _ (List.mem_append_right _ (List.mem_append_right _ (List.mem_append_right _ (List.mem_append_right _ (List.mem_append_right _ (h)))))))))))))))
theorem ndK_110 : ∀ w, w ∈ nd_110 → w ∈ lw_tbl := fun w h => ndM_8 w (by rw [ndS_8]; exact h)
theorem ndT_in : ∀ ch, ch ∈ ndT → ∀ w, w ∈ ch → w ∈ lw_tbl := by
  intro ch h
  unfold ndT at h
  rcases List.mem_cons.mp h with rfl | h
  · exact ndK_0
  rcases List.mem_cons.mp h with rfl | h
  · exact ndK_1
  rcases List.mem_cons.mp h with rfl | h
  · exact ndK_2
  rcases List.mem_cons.mp h with rfl | h
  · exact ndK_3
  rcases List.mem_cons.mp h with rfl | h
  · exact ndK_4
  rcases List.mem_cons.mp h with rfl | h
  · exact ndK_5
  rcases List.mem_cons.mp h with rfl | h
  · exact ndK_6
  rcases List.mem_cons.mp h with rfl | h
  · exact ndK_7
  rcases List.mem_cons.mp h with rfl | h
  · exact ndK_8
  rcases List.mem_cons.mp h with rfl | h
  · exact ndK_9
  rcases List.mem_cons.mp h with rfl | h
  · exact ndK_10
  rcases List.mem_cons.mp h with rfl | h
  · exact ndK_11
  rcases List.mem_cons.mp h with rfl | h
  · exact ndK_12
  rcases List.mem_cons.mp h with rfl | h
  · exact ndK_13
  rcases List.mem_cons.mp h with rfl | h
  · exact ndK_14
  rcases List.mem_cons.mp h with rfl | h
  · exact ndK_15
  rcases List.mem_cons.mp h with rfl | h
  · exact ndK_16
  rcases List.mem_cons.mp h with rfl | h
  · exact ndK_17
  rcases List.mem_cons.mp h with rfl | h
  · exact ndK_18
  rcases List.mem_cons.mp h with rfl | h
  · exact ndK_19
  rcases List.mem_cons.mp h with rfl | h
  · exact ndK_20
  rcases List.mem_cons.mp h with rfl | h
  · exact ndK_21
  rcases List.mem_cons.mp h with rfl | h
  · exact ndK_22
  rcases List.mem_cons.mp h with rfl | h
  · exact ndK_23
  rcases List.mem_cons.mp h with rfl | h
  · exact ndK_24
  rcases List.mem_cons.mp h with rfl | h
  · exact ndK_25
  rcases List.mem_cons.mp h with rfl | h
  · exact ndK_26
  rcases List.mem_cons.mp h with rfl | h
  · exact ndK_27
  rcases List.mem_cons.mp h with rfl | h
  · exact ndK_28
  rcases List.mem_cons.mp h with rfl | h
  · exact ndK_29
  rcases List.mem_cons.mp h with rfl | h
  · exact ndK_30
  rcases List.mem_cons.mp h with rfl | h
  · exact ndK_31
  rcases List.mem_cons.mp h with rfl | h
  · exact ndK_32
  rcases List.mem_cons.mp h with rfl | h
  · exact ndK_33
  rcases List.mem_cons.mp h with rfl | h
  · exact ndK_34
  rcases List.mem_cons.mp h with rfl | h
  · exact ndK_35
  rcases List.mem_cons.mp h with rfl | h
  · exact ndK_36
  rcases List.mem_cons.mp h with rfl | h
  · exact ndK_37
  rcases List.mem_cons.mp h with rfl | h
  · exact ndK_38
  rcases List.mem_cons.mp h with rfl | h
  · exact ndK_39
  rcases List.mem_cons.mp h with rfl | h
  · exact ndK_40
  rcases List.mem_cons.mp h with rfl | h
  · exact ndK_41
  rcases List.mem_cons.mp h with rfl | h
  · exact ndK_42
  rcases List.mem_cons.mp h with rfl | h
  · exact ndK_43
  rcases List.mem_cons.mp h with rfl | h
  · exact ndK_44
  rcases List.mem_cons.mp h with rfl | h
  · exact ndK_45
  rcases List.mem_cons.mp h with rfl | h
  · exact ndK_46
  rcases List.mem_cons.mp h with rfl | h
  · exact ndK_47
  rcases List.mem_cons.mp h with rfl | h
  · exact ndK_48
  rcases List.mem_cons.mp h with rfl | h
  · exact ndK_49
  rcases List.mem_cons.mp h with rfl | h
  · exact ndK_50
  rcases List.mem_cons.mp h with rfl | h
  · exact ndK_51
  rcases List.mem_cons.mp h with rfl | h
  · exact ndK_52
  rcases List.mem_cons.mp h with rfl | h
  · exact ndK_53
  rcases List.mem_cons.mp h with rfl | h
  · exact ndK_54
  rcases List.mem_cons.mp h with rfl | h
  · exact ndK_55
  rcases List.mem_cons.mp h with rfl | h
  · exact ndK_56
  rcases List.mem_cons.mp h with rfl | h
  · exact ndK_57
  rcases List.mem_cons.mp h with rfl | h
  · exact ndK_58
  rcases List.mem_cons.mp h with rfl | h
  · exact ndK_59
  rcases List.mem_cons.mp h with rfl | h
  · exact ndK_60
  rcases List.mem_cons.mp h with rfl | h
  · exact ndK_61
  rcases List.mem_cons.mp h with rfl | h
  · exact ndK_62
  rcases List.mem_cons.mp h with rfl | h
  · exact ndK_63
  rcases List.mem_cons.mp h with rfl | h
  · exact ndK_64
  rcases List.mem_cons.mp h with rfl | h
  · exact ndK_65
  rcases List.mem_cons.mp h with rfl | h
  · exact ndK_66
  rcases List.mem_cons.mp h with rfl | h
  · exact ndK_67
  rcases List.mem_cons.mp h with rfl | h
  · exact ndK_68
  rcases List.mem_cons.mp h with rfl | h
  · exact ndK_69
  rcases List.mem_cons.mp h with rfl | h
  · exact ndK_70
  rcases List.mem_cons.mp h with rfl | h
  · exact ndK_71
  rcases List.mem_cons.mp h with rfl | h
  · exact ndK_72
  rcases List.mem_cons.mp h with rfl | h
  · exact ndK_73
  rcases List.mem_cons.mp h with rfl | h
  · exact ndK_74
  rcases List.mem_cons.mp h with rfl | h
  · exact ndK_75
  rcases List.mem_cons.mp h with rfl | h
  · exact ndK_76
  rcases List.mem_cons.mp h with rfl | h
  · exact ndK_77
  rcases List.mem_cons.mp h with rfl | h
  · exact ndK_78
  rcases List.mem_cons.mp h with rfl | h
  · exact ndK_79
  rcases List.mem_cons.mp h with rfl | h
  · exact ndK_80
  rcases List.mem_cons.mp h with rfl | h
  · exact ndK_81
  rcases List.mem_cons.mp h with rfl | h
  · exact ndK_82
  rcases List.mem_cons.mp h with rfl | h
  · exact ndK_83
  rcases List.mem_cons.mp h with rfl | h
  · exact ndK_84
  rcases List.mem_cons.mp h with rfl | h
  · exact ndK_85
  rcases List.mem_cons.mp h with rfl | h
  · exact ndK_86
  rcases List.mem_cons.mp h with rfl | h
  · exact ndK_87
  rcases List.mem_cons.mp h with rfl | h
  · exact ndK_88
  rcases List.mem_cons.mp h with rfl | h
  · exact ndK_89
  rcases List.mem_cons.mp h with rfl | h
  · exact ndK_90
  rcases List.mem_cons.mp h with rfl | h
  · exact ndK_91
  rcases List.mem_cons.mp h with rfl | h
  · exact ndK_92
  rcases List.mem_cons.mp h with rfl | h
  · exact ndK_93
  rcases List.mem_cons.mp h with rfl | h
  · exact ndK_94
  rcases List.mem_cons.mp h with rfl | h
  · exact ndK_95
  rcases List.mem_cons.mp h with rfl | h
  · exact ndK_96
  rcases List.mem_cons.mp h with rfl | h
  · exact ndK_97
  rcases List.mem_cons.mp h with rfl | h
  · exact ndK_98
  rcases List.mem_cons.mp h with rfl | h
  · exact ndK_99
  rcases List.mem_cons.mp h with rfl | h
  · exact ndK_100
  rcases List.mem_cons.mp h with rfl | h
  · exact ndK_101
  rcases List.mem_cons.mp h with rfl | h
  · exact ndK_102
  rcases List.mem_cons.mp h with rfl | h
  · exact ndK_103
  rcases List.mem_cons.mp h with rfl | h
  · exact ndK_104
  rcases List.mem_cons.mp h with rfl | h
  · exact ndK_105
  rcases List.mem_cons.mp h with rfl | h
  · exact ndK_106
  rcases List.mem_cons.mp h with rfl | h
  · exact ndK_107
  rcases List.mem_cons.mp h with rfl | h
  · exact ndK_108
  rcases List.mem_cons.mp h with rfl | h
  · exact ndK_109
  rcases List.mem_cons.mp h with rfl | h
  · exact ndK_110
  cases h
def ndG : List (List Jvm.Cond) → Nat → List Jvm.Cond
  | [], _ => []
  | c :: _, 0 => c
  | _ :: t, i + 1 => ndG t i
def ndH : List Jvm.Cond → Nat → Option Jvm.Cond
  | [], _ => none
  | c :: _, 0 => some c
  | _ :: t, i + 1 => ndH t i
def ndA (h : Nat) : Option Jvm.Cond := ndH (ndG ndT (h / 16)) (h % 16)
theorem ndG_mem : ∀ {l : List (List Jvm.Cond)} {i : Nat} {w : Jvm.Cond}, w ∈ ndG l i → ∃ ch ∈ l, w ∈ ch
  | [], _, _, h => by simp [ndG] at h
  | c :: _, 0, _, h => ⟨c, List.mem_cons_self, h⟩
  | c :: t, i + 1, _, h => by
    obtain ⟨ch, h1, h2⟩ := ndG_mem (l := t) (i := i) h
    exact ⟨ch, List.mem_cons_of_mem _ h1, h2⟩
theorem ndH_mem : ∀ {l : List Jvm.Cond} {i : Nat} {w : Jvm.Cond}, ndH l i = some w → w ∈ l
  | [], _, _, h => by simp [ndH] at h
  | c :: _, 0, _, h => by simp [ndH] at h; simp [h]
  | c :: t, i + 1, _, h => List.mem_cons_of_mem _ (ndH_mem (l := t) (i := i) h)
theorem ndA_in {h : Nat} {w : Jvm.Cond} (hh : ndA h = some w) : w ∈ lw_tbl := by
  obtain ⟨ch, h1, h2⟩ := ndG_mem (ndH_mem hh)
  exact ndT_in ch h1 w h2
