def cls : List vw_C := [(RX0, TX0, 12), (RX1, TX1, 14), (RX2, TX2, 4), (RX3, TX3, 3), (RX4, TX4, 9), (RX5, TX5, 6), (RX6, TX6, 9), (RX7, TX7, 14), (RX8, TX8, 5), (RX9, TX9, 3), (RX10, TX10, 4), (RX11, TX11, 14), (RX12, TX12, 48)]
def cty (ci k : Nat) : FieldType := match ci with
  | 0 => tyX0 k
  | 1 => tyX1 k
  | 2 => tyX2 k
  | 3 => tyX3 k
  | 4 => tyX4 k
  | 5 => tyX5 k
  | 6 => tyX6 k
  | 7 => tyX7 k
  | 8 => tyX8 k
  | 9 => tyX9 k
  | 10 => tyX10 k
  | 11 => tyX11 k
  | _ => tyX12 k
def NC : Nat := 236
def shT0 : List (Nat × Nat × List Nat) := [(11, 14, [1, 7, 31, 45, 70, 76, 81, 89, 92, 97, 163, 212, 213]), (7, 14, [2, 0, 0, 0, 0, 0, 0, 3, 4, 5, 6]), (101, 940, []), (103, 25, []), (100, 901, []), (100, 901, []), (103, 901, []), (10, 4, [8, 18, 26]), (1, 14, [0, 0, 0, 0, 0, 9, 10, 11, 12, 13, 14, 15, 16, 17]), (103, 6, []), (100, 6, []), (100, 6, []), (103, 5, []), (100, 5, []), (103, 5, []), (100, 5, []), (100, 5, []), (100, 5, []), (6, 9, [0, 0, 19, 20, 21, 22, 23, 24, 25]), (100, 81, []), (100, 5, []), (100, 5, []), (100, 5, []), (100, 5, []), (100, 5, []), (100, 5, []), (5, 6, [0, 0, 27, 28, 29, 30]), (100, 40, []), (100, 40, []), (100, 40, [])]
def shT1 : List (Nat × Nat × List Nat) := [(102, 40, []), (10, 4, [8, 32, 40]), (6, 9, [0, 0, 33, 34, 35, 36, 37, 38, 39]), (100, 81, []), (100, 5, []), (100, 5, []), (100, 5, []), (100, 5, []), (100, 5, []), (100, 5, []), (5, 6, [0, 0, 41, 42, 43, 44]), (100, 40, []), (100, 40, []), (100, 40, []), (102, 40, []), (2, 4, [46, 1]), (10, 4, [47, 57, 65]), (1, 14, [0, 0, 0, 0, 0, 48, 49, 50, 51, 52, 53, 54, 55, 56]), (103, 6, []), (100, 6, []), (100, 6, []), (103, 5, []), (100, 5, []), (103, 5, []), (100, 5, []), (100, 5, []), (100, 5, []), (6, 9, [0, 0, 58, 59, 60, 61, 62, 63, 64]), (100, 81, []), (100, 5, [])]
def shT2 : List (Nat × Nat × List Nat) := [(100, 5, []), (100, 5, []), (100, 5, []), (100, 5, []), (100, 5, []), (5, 6, [0, 0, 66, 67, 68, 69]), (100, 40, []), (100, 40, []), (100, 40, []), (102, 40, []), (0, 12, [0, 0, 0, 0, 0, 1, 71, 72, 73, 74, 75]), (100, 40, []), (100, 40, []), (100, 40, []), (100, 40, []), (100, 40, []), (5, 6, [0, 0, 77, 78, 79, 80]), (100, 40, []), (100, 40, []), (100, 40, []), (102, 40, []), (4, 9, [82, 83, 0, 84, 85, 86, 87, 88]), (100, 324, []), (100, 324, []), (102, 81, []), (100, 324, []), (100, 324, []), (100, 324, []), (100, 324, []), (9, 3, [90, 0, 91])]
def shT3 : List (Nat × Nat × List Nat) := [(100, 3, []), (100, 3, []), (8, 5, [93, 0, 94, 95, 96]), (100, 6, []), (100, 6, []), (100, 6, []), (100, 6, []), (3, 3, [98]), (104, 8, [99, 107, 115, 123, 131, 139, 147, 155]), (6, 9, [0, 0, 100, 101, 102, 103, 104, 105, 106]), (100, 81, []), (100, 5, []), (100, 5, []), (100, 5, []), (100, 5, []), (100, 5, []), (100, 5, []), (6, 9, [0, 0, 108, 109, 110, 111, 112, 113, 114]), (100, 81, []), (100, 5, []), (100, 5, []), (100, 5, []), (100, 5, []), (100, 5, []), (100, 5, []), (6, 9, [0, 0, 116, 117, 118, 119, 120, 121, 122]), (100, 81, []), (100, 5, []), (100, 5, []), (100, 5, [])]
def shT4 : List (Nat × Nat × List Nat) := [(100, 5, []), (100, 5, []), (100, 5, []), (6, 9, [0, 0, 124, 125, 126, 127, 128, 129, 130]), (100, 81, []), (100, 5, []), (100, 5, []), (100, 5, []), (100, 5, []), (100, 5, []), (100, 5, []), (6, 9, [0, 0, 132, 133, 134, 135, 136, 137, 138]), (100, 81, []), (100, 5, []), (100, 5, []), (100, 5, []), (100, 5, []), (100, 5, []), (100, 5, []), (6, 9, [0, 0, 140, 141, 142, 143, 144, 145, 146]), (100, 81, []), (100, 5, []), (100, 5, []), (100, 5, []), (100, 5, []), (100, 5, []), (100, 5, []), (6, 9, [0, 0, 148, 149, 150, 151, 152, 153, 154]), (100, 81, []), (100, 5, [])]
def shT5 : List (Nat × Nat × List Nat) := [(100, 5, []), (100, 5, []), (100, 5, []), (100, 5, []), (100, 5, []), (6, 9, [0, 0, 156, 157, 158, 159, 160, 161, 162]), (100, 81, []), (100, 5, []), (100, 5, []), (100, 5, []), (100, 5, []), (100, 5, []), (100, 5, []), (105, 2, [164, 188]), (10, 4, [165, 175, 183]), (1, 14, [0, 0, 0, 0, 0, 166, 167, 168, 169, 170, 171, 172, 173, 174]), (103, 6, []), (100, 6, []), (100, 6, []), (103, 5, []), (100, 5, []), (103, 5, []), (100, 5, []), (100, 5, []), (100, 5, []), (6, 9, [0, 0, 176, 177, 178, 179, 180, 181, 182]), (100, 81, []), (100, 5, []), (100, 5, []), (100, 5, [])]
def shT6 : List (Nat × Nat × List Nat) := [(100, 5, []), (100, 5, []), (100, 5, []), (5, 6, [0, 0, 184, 185, 186, 187]), (100, 40, []), (100, 40, []), (100, 40, []), (102, 40, []), (10, 4, [189, 199, 207]), (1, 14, [0, 0, 0, 0, 0, 190, 191, 192, 193, 194, 195, 196, 197, 198]), (103, 6, []), (100, 6, []), (100, 6, []), (103, 5, []), (100, 5, []), (103, 5, []), (100, 5, []), (100, 5, []), (100, 5, []), (6, 9, [0, 0, 200, 201, 202, 203, 204, 205, 206]), (100, 81, []), (100, 5, []), (100, 5, []), (100, 5, []), (100, 5, []), (100, 5, []), (100, 5, []), (5, 6, [0, 0, 208, 209, 210, 211]), (100, 40, []), (100, 40, [])]
def shT7 : List (Nat × Nat × List Nat) := [(100, 40, []), (102, 40, []), (102, 2, []), (101, 25, []), (12, 48, [0, 215, 0, 0, 0, 0, 0, 0, 0, 0, 0, 0, 0, 0, 216, 217, 218, 219, 220, 221, 222, 223, 224, 0, 0, 0, 225, 226, 227, 0, 228, 0, 229, 230, 0, 0, 231, 0, 0, 232, 233, 0, 0, 234]), (100, 940, []), (100, 474, []), (100, 123, []), (100, 948, []), (100, 872, []), (100, 109, []), (103, 16, []), (103, 16, []), (103, 32, []), (102, 2, []), (100, 324, []), (100, 324, []), (100, 324, []), (100, 3, []), (100, 3, []), (100, 6, []), (100, 64, []), (100, 160, []), (100, 4, []), (100, 240, []), (103, 1, [])]
def shT : List (Nat × Nat × List Nat) := shT0 ++ (shT1 ++ (shT2 ++ (shT3 ++ (shT4 ++ (shT5 ++ (shT6 ++ (shT7)))))))
def sk (a : Nat) : Nat := ((shT[a]?).getD (100, 0, [])).1
def sn (a : Nat) : Nat := ((shT[a]?).getD (100, 0, [])).2.1
def sp (a k : Nat) : Nat := (((shT[a]?).getD (100, 0, [])).2.2).getD k 0
def nestW : List Cond := [(Jvm.Cond.methodLinkNest "CartTurns" (11 : Nat) ({ cls := "CartTurns$Tape", name := "<init>", desc := "()V" } : Jvm.MethodName) "CartTurns"),
  (Jvm.Cond.methodLinkNest "CartTurns$Tape" (105 : Nat) ({ cls := "CartTurns", name := "packLetter", desc := "(JI)J" } : Jvm.MethodName) "CartTurns"),
  (Jvm.Cond.methodLinkNest "CartTurns" (20 : Nat) ({ cls := "CartTurns$Downs", name := "<init>", desc := "()V" } : Jvm.MethodName) "CartTurns"),
  (Jvm.Cond.methodLinkNest "CartTurns$World" (11 : Nat) ({ cls := "CartTurns$State", name := "<init>", desc := "()V" } : Jvm.MethodName) "CartTurns"),
  (Jvm.Cond.methodLinkNest "CartTurns$World" (20 : Nat) ({ cls := "CartTurns$Sentence", name := "<init>", desc := "()V" } : Jvm.MethodName) "CartTurns"),
  (Jvm.Cond.methodLinkNest "CartTurns$DownsText" (13 : Nat) ({ cls := "CartTurns$Downs", name := "<init>", desc := "()V" } : Jvm.MethodName) "CartTurns"),
  (Jvm.Cond.methodLinkNest "CartTurns" (53 : Nat) ({ cls := "CartTurns$Sentence", name := "<init>", desc := "()V" } : Jvm.MethodName) "CartTurns"),
  (Jvm.Cond.methodLinkNest "CartTurns" (60 : Nat) ({ cls := "CartTurns$Search", name := "<init>", desc := "()V" } : Jvm.MethodName) "CartTurns"),
  (Jvm.Cond.methodLinkNest "CartTurns" (67 : Nat) ({ cls := "CartTurns$Undoing", name := "<init>", desc := "()V" } : Jvm.MethodName) "CartTurns"),
  (Jvm.Cond.methodLinkNest "CartTurns" (74 : Nat) ({ cls := "CartTurns$Tracks", name := "<init>", desc := "()V" } : Jvm.MethodName) "CartTurns"),
  (Jvm.Cond.methodLinkNest "CartTurns$History" (24 : Nat) ({ cls := "CartTurns$State", name := "<init>", desc := "()V" } : Jvm.MethodName) "CartTurns"),
  (Jvm.Cond.methodLinkNest "CartTurns$Tape" (85 : Nat) ({ cls := "CartTurns", name := "isIn", desc := "(III)Z" } : Jvm.MethodName) "CartTurns"),
  (Jvm.Cond.methodLinkNest "CartTurns$World" (73 : Nat) ({ cls := "CartTurns", name := "cellOf", desc := "(II)I" } : Jvm.MethodName) "CartTurns"),
  (Jvm.Cond.methodLinkNest "CartTurns$DownsText" (112 : Nat) ({ cls := "CartTurns", name := "cellOf", desc := "(II)I" } : Jvm.MethodName) "CartTurns"),
  (Jvm.Cond.fieldLinkNest "CartTurns$World" (87 : Nat) "CartTurns" "STEP_X" "[I" "CartTurns"),
  (Jvm.Cond.fieldLinkNest "CartTurns$World" (90 : Nat) "CartTurns" "STEP_Y" "[I" "CartTurns"),
  (Jvm.Cond.methodLinkNest "CartTurns$Search" (73 : Nat) ({ cls := "CartTurns", name := "cellOf", desc := "(II)I" } : Jvm.MethodName) "CartTurns"),
  (Jvm.Cond.fieldLinkNest "CartTurns$Search" (102 : Nat) "CartTurns" "STEP_X" "[I" "CartTurns"),
  (Jvm.Cond.fieldLinkNest "CartTurns$Search" (105 : Nat) "CartTurns" "STEP_Y" "[I" "CartTurns"),
  (Jvm.Cond.methodLinkNest "CartTurns$Downs" (68 : Nat) ({ cls := "CartTurns", name := "cellOf", desc := "(II)I" } : Jvm.MethodName) "CartTurns"),
  (Jvm.Cond.fieldLinkNest "CartTurns$Undoing" (49 : Nat) "CartTurns" "STEP_X" "[I" "CartTurns"),
  (Jvm.Cond.fieldLinkNest "CartTurns$Undoing" (52 : Nat) "CartTurns" "STEP_Y" "[I" "CartTurns"),
  (Jvm.Cond.methodLinkNest "CartTurns$Tracks" (33 : Nat) ({ cls := "CartTurns", name := "isIn", desc := "(III)Z" } : Jvm.MethodName) "CartTurns"),
  (Jvm.Cond.fieldLinkNest "CartTurns$Tracks" (61 : Nat) "CartTurns" "STEP_X" "[I" "CartTurns"),
  (Jvm.Cond.fieldLinkNest "CartTurns$Tracks" (64 : Nat) "CartTurns" "STEP_Y" "[I" "CartTurns"),
  (Jvm.Cond.methodLinkNest "CartTurns$Sentence" (71 : Nat) ({ cls := "CartTurns", name := "isIn", desc := "(III)Z" } : Jvm.MethodName) "CartTurns")]
