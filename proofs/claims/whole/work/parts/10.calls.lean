set_option maxRecDepth 20000 in
theorem ini_12 : Cond.initialized RX12 ∈ tblG := (tblG_in (List.mem_append_right _ (List.mem_append_left _ (List.mem_of_getElem? (l := tables_1_1) (i := 17) rfl))) rfl)
set_option maxRecDepth 20000 in
theorem ini_10 : Cond.initialized RX10 ∈ tblG := (tblG_in (List.mem_append_right _ (List.mem_append_left _ (List.mem_of_getElem? (l := tables_1_1) (i := 7) rfl))) rfl)
set_option maxRecDepth 20000 in
theorem ini_9 : Cond.initialized RX9 ∈ tblG := (tblG_in (List.mem_append_right _ (List.mem_append_left _ (List.mem_of_getElem? (l := tables_1_1) (i := 14) rfl))) rfl)
set_option maxRecDepth 20000 in
theorem ini_8 : Cond.initialized RX8 ∈ tblG := (tblG_in (List.mem_append_right _ (List.mem_append_left _ (List.mem_of_getElem? (l := tables_1_1) (i := 15) rfl))) rfl)
set_option maxRecDepth 20000 in
theorem ini_7 : Cond.initialized RX7 ∈ tblG := (tblG_in (List.mem_append_right _ (List.mem_append_left _ (List.mem_of_getElem? (l := tables_1_1) (i := 2) rfl))) rfl)
set_option maxRecDepth 20000 in
theorem ini_6 : Cond.initialized RX6 ∈ tblG := (tblG_in (List.mem_append_right _ (List.mem_append_left _ (List.mem_of_getElem? (l := tables_1_1) (i := 9) rfl))) rfl)
set_option maxRecDepth 20000 in
theorem ini_5 : Cond.initialized RX5 ∈ tblG := (tblG_in (List.mem_append_right _ (List.mem_append_left _ (List.mem_of_getElem? (l := tables_1_1) (i := 10) rfl))) rfl)
set_option maxRecDepth 20000 in
theorem ini_4 : Cond.initialized RX4 ∈ tblG := (tblG_in (List.mem_append_right _ (List.mem_append_left _ (List.mem_of_getElem? (l := tables_1_1) (i := 13) rfl))) rfl)
set_option maxRecDepth 20000 in
theorem ini_3 : Cond.initialized RX3 ∈ tblG := (tblG_in (List.mem_append_right _ (List.mem_append_left _ (List.mem_of_getElem? (l := tables_1_1) (i := 16) rfl))) rfl)
set_option maxRecDepth 20000 in
theorem ini_2 : Cond.initialized RX2 ∈ tblG := (tblG_in (List.mem_append_right _ (List.mem_append_left _ (List.mem_of_getElem? (l := tables_1_1) (i := 11) rfl))) rfl)
set_option maxRecDepth 20000 in
theorem ini_1 : Cond.initialized RX1 ∈ tblG := (tblG_in (List.mem_append_right _ (List.mem_append_left _ (List.mem_of_getElem? (l := tables_1_1) (i := 8) rfl))) rfl)
set_option maxRecDepth 20000 in
theorem ini_0 : Cond.initialized RX0 ∈ tblG := (tblG_in (List.mem_append_right _ (List.mem_append_left _ (List.mem_of_getElem? (l := tables_1_1) (i := 12) rfl))) rfl)
set_option maxRecDepth 20000 in
theorem ini_11 : Cond.initialized RX11 ∈ tblG := (tblG_in (List.mem_append_right _ (List.mem_append_left _ (List.mem_of_getElem? (l := tables_1_1) (i := 1) rfl))) rfl)
set_option maxRecDepth 20000 in
theorem co_X0_init : Cond.code mX0_init.1 mX0_init.2.1 mX0_init.2.2.1 mX0_init.2.2.2 ∈ tblG := (tblG_in (List.mem_append_right _ (List.mem_append_right _ (List.mem_append_left _ (List.mem_of_getElem? (l := tables_1_2) (i := 158) rfl)))) rfl)
set_option maxRecDepth 20000 in
theorem co_X7_byteOf : Cond.code mX7_byteOf.1 mX7_byteOf.2.1 mX7_byteOf.2.2.1 mX7_byteOf.2.2.2 ∈ tblG := (tblG_in (List.mem_append_right _ (List.mem_append_right _ (List.mem_append_right _ (List.mem_append_left _ (List.mem_of_getElem? (l := tables_1_3) (i := 156) rfl))))) rfl)
set_option maxRecDepth 20000 in
theorem co_X7_skipBlanks : Cond.code mX7_skipBlanks.1 mX7_skipBlanks.2.1 mX7_skipBlanks.2.2.1 mX7_skipBlanks.2.2.2 ∈ tblG := (tblG_in (List.mem_append_right _ (List.mem_append_right _ (List.mem_append_right _ (List.mem_append_left _ (List.mem_of_getElem? (l := tables_1_3) (i := 152) rfl))))) rfl)
set_option maxRecDepth 20000 in
theorem co_X7_isLetter : Cond.code mX7_isLetter.1 mX7_isLetter.2.1 mX7_isLetter.2.2.1 mX7_isLetter.2.2.2 ∈ tblG := (tblG_in (List.mem_append_right _ (List.mem_append_right _ (List.mem_append_right _ (List.mem_append_left _ (List.mem_of_getElem? (l := tables_1_3) (i := 166) rfl))))) rfl)
set_option maxRecDepth 20000 in
theorem co_X7_isDigit : Cond.code mX7_isDigit.1 mX7_isDigit.2.1 mX7_isDigit.2.2.1 mX7_isDigit.2.2.2 ∈ tblG := (tblG_in (List.mem_append_right _ (List.mem_append_right _ (List.mem_append_right _ (List.mem_append_left _ (List.mem_of_getElem? (l := tables_1_3) (i := 169) rfl))))) rfl)
set_option maxRecDepth 20000 in
theorem co_X11_packLetter : Cond.code mX11_packLetter.1 mX11_packLetter.2.1 mX11_packLetter.2.2.1 mX11_packLetter.2.2.2 ∈ tblG := (tblG_in (List.mem_append_right _ (List.mem_append_left _ (List.mem_of_getElem? (l := tables_1_1) (i := 93) rfl))) rfl)
set_option maxRecDepth 20000 in
theorem co_X7_kindOfWord : Cond.code mX7_kindOfWord.1 mX7_kindOfWord.2.1 mX7_kindOfWord.2.2.1 mX7_kindOfWord.2.2.2 ∈ tblG := (tblG_in (List.mem_append_right _ (List.mem_append_right _ (List.mem_append_right _ (List.mem_append_left _ (List.mem_of_getElem? (l := tables_1_3) (i := 177) rfl))))) rfl)
set_option maxRecDepth 20000 in
theorem co_X7_scanRun : Cond.code mX7_scanRun.1 mX7_scanRun.2.1 mX7_scanRun.2.2.1 mX7_scanRun.2.2.2 ∈ tblG := (tblG_in (List.mem_append_right _ (List.mem_append_right _ (List.mem_append_right _ (List.mem_append_left _ (List.mem_of_getElem? (l := tables_1_3) (i := 173) rfl))))) rfl)
set_option maxRecDepth 20000 in
theorem co_X11_isIn : Cond.code mX11_isIn.1 mX11_isIn.2.1 mX11_isIn.2.2.1 mX11_isIn.2.2.2 ∈ tblG := (tblG_in (List.mem_append_right _ (List.mem_append_right _ (List.mem_append_right _ (List.mem_append_left _ (List.mem_of_getElem? (l := tables_1_3) (i := 183) rfl))))) rfl)
set_option maxRecDepth 20000 in
theorem co_X7_isSign : Cond.code mX7_isSign.1 mX7_isSign.2.1 mX7_isSign.2.2.1 mX7_isSign.2.2.2 ∈ tblG := (tblG_in (List.mem_append_right _ (List.mem_append_right _ (List.mem_append_right _ (List.mem_append_left _ (List.mem_of_getElem? (l := tables_1_3) (i := 180) rfl))))) rfl)
set_option maxRecDepth 20000 in
theorem co_X7_scanToken : Cond.code mX7_scanToken.1 mX7_scanToken.2.1 mX7_scanToken.2.2.1 mX7_scanToken.2.2.2 ∈ tblG := (tblG_in (List.mem_append_right _ (List.mem_append_right _ (List.mem_append_right _ (List.mem_append_left _ (List.mem_of_getElem? (l := tables_1_3) (i := 163) rfl))))) rfl)
set_option maxRecDepth 20000 in
theorem co_X7_begin : Cond.code mX7_begin.1 mX7_begin.2.1 mX7_begin.2.2.1 mX7_begin.2.2.2 ∈ tblG := (tblG_in (List.mem_append_right _ (List.mem_append_right _ (List.mem_append_right _ (List.mem_append_left _ (List.mem_of_getElem? (l := tables_1_3) (i := 148) rfl))))) rfl)
set_option maxRecDepth 20000 in
theorem co_X7_next : Cond.code mX7_next.1 mX7_next.2.1 mX7_next.2.2.1 mX7_next.2.2.2 ∈ tblG := (tblG_in (List.mem_append_right _ (List.mem_append_right _ (List.mem_append_right _ (List.mem_append_left _ (List.mem_of_getElem? (l := tables_1_3) (i := 187) rfl))))) rfl)
set_option maxRecDepth 20000 in
theorem co_X7_refuse : Cond.code mX7_refuse.1 mX7_refuse.2.1 mX7_refuse.2.2.1 mX7_refuse.2.2.2 ∈ tblG := (tblG_in (List.mem_append_right _ (List.mem_append_right _ (List.mem_append_right _ (List.mem_append_left _ (List.mem_of_getElem? (l := tables_1_3) (i := 199) rfl))))) rfl)
set_option maxRecDepth 20000 in
theorem co_X1_placeOf : Cond.code mX1_placeOf.1 mX1_placeOf.2.1 mX1_placeOf.2.2.1 mX1_placeOf.2.2.2 ∈ tblG := (tblG_in (List.mem_append_right _ (List.mem_append_right _ (List.mem_append_right _ (List.mem_append_right _ (List.mem_append_left _ (List.mem_of_getElem? (l := tables_1_4) (i := 13) rfl)))))) rfl)
set_option maxRecDepth 20000 in
theorem co_X1_personNamed : Cond.code mX1_personNamed.1 mX1_personNamed.2.1 mX1_personNamed.2.2.1 mX1_personNamed.2.2.2 ∈ tblG := (tblG_in (List.mem_append_right _ (List.mem_append_right _ (List.mem_append_right _ (List.mem_append_right _ (List.mem_append_left _ (List.mem_of_getElem? (l := tables_1_4) (i := 17) rfl)))))) rfl)
set_option maxRecDepth 20000 in
theorem co_X7_wantKind : Cond.code mX7_wantKind.1 mX7_wantKind.2.1 mX7_wantKind.2.2.1 mX7_wantKind.2.2.2 ∈ tblG := (tblG_in (List.mem_append_right _ (List.mem_append_right _ (List.mem_append_right _ (List.mem_append_left _ (List.mem_of_getElem? (l := tables_1_3) (i := 207) rfl))))) rfl)
set_option maxRecDepth 20000 in
theorem co_X7_wantNumeral : Cond.code mX7_wantNumeral.1 mX7_wantNumeral.2.1 mX7_wantNumeral.2.2.1 mX7_wantNumeral.2.2.2 ∈ tblG := (tblG_in (List.mem_append_right _ (List.mem_append_right _ (List.mem_append_right _ (List.mem_append_left _ (List.mem_of_getElem? (l := tables_1_3) (i := 203) rfl))))) rfl)
set_option maxRecDepth 20000 in
theorem co_X0_readHours : Cond.code mX0_readHours.1 mX0_readHours.2.1 mX0_readHours.2.2.1 mX0_readHours.2.2.2 ∈ tblG := (tblG_in (List.mem_append_right _ (List.mem_append_right _ (List.mem_append_right _ (List.mem_append_right _ (List.mem_append_right _ (List.mem_append_left _ (List.mem_of_getElem? (l := tables_1_5) (i := 191) rfl))))))) rfl)
set_option maxRecDepth 20000 in
theorem co_X1_figureNamed : Cond.code mX1_figureNamed.1 mX1_figureNamed.2.1 mX1_figureNamed.2.2.1 mX1_figureNamed.2.2.2 ∈ tblG := (tblG_in (List.mem_append_right _ (List.mem_append_right _ (List.mem_append_right _ (List.mem_append_right _ (List.mem_append_left _ (List.mem_of_getElem? (l := tables_1_4) (i := 10) rfl)))))) rfl)
set_option maxRecDepth 20000 in
theorem co_X0_readFigure : Cond.code mX0_readFigure.1 mX0_readFigure.2.1 mX0_readFigure.2.2.1 mX0_readFigure.2.2.2 ∈ tblG := (tblG_in (List.mem_append_right _ (List.mem_append_right _ (List.mem_append_right _ (List.mem_append_right _ (List.mem_append_right _ (List.mem_append_left _ (List.mem_of_getElem? (l := tables_1_5) (i := 200) rfl))))))) rfl)
set_option maxRecDepth 20000 in
theorem co_X7_wantSide : Cond.code mX7_wantSide.1 mX7_wantSide.2.1 mX7_wantSide.2.2.1 mX7_wantSide.2.2.2 ∈ tblG := (tblG_in (List.mem_append_right _ (List.mem_append_right _ (List.mem_append_right _ (List.mem_append_right _ (List.mem_append_right _ (List.mem_append_left _ (List.mem_of_getElem? (l := tables_1_5) (i := 210) rfl))))))) rfl)
set_option maxRecDepth 20000 in
theorem co_X0_readSide : Cond.code mX0_readSide.1 mX0_readSide.2.1 mX0_readSide.2.2.1 mX0_readSide.2.2.2 ∈ tblG := (tblG_in (List.mem_append_right _ (List.mem_append_right _ (List.mem_append_right _ (List.mem_append_right _ (List.mem_append_right _ (List.mem_append_left _ (List.mem_of_getElem? (l := tables_1_5) (i := 206) rfl))))))) rfl)
set_option maxRecDepth 20000 in
theorem co_X0_readDeed : Cond.code mX0_readDeed.1 mX0_readDeed.2.1 mX0_readDeed.2.2.1 mX0_readDeed.2.2.2 ∈ tblG := (tblG_in (List.mem_append_right _ (List.mem_append_right _ (List.mem_append_right _ (List.mem_append_right _ (List.mem_append_right _ (List.mem_append_left _ (List.mem_of_getElem? (l := tables_1_5) (i := 196) rfl))))))) rfl)
set_option maxRecDepth 20000 in
theorem co_X0_readLine : Cond.code mX0_readLine.1 mX0_readLine.2.1 mX0_readLine.2.2.1 mX0_readLine.2.2.2 ∈ tblG := (tblG_in (List.mem_append_right _ (List.mem_append_right _ (List.mem_append_right _ (List.mem_append_right _ (List.mem_append_right _ (List.mem_append_left _ (List.mem_of_getElem? (l := tables_1_5) (i := 185) rfl))))))) rfl)
set_option maxRecDepth 20000 in
theorem co_X0_read : Cond.code mX0_read.1 mX0_read.2.1 mX0_read.2.2.1 mX0_read.2.2.2 ∈ tblG := (tblG_in (List.mem_append_right _ (List.mem_append_right _ (List.mem_append_right _ (List.mem_append_right _ (List.mem_append_right _ (List.mem_append_left _ (List.mem_of_getElem? (l := tables_1_5) (i := 179) rfl))))))) rfl)
set_option maxRecDepth 20000 in
theorem co_X1_cost : Cond.code mX1_cost.1 mX1_cost.2.1 mX1_cost.2.2.1 mX1_cost.2.2.2 ∈ tblG := (tblG_in (List.mem_append_right _ (List.mem_append_right _ (List.mem_append_right _ (List.mem_append_right _ (List.mem_append_left _ (List.mem_of_getElem? (l := tables_1_4) (i := 74) rfl)))))) rfl)
set_option maxRecDepth 20000 in
theorem co_X1_isInside : Cond.code mX1_isInside.1 mX1_isInside.2.1 mX1_isInside.2.2.1 mX1_isInside.2.2.2 ∈ tblG := (tblG_in (List.mem_append_right _ (List.mem_append_right _ (List.mem_append_right _ (List.mem_append_left _ (List.mem_of_getElem? (l := tables_1_3) (i := 225) rfl))))) rfl)
set_option maxRecDepth 20000 in
theorem co_X11_cellOf : Cond.code mX11_cellOf.1 mX11_cellOf.2.1 mX11_cellOf.2.2.1 mX11_cellOf.2.2.2 ∈ tblG := (tblG_in (List.mem_append_right _ (List.mem_append_right _ (List.mem_append_right _ (List.mem_append_left _ (List.mem_of_getElem? (l := tables_1_3) (i := 228) rfl))))) rfl)
set_option maxRecDepth 20000 in
theorem co_X10_whoIsAt : Cond.code mX10_whoIsAt.1 mX10_whoIsAt.2.1 mX10_whoIsAt.2.2.1 mX10_whoIsAt.2.2.2 ∈ tblG := (tblG_in (List.mem_append_right _ (List.mem_append_right _ (List.mem_append_right _ (List.mem_append_left _ (List.mem_of_getElem? (l := tables_1_3) (i := 232) rfl))))) rfl)
set_option maxRecDepth 20000 in
theorem co_X10_whatBars : Cond.code mX10_whatBars.1 mX10_whatBars.2.1 mX10_whatBars.2.2.1 mX10_whatBars.2.2.2 ∈ tblG := (tblG_in (List.mem_append_right _ (List.mem_append_right _ (List.mem_append_right _ (List.mem_append_right _ (List.mem_append_left _ (List.mem_of_getElem? (l := tables_1_4) (i := 160) rfl)))))) rfl)
set_option maxRecDepth 20000 in
theorem co_X10_whyNotSay : Cond.code mX10_whyNotSay.1 mX10_whyNotSay.2.1 mX10_whyNotSay.2.2.1 mX10_whyNotSay.2.2.2 ∈ tblG := (tblG_in (List.mem_append_right _ (List.mem_append_right _ (List.mem_append_right _ (List.mem_append_right _ (List.mem_append_left _ (List.mem_of_getElem? (l := tables_1_4) (i := 151) rfl)))))) rfl)
set_option maxRecDepth 20000 in
theorem co_X10_bringUpPoints : Cond.code mX10_bringUpPoints.1 mX10_bringUpPoints.2.1 mX10_bringUpPoints.2.2.1 mX10_bringUpPoints.2.2.2 ∈ tblG := (tblG_in (List.mem_append_right _ (List.mem_append_right _ (List.mem_append_right _ (List.mem_append_right _ (List.mem_append_left _ (List.mem_of_getElem? (l := tables_1_4) (i := 33) rfl)))))) rfl)
set_option maxRecDepth 20000 in
theorem co_X10_doSay : Cond.code mX10_doSay.1 mX10_doSay.2.1 mX10_doSay.2.2.1 mX10_doSay.2.2.2 ∈ tblG := (tblG_in (List.mem_append_right _ (List.mem_append_right _ (List.mem_append_right _ (List.mem_append_right _ (List.mem_append_left _ (List.mem_of_getElem? (l := tables_1_4) (i := 171) rfl)))))) rfl)
set_option maxRecDepth 20000 in
theorem co_X10_sayIfCan : Cond.code mX10_sayIfCan.1 mX10_sayIfCan.2.1 mX10_sayIfCan.2.2.1 mX10_sayIfCan.2.2.2 ∈ tblG := (tblG_in (List.mem_append_right _ (List.mem_append_right _ (List.mem_append_right _ (List.mem_append_right _ (List.mem_append_right _ (List.mem_append_left _ (List.mem_of_getElem? (l := tables_1_5) (i := 151) rfl))))))) rfl)
set_option maxRecDepth 20000 in
theorem co_X10_wallAt : Cond.code mX10_wallAt.1 mX10_wallAt.2.1 mX10_wallAt.2.2.1 mX10_wallAt.2.2.2 ∈ tblG := (tblG_in (List.mem_append_right _ (List.mem_append_right _ (List.mem_append_right _ (List.mem_append_left _ (List.mem_of_getElem? (l := tables_1_3) (i := 221) rfl))))) rfl)
set_option maxRecDepth 20000 in
theorem co_X10_whyNotKick : Cond.code mX10_whyNotKick.1 mX10_whyNotKick.2.1 mX10_whyNotKick.2.2.1 mX10_whyNotKick.2.2.2 ∈ tblG := (tblG_in (List.mem_append_right _ (List.mem_append_right _ (List.mem_append_right _ (List.mem_append_right _ (List.mem_append_left _ (List.mem_of_getElem? (l := tables_1_4) (i := 180) rfl)))))) rfl)
set_option maxRecDepth 20000 in
theorem co_X10_doKick : Cond.code mX10_doKick.1 mX10_doKick.2.1 mX10_doKick.2.2.1 mX10_doKick.2.2.2 ∈ tblG := (tblG_in (List.mem_append_right _ (List.mem_append_right _ (List.mem_append_right _ (List.mem_append_right _ (List.mem_append_left _ (List.mem_of_getElem? (l := tables_1_4) (i := 185) rfl)))))) rfl)
set_option maxRecDepth 20000 in
theorem co_X10_kickIfCan : Cond.code mX10_kickIfCan.1 mX10_kickIfCan.2.1 mX10_kickIfCan.2.2.1 mX10_kickIfCan.2.2.2 ∈ tblG := (tblG_in (List.mem_append_right _ (List.mem_append_right _ (List.mem_append_right _ (List.mem_append_right _ (List.mem_append_right _ (List.mem_append_left _ (List.mem_of_getElem? (l := tables_1_5) (i := 157) rfl))))))) rfl)
set_option maxRecDepth 20000 in
theorem co_X0_behind : Cond.code mX0_behind.1 mX0_behind.2.1 mX0_behind.2.2.1 mX0_behind.2.2.2 ∈ tblG := (tblG_in (List.mem_append_right _ (List.mem_append_right _ (List.mem_append_right _ (List.mem_append_right _ (List.mem_append_right _ (List.mem_append_left _ (List.mem_of_getElem? (l := tables_1_5) (i := 223) rfl))))))) rfl)
set_option maxRecDepth 20000 in
theorem co_X10_whyNotRest : Cond.code mX10_whyNotRest.1 mX10_whyNotRest.2.1 mX10_whyNotRest.2.2.1 mX10_whyNotRest.2.2.2 ∈ tblG := (tblG_in (List.mem_append_right _ (List.mem_append_right _ (List.mem_append_right _ (List.mem_append_right _ (List.mem_append_left _ (List.mem_of_getElem? (l := tables_1_4) (i := 193) rfl)))))) rfl)
set_option maxRecDepth 20000 in
theorem co_X10_doRest : Cond.code mX10_doRest.1 mX10_doRest.2.1 mX10_doRest.2.2.1 mX10_doRest.2.2.2 ∈ tblG := (tblG_in (List.mem_append_right _ (List.mem_append_right _ (List.mem_append_right _ (List.mem_append_right _ (List.mem_append_left _ (List.mem_of_getElem? (l := tables_1_4) (i := 197) rfl)))))) rfl)
set_option maxRecDepth 20000 in
theorem co_X10_restIfCan : Cond.code mX10_restIfCan.1 mX10_restIfCan.2.1 mX10_restIfCan.2.2.1 mX10_restIfCan.2.2.2 ∈ tblG := (tblG_in (List.mem_append_right _ (List.mem_append_right _ (List.mem_append_right _ (List.mem_append_right _ (List.mem_append_right _ (List.mem_append_left _ (List.mem_of_getElem? (l := tables_1_5) (i := 163) rfl))))))) rfl)
set_option maxRecDepth 20000 in
theorem co_X10_hoursLeft : Cond.code mX10_hoursLeft.1 mX10_hoursLeft.2.1 mX10_hoursLeft.2.2.1 mX10_hoursLeft.2.2.2 ∈ tblG := (tblG_in (List.mem_append_right _ (List.mem_append_right _ (List.mem_append_right _ (List.mem_append_right _ (List.mem_append_left _ (List.mem_of_getElem? (l := tables_1_4) (i := 205) rfl)))))) rfl)
set_option maxRecDepth 20000 in
theorem co_X10_passHours : Cond.code mX10_passHours.1 mX10_passHours.2.1 mX10_passHours.2.2.1 mX10_passHours.2.2.2 ∈ tblG := (tblG_in (List.mem_append_right _ (List.mem_append_right _ (List.mem_append_right _ (List.mem_append_right _ (List.mem_append_left _ (List.mem_of_getElem? (l := tables_1_4) (i := 210) rfl)))))) rfl)
set_option maxRecDepth 20000 in
theorem co_X0_passIfCan : Cond.code mX0_passIfCan.1 mX0_passIfCan.2.1 mX0_passIfCan.2.2.1 mX0_passIfCan.2.2.2 ∈ tblG := (tblG_in (List.mem_append_right _ (List.mem_append_right _ (List.mem_append_right _ (List.mem_append_right _ (List.mem_append_right _ (List.mem_append_left _ (List.mem_of_getElem? (l := tables_1_5) (i := 227) rfl))))))) rfl)
set_option maxRecDepth 20000 in
theorem co_X0_live : Cond.code mX0_live.1 mX0_live.2.1 mX0_live.2.2.1 mX0_live.2.2.2 ∈ tblG := (tblG_in (List.mem_append_right _ (List.mem_append_right _ (List.mem_append_right _ (List.mem_append_right _ (List.mem_append_right _ (List.mem_append_left _ (List.mem_of_getElem? (l := tables_1_5) (i := 218) rfl))))))) rfl)
set_option maxRecDepth 20000 in
theorem co_X10_isSettled : Cond.code mX10_isSettled.1 mX10_isSettled.2.1 mX10_isSettled.2.2.1 mX10_isSettled.2.2.2 ∈ tblG := (tblG_in (List.mem_append_right _ (List.mem_append_right _ (List.mem_append_right _ (List.mem_append_right _ (List.mem_append_left _ (List.mem_of_getElem? (l := tables_1_4) (i := 127) rfl)))))) rfl)
set_option maxRecDepth 20000 in
theorem co_X10_whoIsSettled : Cond.code mX10_whoIsSettled.1 mX10_whoIsSettled.2.1 mX10_whoIsSettled.2.2.1 mX10_whoIsSettled.2.2.2 ∈ tblG := (tblG_in (List.mem_append_right _ (List.mem_append_right _ (List.mem_append_right _ (List.mem_append_right _ (List.mem_append_left _ (List.mem_of_getElem? (l := tables_1_4) (i := 123) rfl)))))) rfl)
set_option maxRecDepth 20000 in
theorem co_X0_judge : Cond.code mX0_judge.1 mX0_judge.2.1 mX0_judge.2.2.1 mX0_judge.2.2.2 ∈ tblG := (tblG_in (List.mem_append_right _ (List.mem_append_right _ (List.mem_append_right _ (List.mem_append_right _ (List.mem_append_right _ (List.mem_append_left _ (List.mem_of_getElem? (l := tables_1_5) (i := 214) rfl))))))) rfl)
set_option maxRecDepth 20000 in
theorem co_X1_init : Cond.code mX1_init.1 mX1_init.2.1 mX1_init.2.2.1 mX1_init.2.2.2 ∈ tblG := (tblG_in (List.mem_append_right _ (List.mem_append_left _ (List.mem_of_getElem? (l := tables_1_1) (i := 160) rfl))) rfl)
set_option maxRecDepth 20000 in
theorem co_X1_clear : Cond.code mX1_clear.1 mX1_clear.2.1 mX1_clear.2.2.1 mX1_clear.2.2.2 ∈ tblG := (tblG_in (List.mem_append_right _ (List.mem_append_right _ (List.mem_append_right _ (List.mem_append_left _ (List.mem_of_getElem? (l := tables_1_3) (i := 133) rfl))))) rfl)
set_option maxRecDepth 20000 in
theorem co_X1_copyFrom : Cond.code mX1_copyFrom.1 mX1_copyFrom.2.1 mX1_copyFrom.2.2.1 mX1_copyFrom.2.2.2 ∈ tblG := (tblG_in (List.mem_append_right _ (List.mem_append_right _ (List.mem_append_right _ (List.mem_append_right _ (List.mem_append_left _ (List.mem_of_getElem? (l := tables_1_4) (i := 41) rfl)))))) rfl)
set_option maxRecDepth 20000 in
theorem co_X1_standOfPoint : Cond.code mX1_standOfPoint.1 mX1_standOfPoint.2.1 mX1_standOfPoint.2.2.1 mX1_standOfPoint.2.2.2 ∈ tblG := (tblG_in (List.mem_append_right _ (List.mem_append_right _ (List.mem_append_right _ (List.mem_append_right _ (List.mem_append_right _ (List.mem_append_left _ (List.mem_of_getElem? (l := tables_1_5) (i := 20) rfl))))))) rfl)
set_option maxRecDepth 20000 in
theorem co_X1_pointsAt : Cond.code mX1_pointsAt.1 mX1_pointsAt.2.1 mX1_pointsAt.2.2.1 mX1_pointsAt.2.2.2 ∈ tblG := (tblG_in (List.mem_append_right _ (List.mem_append_right _ (List.mem_append_right _ (List.mem_append_right _ (List.mem_append_left _ (List.mem_of_getElem? (l := tables_1_4) (i := 100) rfl)))))) rfl)
set_option maxRecDepth 20000 in
theorem co_X1_pointNamed : Cond.code mX1_pointNamed.1 mX1_pointNamed.2.1 mX1_pointNamed.2.2.1 mX1_pointNamed.2.2.2 ∈ tblG := (tblG_in (List.mem_append_right _ (List.mem_append_right _ (List.mem_append_right _ (List.mem_append_right _ (List.mem_append_left _ (List.mem_of_getElem? (l := tables_1_4) (i := 21) rfl)))))) rfl)
set_option maxRecDepth 20000 in
theorem co_X1_isNamed : Cond.code mX1_isNamed.1 mX1_isNamed.2.1 mX1_isNamed.2.2.1 mX1_isNamed.2.2.2 ∈ tblG := (tblG_in (List.mem_append_right _ (List.mem_append_right _ (List.mem_append_right _ (List.mem_append_right _ (List.mem_append_left _ (List.mem_of_getElem? (l := tables_1_4) (i := 6) rfl)))))) rfl)
set_option maxRecDepth 20000 in
theorem co_X6_init : Cond.code mX6_init.1 mX6_init.2.1 mX6_init.2.2.1 mX6_init.2.2.2 ∈ tblG := (tblG_in (List.mem_append_right _ (List.mem_append_right _ (List.mem_append_left _ (List.mem_of_getElem? (l := tables_1_2) (i := 19) rfl)))) rfl)
set_option maxRecDepth 20000 in
theorem co_X5_init : Cond.code mX5_init.1 mX5_init.2.1 mX5_init.2.2.1 mX5_init.2.2.2 ∈ tblG := (tblG_in (List.mem_append_right _ (List.mem_append_right _ (List.mem_append_left _ (List.mem_of_getElem? (l := tables_1_2) (i := 85) rfl)))) rfl)
set_option maxRecDepth 20000 in
theorem co_X10_init : Cond.code mX10_init.1 mX10_init.2.1 mX10_init.2.2.1 mX10_init.2.2.2 ∈ tblG := (tblG_in (List.mem_append_right _ (List.mem_append_right _ (List.mem_append_left _ (List.mem_of_getElem? (l := tables_1_2) (i := 13) rfl)))) rfl)
set_option maxRecDepth 20000 in
theorem co_X2_init : Cond.code mX2_init.1 mX2_init.2.1 mX2_init.2.2.1 mX2_init.2.2.2 ∈ tblG := (tblG_in (List.mem_append_right _ (List.mem_append_right _ (List.mem_append_left _ (List.mem_of_getElem? (l := tables_1_2) (i := 134) rfl)))) rfl)
set_option maxRecDepth 20000 in
theorem co_X6_clear : Cond.code mX6_clear.1 mX6_clear.2.1 mX6_clear.2.2.1 mX6_clear.2.2.2 ∈ tblG := (tblG_in (List.mem_append_right _ (List.mem_append_right _ (List.mem_append_right _ (List.mem_append_left _ (List.mem_of_getElem? (l := tables_1_3) (i := 137) rfl))))) rfl)
set_option maxRecDepth 20000 in
theorem co_X5_clear : Cond.code mX5_clear.1 mX5_clear.2.1 mX5_clear.2.2.1 mX5_clear.2.2.2 ∈ tblG := (tblG_in (List.mem_append_right _ (List.mem_append_right _ (List.mem_append_right _ (List.mem_append_left _ (List.mem_of_getElem? (l := tables_1_3) (i := 144) rfl))))) rfl)
set_option maxRecDepth 20000 in
theorem co_X10_clear : Cond.code mX10_clear.1 mX10_clear.2.1 mX10_clear.2.2.1 mX10_clear.2.2.2 ∈ tblG := (tblG_in (List.mem_append_right _ (List.mem_append_right _ (List.mem_append_right _ (List.mem_append_left _ (List.mem_of_getElem? (l := tables_1_3) (i := 129) rfl))))) rfl)
set_option maxRecDepth 20000 in
theorem co_X2_readSize : Cond.code mX2_readSize.1 mX2_readSize.2.1 mX2_readSize.2.2.1 mX2_readSize.2.2.2 ∈ tblG := (tblG_in (List.mem_append_right _ (List.mem_append_right _ (List.mem_append_right _ (List.mem_append_left _ (List.mem_of_getElem? (l := tables_1_3) (i := 195) rfl))))) rfl)
set_option maxRecDepth 20000 in
theorem co_X2_wantFreeY : Cond.code mX2_wantFreeY.1 mX2_wantFreeY.2.1 mX2_wantFreeY.2.2.1 mX2_wantFreeY.2.2.2 ∈ tblG := (tblG_in (List.mem_append_right _ (List.mem_append_right _ (List.mem_append_right _ (List.mem_append_left _ (List.mem_of_getElem? (l := tables_1_3) (i := 217) rfl))))) rfl)
set_option maxRecDepth 20000 in
theorem co_X2_readWall : Cond.code mX2_readWall.1 mX2_readWall.2.1 mX2_readWall.2.2.1 mX2_readWall.2.2.2 ∈ tblG := (tblG_in (List.mem_append_right _ (List.mem_append_right _ (List.mem_append_right _ (List.mem_append_left _ (List.mem_of_getElem? (l := tables_1_3) (i := 213) rfl))))) rfl)
set_option maxRecDepth 20000 in
theorem co_X2_wantNewName : Cond.code mX2_wantNewName.1 mX2_wantNewName.2.1 mX2_wantNewName.2.2.1 mX2_wantNewName.2.2.2 ∈ tblG := (tblG_in (List.mem_append_right _ (List.mem_append_right _ (List.mem_append_right _ (List.mem_append_right _ (List.mem_append_left _ (List.mem_of_getElem? (l := tables_1_4) (i := 1) rfl)))))) rfl)
set_option maxRecDepth 20000 in
theorem co_X2_readFigure : Cond.code mX2_readFigure.1 mX2_readFigure.2.1 mX2_readFigure.2.2.1 mX2_readFigure.2.2.2 ∈ tblG := (tblG_in (List.mem_append_right _ (List.mem_append_right _ (List.mem_append_right _ (List.mem_append_left _ (List.mem_of_getElem? (l := tables_1_3) (i := 237) rfl))))) rfl)
set_option maxRecDepth 20000 in
theorem co_X2_readPerson : Cond.code mX2_readPerson.1 mX2_readPerson.2.1 mX2_readPerson.2.2.1 mX2_readPerson.2.2.2 ∈ tblG := (tblG_in (List.mem_append_right _ (List.mem_append_right _ (List.mem_append_right _ (List.mem_append_right _ (List.mem_append_left _ (List.mem_of_getElem? (l := tables_1_4) (i := 25) rfl)))))) rfl)
set_option maxRecDepth 20000 in
theorem co_X2_readPoint : Cond.code mX2_readPoint.1 mX2_readPoint.2.1 mX2_readPoint.2.2.1 mX2_readPoint.2.2.2 ∈ tblG := (tblG_in (List.mem_append_right _ (List.mem_append_right _ (List.mem_append_right _ (List.mem_append_right _ (List.mem_append_left _ (List.mem_of_getElem? (l := tables_1_4) (i := 29) rfl)))))) rfl)
set_option maxRecDepth 20000 in
theorem co_X2_readLine : Cond.code mX2_readLine.1 mX2_readLine.2.1 mX2_readLine.2.2.1 mX2_readLine.2.2.2 ∈ tblG := (tblG_in (List.mem_append_right _ (List.mem_append_right _ (List.mem_append_right _ (List.mem_append_left _ (List.mem_of_getElem? (l := tables_1_3) (i := 191) rfl))))) rfl)
set_option maxRecDepth 20000 in
theorem co_X2_read : Cond.code mX2_read.1 mX2_read.2.1 mX2_read.2.2.1 mX2_read.2.2.2 ∈ tblG := (tblG_in (List.mem_append_right _ (List.mem_append_right _ (List.mem_append_right _ (List.mem_append_left _ (List.mem_of_getElem? (l := tables_1_3) (i := 125) rfl))))) rfl)
set_option maxRecDepth 20000 in
theorem co_X3_init : Cond.code mX3_init.1 mX3_init.2.1 mX3_init.2.2.1 mX3_init.2.2.2 ∈ tblG := (tblG_in (List.mem_append_right _ (List.mem_append_right _ (List.mem_append_right _ (List.mem_append_left _ (List.mem_of_getElem? (l := tables_1_3) (i := 47) rfl))))) rfl)
set_option maxRecDepth 20000 in
theorem co_X3_clear : Cond.code mX3_clear.1 mX3_clear.2.1 mX3_clear.2.2.1 mX3_clear.2.2.2 ∈ tblG := (tblG_in (List.mem_append_right _ (List.mem_append_right _ (List.mem_append_right _ (List.mem_append_right _ (List.mem_append_left _ (List.mem_of_getElem? (l := tables_1_4) (i := 58) rfl)))))) rfl)
set_option maxRecDepth 20000 in
theorem co_X6_copyFrom : Cond.code mX6_copyFrom.1 mX6_copyFrom.2.1 mX6_copyFrom.2.2.1 mX6_copyFrom.2.2.2 ∈ tblG := (tblG_in (List.mem_append_right _ (List.mem_append_right _ (List.mem_append_right _ (List.mem_append_right _ (List.mem_append_left _ (List.mem_of_getElem? (l := tables_1_4) (i := 48) rfl)))))) rfl)
set_option maxRecDepth 20000 in
theorem co_X3_keep : Cond.code mX3_keep.1 mX3_keep.2.1 mX3_keep.2.2.1 mX3_keep.2.2.2 ∈ tblG := (tblG_in (List.mem_append_right _ (List.mem_append_right _ (List.mem_append_right _ (List.mem_append_right _ (List.mem_append_left _ (List.mem_of_getElem? (l := tables_1_4) (i := 165) rfl)))))) rfl)
set_option maxRecDepth 20000 in
theorem co_X3_takeBack : Cond.code mX3_takeBack.1 mX3_takeBack.2.1 mX3_takeBack.2.2.1 mX3_takeBack.2.2.2 ∈ tblG := (tblG_in (List.mem_append_right _ (List.mem_append_right _ (List.mem_append_right _ (List.mem_append_right _ (List.mem_append_left _ (List.mem_of_getElem? (l := tables_1_4) (i := 219) rfl)))))) rfl)
set_option maxRecDepth 20000 in
theorem co_X4_init : Cond.code mX4_init.1 mX4_init.2.1 mX4_init.2.2.1 mX4_init.2.2.2 ∈ tblG := (tblG_in (List.mem_append_right _ (List.mem_append_right _ (List.mem_append_left _ (List.mem_of_getElem? (l := tables_1_2) (i := 208) rfl)))) rfl)
set_option maxRecDepth 20000 in
theorem co_X4_shutCells : Cond.code mX4_shutCells.1 mX4_shutCells.2.1 mX4_shutCells.2.2.1 mX4_shutCells.2.2.2 ∈ tblG := (tblG_in (List.mem_append_right _ (List.mem_append_right _ (List.mem_append_right _ (List.mem_append_right _ (List.mem_append_left _ (List.mem_of_getElem? (l := tables_1_4) (i := 235) rfl)))))) rfl)
set_option maxRecDepth 20000 in
theorem co_X4_runFrom : Cond.code mX4_runFrom.1 mX4_runFrom.2.1 mX4_runFrom.2.2.1 mX4_runFrom.2.2.2 ∈ tblG := (tblG_in (List.mem_append_right _ (List.mem_append_right _ (List.mem_append_right _ (List.mem_append_right _ (List.mem_append_right _ (List.mem_append_left _ (List.mem_of_getElem? (l := tables_1_5) (i := 4) rfl))))))) rfl)
set_option maxRecDepth 20000 in
theorem co_X4_measureRuns : Cond.code mX4_measureRuns.1 mX4_measureRuns.2.1 mX4_measureRuns.2.2.1 mX4_measureRuns.2.2.2 ∈ tblG := (tblG_in (List.mem_append_right _ (List.mem_append_right _ (List.mem_append_right _ (List.mem_append_right _ (List.mem_append_right _ (List.mem_append_left _ (List.mem_of_getElem? (l := tables_1_5) (i := 0) rfl))))))) rfl)
set_option maxRecDepth 20000 in
theorem co_X4_reach : Cond.code mX4_reach.1 mX4_reach.2.1 mX4_reach.2.2.1 mX4_reach.2.2.2 ∈ tblG := (tblG_in (List.mem_append_right _ (List.mem_append_right _ (List.mem_append_right _ (List.mem_append_right _ (List.mem_append_right _ (List.mem_append_left _ (List.mem_of_getElem? (l := tables_1_5) (i := 16) rfl))))))) rfl)
set_option maxRecDepth 20000 in
theorem co_X4_goOn : Cond.code mX4_goOn.1 mX4_goOn.2.1 mX4_goOn.2.2.1 mX4_goOn.2.2.2 ∈ tblG := (tblG_in (List.mem_append_right _ (List.mem_append_right _ (List.mem_append_right _ (List.mem_append_right _ (List.mem_append_right _ (List.mem_append_left _ (List.mem_of_getElem? (l := tables_1_5) (i := 12) rfl))))))) rfl)
set_option maxRecDepth 20000 in
theorem co_X4_spread : Cond.code mX4_spread.1 mX4_spread.2.1 mX4_spread.2.2.1 mX4_spread.2.2.2 ∈ tblG := (tblG_in (List.mem_append_right _ (List.mem_append_right _ (List.mem_append_right _ (List.mem_append_right _ (List.mem_append_left _ (List.mem_of_getElem? (l := tables_1_4) (i := 231) rfl)))))) rfl)
set_option maxRecDepth 20000 in
theorem co_X4_keepWayTo : Cond.code mX4_keepWayTo.1 mX4_keepWayTo.2.1 mX4_keepWayTo.2.2.1 mX4_keepWayTo.2.2.2 ∈ tblG := (tblG_in (List.mem_append_right _ (List.mem_append_right _ (List.mem_append_right _ (List.mem_append_right _ (List.mem_append_right _ (List.mem_append_left _ (List.mem_of_getElem? (l := tables_1_5) (i := 25) rfl))))))) rfl)
set_option maxRecDepth 20000 in
theorem co_X4_countCells : Cond.code mX4_countCells.1 mX4_countCells.2.1 mX4_countCells.2.2.1 mX4_countCells.2.2.2 ∈ tblG := (tblG_in (List.mem_append_right _ (List.mem_append_right _ (List.mem_append_right _ (List.mem_append_right _ (List.mem_append_right _ (List.mem_append_left _ (List.mem_of_getElem? (l := tables_1_5) (i := 42) rfl))))))) rfl)
set_option maxRecDepth 20000 in
theorem co_X5_copyFrom : Cond.code mX5_copyFrom.1 mX5_copyFrom.2.1 mX5_copyFrom.2.2.1 mX5_copyFrom.2.2.2 ∈ tblG := (tblG_in (List.mem_append_right _ (List.mem_append_right _ (List.mem_append_right _ (List.mem_append_right _ (List.mem_append_left _ (List.mem_of_getElem? (l := tables_1_4) (i := 53) rfl)))))) rfl)
set_option maxRecDepth 20000 in
theorem co_X5_add : Cond.code mX5_add.1 mX5_add.2.1 mX5_add.2.2.1 mX5_add.2.2.2 ∈ tblG := (tblG_in (List.mem_append_right _ (List.mem_append_right _ (List.mem_append_right _ (List.mem_append_right _ (List.mem_append_right _ (List.mem_append_right _ (List.mem_append_left _ (List.mem_of_getElem? (l := tables_1_6) (i := 27) rfl)))))))) rfl)
set_option maxRecDepth 20000 in
theorem co_X5_readNamed : Cond.code mX5_readNamed.1 mX5_readNamed.2.1 mX5_readNamed.2.2.1 mX5_readNamed.2.2.2 ∈ tblG := (tblG_in (List.mem_append_right _ (List.mem_append_right _ (List.mem_append_right _ (List.mem_append_right _ (List.mem_append_right _ (List.mem_append_right _ (List.mem_append_left _ (List.mem_of_getElem? (l := tables_1_6) (i := 35) rfl)))))))) rfl)
set_option maxRecDepth 20000 in
theorem co_X5_readCompared : Cond.code mX5_readCompared.1 mX5_readCompared.2.1 mX5_readCompared.2.2.1 mX5_readCompared.2.2.2 ∈ tblG := (tblG_in (List.mem_append_right _ (List.mem_append_right _ (List.mem_append_right _ (List.mem_append_right _ (List.mem_append_right _ (List.mem_append_right _ (List.mem_append_left _ (List.mem_of_getElem? (l := tables_1_6) (i := 42) rfl)))))))) rfl)
set_option maxRecDepth 20000 in
theorem co_X5_readAll : Cond.code mX5_readAll.1 mX5_readAll.2.1 mX5_readAll.2.2.1 mX5_readAll.2.2.2 ∈ tblG := (tblG_in (List.mem_append_right _ (List.mem_append_right _ (List.mem_append_right _ (List.mem_append_right _ (List.mem_append_right _ (List.mem_append_right _ (List.mem_append_left _ (List.mem_of_getElem? (l := tables_1_6) (i := 13) rfl)))))))) rfl)
set_option maxRecDepth 20000 in
theorem co_X5_readBracket : Cond.code mX5_readBracket.1 mX5_readBracket.2.1 mX5_readBracket.2.2.1 mX5_readBracket.2.2.2 ∈ tblG := (tblG_in (List.mem_append_right _ (List.mem_append_right _ (List.mem_append_right _ (List.mem_append_right _ (List.mem_append_right _ (List.mem_append_right _ (List.mem_append_left _ (List.mem_of_getElem? (l := tables_1_6) (i := 31) rfl)))))))) rfl)
set_option maxRecDepth 20000 in
theorem co_X5_readCond : Cond.code mX5_readCond.1 mX5_readCond.2.1 mX5_readCond.2.2.1 mX5_readCond.2.2.2 ∈ tblG := (tblG_in (List.mem_append_right _ (List.mem_append_right _ (List.mem_append_right _ (List.mem_append_right _ (List.mem_append_right _ (List.mem_append_right _ (List.mem_append_left _ (List.mem_of_getElem? (l := tables_1_6) (i := 9) rfl)))))))) rfl)
set_option maxRecDepth 20000 in
theorem co_X5_readNot : Cond.code mX5_readNot.1 mX5_readNot.2.1 mX5_readNot.2.2.1 mX5_readNot.2.2.2 ∈ tblG := (tblG_in (List.mem_append_right _ (List.mem_append_right _ (List.mem_append_right _ (List.mem_append_right _ (List.mem_append_right _ (List.mem_append_right _ (List.mem_append_left _ (List.mem_of_getElem? (l := tables_1_6) (i := 23) rfl)))))))) rfl)
set_option maxRecDepth 20000 in
theorem co_X5_readOne : Cond.code mX5_readOne.1 mX5_readOne.2.1 mX5_readOne.2.2.1 mX5_readOne.2.2.2 ∈ tblG := (tblG_in (List.mem_append_right _ (List.mem_append_right _ (List.mem_append_right _ (List.mem_append_right _ (List.mem_append_right _ (List.mem_append_right _ (List.mem_append_left _ (List.mem_of_getElem? (l := tables_1_6) (i := 17) rfl)))))))) rfl)
set_option maxRecDepth 20000 in
theorem co_X5_read : Cond.code mX5_read.1 mX5_read.2.1 mX5_read.2.2.1 mX5_read.2.2.2 ∈ tblG := (tblG_in (List.mem_append_right _ (List.mem_append_right _ (List.mem_append_right _ (List.mem_append_right _ (List.mem_append_right _ (List.mem_append_right _ (List.mem_append_left _ (List.mem_of_getElem? (l := tables_1_6) (i := 2) rfl)))))))) rfl)
set_option maxRecDepth 20000 in
theorem co_X5_join : Cond.code mX5_join.1 mX5_join.2.1 mX5_join.2.2.1 mX5_join.2.2.2 ∈ tblG := (tblG_in (List.mem_append_right _ (List.mem_append_right _ (List.mem_append_right _ (List.mem_append_right _ (List.mem_append_right _ (List.mem_append_right _ (List.mem_append_left _ (List.mem_of_getElem? (l := tables_1_6) (i := 54) rfl)))))))) rfl)
set_option maxRecDepth 20000 in
theorem co_X10_isBeside : Cond.code mX10_isBeside.1 mX10_isBeside.2.1 mX10_isBeside.2.2.1 mX10_isBeside.2.2.2 ∈ tblG := (tblG_in (List.mem_append_right _ (List.mem_append_right _ (List.mem_append_right _ (List.mem_append_right _ (List.mem_append_right _ (List.mem_append_right _ (List.mem_append_left _ (List.mem_of_getElem? (l := tables_1_6) (i := 63) rfl)))))))) rfl)
set_option maxRecDepth 20000 in
theorem co_X5_compares : Cond.code mX5_compares.1 mX5_compares.2.1 mX5_compares.2.2.1 mX5_compares.2.2.2 ∈ tblG := (tblG_in (List.mem_append_right _ (List.mem_append_right _ (List.mem_append_right _ (List.mem_append_right _ (List.mem_append_right _ (List.mem_append_right _ (List.mem_append_left _ (List.mem_of_getElem? (l := tables_1_6) (i := 68) rfl)))))))) rfl)
set_option maxRecDepth 20000 in
theorem co_X5_plainHolds : Cond.code mX5_plainHolds.1 mX5_plainHolds.2.1 mX5_plainHolds.2.2.1 mX5_plainHolds.2.2.2 ∈ tblG := (tblG_in (List.mem_append_right _ (List.mem_append_right _ (List.mem_append_right _ (List.mem_append_right _ (List.mem_append_right _ (List.mem_append_right _ (List.mem_append_left _ (List.mem_of_getElem? (l := tables_1_6) (i := 58) rfl)))))))) rfl)
set_option maxRecDepth 20000 in
theorem co_X5_holdsFor : Cond.code mX5_holdsFor.1 mX5_holdsFor.2.1 mX5_holdsFor.2.2.1 mX5_holdsFor.2.2.2 ∈ tblG := (tblG_in (List.mem_append_right _ (List.mem_append_right _ (List.mem_append_right _ (List.mem_append_right _ (List.mem_append_right _ (List.mem_append_right _ (List.mem_append_left _ (List.mem_of_getElem? (l := tables_1_6) (i := 51) rfl)))))))) rfl)
set_option maxRecDepth 20000 in
theorem co_X7_packKeywords : Cond.code mX7_packKeywords.1 mX7_packKeywords.2.1 mX7_packKeywords.2.2.1 mX7_packKeywords.2.2.2 ∈ tblG := (tblG_in (List.mem_append_right _ (List.mem_append_left _ (List.mem_of_getElem? (l := tables_1_1) (i := 41) rfl))) rfl)
set_option maxRecDepth 20000 in
theorem co_X7_init : Cond.code mX7_init.1 mX7_init.2.1 mX7_init.2.2.1 mX7_init.2.2.2 ∈ tblG := (tblG_in (List.mem_append_right _ (List.mem_append_left _ (List.mem_of_getElem? (l := tables_1_1) (i := 37) rfl))) rfl)
set_option maxRecDepth 20000 in
theorem co_X7_put : Cond.code mX7_put.1 mX7_put.2.1 mX7_put.2.2.1 mX7_put.2.2.2 ∈ tblG := (tblG_in (List.mem_append_right _ (List.mem_append_right _ (List.mem_append_right _ (List.mem_append_left _ (List.mem_of_getElem? (l := tables_1_3) (i := 113) rfl))))) rfl)
set_option maxRecDepth 20000 in
theorem co_X8_init : Cond.code mX8_init.1 mX8_init.2.1 mX8_init.2.2.1 mX8_init.2.2.2 ∈ tblG := (tblG_in (List.mem_append_right _ (List.mem_append_right _ (List.mem_append_right _ (List.mem_append_left _ (List.mem_of_getElem? (l := tables_1_3) (i := 23) rfl))))) rfl)
set_option maxRecDepth 20000 in
theorem co_X8_tryStep : Cond.code mX8_tryStep.1 mX8_tryStep.2.1 mX8_tryStep.2.2.1 mX8_tryStep.2.2.2 ∈ tblG := (tblG_in (List.mem_append_right _ (List.mem_append_right _ (List.mem_append_right _ (List.mem_append_right _ (List.mem_append_right _ (List.mem_append_left _ (List.mem_of_getElem? (l := tables_1_5) (i := 78) rfl))))))) rfl)
set_option maxRecDepth 20000 in
theorem co_X8_keep : Cond.code mX8_keep.1 mX8_keep.2.1 mX8_keep.2.2.1 mX8_keep.2.2.2 ∈ tblG := (tblG_in (List.mem_append_right _ (List.mem_append_right _ (List.mem_append_right _ (List.mem_append_right _ (List.mem_append_right _ (List.mem_append_left _ (List.mem_of_getElem? (l := tables_1_5) (i := 84) rfl))))))) rfl)
set_option maxRecDepth 20000 in
theorem co_X8_follow : Cond.code mX8_follow.1 mX8_follow.2.1 mX8_follow.2.2.1 mX8_follow.2.2.2 ∈ tblG := (tblG_in (List.mem_append_right _ (List.mem_append_right _ (List.mem_append_right _ (List.mem_append_right _ (List.mem_append_right _ (List.mem_append_left _ (List.mem_of_getElem? (l := tables_1_5) (i := 71) rfl))))))) rfl)
set_option maxRecDepth 20000 in
theorem co_X8_stepOfMost : Cond.code mX8_stepOfMost.1 mX8_stepOfMost.2.1 mX8_stepOfMost.2.2.1 mX8_stepOfMost.2.2.2 ∈ tblG := (tblG_in (List.mem_append_right _ (List.mem_append_right _ (List.mem_append_right _ (List.mem_append_right _ (List.mem_append_right _ (List.mem_append_left _ (List.mem_of_getElem? (l := tables_1_5) (i := 97) rfl))))))) rfl)
set_option maxRecDepth 20000 in
theorem co_X9_init : Cond.code mX9_init.1 mX9_init.2.1 mX9_init.2.2.1 mX9_init.2.2.2 ∈ tblG := (tblG_in (List.mem_append_right _ (List.mem_append_right _ (List.mem_append_right _ (List.mem_append_left _ (List.mem_of_getElem? (l := tables_1_3) (i := 5) rfl))))) rfl)
set_option maxRecDepth 20000 in
theorem co_X9_comesBack : Cond.code mX9_comesBack.1 mX9_comesBack.2.1 mX9_comesBack.2.2.1 mX9_comesBack.2.2.2 ∈ tblG := (tblG_in (List.mem_append_right _ (List.mem_append_right _ (List.mem_append_right _ (List.mem_append_right _ (List.mem_append_right _ (List.mem_append_left _ (List.mem_of_getElem? (l := tables_1_5) (i := 53) rfl))))))) rfl)
set_option maxRecDepth 20000 in
theorem co_X9_find : Cond.code mX9_find.1 mX9_find.2.1 mX9_find.2.2.1 mX9_find.2.2.2 ∈ tblG := (tblG_in (List.mem_append_right _ (List.mem_append_right _ (List.mem_append_right _ (List.mem_append_right _ (List.mem_append_right _ (List.mem_append_left _ (List.mem_of_getElem? (l := tables_1_5) (i := 50) rfl))))))) rfl)
set_option maxRecDepth 20000 in
theorem co_X10_copyFrom : Cond.code mX10_copyFrom.1 mX10_copyFrom.2.1 mX10_copyFrom.2.2.1 mX10_copyFrom.2.2.2 ∈ tblG := (tblG_in (List.mem_append_right _ (List.mem_append_right _ (List.mem_append_right _ (List.mem_append_right _ (List.mem_append_left _ (List.mem_of_getElem? (l := tables_1_4) (i := 37) rfl)))))) rfl)
set_option maxRecDepth 20000 in
theorem co_X10_hasFigure : Cond.code mX10_hasFigure.1 mX10_hasFigure.2.1 mX10_hasFigure.2.2.1 mX10_hasFigure.2.2.2 ∈ tblG := (tblG_in (List.mem_append_right _ (List.mem_append_right _ (List.mem_append_right _ (List.mem_append_right _ (List.mem_append_left _ (List.mem_of_getElem? (l := tables_1_4) (i := 70) rfl)))))) rfl)
set_option maxRecDepth 20000 in
theorem co_X10_hasPerson : Cond.code mX10_hasPerson.1 mX10_hasPerson.2.1 mX10_hasPerson.2.2.1 mX10_hasPerson.2.2.2 ∈ tblG := (tblG_in (List.mem_append_right _ (List.mem_append_right _ (List.mem_append_right _ (List.mem_append_right _ (List.mem_append_left _ (List.mem_of_getElem? (l := tables_1_4) (i := 143) rfl)))))) rfl)
set_option maxRecDepth 20000 in
theorem co_X10_hasPoint : Cond.code mX10_hasPoint.1 mX10_hasPoint.2.1 mX10_hasPoint.2.2.1 mX10_hasPoint.2.2.2 ∈ tblG := (tblG_in (List.mem_append_right _ (List.mem_append_right _ (List.mem_append_right _ (List.mem_append_right _ (List.mem_append_left _ (List.mem_of_getElem? (l := tables_1_4) (i := 85) rfl)))))) rfl)
set_option maxRecDepth 20000 in
theorem co_X10_draw : Cond.code mX10_draw.1 mX10_draw.2.1 mX10_draw.2.2.1 mX10_draw.2.2.2 ∈ tblG := (tblG_in (List.mem_append_right _ (List.mem_append_right _ (List.mem_append_right _ (List.mem_append_right _ (List.mem_append_right _ (List.mem_append_left _ (List.mem_of_getElem? (l := tables_1_5) (i := 146) rfl))))))) rfl)
set_option maxRecDepth 20000 in
theorem co_X10_drawAct : Cond.code mX10_drawAct.1 mX10_drawAct.2.1 mX10_drawAct.2.2.1 mX10_drawAct.2.2.2 ∈ tblG := (tblG_in (List.mem_append_right _ (List.mem_append_right _ (List.mem_append_right _ (List.mem_append_right _ (List.mem_append_right _ (List.mem_append_left _ (List.mem_of_getElem? (l := tables_1_5) (i := 142) rfl))))))) rfl)
set_option maxRecDepth 20000 in
theorem co_X10_drawHours : Cond.code mX10_drawHours.1 mX10_drawHours.2.1 mX10_drawHours.2.2.1 mX10_drawHours.2.2.2 ∈ tblG := (tblG_in (List.mem_append_right _ (List.mem_append_right _ (List.mem_append_right _ (List.mem_append_right _ (List.mem_append_right _ (List.mem_append_left _ (List.mem_of_getElem? (l := tables_1_5) (i := 138) rfl))))))) rfl)
set_option maxRecDepth 20000 in
theorem co_X10_whoIsSpent : Cond.code mX10_whoIsSpent.1 mX10_whoIsSpent.2.1 mX10_whoIsSpent.2.2.1 mX10_whoIsSpent.2.2.2 ∈ tblG := (tblG_in (List.mem_append_right _ (List.mem_append_right _ (List.mem_append_right _ (List.mem_append_right _ (List.mem_append_left _ (List.mem_of_getElem? (l := tables_1_4) (i := 119) rfl)))))) rfl)
set_option maxRecDepth 20000 in
theorem co_X10_whoIsUpright : Cond.code mX10_whoIsUpright.1 mX10_whoIsUpright.2.1 mX10_whoIsUpright.2.2.1 mX10_whoIsUpright.2.2.2 ∈ tblG := (tblG_in (List.mem_append_right _ (List.mem_append_right _ (List.mem_append_right _ (List.mem_append_right _ (List.mem_append_left _ (List.mem_of_getElem? (l := tables_1_4) (i := 131) rfl)))))) rfl)
set_option maxRecDepth 20000 in
theorem co_X10_forWhomCame : Cond.code mX10_forWhomCame.1 mX10_forWhomCame.2.1 mX10_forWhomCame.2.2.1 mX10_forWhomCame.2.2.2 ∈ tblG := (tblG_in (List.mem_append_right _ (List.mem_append_right _ (List.mem_append_right _ (List.mem_append_right _ (List.mem_append_left _ (List.mem_of_getElem? (l := tables_1_4) (i := 89) rfl)))))) rfl)
set_option maxRecDepth 20000 in
theorem co_X10_sumOf : Cond.code mX10_sumOf.1 mX10_sumOf.2.1 mX10_sumOf.2.2.1 mX10_sumOf.2.2.2 ∈ tblG := (tblG_in (List.mem_append_right _ (List.mem_append_right _ (List.mem_append_right _ (List.mem_append_right _ (List.mem_append_left _ (List.mem_of_getElem? (l := tables_1_4) (i := 111) rfl)))))) rfl)
set_option maxRecDepth 20000 in
theorem co_X10_allBreath : Cond.code mX10_allBreath.1 mX10_allBreath.2.1 mX10_allBreath.2.2.1 mX10_allBreath.2.2.2 ∈ tblG := (tblG_in (List.mem_append_right _ (List.mem_append_right _ (List.mem_append_right _ (List.mem_append_right _ (List.mem_append_left _ (List.mem_of_getElem? (l := tables_1_4) (i := 135) rfl)))))) rfl)
set_option maxRecDepth 20000 in
theorem co_X10_allSpoken : Cond.code mX10_allSpoken.1 mX10_allSpoken.2.1 mX10_allSpoken.2.2.1 mX10_allSpoken.2.2.2 ∈ tblG := (tblG_in (List.mem_append_right _ (List.mem_append_right _ (List.mem_append_right _ (List.mem_append_right _ (List.mem_append_left _ (List.mem_of_getElem? (l := tables_1_4) (i := 115) rfl)))))) rfl)
set_option maxRecDepth 20000 in
theorem co_X10_allWalls : Cond.code mX10_allWalls.1 mX10_allWalls.2.1 mX10_allWalls.2.2.1 mX10_allWalls.2.2.2 ∈ tblG := (tblG_in (List.mem_append_right _ (List.mem_append_right _ (List.mem_append_right _ (List.mem_append_right _ (List.mem_append_left _ (List.mem_of_getElem? (l := tables_1_4) (i := 108) rfl)))))) rfl)
set_option maxRecDepth 20000 in
theorem co_X10_whoHasLeast : Cond.code mX10_whoHasLeast.1 mX10_whoHasLeast.2.1 mX10_whoHasLeast.2.2.1 mX10_whoHasLeast.2.2.2 ∈ tblG := (tblG_in (List.mem_append_right _ (List.mem_append_right _ (List.mem_append_right _ (List.mem_append_right _ (List.mem_append_right _ (List.mem_append_left _ (List.mem_of_getElem? (l := tables_1_5) (i := 105) rfl))))))) rfl)
set_option maxRecDepth 20000 in
theorem co_X11_init : Cond.code mX11_init.1 mX11_init.2.1 mX11_init.2.2.1 mX11_init.2.2.2 ∈ tblG := (tblG_in (List.mem_append_right _ (List.mem_append_left _ (List.mem_of_getElem? (l := tables_1_1) (i := 29) rfl))) rfl)
set_option maxRecDepth 20000 in
theorem co_X11_feed : Cond.code mX11_feed.1 mX11_feed.2.1 mX11_feed.2.2.1 mX11_feed.2.2.2 ∈ tblG := (tblG_in (List.mem_append_right _ (List.mem_append_right _ (List.mem_append_right _ (List.mem_append_left _ (List.mem_of_getElem? (l := tables_1_3) (i := 109) rfl))))) rfl)
set_option maxRecDepth 20000 in
theorem co_X11_end : Cond.code mX11_end.1 mX11_end.2.1 mX11_end.2.2.1 mX11_end.2.2.2 ∈ tblG := (tblG_in (List.mem_append_right _ (List.mem_append_right _ (List.mem_append_right _ (List.mem_append_left _ (List.mem_of_getElem? (l := tables_1_3) (i := 117) rfl))))) rfl)
set_option maxRecDepth 20000 in
theorem co_X11_downs : Cond.code mX11_downs.1 mX11_downs.2.1 mX11_downs.2.2.1 mX11_downs.2.2.2 ∈ tblG := (tblG_in (List.mem_append_right _ (List.mem_append_right _ (List.mem_append_right _ (List.mem_append_left _ (List.mem_of_getElem? (l := tables_1_3) (i := 121) rfl))))) rfl)
set_option maxRecDepth 20000 in
theorem co_X11_fault : Cond.code mX11_fault.1 mX11_fault.2.1 mX11_fault.2.2.1 mX11_fault.2.2.2 ∈ tblG := (tblG_in (List.mem_append_right _ (List.mem_append_right _ (List.mem_append_right _ (List.mem_append_right _ (List.mem_append_left _ (List.mem_of_getElem? (l := tables_1_4) (i := 62) rfl)))))) rfl)
set_option maxRecDepth 20000 in
theorem co_X11_person : Cond.code mX11_person.1 mX11_person.2.1 mX11_person.2.2.1 mX11_person.2.2.2 ∈ tblG := (tblG_in (List.mem_append_right _ (List.mem_append_right _ (List.mem_append_right _ (List.mem_append_right _ (List.mem_append_right _ (List.mem_append_right _ (List.mem_append_left _ (List.mem_of_getElem? (l := tables_1_6) (i := 88) rfl)))))))) rfl)
set_option maxRecDepth 20000 in
theorem co_X11_figure : Cond.code mX11_figure.1 mX11_figure.2.1 mX11_figure.2.2.1 mX11_figure.2.2.2 ∈ tblG := (tblG_in (List.mem_append_right _ (List.mem_append_right _ (List.mem_append_right _ (List.mem_append_right _ (List.mem_append_left _ (List.mem_of_getElem? (l := tables_1_4) (i := 66) rfl)))))) rfl)
set_option maxRecDepth 20000 in
theorem co_X11_point : Cond.code mX11_point.1 mX11_point.2.1 mX11_point.2.2.1 mX11_point.2.2.2 ∈ tblG := (tblG_in (List.mem_append_right _ (List.mem_append_right _ (List.mem_append_right _ (List.mem_append_right _ (List.mem_append_left _ (List.mem_of_getElem? (l := tables_1_4) (i := 81) rfl)))))) rfl)
set_option maxRecDepth 20000 in
theorem co_X11_cell : Cond.code mX11_cell.1 mX11_cell.2.1 mX11_cell.2.2.1 mX11_cell.2.2.2 ∈ tblG := (tblG_in (List.mem_append_right _ (List.mem_append_right _ (List.mem_append_right _ (List.mem_append_right _ (List.mem_append_left _ (List.mem_of_getElem? (l := tables_1_4) (i := 93) rfl)))))) rfl)
set_option maxRecDepth 20000 in
theorem co_X11_now : Cond.code mX11_now.1 mX11_now.2.1 mX11_now.2.2.1 mX11_now.2.2.2 ∈ tblG := (tblG_in (List.mem_append_right _ (List.mem_append_right _ (List.mem_append_right _ (List.mem_append_right _ (List.mem_append_left _ (List.mem_of_getElem? (l := tables_1_4) (i := 104) rfl)))))) rfl)
set_option maxRecDepth 20000 in
theorem co_X11_isSide : Cond.code mX11_isSide.1 mX11_isSide.2.1 mX11_isSide.2.2.1 mX11_isSide.2.2.2 ∈ tblG := (tblG_in (List.mem_append_right _ (List.mem_append_right _ (List.mem_append_right _ (List.mem_append_right _ (List.mem_append_left _ (List.mem_of_getElem? (l := tables_1_4) (i := 146) rfl)))))) rfl)
set_option maxRecDepth 20000 in
theorem co_X11_say : Cond.code mX11_say.1 mX11_say.2.1 mX11_say.2.2.1 mX11_say.2.2.2 ∈ tblG := (tblG_in (List.mem_append_right _ (List.mem_append_right _ (List.mem_append_right _ (List.mem_append_right _ (List.mem_append_left _ (List.mem_of_getElem? (l := tables_1_4) (i := 139) rfl)))))) rfl)
set_option maxRecDepth 20000 in
theorem co_X11_kick : Cond.code mX11_kick.1 mX11_kick.2.1 mX11_kick.2.2.1 mX11_kick.2.2.2 ∈ tblG := (tblG_in (List.mem_append_right _ (List.mem_append_right _ (List.mem_append_right _ (List.mem_append_right _ (List.mem_append_left _ (List.mem_of_getElem? (l := tables_1_4) (i := 176) rfl)))))) rfl)
set_option maxRecDepth 20000 in
theorem co_X11_rest : Cond.code mX11_rest.1 mX11_rest.2.1 mX11_rest.2.2.1 mX11_rest.2.2.2 ∈ tblG := (tblG_in (List.mem_append_right _ (List.mem_append_right _ (List.mem_append_right _ (List.mem_append_right _ (List.mem_append_left _ (List.mem_of_getElem? (l := tables_1_4) (i := 189) rfl)))))) rfl)
set_option maxRecDepth 20000 in
theorem co_X11_hours : Cond.code mX11_hours.1 mX11_hours.2.1 mX11_hours.2.2.1 mX11_hours.2.2.2 ∈ tblG := (tblG_in (List.mem_append_right _ (List.mem_append_right _ (List.mem_append_right _ (List.mem_append_right _ (List.mem_append_left _ (List.mem_of_getElem? (l := tables_1_4) (i := 201) rfl)))))) rfl)
set_option maxRecDepth 20000 in
theorem co_X11_undo : Cond.code mX11_undo.1 mX11_undo.2.1 mX11_undo.2.2.1 mX11_undo.2.2.2 ∈ tblG := (tblG_in (List.mem_append_right _ (List.mem_append_right _ (List.mem_append_right _ (List.mem_append_right _ (List.mem_append_left _ (List.mem_of_getElem? (l := tables_1_4) (i := 215) rfl)))))) rfl)
set_option maxRecDepth 20000 in
theorem co_X11_could : Cond.code mX11_could.1 mX11_could.2.1 mX11_could.2.2.1 mX11_could.2.2.2 ∈ tblG := (tblG_in (List.mem_append_right _ (List.mem_append_right _ (List.mem_append_right _ (List.mem_append_right _ (List.mem_append_left _ (List.mem_of_getElem? (l := tables_1_4) (i := 223) rfl)))))) rfl)
set_option maxRecDepth 20000 in
theorem co_X11_way : Cond.code mX11_way.1 mX11_way.2.1 mX11_way.2.2.1 mX11_way.2.2.2 ∈ tblG := (tblG_in (List.mem_append_right _ (List.mem_append_right _ (List.mem_append_right _ (List.mem_append_right _ (List.mem_append_left _ (List.mem_of_getElem? (l := tables_1_4) (i := 227) rfl)))))) rfl)
set_option maxRecDepth 20000 in
theorem co_X11_wayAt : Cond.code mX11_wayAt.1 mX11_wayAt.2.1 mX11_wayAt.2.2.1 mX11_wayAt.2.2.2 ∈ tblG := (tblG_in (List.mem_append_right _ (List.mem_append_right _ (List.mem_append_right _ (List.mem_append_right _ (List.mem_append_right _ (List.mem_append_left _ (List.mem_of_getElem? (l := tables_1_5) (i := 29) rfl))))))) rfl)
set_option maxRecDepth 20000 in
theorem co_X11_both : Cond.code mX11_both.1 mX11_both.2.1 mX11_both.2.2.1 mX11_both.2.2.2 ∈ tblG := (tblG_in (List.mem_append_right _ (List.mem_append_right _ (List.mem_append_right _ (List.mem_append_right _ (List.mem_append_right _ (List.mem_append_left _ (List.mem_of_getElem? (l := tables_1_5) (i := 33) rfl))))))) rfl)
set_option maxRecDepth 20000 in
theorem co_X11_sees : Cond.code mX11_sees.1 mX11_sees.2.1 mX11_sees.2.2.1 mX11_sees.2.2.2 ∈ tblG := (tblG_in (List.mem_append_right _ (List.mem_append_right _ (List.mem_append_right _ (List.mem_append_right _ (List.mem_append_right _ (List.mem_append_left _ (List.mem_of_getElem? (l := tables_1_5) (i := 38) rfl))))))) rfl)
set_option maxRecDepth 20000 in
theorem co_X11_undoes : Cond.code mX11_undoes.1 mX11_undoes.2.1 mX11_undoes.2.2.1 mX11_undoes.2.2.2 ∈ tblG := (tblG_in (List.mem_append_right _ (List.mem_append_right _ (List.mem_append_right _ (List.mem_append_right _ (List.mem_append_right _ (List.mem_append_left _ (List.mem_of_getElem? (l := tables_1_5) (i := 46) rfl))))))) rfl)
set_option maxRecDepth 20000 in
theorem co_X11_undoesAt : Cond.code mX11_undoesAt.1 mX11_undoesAt.2.1 mX11_undoesAt.2.2.1 mX11_undoesAt.2.2.2 ∈ tblG := (tblG_in (List.mem_append_right _ (List.mem_append_right _ (List.mem_append_right _ (List.mem_append_right _ (List.mem_append_right _ (List.mem_append_left _ (List.mem_of_getElem? (l := tables_1_5) (i := 63) rfl))))))) rfl)
set_option maxRecDepth 20000 in
theorem co_X11_tracks : Cond.code mX11_tracks.1 mX11_tracks.2.1 mX11_tracks.2.2.1 mX11_tracks.2.2.2 ∈ tblG := (tblG_in (List.mem_append_right _ (List.mem_append_right _ (List.mem_append_right _ (List.mem_append_right _ (List.mem_append_right _ (List.mem_append_left _ (List.mem_of_getElem? (l := tables_1_5) (i := 67) rfl))))))) rfl)
set_option maxRecDepth 20000 in
theorem co_X11_tracksAt : Cond.code mX11_tracksAt.1 mX11_tracksAt.2.1 mX11_tracksAt.2.2.1 mX11_tracksAt.2.2.2 ∈ tblG := (tblG_in (List.mem_append_right _ (List.mem_append_right _ (List.mem_append_right _ (List.mem_append_right _ (List.mem_append_right _ (List.mem_append_left _ (List.mem_of_getElem? (l := tables_1_5) (i := 89) rfl))))))) rfl)
set_option maxRecDepth 20000 in
theorem co_X11_tells : Cond.code mX11_tells.1 mX11_tells.2.1 mX11_tells.2.2.1 mX11_tells.2.2.2 ∈ tblG := (tblG_in (List.mem_append_right _ (List.mem_append_right _ (List.mem_append_right _ (List.mem_append_right _ (List.mem_append_right _ (List.mem_append_left _ (List.mem_of_getElem? (l := tables_1_5) (i := 93) rfl))))))) rfl)
set_option maxRecDepth 20000 in
theorem co_X11_least : Cond.code mX11_least.1 mX11_least.2.1 mX11_least.2.2.1 mX11_least.2.2.2 ∈ tblG := (tblG_in (List.mem_append_right _ (List.mem_append_right _ (List.mem_append_right _ (List.mem_append_right _ (List.mem_append_right _ (List.mem_append_left _ (List.mem_of_getElem? (l := tables_1_5) (i := 101) rfl))))))) rfl)
set_option maxRecDepth 20000 in
theorem co_X11_commonDivisor : Cond.code mX11_commonDivisor.1 mX11_commonDivisor.2.1 mX11_commonDivisor.2.2.1 mX11_commonDivisor.2.2.2 ∈ tblG := (tblG_in (List.mem_append_right _ (List.mem_append_right _ (List.mem_append_right _ (List.mem_append_right _ (List.mem_append_right _ (List.mem_append_right _ (List.mem_append_left _ (List.mem_of_getElem? (l := tables_1_6) (i := 159) rfl)))))))) rfl)
set_option maxRecDepth 20000 in
theorem co_X11_mean : Cond.code mX11_mean.1 mX11_mean.2.1 mX11_mean.2.2.1 mX11_mean.2.2.2 ∈ tblG := (tblG_in (List.mem_append_right _ (List.mem_append_right _ (List.mem_append_right _ (List.mem_append_right _ (List.mem_append_right _ (List.mem_append_right _ (List.mem_append_left _ (List.mem_of_getElem? (l := tables_1_6) (i := 156) rfl)))))))) rfl)
set_option maxRecDepth 20000 in
theorem co_X11_slipByte : Cond.code mX11_slipByte.1 mX11_slipByte.2.1 mX11_slipByte.2.2.1 mX11_slipByte.2.2.2 ∈ tblG := (tblG_in (List.mem_append_right _ (List.mem_append_right _ (List.mem_append_right _ (List.mem_append_right _ (List.mem_append_right _ (List.mem_append_left _ (List.mem_of_getElem? (l := tables_1_5) (i := 117) rfl))))))) rfl)
set_option maxRecDepth 20000 in
theorem co_X11_slipName : Cond.code mX11_slipName.1 mX11_slipName.2.1 mX11_slipName.2.2.1 mX11_slipName.2.2.2 ∈ tblG := (tblG_in (List.mem_append_right _ (List.mem_append_right _ (List.mem_append_right _ (List.mem_append_right _ (List.mem_append_right _ (List.mem_append_left _ (List.mem_of_getElem? (l := tables_1_5) (i := 113) rfl))))))) rfl)
set_option maxRecDepth 20000 in
theorem co_X11_slipText : Cond.code mX11_slipText.1 mX11_slipText.2.1 mX11_slipText.2.2.1 mX11_slipText.2.2.2 ∈ tblG := (tblG_in (List.mem_append_right _ (List.mem_append_right _ (List.mem_append_right _ (List.mem_append_right _ (List.mem_append_right _ (List.mem_append_left _ (List.mem_of_getElem? (l := tables_1_5) (i := 122) rfl))))))) rfl)
set_option maxRecDepth 20000 in
theorem co_X11_slip : Cond.code mX11_slip.1 mX11_slip.2.1 mX11_slip.2.2.1 mX11_slip.2.2.2 ∈ tblG := (tblG_in (List.mem_append_right _ (List.mem_append_right _ (List.mem_append_right _ (List.mem_append_right _ (List.mem_append_right _ (List.mem_append_left _ (List.mem_of_getElem? (l := tables_1_5) (i := 109) rfl))))))) rfl)
set_option maxRecDepth 20000 in
theorem co_X11_byteAt : Cond.code mX11_byteAt.1 mX11_byteAt.2.1 mX11_byteAt.2.2.1 mX11_byteAt.2.2.2 ∈ tblG := (tblG_in (List.mem_append_right _ (List.mem_append_right _ (List.mem_append_right _ (List.mem_append_right _ (List.mem_append_right _ (List.mem_append_left _ (List.mem_of_getElem? (l := tables_1_5) (i := 130) rfl))))))) rfl)
set_option maxRecDepth 20000 in
theorem co_X11_drawn : Cond.code mX11_drawn.1 mX11_drawn.2.1 mX11_drawn.2.2.1 mX11_drawn.2.2.2 ∈ tblG := (tblG_in (List.mem_append_right _ (List.mem_append_right _ (List.mem_append_right _ (List.mem_append_right _ (List.mem_append_right _ (List.mem_append_left _ (List.mem_of_getElem? (l := tables_1_5) (i := 134) rfl))))))) rfl)
set_option maxRecDepth 20000 in
theorem co_X11_odds : Cond.code mX11_odds.1 mX11_odds.2.1 mX11_odds.2.2.1 mX11_odds.2.2.2 ∈ tblG := (tblG_in (List.mem_append_right _ (List.mem_append_right _ (List.mem_append_right _ (List.mem_append_right _ (List.mem_append_right _ (List.mem_append_left _ (List.mem_of_getElem? (l := tables_1_5) (i := 170) rfl))))))) rfl)
set_option maxRecDepth 20000 in
theorem co_X11_book : Cond.code mX11_book.1 mX11_book.2.1 mX11_book.2.2.1 mX11_book.2.2.2 ∈ tblG := (tblG_in (List.mem_append_right _ (List.mem_append_right _ (List.mem_append_right _ (List.mem_append_right _ (List.mem_append_right _ (List.mem_append_left _ (List.mem_of_getElem? (l := tables_1_5) (i := 175) rfl))))))) rfl)
set_option maxRecDepth 20000 in
theorem co_X11_told : Cond.code mX11_told.1 mX11_told.2.1 mX11_told.2.2.1 mX11_told.2.2.2 ∈ tblG := (tblG_in (List.mem_append_right _ (List.mem_append_right _ (List.mem_append_right _ (List.mem_append_right _ (List.mem_append_right _ (List.mem_append_left _ (List.mem_of_getElem? (l := tables_1_5) (i := 234) rfl))))))) rfl)
set_option maxRecDepth 20000 in
theorem co_X11_sentence : Cond.code mX11_sentence.1 mX11_sentence.2.1 mX11_sentence.2.2.1 mX11_sentence.2.2.2 ∈ tblG := (tblG_in (List.mem_append_right _ (List.mem_append_right _ (List.mem_append_right _ (List.mem_append_right _ (List.mem_append_right _ (List.mem_append_left _ (List.mem_of_getElem? (l := tables_1_5) (i := 238) rfl))))))) rfl)
set_option maxRecDepth 20000 in
theorem co_X11_said : Cond.code mX11_said.1 mX11_said.2.1 mX11_said.2.2.1 mX11_said.2.2.2 ∈ tblG := (tblG_in (List.mem_append_right _ (List.mem_append_right _ (List.mem_append_right _ (List.mem_append_right _ (List.mem_append_right _ (List.mem_append_right _ (List.mem_append_left _ (List.mem_of_getElem? (l := tables_1_6) (i := 47) rfl)))))))) rfl)
set_option maxRecDepth 20000 in
theorem co_X11_image : Cond.code mX11_image.1 mX11_image.2.1 mX11_image.2.2.1 mX11_image.2.2.2 ∈ tblG := (tblG_in (List.mem_append_right _ (List.mem_append_right _ (List.mem_append_right _ (List.mem_append_right _ (List.mem_append_right _ (List.mem_append_right _ (List.mem_append_left _ (List.mem_of_getElem? (l := tables_1_6) (i := 72) rfl)))))))) rfl)
set_option maxRecDepth 20000 in
theorem co_X11_restore : Cond.code mX11_restore.1 mX11_restore.2.1 mX11_restore.2.2.1 mX11_restore.2.2.2 ∈ tblG := (tblG_in (List.mem_append_right _ (List.mem_append_right _ (List.mem_append_right _ (List.mem_append_right _ (List.mem_append_right _ (List.mem_append_right _ (List.mem_append_left _ (List.mem_of_getElem? (l := tables_1_6) (i := 76) rfl)))))))) rfl)
set_option maxRecDepth 20000 in
theorem co_X11_count : Cond.code mX11_count.1 mX11_count.2.1 mX11_count.2.2.1 mX11_count.2.2.2 ∈ tblG := (tblG_in (List.mem_append_right _ (List.mem_append_right _ (List.mem_append_right _ (List.mem_append_right _ (List.mem_append_right _ (List.mem_append_right _ (List.mem_append_left _ (List.mem_of_getElem? (l := tables_1_6) (i := 80) rfl)))))))) rfl)
set_option maxRecDepth 20000 in
theorem co_X12_thrown : Cond.code mX12_thrown.1 mX12_thrown.2.1 mX12_thrown.2.2.1 mX12_thrown.2.2.2 ∈ tblG := (tblG_in (List.mem_append_right _ (List.mem_append_right _ (List.mem_append_right _ (List.mem_append_right _ (List.mem_append_right _ (List.mem_append_right _ (List.mem_append_left _ (List.mem_of_getElem? (l := tables_1_6) (i := 163) rfl)))))))) rfl)
set_option maxRecDepth 20000 in
theorem co_X12_refuse : Cond.code mX12_refuse.1 mX12_refuse.2.1 mX12_refuse.2.2.1 mX12_refuse.2.2.2 ∈ tblG := (tblG_in (List.mem_append_right _ (List.mem_append_right _ (List.mem_append_right _ (List.mem_append_right _ (List.mem_append_right _ (List.mem_append_right _ (List.mem_append_right _ (List.mem_append_left _ (List.mem_of_getElem? (l := tables_1_7) (i := 218) rfl))))))))) rfl)
set_option maxRecDepth 20000 in
theorem co_X12_come : Cond.code mX12_come.1 mX12_come.2.1 mX12_come.2.2.1 mX12_come.2.2.2 ∈ tblG := (tblG_in (List.mem_append_right _ (List.mem_append_right _ (List.mem_append_right _ (List.mem_append_right _ (List.mem_append_right _ (List.mem_append_right _ (List.mem_append_left _ (List.mem_of_getElem? (l := tables_1_6) (i := 172) rfl)))))))) rfl)
set_option maxRecDepth 20000 in
theorem co_X12_feed : Cond.code mX12_feed.1 mX12_feed.2.1 mX12_feed.2.2.1 mX12_feed.2.2.2 ∈ tblG := (tblG_in (List.mem_append_right _ (List.mem_append_right _ (List.mem_append_right _ (List.mem_append_right _ (List.mem_append_right _ (List.mem_append_right _ (List.mem_append_left _ (List.mem_of_getElem? (l := tables_1_6) (i := 167) rfl)))))))) rfl)
set_option maxRecDepth 20000 in
theorem co_X12_end : Cond.code mX12_end.1 mX12_end.2.1 mX12_end.2.2.1 mX12_end.2.2.2 ∈ tblG := (tblG_in (List.mem_append_right _ (List.mem_append_right _ (List.mem_append_right _ (List.mem_append_right _ (List.mem_append_right _ (List.mem_append_right _ (List.mem_append_left _ (List.mem_of_getElem? (l := tables_1_6) (i := 176) rfl)))))))) rfl)
set_option maxRecDepth 20000 in
theorem co_X12_take : Cond.code mX12_take.1 mX12_take.2.1 mX12_take.2.2.1 mX12_take.2.2.2 ∈ tblG := (tblG_in (List.mem_append_right _ (List.mem_append_right _ (List.mem_append_right _ (List.mem_append_right _ (List.mem_append_right _ (List.mem_append_right _ (List.mem_append_right _ (List.mem_append_left _ (List.mem_of_getElem? (l := tables_1_7) (i := 106) rfl))))))))) rfl)
set_option maxRecDepth 20000 in
theorem co_X12_isIn : Cond.code mX12_isIn.1 mX12_isIn.2.1 mX12_isIn.2.2.1 mX12_isIn.2.2.2 ∈ tblG := (tblG_in (List.mem_append_right _ (List.mem_append_right _ (List.mem_append_right _ (List.mem_append_right _ (List.mem_append_right _ (List.mem_append_right _ (List.mem_append_right _ (List.mem_append_left _ (List.mem_of_getElem? (l := tables_1_7) (i := 151) rfl))))))))) rfl)
set_option maxRecDepth 20000 in
theorem co_X12_has : Cond.code mX12_has.1 mX12_has.2.1 mX12_has.2.2.1 mX12_has.2.2.2 ∈ tblG := (tblG_in (List.mem_append_right _ (List.mem_append_right _ (List.mem_append_right _ (List.mem_append_right _ (List.mem_append_right _ (List.mem_append_right _ (List.mem_append_right _ (List.mem_append_right _ (List.mem_append_left _ (List.mem_of_getElem? (l := tables_1_8) (i := 1) rfl)))))))))) rfl)
set_option maxRecDepth 20000 in
theorem co_X12_lesser : Cond.code mX12_lesser.1 mX12_lesser.2.1 mX12_lesser.2.2.1 mX12_lesser.2.2.2 ∈ tblG := (tblG_in (List.mem_append_right _ (List.mem_append_right _ (List.mem_append_right _ (List.mem_append_right _ (List.mem_append_right _ (List.mem_append_right _ (List.mem_append_right _ (List.mem_append_right _ (List.mem_append_left _ (List.mem_of_getElem? (l := tables_1_8) (i := 88) rfl)))))))))) rfl)
set_option maxRecDepth 20000 in
theorem co_X12_common : Cond.code mX12_common.1 mX12_common.2.1 mX12_common.2.2.1 mX12_common.2.2.2 ∈ tblG := (tblG_in (List.mem_append_right _ (List.mem_append_right _ (List.mem_append_right _ (List.mem_append_right _ (List.mem_append_right _ (List.mem_append_right _ (List.mem_append_right _ (List.mem_append_right _ (List.mem_append_left _ (List.mem_of_getElem? (l := tables_1_8) (i := 196) rfl)))))))))) rfl)
set_option maxRecDepth 20000 in
theorem co_X12_tapeAt : Cond.code mX12_tapeAt.1 mX12_tapeAt.2.1 mX12_tapeAt.2.2.1 mX12_tapeAt.2.2.2 ∈ tblG := (tblG_in (List.mem_append_right _ (List.mem_append_right _ (List.mem_append_right _ (List.mem_append_right _ (List.mem_append_right _ (List.mem_append_right _ (List.mem_append_right _ (List.mem_append_left _ (List.mem_of_getElem? (l := tables_1_7) (i := 120) rfl))))))))) rfl)
set_option maxRecDepth 20000 in
theorem co_X12_isDigit : Cond.code mX12_isDigit.1 mX12_isDigit.2.1 mX12_isDigit.2.2.1 mX12_isDigit.2.2.2 ∈ tblG := (tblG_in (List.mem_append_right _ (List.mem_append_right _ (List.mem_append_right _ (List.mem_append_right _ (List.mem_append_right _ (List.mem_append_right _ (List.mem_append_right _ (List.mem_append_left _ (List.mem_of_getElem? (l := tables_1_7) (i := 116) rfl))))))))) rfl)
set_option maxRecDepth 20000 in
theorem co_X12_isLetter : Cond.code mX12_isLetter.1 mX12_isLetter.2.1 mX12_isLetter.2.2.1 mX12_isLetter.2.2.2 ∈ tblG := (tblG_in (List.mem_append_right _ (List.mem_append_right _ (List.mem_append_right _ (List.mem_append_right _ (List.mem_append_right _ (List.mem_append_right _ (List.mem_append_right _ (List.mem_append_left _ (List.mem_of_getElem? (l := tables_1_7) (i := 113) rfl))))))))) rfl)
set_option maxRecDepth 20000 in
theorem co_X12_go : Cond.code mX12_go.1 mX12_go.2.1 mX12_go.2.2.1 mX12_go.2.2.2 ∈ tblG := (tblG_in (List.mem_append_right _ (List.mem_append_right _ (List.mem_append_right _ (List.mem_append_right _ (List.mem_append_right _ (List.mem_append_right _ (List.mem_append_right _ (List.mem_append_left _ (List.mem_of_getElem? (l := tables_1_7) (i := 110) rfl))))))))) rfl)
set_option maxRecDepth 20000 in
theorem co_X12_spelt : Cond.code mX12_spelt.1 mX12_spelt.2.1 mX12_spelt.2.2.1 mX12_spelt.2.2.2 ∈ tblG := (tblG_in (List.mem_append_right _ (List.mem_append_right _ (List.mem_append_right _ (List.mem_append_right _ (List.mem_append_right _ (List.mem_append_right _ (List.mem_append_right _ (List.mem_append_left _ (List.mem_of_getElem? (l := tables_1_7) (i := 136) rfl))))))))) rfl)
set_option maxRecDepth 20000 in
theorem co_X12_wordOf : Cond.code mX12_wordOf.1 mX12_wordOf.2.1 mX12_wordOf.2.2.1 mX12_wordOf.2.2.2 ∈ tblG := (tblG_in (List.mem_append_right _ (List.mem_append_right _ (List.mem_append_right _ (List.mem_append_right _ (List.mem_append_right _ (List.mem_append_right _ (List.mem_append_right _ (List.mem_append_left _ (List.mem_of_getElem? (l := tables_1_7) (i := 133) rfl))))))))) rfl)
set_option maxRecDepth 20000 in
theorem co_X12_isWord : Cond.code mX12_isWord.1 mX12_isWord.2.1 mX12_isWord.2.2.1 mX12_isWord.2.2.2 ∈ tblG := (tblG_in (List.mem_append_right _ (List.mem_append_right _ (List.mem_append_right _ (List.mem_append_right _ (List.mem_append_right _ (List.mem_append_right _ (List.mem_append_right _ (List.mem_append_left _ (List.mem_of_getElem? (l := tables_1_7) (i := 130) rfl))))))))) rfl)
set_option maxRecDepth 20000 in
theorem co_X12_isSign : Cond.code mX12_isSign.1 mX12_isSign.2.1 mX12_isSign.2.2.1 mX12_isSign.2.2.2 ∈ tblG := (tblG_in (List.mem_append_right _ (List.mem_append_right _ (List.mem_append_right _ (List.mem_append_right _ (List.mem_append_right _ (List.mem_append_right _ (List.mem_append_right _ (List.mem_append_left _ (List.mem_of_getElem? (l := tables_1_7) (i := 202) rfl))))))))) rfl)
set_option maxRecDepth 20000 in
theorem co_X12_isName : Cond.code mX12_isName.1 mX12_isName.2.1 mX12_isName.2.2.1 mX12_isName.2.2.2 ∈ tblG := (tblG_in (List.mem_append_right _ (List.mem_append_right _ (List.mem_append_right _ (List.mem_append_right _ (List.mem_append_right _ (List.mem_append_right _ (List.mem_append_right _ (List.mem_append_left _ (List.mem_of_getElem? (l := tables_1_7) (i := 183) rfl))))))))) rfl)
set_option maxRecDepth 20000 in
theorem co_X12_bad : Cond.code mX12_bad.1 mX12_bad.2.1 mX12_bad.2.2.1 mX12_bad.2.2.2 ∈ tblG := (tblG_in (List.mem_append_right _ (List.mem_append_right _ (List.mem_append_right _ (List.mem_append_right _ (List.mem_append_right _ (List.mem_append_right _ (List.mem_append_right _ (List.mem_append_left _ (List.mem_of_getElem? (l := tables_1_7) (i := 144) rfl))))))))) rfl)
set_option maxRecDepth 20000 in
theorem co_X12_readNumber : Cond.code mX12_readNumber.1 mX12_readNumber.2.1 mX12_readNumber.2.2.1 mX12_readNumber.2.2.2 ∈ tblG := (tblG_in (List.mem_append_right _ (List.mem_append_right _ (List.mem_append_right _ (List.mem_append_right _ (List.mem_append_right _ (List.mem_append_right _ (List.mem_append_right _ (List.mem_append_left _ (List.mem_of_getElem? (l := tables_1_7) (i := 148) rfl))))))))) rfl)
set_option maxRecDepth 20000 in
theorem co_X12_readEnd : Cond.code mX12_readEnd.1 mX12_readEnd.2.1 mX12_readEnd.2.2.1 mX12_readEnd.2.2.2 ∈ tblG := (tblG_in (List.mem_append_right _ (List.mem_append_right _ (List.mem_append_right _ (List.mem_append_right _ (List.mem_append_right _ (List.mem_append_right _ (List.mem_append_right _ (List.mem_append_left _ (List.mem_of_getElem? (l := tables_1_7) (i := 198) rfl))))))))) rfl)
set_option maxRecDepth 20000 in
theorem co_X12_begin : Cond.code mX12_begin.1 mX12_begin.2.1 mX12_begin.2.2.1 mX12_begin.2.2.2 ∈ tblG := (tblG_in (List.mem_append_right _ (List.mem_append_right _ (List.mem_append_right _ (List.mem_append_right _ (List.mem_append_right _ (List.mem_append_right _ (List.mem_append_right _ (List.mem_append_left _ (List.mem_of_getElem? (l := tables_1_7) (i := 102) rfl))))))))) rfl)
set_option maxRecDepth 20000 in
theorem co_X12_comesUp : Cond.code mX12_comesUp.1 mX12_comesUp.2.1 mX12_comesUp.2.2.1 mX12_comesUp.2.2.2 ∈ tblG := (tblG_in (List.mem_append_right _ (List.mem_append_right _ (List.mem_append_right _ (List.mem_append_right _ (List.mem_append_right _ (List.mem_append_right _ (List.mem_append_left _ (List.mem_of_getElem? (l := tables_1_6) (i := 189) rfl)))))))) rfl)
set_option maxRecDepth 20000 in
theorem co_X12_startSo : Cond.code mX12_startSo.1 mX12_startSo.2.1 mX12_startSo.2.2.1 mX12_startSo.2.2.2 ∈ tblG := (tblG_in (List.mem_append_right _ (List.mem_append_right _ (List.mem_append_right _ (List.mem_append_right _ (List.mem_append_right _ (List.mem_append_right _ (List.mem_append_left _ (List.mem_of_getElem? (l := tables_1_6) (i := 185) rfl)))))))) rfl)
set_option maxRecDepth 20000 in
theorem co_X12_init : Cond.code mX12_init.1 mX12_init.2.1 mX12_init.2.2.1 mX12_init.2.2.2 ∈ tblG := (tblG_in (List.mem_append_right _ (List.mem_append_right _ (List.mem_append_right _ (List.mem_append_right _ (List.mem_append_right _ (List.mem_append_right _ (List.mem_append_left _ (List.mem_of_getElem? (l := tables_1_6) (i := 180) rfl)))))))) rfl)
set_option maxRecDepth 20000 in
theorem co_X12_findIn : Cond.code mX12_findIn.1 mX12_findIn.2.1 mX12_findIn.2.2.1 mX12_findIn.2.2.2 ∈ tblG := (tblG_in (List.mem_append_right _ (List.mem_append_right _ (List.mem_append_right _ (List.mem_append_right _ (List.mem_append_right _ (List.mem_append_right _ (List.mem_append_right _ (List.mem_append_left _ (List.mem_of_getElem? (l := tables_1_7) (i := 186) rfl))))))))) rfl)
set_option maxRecDepth 20000 in
theorem co_X12_readNew : Cond.code mX12_readNew.1 mX12_readNew.2.1 mX12_readNew.2.2.1 mX12_readNew.2.2.2 ∈ tblG := (tblG_in (List.mem_append_right _ (List.mem_append_right _ (List.mem_append_right _ (List.mem_append_right _ (List.mem_append_right _ (List.mem_append_right _ (List.mem_append_right _ (List.mem_append_left _ (List.mem_of_getElem? (l := tables_1_7) (i := 179) rfl))))))))) rfl)
set_option maxRecDepth 20000 in
theorem co_X12_readFirst : Cond.code mX12_readFirst.1 mX12_readFirst.2.1 mX12_readFirst.2.2.1 mX12_readFirst.2.2.2 ∈ tblG := (tblG_in (List.mem_append_right _ (List.mem_append_right _ (List.mem_append_right _ (List.mem_append_right _ (List.mem_append_right _ (List.mem_append_right _ (List.mem_append_right _ (List.mem_append_left _ (List.mem_of_getElem? (l := tables_1_7) (i := 175) rfl))))))))) rfl)
set_option maxRecDepth 20000 in
theorem co_X12_put : Cond.code mX12_put.1 mX12_put.2.1 mX12_put.2.2.1 mX12_put.2.2.2 ∈ tblG := (tblG_in (List.mem_append_right _ (List.mem_append_right _ (List.mem_append_right _ (List.mem_append_right _ (List.mem_append_right _ (List.mem_append_right _ (List.mem_append_right _ (List.mem_append_left _ (List.mem_of_getElem? (l := tables_1_7) (i := 155) rfl))))))))) rfl)
set_option maxRecDepth 20000 in
theorem co_X12_readDowns : Cond.code mX12_readDowns.1 mX12_readDowns.2.1 mX12_readDowns.2.2.1 mX12_readDowns.2.2.2 ∈ tblG := (tblG_in (List.mem_append_right _ (List.mem_append_right _ (List.mem_append_right _ (List.mem_append_right _ (List.mem_append_right _ (List.mem_append_right _ (List.mem_append_right _ (List.mem_append_left _ (List.mem_of_getElem? (l := tables_1_7) (i := 140) rfl))))))))) rfl)
set_option maxRecDepth 20000 in
theorem co_X12_isFilled : Cond.code mX12_isFilled.1 mX12_isFilled.2.1 mX12_isFilled.2.2.1 mX12_isFilled.2.2.2 ∈ tblG := (tblG_in (List.mem_append_right _ (List.mem_append_right _ (List.mem_append_right _ (List.mem_append_right _ (List.mem_append_right _ (List.mem_append_right _ (List.mem_append_right _ (List.mem_append_left _ (List.mem_of_getElem? (l := tables_1_7) (i := 167) rfl))))))))) rfl)
set_option maxRecDepth 20000 in
theorem co_X12_readCell : Cond.code mX12_readCell.1 mX12_readCell.2.1 mX12_readCell.2.2.1 mX12_readCell.2.2.2 ∈ tblG := (tblG_in (List.mem_append_right _ (List.mem_append_right _ (List.mem_append_right _ (List.mem_append_right _ (List.mem_append_right _ (List.mem_append_right _ (List.mem_append_right _ (List.mem_append_left _ (List.mem_of_getElem? (l := tables_1_7) (i := 163) rfl))))))))) rfl)
set_option maxRecDepth 20000 in
theorem co_X12_readWall : Cond.code mX12_readWall.1 mX12_readWall.2.1 mX12_readWall.2.2.1 mX12_readWall.2.2.2 ∈ tblG := (tblG_in (List.mem_append_right _ (List.mem_append_right _ (List.mem_append_right _ (List.mem_append_right _ (List.mem_append_right _ (List.mem_append_right _ (List.mem_append_right _ (List.mem_append_left _ (List.mem_of_getElem? (l := tables_1_7) (i := 159) rfl))))))))) rfl)
set_option maxRecDepth 20000 in
theorem co_X12_readFigure : Cond.code mX12_readFigure.1 mX12_readFigure.2.1 mX12_readFigure.2.2.1 mX12_readFigure.2.2.2 ∈ tblG := (tblG_in (List.mem_append_right _ (List.mem_append_right _ (List.mem_append_right _ (List.mem_append_right _ (List.mem_append_right _ (List.mem_append_right _ (List.mem_append_right _ (List.mem_append_left _ (List.mem_of_getElem? (l := tables_1_7) (i := 171) rfl))))))))) rfl)
set_option maxRecDepth 20000 in
theorem co_X12_readPerson : Cond.code mX12_readPerson.1 mX12_readPerson.2.1 mX12_readPerson.2.2.1 mX12_readPerson.2.2.2 ∈ tblG := (tblG_in (List.mem_append_right _ (List.mem_append_right _ (List.mem_append_right _ (List.mem_append_right _ (List.mem_append_right _ (List.mem_append_right _ (List.mem_append_right _ (List.mem_append_left _ (List.mem_of_getElem? (l := tables_1_7) (i := 190) rfl))))))))) rfl)
set_option maxRecDepth 20000 in
theorem co_X12_readPoint : Cond.code mX12_readPoint.1 mX12_readPoint.2.1 mX12_readPoint.2.2.1 mX12_readPoint.2.2.2 ∈ tblG := (tblG_in (List.mem_append_right _ (List.mem_append_right _ (List.mem_append_right _ (List.mem_append_right _ (List.mem_append_right _ (List.mem_append_right _ (List.mem_append_right _ (List.mem_append_left _ (List.mem_of_getElem? (l := tables_1_7) (i := 194) rfl))))))))) rfl)
set_option maxRecDepth 20000 in
theorem co_X12_readLine : Cond.code mX12_readLine.1 mX12_readLine.2.1 mX12_readLine.2.2.1 mX12_readLine.2.2.2 ∈ tblG := (tblG_in (List.mem_append_right _ (List.mem_append_right _ (List.mem_append_right _ (List.mem_append_right _ (List.mem_append_right _ (List.mem_append_right _ (List.mem_append_right _ (List.mem_append_left _ (List.mem_of_getElem? (l := tables_1_7) (i := 126) rfl))))))))) rfl)
set_option maxRecDepth 20000 in
theorem co_X12_downs : Cond.code mX12_downs.1 mX12_downs.2.1 mX12_downs.2.2.1 mX12_downs.2.2.2 ∈ tblG := (tblG_in (List.mem_append_right _ (List.mem_append_right _ (List.mem_append_right _ (List.mem_append_right _ (List.mem_append_right _ (List.mem_append_right _ (List.mem_append_right _ (List.mem_append_left _ (List.mem_of_getElem? (l := tables_1_7) (i := 98) rfl))))))))) rfl)
set_option maxRecDepth 20000 in
theorem co_X12_fault : Cond.code mX12_fault.1 mX12_fault.2.1 mX12_fault.2.2.1 mX12_fault.2.2.2 ∈ tblG := (tblG_in (List.mem_append_right _ (List.mem_append_right _ (List.mem_append_right _ (List.mem_append_right _ (List.mem_append_right _ (List.mem_append_right _ (List.mem_append_right _ (List.mem_append_left _ (List.mem_of_getElem? (l := tables_1_7) (i := 206) rfl))))))))) rfl)
set_option maxRecDepth 20000 in
theorem co_X12_isCell : Cond.code mX12_isCell.1 mX12_isCell.2.1 mX12_isCell.2.2.1 mX12_isCell.2.2.2 ∈ tblG := (tblG_in (List.mem_append_right _ (List.mem_append_right _ (List.mem_append_right _ (List.mem_append_right _ (List.mem_append_right _ (List.mem_append_right _ (List.mem_append_right _ (List.mem_append_right _ (List.mem_append_left _ (List.mem_of_getElem? (l := tables_1_8) (i := 9) rfl)))))))))) rfl)
set_option maxRecDepth 20000 in
theorem co_X12_isFigure : Cond.code mX12_isFigure.1 mX12_isFigure.2.1 mX12_isFigure.2.2.1 mX12_isFigure.2.2.2 ∈ tblG := (tblG_in (List.mem_append_right _ (List.mem_append_right _ (List.mem_append_right _ (List.mem_append_right _ (List.mem_append_right _ (List.mem_append_right _ (List.mem_append_right _ (List.mem_append_left _ (List.mem_of_getElem? (l := tables_1_7) (i := 226) rfl))))))))) rfl)
set_option maxRecDepth 20000 in
theorem co_X12_isPerson : Cond.code mX12_isPerson.1 mX12_isPerson.2.1 mX12_isPerson.2.2.1 mX12_isPerson.2.2.2 ∈ tblG := (tblG_in (List.mem_append_right _ (List.mem_append_right _ (List.mem_append_right _ (List.mem_append_right _ (List.mem_append_right _ (List.mem_append_right _ (List.mem_append_right _ (List.mem_append_left _ (List.mem_of_getElem? (l := tables_1_7) (i := 214) rfl))))))))) rfl)
set_option maxRecDepth 20000 in
theorem co_X12_isPoint : Cond.code mX12_isPoint.1 mX12_isPoint.2.1 mX12_isPoint.2.2.1 mX12_isPoint.2.2.2 ∈ tblG := (tblG_in (List.mem_append_right _ (List.mem_append_right _ (List.mem_append_right _ (List.mem_append_right _ (List.mem_append_right _ (List.mem_append_right _ (List.mem_append_right _ (List.mem_append_left _ (List.mem_of_getElem? (l := tables_1_7) (i := 238) rfl))))))))) rfl)
set_option maxRecDepth 20000 in
theorem co_X12_isSide : Cond.code mX12_isSide.1 mX12_isSide.2.1 mX12_isSide.2.2.1 mX12_isSide.2.2.2 ∈ tblG := (tblG_in (List.mem_append_right _ (List.mem_append_right _ (List.mem_append_right _ (List.mem_append_right _ (List.mem_append_right _ (List.mem_append_right _ (List.mem_append_right _ (List.mem_append_right _ (List.mem_append_left _ (List.mem_of_getElem? (l := tables_1_8) (i := 37) rfl)))))))))) rfl)
set_option maxRecDepth 20000 in
theorem co_X12_whoIsAt : Cond.code mX12_whoIsAt.1 mX12_whoIsAt.2.1 mX12_whoIsAt.2.2.1 mX12_whoIsAt.2.2.2 ∈ tblG := (tblG_in (List.mem_append_right _ (List.mem_append_right _ (List.mem_append_right _ (List.mem_append_right _ (List.mem_append_right _ (List.mem_append_right _ (List.mem_append_right _ (List.mem_append_right _ (List.mem_append_left _ (List.mem_of_getElem? (l := tables_1_8) (i := 13) rfl)))))))))) rfl)
set_option maxRecDepth 20000 in
theorem co_X12_costOf : Cond.code mX12_costOf.1 mX12_costOf.2.1 mX12_costOf.2.2.1 mX12_costOf.2.2.2 ∈ tblG := (tblG_in (List.mem_append_right _ (List.mem_append_right _ (List.mem_append_right _ (List.mem_append_right _ (List.mem_append_right _ (List.mem_append_right _ (List.mem_append_right _ (List.mem_append_left _ (List.mem_of_getElem? (l := tables_1_7) (i := 230) rfl))))))))) rfl)
set_option maxRecDepth 20000 in
theorem co_X12_cellOn : Cond.code mX12_cellOn.1 mX12_cellOn.2.1 mX12_cellOn.2.2.1 mX12_cellOn.2.2.2 ∈ tblG := (tblG_in (List.mem_append_right _ (List.mem_append_right _ (List.mem_append_right _ (List.mem_append_right _ (List.mem_append_right _ (List.mem_append_right _ (List.mem_append_right _ (List.mem_append_right _ (List.mem_append_left _ (List.mem_of_getElem? (l := tables_1_8) (i := 53) rfl)))))))))) rfl)
set_option maxRecDepth 20000 in
theorem co_X12_onWay : Cond.code mX12_onWay.1 mX12_onWay.2.1 mX12_onWay.2.2.1 mX12_onWay.2.2.2 ∈ tblG := (tblG_in (List.mem_append_right _ (List.mem_append_right _ (List.mem_append_right _ (List.mem_append_right _ (List.mem_append_right _ (List.mem_append_right _ (List.mem_append_right _ (List.mem_append_right _ (List.mem_append_left _ (List.mem_of_getElem? (l := tables_1_8) (i := 49) rfl)))))))))) rfl)
set_option maxRecDepth 20000 in
theorem co_X12_isSettled : Cond.code mX12_isSettled.1 mX12_isSettled.2.1 mX12_isSettled.2.2.1 mX12_isSettled.2.2.2 ∈ tblG := (tblG_in (List.mem_append_right _ (List.mem_append_right _ (List.mem_append_right _ (List.mem_append_right _ (List.mem_append_right _ (List.mem_append_right _ (List.mem_append_right _ (List.mem_append_right _ (List.mem_append_left _ (List.mem_of_getElem? (l := tables_1_8) (i := 29) rfl)))))))))) rfl)
set_option maxRecDepth 20000 in
theorem co_X12_person : Cond.code mX12_person.1 mX12_person.2.1 mX12_person.2.2.1 mX12_person.2.2.2 ∈ tblG := (tblG_in (List.mem_append_right _ (List.mem_append_right _ (List.mem_append_right _ (List.mem_append_right _ (List.mem_append_right _ (List.mem_append_right _ (List.mem_append_right _ (List.mem_append_left _ (List.mem_of_getElem? (l := tables_1_7) (i := 210) rfl))))))))) rfl)
set_option maxRecDepth 20000 in
theorem co_X12_figure : Cond.code mX12_figure.1 mX12_figure.2.1 mX12_figure.2.2.1 mX12_figure.2.2.2 ∈ tblG := (tblG_in (List.mem_append_right _ (List.mem_append_right _ (List.mem_append_right _ (List.mem_append_right _ (List.mem_append_right _ (List.mem_append_right _ (List.mem_append_right _ (List.mem_append_left _ (List.mem_of_getElem? (l := tables_1_7) (i := 222) rfl))))))))) rfl)
set_option maxRecDepth 20000 in
theorem co_X12_point : Cond.code mX12_point.1 mX12_point.2.1 mX12_point.2.2.1 mX12_point.2.2.2 ∈ tblG := (tblG_in (List.mem_append_right _ (List.mem_append_right _ (List.mem_append_right _ (List.mem_append_right _ (List.mem_append_right _ (List.mem_append_right _ (List.mem_append_right _ (List.mem_append_left _ (List.mem_of_getElem? (l := tables_1_7) (i := 234) rfl))))))))) rfl)
set_option maxRecDepth 20000 in
theorem co_X12_cell : Cond.code mX12_cell.1 mX12_cell.2.1 mX12_cell.2.2.1 mX12_cell.2.2.2 ∈ tblG := (tblG_in (List.mem_append_right _ (List.mem_append_right _ (List.mem_append_right _ (List.mem_append_right _ (List.mem_append_right _ (List.mem_append_right _ (List.mem_append_right _ (List.mem_append_right _ (List.mem_append_left _ (List.mem_of_getElem? (l := tables_1_8) (i := 5) rfl)))))))))) rfl)
set_option maxRecDepth 20000 in
theorem co_X12_sum : Cond.code mX12_sum.1 mX12_sum.2.1 mX12_sum.2.2.1 mX12_sum.2.2.2 ∈ tblG := (tblG_in (List.mem_append_right _ (List.mem_append_right _ (List.mem_append_right _ (List.mem_append_right _ (List.mem_append_right _ (List.mem_append_right _ (List.mem_append_right _ (List.mem_append_right _ (List.mem_append_left _ (List.mem_of_getElem? (l := tables_1_8) (i := 21) rfl)))))))))) rfl)
set_option maxRecDepth 20000 in
theorem co_X12_who : Cond.code mX12_who.1 mX12_who.2.1 mX12_who.2.2.1 mX12_who.2.2.2 ∈ tblG := (tblG_in (List.mem_append_right _ (List.mem_append_right _ (List.mem_append_right _ (List.mem_append_right _ (List.mem_append_right _ (List.mem_append_right _ (List.mem_append_right _ (List.mem_append_right _ (List.mem_append_left _ (List.mem_of_getElem? (l := tables_1_8) (i := 25) rfl)))))))))) rfl)
set_option maxRecDepth 20000 in
theorem co_X12_now : Cond.code mX12_now.1 mX12_now.2.1 mX12_now.2.2.1 mX12_now.2.2.2 ∈ tblG := (tblG_in (List.mem_append_right _ (List.mem_append_right _ (List.mem_append_right _ (List.mem_append_right _ (List.mem_append_right _ (List.mem_append_right _ (List.mem_append_right _ (List.mem_append_right _ (List.mem_append_left _ (List.mem_of_getElem? (l := tables_1_8) (i := 17) rfl)))))))))) rfl)
set_option maxRecDepth 20000 in
theorem co_X12_snap : Cond.code mX12_snap.1 mX12_snap.2.1 mX12_snap.2.2.1 mX12_snap.2.2.2 ∈ tblG := (tblG_in (List.mem_append_right _ (List.mem_append_right _ (List.mem_append_right _ (List.mem_append_right _ (List.mem_append_right _ (List.mem_append_right _ (List.mem_append_right _ (List.mem_append_right _ (List.mem_append_left _ (List.mem_of_getElem? (l := tables_1_8) (i := 61) rfl)))))))))) rfl)
set_option maxRecDepth 20000 in
theorem co_X12_whyKick : Cond.code mX12_whyKick.1 mX12_whyKick.2.1 mX12_whyKick.2.2.1 mX12_whyKick.2.2.2 ∈ tblG := (tblG_in (List.mem_append_right _ (List.mem_append_right _ (List.mem_append_right _ (List.mem_append_right _ (List.mem_append_right _ (List.mem_append_right _ (List.mem_append_right _ (List.mem_append_right _ (List.mem_append_left _ (List.mem_of_getElem? (l := tables_1_8) (i := 57) rfl)))))))))) rfl)
set_option maxRecDepth 20000 in
theorem co_X12_why : Cond.code mX12_why.1 mX12_why.2.1 mX12_why.2.2.1 mX12_why.2.2.2 ∈ tblG := (tblG_in (List.mem_append_right _ (List.mem_append_right _ (List.mem_append_right _ (List.mem_append_right _ (List.mem_append_right _ (List.mem_append_right _ (List.mem_append_right _ (List.mem_append_right _ (List.mem_append_left _ (List.mem_of_getElem? (l := tables_1_8) (i := 45) rfl)))))))))) rfl)
set_option maxRecDepth 20000 in
theorem co_X12_live : Cond.code mX12_live.1 mX12_live.2.1 mX12_live.2.2.1 mX12_live.2.2.2 ∈ tblG := (tblG_in (List.mem_append_right _ (List.mem_append_right _ (List.mem_append_right _ (List.mem_append_right _ (List.mem_append_right _ (List.mem_append_right _ (List.mem_append_right _ (List.mem_append_right _ (List.mem_append_left _ (List.mem_of_getElem? (l := tables_1_8) (i := 65) rfl)))))))))) rfl)
set_option maxRecDepth 20000 in
theorem co_X12_act : Cond.code mX12_act.1 mX12_act.2.1 mX12_act.2.2.1 mX12_act.2.2.2 ∈ tblG := (tblG_in (List.mem_append_right _ (List.mem_append_right _ (List.mem_append_right _ (List.mem_append_right _ (List.mem_append_right _ (List.mem_append_right _ (List.mem_append_right _ (List.mem_append_right _ (List.mem_append_left _ (List.mem_of_getElem? (l := tables_1_8) (i := 41) rfl)))))))))) rfl)
set_option maxRecDepth 20000 in
theorem co_X12_say : Cond.code mX12_say.1 mX12_say.2.1 mX12_say.2.2.1 mX12_say.2.2.2 ∈ tblG := (tblG_in (List.mem_append_right _ (List.mem_append_right _ (List.mem_append_right _ (List.mem_append_right _ (List.mem_append_right _ (List.mem_append_right _ (List.mem_append_right _ (List.mem_append_right _ (List.mem_append_left _ (List.mem_of_getElem? (l := tables_1_8) (i := 33) rfl)))))))))) rfl)
set_option maxRecDepth 20000 in
theorem co_X12_kick : Cond.code mX12_kick.1 mX12_kick.2.1 mX12_kick.2.2.1 mX12_kick.2.2.2 ∈ tblG := (tblG_in (List.mem_append_right _ (List.mem_append_right _ (List.mem_append_right _ (List.mem_append_right _ (List.mem_append_right _ (List.mem_append_right _ (List.mem_append_right _ (List.mem_append_right _ (List.mem_append_left _ (List.mem_of_getElem? (l := tables_1_8) (i := 69) rfl)))))))))) rfl)
set_option maxRecDepth 20000 in
theorem co_X12_rest : Cond.code mX12_rest.1 mX12_rest.2.1 mX12_rest.2.2.1 mX12_rest.2.2.2 ∈ tblG := (tblG_in (List.mem_append_right _ (List.mem_append_right _ (List.mem_append_right _ (List.mem_append_right _ (List.mem_append_right _ (List.mem_append_right _ (List.mem_append_right _ (List.mem_append_right _ (List.mem_append_left _ (List.mem_of_getElem? (l := tables_1_8) (i := 73) rfl)))))))))) rfl)
set_option maxRecDepth 20000 in
theorem co_X12_undo : Cond.code mX12_undo.1 mX12_undo.2.1 mX12_undo.2.2.1 mX12_undo.2.2.2 ∈ tblG := (tblG_in (List.mem_append_right _ (List.mem_append_right _ (List.mem_append_right _ (List.mem_append_right _ (List.mem_append_right _ (List.mem_append_right _ (List.mem_append_right _ (List.mem_append_right _ (List.mem_append_left _ (List.mem_of_getElem? (l := tables_1_8) (i := 77) rfl)))))))))) rfl)
set_option maxRecDepth 20000 in
theorem co_X12_oneHour : Cond.code mX12_oneHour.1 mX12_oneHour.2.1 mX12_oneHour.2.2.1 mX12_oneHour.2.2.2 ∈ tblG := (tblG_in (List.mem_append_right _ (List.mem_append_right _ (List.mem_append_right _ (List.mem_append_right _ (List.mem_append_right _ (List.mem_append_right _ (List.mem_append_right _ (List.mem_append_right _ (List.mem_append_left _ (List.mem_of_getElem? (l := tables_1_8) (i := 92) rfl)))))))))) rfl)
set_option maxRecDepth 20000 in
theorem co_X12_passHours : Cond.code mX12_passHours.1 mX12_passHours.2.1 mX12_passHours.2.2.1 mX12_passHours.2.2.2 ∈ tblG := (tblG_in (List.mem_append_right _ (List.mem_append_right _ (List.mem_append_right _ (List.mem_append_right _ (List.mem_append_right _ (List.mem_append_right _ (List.mem_append_right _ (List.mem_append_right _ (List.mem_append_left _ (List.mem_of_getElem? (l := tables_1_8) (i := 85) rfl)))))))))) rfl)
set_option maxRecDepth 20000 in
theorem co_X12_hours : Cond.code mX12_hours.1 mX12_hours.2.1 mX12_hours.2.2.1 mX12_hours.2.2.2 ∈ tblG := (tblG_in (List.mem_append_right _ (List.mem_append_right _ (List.mem_append_right _ (List.mem_append_right _ (List.mem_append_right _ (List.mem_append_right _ (List.mem_append_right _ (List.mem_append_right _ (List.mem_append_left _ (List.mem_of_getElem? (l := tables_1_8) (i := 81) rfl)))))))))) rfl)
set_option maxRecDepth 20000 in
theorem co_X12_could : Cond.code mX12_could.1 mX12_could.2.1 mX12_could.2.2.1 mX12_could.2.2.2 ∈ tblG := (tblG_in (List.mem_append_right _ (List.mem_append_right _ (List.mem_append_right _ (List.mem_append_right _ (List.mem_append_right _ (List.mem_append_right _ (List.mem_append_right _ (List.mem_append_right _ (List.mem_append_left _ (List.mem_of_getElem? (l := tables_1_8) (i := 96) rfl)))))))))) rfl)
set_option maxRecDepth 20000 in
theorem co_X12_behind : Cond.code mX12_behind.1 mX12_behind.2.1 mX12_behind.2.2.1 mX12_behind.2.2.2 ∈ tblG := (tblG_in (List.mem_append_right _ (List.mem_append_right _ (List.mem_append_right _ (List.mem_append_right _ (List.mem_append_right _ (List.mem_append_right _ (List.mem_append_right _ (List.mem_append_right _ (List.mem_append_left _ (List.mem_of_getElem? (l := tables_1_8) (i := 117) rfl)))))))))) rfl)
set_option maxRecDepth 20000 in
theorem co_X12_queueUp : Cond.code mX12_queueUp.1 mX12_queueUp.2.1 mX12_queueUp.2.2.1 mX12_queueUp.2.2.2 ∈ tblG := (tblG_in (List.mem_append_right _ (List.mem_append_right _ (List.mem_append_right _ (List.mem_append_right _ (List.mem_append_right _ (List.mem_append_right _ (List.mem_append_right _ (List.mem_append_right _ (List.mem_append_left _ (List.mem_of_getElem? (l := tables_1_8) (i := 145) rfl)))))))))) rfl)
set_option maxRecDepth 20000 in
theorem co_X12_layFrom : Cond.code mX12_layFrom.1 mX12_layFrom.2.1 mX12_layFrom.2.2.1 mX12_layFrom.2.2.2 ∈ tblG := (tblG_in (List.mem_append_right _ (List.mem_append_right _ (List.mem_append_right _ (List.mem_append_right _ (List.mem_append_right _ (List.mem_append_right _ (List.mem_append_right _ (List.mem_append_right _ (List.mem_append_left _ (List.mem_of_getElem? (l := tables_1_8) (i := 141) rfl)))))))))) rfl)
set_option maxRecDepth 20000 in
theorem co_X12_placeOf : Cond.code mX12_placeOf.1 mX12_placeOf.2.1 mX12_placeOf.2.2.1 mX12_placeOf.2.2.2 ∈ tblG := (tblG_in (List.mem_append_right _ (List.mem_append_right _ (List.mem_append_right _ (List.mem_append_right _ (List.mem_append_right _ (List.mem_append_right _ (List.mem_append_right _ (List.mem_append_right _ (List.mem_append_left _ (List.mem_of_getElem? (l := tables_1_8) (i := 121) rfl)))))))))) rfl)
set_option maxRecDepth 20000 in
theorem co_X12_goalOf : Cond.code mX12_goalOf.1 mX12_goalOf.2.1 mX12_goalOf.2.2.1 mX12_goalOf.2.2.2 ∈ tblG := (tblG_in (List.mem_append_right _ (List.mem_append_right _ (List.mem_append_right _ (List.mem_append_right _ (List.mem_append_right _ (List.mem_append_right _ (List.mem_append_right _ (List.mem_append_right _ (List.mem_append_left _ (List.mem_of_getElem? (l := tables_1_8) (i := 104) rfl)))))))))) rfl)
set_option maxRecDepth 20000 in
theorem co_X12_leadsTo : Cond.code mX12_leadsTo.1 mX12_leadsTo.2.1 mX12_leadsTo.2.2.1 mX12_leadsTo.2.2.2 ∈ tblG := (tblG_in (List.mem_append_right _ (List.mem_append_right _ (List.mem_append_right _ (List.mem_append_right _ (List.mem_append_right _ (List.mem_append_right _ (List.mem_append_right _ (List.mem_append_right _ (List.mem_append_left _ (List.mem_of_getElem? (l := tables_1_8) (i := 113) rfl)))))))))) rfl)
set_option maxRecDepth 20000 in
theorem co_X12_layTo : Cond.code mX12_layTo.1 mX12_layTo.2.1 mX12_layTo.2.2.1 mX12_layTo.2.2.2 ∈ tblG := (tblG_in (List.mem_append_right _ (List.mem_append_right _ (List.mem_append_right _ (List.mem_append_right _ (List.mem_append_right _ (List.mem_append_right _ (List.mem_append_right _ (List.mem_append_right _ (List.mem_append_left _ (List.mem_of_getElem? (l := tables_1_8) (i := 108) rfl)))))))))) rfl)
set_option maxRecDepth 20000 in
theorem co_X12_isShort : Cond.code mX12_isShort.1 mX12_isShort.2.1 mX12_isShort.2.2.1 mX12_isShort.2.2.2 ∈ tblG := (tblG_in (List.mem_append_right _ (List.mem_append_right _ (List.mem_append_right _ (List.mem_append_right _ (List.mem_append_right _ (List.mem_append_right _ (List.mem_append_right _ (List.mem_append_right _ (List.mem_append_left _ (List.mem_of_getElem? (l := tables_1_8) (i := 125) rfl)))))))))) rfl)
set_option maxRecDepth 20000 in
theorem co_X12_way : Cond.code mX12_way.1 mX12_way.2.1 mX12_way.2.2.1 mX12_way.2.2.2 ∈ tblG := (tblG_in (List.mem_append_right _ (List.mem_append_right _ (List.mem_append_right _ (List.mem_append_right _ (List.mem_append_right _ (List.mem_append_right _ (List.mem_append_right _ (List.mem_append_right _ (List.mem_append_left _ (List.mem_of_getElem? (l := tables_1_8) (i := 100) rfl)))))))))) rfl)
set_option maxRecDepth 20000 in
theorem co_X12_wayAt : Cond.code mX12_wayAt.1 mX12_wayAt.2.1 mX12_wayAt.2.2.1 mX12_wayAt.2.2.2 ∈ tblG := (tblG_in (List.mem_append_right _ (List.mem_append_right _ (List.mem_append_right _ (List.mem_append_right _ (List.mem_append_right _ (List.mem_append_right _ (List.mem_append_right _ (List.mem_append_right _ (List.mem_append_left _ (List.mem_of_getElem? (l := tables_1_8) (i := 129) rfl)))))))))) rfl)
set_option maxRecDepth 20000 in
theorem co_X12_both : Cond.code mX12_both.1 mX12_both.2.1 mX12_both.2.2.1 mX12_both.2.2.2 ∈ tblG := (tblG_in (List.mem_append_right _ (List.mem_append_right _ (List.mem_append_right _ (List.mem_append_right _ (List.mem_append_right _ (List.mem_append_right _ (List.mem_append_right _ (List.mem_append_right _ (List.mem_append_left _ (List.mem_of_getElem? (l := tables_1_8) (i := 133) rfl)))))))))) rfl)
set_option maxRecDepth 20000 in
theorem co_X12_sees : Cond.code mX12_sees.1 mX12_sees.2.1 mX12_sees.2.2.1 mX12_sees.2.2.2 ∈ tblG := (tblG_in (List.mem_append_right _ (List.mem_append_right _ (List.mem_append_right _ (List.mem_append_right _ (List.mem_append_right _ (List.mem_append_right _ (List.mem_append_right _ (List.mem_append_right _ (List.mem_append_left _ (List.mem_of_getElem? (l := tables_1_8) (i := 137) rfl)))))))))) rfl)
set_option maxRecDepth 20000 in
theorem co_X12_acrossBy : Cond.code mX12_acrossBy.1 mX12_acrossBy.2.1 mX12_acrossBy.2.2.1 mX12_acrossBy.2.2.2 ∈ tblG := (tblG_in (List.mem_append_right _ (List.mem_append_right _ (List.mem_append_right _ (List.mem_append_right _ (List.mem_append_right _ (List.mem_append_right _ (List.mem_append_right _ (List.mem_append_right _ (List.mem_append_left _ (List.mem_of_getElem? (l := tables_1_8) (i := 157) rfl)))))))))) rfl)
set_option maxRecDepth 20000 in
theorem co_X12_downBy : Cond.code mX12_downBy.1 mX12_downBy.2.1 mX12_downBy.2.2.1 mX12_downBy.2.2.2 ∈ tblG := (tblG_in (List.mem_append_right _ (List.mem_append_right _ (List.mem_append_right _ (List.mem_append_right _ (List.mem_append_right _ (List.mem_append_right _ (List.mem_append_right _ (List.mem_append_right _ (List.mem_append_left _ (List.mem_of_getElem? (l := tables_1_8) (i := 161) rfl)))))))))) rfl)
set_option maxRecDepth 20000 in
theorem co_X12_doesUndo : Cond.code mX12_doesUndo.1 mX12_doesUndo.2.1 mX12_doesUndo.2.2.1 mX12_doesUndo.2.2.2 ∈ tblG := (tblG_in (List.mem_append_right _ (List.mem_append_right _ (List.mem_append_right _ (List.mem_append_right _ (List.mem_append_right _ (List.mem_append_right _ (List.mem_append_right _ (List.mem_append_right _ (List.mem_append_left _ (List.mem_of_getElem? (l := tables_1_8) (i := 153) rfl)))))))))) rfl)
set_option maxRecDepth 20000 in
theorem co_X12_undoes : Cond.code mX12_undoes.1 mX12_undoes.2.1 mX12_undoes.2.2.1 mX12_undoes.2.2.2 ∈ tblG := (tblG_in (List.mem_append_right _ (List.mem_append_right _ (List.mem_append_right _ (List.mem_append_right _ (List.mem_append_right _ (List.mem_append_right _ (List.mem_append_right _ (List.mem_append_right _ (List.mem_append_left _ (List.mem_of_getElem? (l := tables_1_8) (i := 149) rfl)))))))))) rfl)
set_option maxRecDepth 20000 in
theorem co_X12_undoesAt : Cond.code mX12_undoesAt.1 mX12_undoesAt.2.1 mX12_undoesAt.2.2.1 mX12_undoesAt.2.2.2 ∈ tblG := (tblG_in (List.mem_append_right _ (List.mem_append_right _ (List.mem_append_right _ (List.mem_append_right _ (List.mem_append_right _ (List.mem_append_right _ (List.mem_append_right _ (List.mem_append_right _ (List.mem_append_left _ (List.mem_of_getElem? (l := tables_1_8) (i := 165) rfl)))))))))) rfl)
set_option maxRecDepth 20000 in
theorem co_X12_isStep : Cond.code mX12_isStep.1 mX12_isStep.2.1 mX12_isStep.2.2.1 mX12_isStep.2.2.2 ∈ tblG := (tblG_in (List.mem_append_right _ (List.mem_append_right _ (List.mem_append_right _ (List.mem_append_right _ (List.mem_append_right _ (List.mem_append_right _ (List.mem_append_right _ (List.mem_append_right _ (List.mem_append_left _ (List.mem_of_getElem? (l := tables_1_8) (i := 177) rfl)))))))))) rfl)
set_option maxRecDepth 20000 in
theorem co_X12_stepsOf : Cond.code mX12_stepsOf.1 mX12_stepsOf.2.1 mX12_stepsOf.2.2.1 mX12_stepsOf.2.2.2 ∈ tblG := (tblG_in (List.mem_append_right _ (List.mem_append_right _ (List.mem_append_right _ (List.mem_append_right _ (List.mem_append_right _ (List.mem_append_right _ (List.mem_append_right _ (List.mem_append_right _ (List.mem_append_left _ (List.mem_of_getElem? (l := tables_1_8) (i := 173) rfl)))))))))) rfl)
set_option maxRecDepth 20000 in
theorem co_X12_tracks : Cond.code mX12_tracks.1 mX12_tracks.2.1 mX12_tracks.2.2.1 mX12_tracks.2.2.2 ∈ tblG := (tblG_in (List.mem_append_right _ (List.mem_append_right _ (List.mem_append_right _ (List.mem_append_right _ (List.mem_append_right _ (List.mem_append_right _ (List.mem_append_right _ (List.mem_append_right _ (List.mem_append_left _ (List.mem_of_getElem? (l := tables_1_8) (i := 169) rfl)))))))))) rfl)
set_option maxRecDepth 20000 in
theorem co_X12_tracksAt : Cond.code mX12_tracksAt.1 mX12_tracksAt.2.1 mX12_tracksAt.2.2.1 mX12_tracksAt.2.2.2 ∈ tblG := (tblG_in (List.mem_append_right _ (List.mem_append_right _ (List.mem_append_right _ (List.mem_append_right _ (List.mem_append_right _ (List.mem_append_right _ (List.mem_append_right _ (List.mem_append_right _ (List.mem_append_left _ (List.mem_of_getElem? (l := tables_1_8) (i := 181) rfl)))))))))) rfl)
set_option maxRecDepth 20000 in
theorem co_X12_tells : Cond.code mX12_tells.1 mX12_tells.2.1 mX12_tells.2.2.1 mX12_tells.2.2.2 ∈ tblG := (tblG_in (List.mem_append_right _ (List.mem_append_right _ (List.mem_append_right _ (List.mem_append_right _ (List.mem_append_right _ (List.mem_append_right _ (List.mem_append_right _ (List.mem_append_right _ (List.mem_append_left _ (List.mem_of_getElem? (l := tables_1_8) (i := 185) rfl)))))))))) rfl)
set_option maxRecDepth 20000 in
theorem co_X12_least : Cond.code mX12_least.1 mX12_least.2.1 mX12_least.2.2.1 mX12_least.2.2.2 ∈ tblG := (tblG_in (List.mem_append_right _ (List.mem_append_right _ (List.mem_append_right _ (List.mem_append_right _ (List.mem_append_right _ (List.mem_append_right _ (List.mem_append_right _ (List.mem_append_right _ (List.mem_append_left _ (List.mem_of_getElem? (l := tables_1_8) (i := 189) rfl)))))))))) rfl)
set_option maxRecDepth 20000 in
theorem co_X12_mean : Cond.code mX12_mean.1 mX12_mean.2.1 mX12_mean.2.2.1 mX12_mean.2.2.2 ∈ tblG := (tblG_in (List.mem_append_right _ (List.mem_append_right _ (List.mem_append_right _ (List.mem_append_right _ (List.mem_append_right _ (List.mem_append_right _ (List.mem_append_right _ (List.mem_append_right _ (List.mem_append_left _ (List.mem_of_getElem? (l := tables_1_8) (i := 193) rfl)))))))))) rfl)
set_option maxRecDepth 20000 in
theorem co_X12_write : Cond.code mX12_write.1 mX12_write.2.1 mX12_write.2.2.1 mX12_write.2.2.2 ∈ tblG := (tblG_in (List.mem_append_right _ (List.mem_append_right _ (List.mem_append_right _ (List.mem_append_right _ (List.mem_append_right _ (List.mem_append_right _ (List.mem_append_right _ (List.mem_append_right _ (List.mem_append_left _ (List.mem_of_getElem? (l := tables_1_8) (i := 208) rfl)))))))))) rfl)
set_option maxRecDepth 20000 in
theorem co_X12_writeWord : Cond.code mX12_writeWord.1 mX12_writeWord.2.1 mX12_writeWord.2.2.1 mX12_writeWord.2.2.2 ∈ tblG := (tblG_in (List.mem_append_right _ (List.mem_append_right _ (List.mem_append_right _ (List.mem_append_right _ (List.mem_append_right _ (List.mem_append_right _ (List.mem_append_right _ (List.mem_append_right _ (List.mem_append_left _ (List.mem_of_getElem? (l := tables_1_8) (i := 204) rfl)))))))))) rfl)
set_option maxRecDepth 20000 in
theorem co_X12_writeNext : Cond.code mX12_writeNext.1 mX12_writeNext.2.1 mX12_writeNext.2.2.1 mX12_writeNext.2.2.2 ∈ tblG := (tblG_in (List.mem_append_right _ (List.mem_append_right _ (List.mem_append_right _ (List.mem_append_right _ (List.mem_append_right _ (List.mem_append_right _ (List.mem_append_right _ (List.mem_append_right _ (List.mem_append_left _ (List.mem_of_getElem? (l := tables_1_8) (i := 212) rfl)))))))))) rfl)
set_option maxRecDepth 20000 in
theorem co_X12_writeDigit : Cond.code mX12_writeDigit.1 mX12_writeDigit.2.1 mX12_writeDigit.2.2.1 mX12_writeDigit.2.2.2 ∈ tblG := (tblG_in (List.mem_append_right _ (List.mem_append_right _ (List.mem_append_right _ (List.mem_append_right _ (List.mem_append_right _ (List.mem_append_right _ (List.mem_append_right _ (List.mem_append_right _ (List.mem_append_left _ (List.mem_of_getElem? (l := tables_1_8) (i := 216) rfl)))))))))) rfl)
set_option maxRecDepth 20000 in
theorem co_X12_slip : Cond.code mX12_slip.1 mX12_slip.2.1 mX12_slip.2.2.1 mX12_slip.2.2.2 ∈ tblG := (tblG_in (List.mem_append_right _ (List.mem_append_right _ (List.mem_append_right _ (List.mem_append_right _ (List.mem_append_right _ (List.mem_append_right _ (List.mem_append_right _ (List.mem_append_right _ (List.mem_append_left _ (List.mem_of_getElem? (l := tables_1_8) (i := 200) rfl)))))))))) rfl)
set_option maxRecDepth 20000 in
theorem co_X12_byteAt : Cond.code mX12_byteAt.1 mX12_byteAt.2.1 mX12_byteAt.2.2.1 mX12_byteAt.2.2.2 ∈ tblG := (tblG_in (List.mem_append_right _ (List.mem_append_right _ (List.mem_append_right _ (List.mem_append_right _ (List.mem_append_right _ (List.mem_append_right _ (List.mem_append_right _ (List.mem_append_right _ (List.mem_append_left _ (List.mem_of_getElem? (l := tables_1_8) (i := 220) rfl)))))))))) rfl)
set_option maxRecDepth 20000 in
theorem co_X12_draw : Cond.code mX12_draw.1 mX12_draw.2.1 mX12_draw.2.2.1 mX12_draw.2.2.2 ∈ tblG := (tblG_in (List.mem_append_right _ (List.mem_append_right _ (List.mem_append_right _ (List.mem_append_right _ (List.mem_append_right _ (List.mem_append_right _ (List.mem_append_right _ (List.mem_append_right _ (List.mem_append_left _ (List.mem_of_getElem? (l := tables_1_8) (i := 236) rfl)))))))))) rfl)
set_option maxRecDepth 20000 in
theorem co_X12_doIf : Cond.code mX12_doIf.1 mX12_doIf.2.1 mX12_doIf.2.2.1 mX12_doIf.2.2.2 ∈ tblG := (tblG_in (List.mem_append_right _ (List.mem_append_right _ (List.mem_append_right _ (List.mem_append_right _ (List.mem_append_right _ (List.mem_append_right _ (List.mem_append_right _ (List.mem_append_right _ (List.mem_append_right _ (List.mem_of_getElem? (l := tables_1_9) (i := 1) rfl)))))))))) rfl)
set_option maxRecDepth 20000 in
theorem co_X12_drawsFor : Cond.code mX12_drawsFor.1 mX12_drawsFor.2.1 mX12_drawsFor.2.2.1 mX12_drawsFor.2.2.2 ∈ tblG := (tblG_in (List.mem_append_right _ (List.mem_append_right _ (List.mem_append_right _ (List.mem_append_right _ (List.mem_append_right _ (List.mem_append_right _ (List.mem_append_right _ (List.mem_append_right _ (List.mem_append_left _ (List.mem_of_getElem? (l := tables_1_8) (i := 232) rfl)))))))))) rfl)
set_option maxRecDepth 20000 in
theorem co_X12_drawHours : Cond.code mX12_drawHours.1 mX12_drawHours.2.1 mX12_drawHours.2.2.1 mX12_drawHours.2.2.2 ∈ tblG := (tblG_in (List.mem_append_right _ (List.mem_append_right _ (List.mem_append_right _ (List.mem_append_right _ (List.mem_append_right _ (List.mem_append_right _ (List.mem_append_right _ (List.mem_append_right _ (List.mem_append_left _ (List.mem_of_getElem? (l := tables_1_8) (i := 228) rfl)))))))))) rfl)
set_option maxRecDepth 20000 in
theorem co_X12_drawn : Cond.code mX12_drawn.1 mX12_drawn.2.1 mX12_drawn.2.2.1 mX12_drawn.2.2.2 ∈ tblG := (tblG_in (List.mem_append_right _ (List.mem_append_right _ (List.mem_append_right _ (List.mem_append_right _ (List.mem_append_right _ (List.mem_append_right _ (List.mem_append_right _ (List.mem_append_right _ (List.mem_append_left _ (List.mem_of_getElem? (l := tables_1_8) (i := 224) rfl)))))))))) rfl)
set_option maxRecDepth 20000 in
theorem co_X12_layAside : Cond.code mX12_layAside.1 mX12_layAside.2.1 mX12_layAside.2.2.1 mX12_layAside.2.2.2 ∈ tblG := (tblG_in (List.mem_append_right _ (List.mem_append_right _ (List.mem_append_right _ (List.mem_append_right _ (List.mem_append_right _ (List.mem_append_right _ (List.mem_append_right _ (List.mem_append_right _ (List.mem_append_right _ (List.mem_of_getElem? (l := tables_1_9) (i := 9) rfl)))))))))) rfl)
set_option maxRecDepth 20000 in
theorem co_X12_takeBack : Cond.code mX12_takeBack.1 mX12_takeBack.2.1 mX12_takeBack.2.2.1 mX12_takeBack.2.2.2 ∈ tblG := (tblG_in (List.mem_append_right _ (List.mem_append_right _ (List.mem_append_right _ (List.mem_append_right _ (List.mem_append_right _ (List.mem_append_right _ (List.mem_append_right _ (List.mem_append_right _ (List.mem_append_right _ (List.mem_of_getElem? (l := tables_1_9) (i := 13) rfl)))))))))) rfl)
set_option maxRecDepth 20000 in
theorem co_X12_odds : Cond.code mX12_odds.1 mX12_odds.2.1 mX12_odds.2.2.1 mX12_odds.2.2.2 ∈ tblG := (tblG_in (List.mem_append_right _ (List.mem_append_right _ (List.mem_append_right _ (List.mem_append_right _ (List.mem_append_right _ (List.mem_append_right _ (List.mem_append_right _ (List.mem_append_right _ (List.mem_append_right _ (List.mem_of_getElem? (l := tables_1_9) (i := 5) rfl)))))))))) rfl)
set_option maxRecDepth 20000 in
theorem co_X12_keep : Cond.code mX12_keep.1 mX12_keep.2.1 mX12_keep.2.2.1 mX12_keep.2.2.2 ∈ tblG := (tblG_in (List.mem_append_right _ (List.mem_append_right _ (List.mem_append_right _ (List.mem_append_right _ (List.mem_append_right _ (List.mem_append_right _ (List.mem_append_right _ (List.mem_append_right _ (List.mem_append_right _ (List.mem_of_getElem? (l := tables_1_9) (i := 25) rfl)))))))))) rfl)
set_option maxRecDepth 20000 in
theorem co_X12_readNamed : Cond.code mX12_readNamed.1 mX12_readNamed.2.1 mX12_readNamed.2.2.1 mX12_readNamed.2.2.2 ∈ tblG := (tblG_in (List.mem_append_right _ (List.mem_append_right _ (List.mem_append_right _ (List.mem_append_right _ (List.mem_append_right _ (List.mem_append_right _ (List.mem_append_right _ (List.mem_append_right _ (List.mem_append_right _ (List.mem_of_getElem? (l := tables_1_9) (i := 33) rfl)))))))))) rfl)
set_option maxRecDepth 20000 in
theorem co_X12_readSide : Cond.code mX12_readSide.1 mX12_readSide.2.1 mX12_readSide.2.2.1 mX12_readSide.2.2.2 ∈ tblG := (tblG_in (List.mem_append_right _ (List.mem_append_right _ (List.mem_append_right _ (List.mem_append_right _ (List.mem_append_right _ (List.mem_append_right _ (List.mem_append_right _ (List.mem_append_right _ (List.mem_append_right _ (List.mem_of_getElem? (l := tables_1_9) (i := 37) rfl)))))))))) rfl)
set_option maxRecDepth 20000 in
theorem co_X12_readDoes : Cond.code mX12_readDoes.1 mX12_readDoes.2.1 mX12_readDoes.2.2.1 mX12_readDoes.2.2.2 ∈ tblG := (tblG_in (List.mem_append_right _ (List.mem_append_right _ (List.mem_append_right _ (List.mem_append_right _ (List.mem_append_right _ (List.mem_append_right _ (List.mem_append_right _ (List.mem_append_right _ (List.mem_append_right _ (List.mem_of_getElem? (l := tables_1_9) (i := 29) rfl)))))))))) rfl)
set_option maxRecDepth 20000 in
theorem co_X12_readBookLine : Cond.code mX12_readBookLine.1 mX12_readBookLine.2.1 mX12_readBookLine.2.2.1 mX12_readBookLine.2.2.2 ∈ tblG := (tblG_in (List.mem_append_right _ (List.mem_append_right _ (List.mem_append_right _ (List.mem_append_right _ (List.mem_append_right _ (List.mem_append_right _ (List.mem_append_right _ (List.mem_append_right _ (List.mem_append_right _ (List.mem_of_getElem? (l := tables_1_9) (i := 21) rfl)))))))))) rfl)
set_option maxRecDepth 20000 in
theorem co_X12_goBy : Cond.code mX12_goBy.1 mX12_goBy.2.1 mX12_goBy.2.2.1 mX12_goBy.2.2.2 ∈ tblG := (tblG_in (List.mem_append_right _ (List.mem_append_right _ (List.mem_append_right _ (List.mem_append_right _ (List.mem_append_right _ (List.mem_append_right _ (List.mem_append_right _ (List.mem_append_right _ (List.mem_append_right _ (List.mem_of_getElem? (l := tables_1_9) (i := 41) rfl)))))))))) rfl)
set_option maxRecDepth 20000 in
theorem co_X12_stay : Cond.code mX12_stay.1 mX12_stay.2.1 mX12_stay.2.2.1 mX12_stay.2.2.2 ∈ tblG := (tblG_in (List.mem_append_right _ (List.mem_append_right _ (List.mem_append_right _ (List.mem_append_right _ (List.mem_append_right _ (List.mem_append_right _ (List.mem_append_right _ (List.mem_append_right _ (List.mem_append_right _ (List.mem_of_getElem? (l := tables_1_9) (i := 45) rfl)))))))))) rfl)
set_option maxRecDepth 20000 in
theorem co_X12_book : Cond.code mX12_book.1 mX12_book.2.1 mX12_book.2.2.1 mX12_book.2.2.2 ∈ tblG := (tblG_in (List.mem_append_right _ (List.mem_append_right _ (List.mem_append_right _ (List.mem_append_right _ (List.mem_append_right _ (List.mem_append_right _ (List.mem_append_right _ (List.mem_append_right _ (List.mem_append_right _ (List.mem_of_getElem? (l := tables_1_9) (i := 17) rfl)))))))))) rfl)
set_option maxRecDepth 20000 in
theorem co_X12_told : Cond.code mX12_told.1 mX12_told.2.1 mX12_told.2.2.1 mX12_told.2.2.2 ∈ tblG := (tblG_in (List.mem_append_right _ (List.mem_append_right _ (List.mem_append_right _ (List.mem_append_right _ (List.mem_append_right _ (List.mem_append_right _ (List.mem_append_right _ (List.mem_append_right _ (List.mem_append_right _ (List.mem_of_getElem? (l := tables_1_9) (i := 49) rfl)))))))))) rfl)
set_option maxRecDepth 20000 in
theorem co_X12_readThat : Cond.code mX12_readThat.1 mX12_readThat.2.1 mX12_readThat.2.2.1 mX12_readThat.2.2.2 ∈ tblG := (tblG_in (List.mem_append_right _ (List.mem_append_right _ (List.mem_append_right _ (List.mem_append_right _ (List.mem_append_right _ (List.mem_append_right _ (List.mem_append_right _ (List.mem_append_right _ (List.mem_append_right _ (List.mem_of_getElem? (l := tables_1_9) (i := 85) rfl)))))))))) rfl)
set_option maxRecDepth 20000 in
theorem co_X12_isBy : Cond.code mX12_isBy.1 mX12_isBy.2.1 mX12_isBy.2.2.1 mX12_isBy.2.2.2 ∈ tblG := (tblG_in (List.mem_append_right _ (List.mem_append_right _ (List.mem_append_right _ (List.mem_append_right _ (List.mem_append_right _ (List.mem_append_right _ (List.mem_append_right _ (List.mem_append_right _ (List.mem_append_right _ (List.mem_of_getElem? (l := tables_1_9) (i := 101) rfl)))))))))) rfl)
set_option maxRecDepth 20000 in
theorem co_X12_saysOne : Cond.code mX12_saysOne.1 mX12_saysOne.2.1 mX12_saysOne.2.2.1 mX12_saysOne.2.2.2 ∈ tblG := (tblG_in (List.mem_append_right _ (List.mem_append_right _ (List.mem_append_right _ (List.mem_append_right _ (List.mem_append_right _ (List.mem_append_right _ (List.mem_append_right _ (List.mem_append_right _ (List.mem_append_right _ (List.mem_of_getElem? (l := tables_1_9) (i := 77) rfl)))))))))) rfl)
set_option maxRecDepth 20000 in
theorem co_X12_readOf : Cond.code mX12_readOf.1 mX12_readOf.2.1 mX12_readOf.2.2.1 mX12_readOf.2.2.2 ∈ tblG := (tblG_in (List.mem_append_right _ (List.mem_append_right _ (List.mem_append_right _ (List.mem_append_right _ (List.mem_append_right _ (List.mem_append_right _ (List.mem_append_right _ (List.mem_append_right _ (List.mem_append_right _ (List.mem_of_getElem? (l := tables_1_9) (i := 81) rfl)))))))))) rfl)
set_option maxRecDepth 20000 in
theorem co_X12_readCompare : Cond.code mX12_readCompare.1 mX12_readCompare.2.1 mX12_readCompare.2.2.1 mX12_readCompare.2.2.2 ∈ tblG := (tblG_in (List.mem_append_right _ (List.mem_append_right _ (List.mem_append_right _ (List.mem_append_right _ (List.mem_append_right _ (List.mem_append_right _ (List.mem_append_right _ (List.mem_append_right _ (List.mem_append_right _ (List.mem_of_getElem? (l := tables_1_9) (i := 89) rfl)))))))))) rfl)
set_option maxRecDepth 20000 in
theorem co_X12_readAnd : Cond.code mX12_readAnd.1 mX12_readAnd.2.1 mX12_readAnd.2.2.1 mX12_readAnd.2.2.2 ∈ tblG := (tblG_in (List.mem_append_right _ (List.mem_append_right _ (List.mem_append_right _ (List.mem_append_right _ (List.mem_append_right _ (List.mem_append_right _ (List.mem_append_right _ (List.mem_append_right _ (List.mem_append_right _ (List.mem_of_getElem? (l := tables_1_9) (i := 61) rfl)))))))))) rfl)
set_option maxRecDepth 20000 in
theorem co_X12_readBracket : Cond.code mX12_readBracket.1 mX12_readBracket.2.1 mX12_readBracket.2.2.1 mX12_readBracket.2.2.2 ∈ tblG := (tblG_in (List.mem_append_right _ (List.mem_append_right _ (List.mem_append_right _ (List.mem_append_right _ (List.mem_append_right _ (List.mem_append_right _ (List.mem_append_right _ (List.mem_append_right _ (List.mem_append_right _ (List.mem_of_getElem? (l := tables_1_9) (i := 69) rfl)))))))))) rfl)
set_option maxRecDepth 20000 in
theorem co_X12_readNot : Cond.code mX12_readNot.1 mX12_readNot.2.1 mX12_readNot.2.2.1 mX12_readNot.2.2.2 ∈ tblG := (tblG_in (List.mem_append_right _ (List.mem_append_right _ (List.mem_append_right _ (List.mem_append_right _ (List.mem_append_right _ (List.mem_append_right _ (List.mem_append_right _ (List.mem_append_right _ (List.mem_append_right _ (List.mem_of_getElem? (l := tables_1_9) (i := 73) rfl)))))))))) rfl)
set_option maxRecDepth 20000 in
theorem co_X12_readOr : Cond.code mX12_readOr.1 mX12_readOr.2.1 mX12_readOr.2.2.1 mX12_readOr.2.2.2 ∈ tblG := (tblG_in (List.mem_append_right _ (List.mem_append_right _ (List.mem_append_right _ (List.mem_append_right _ (List.mem_append_right _ (List.mem_append_right _ (List.mem_append_right _ (List.mem_append_right _ (List.mem_append_right _ (List.mem_of_getElem? (l := tables_1_9) (i := 57) rfl)))))))))) rfl)
set_option maxRecDepth 20000 in
theorem co_X12_readSaid : Cond.code mX12_readSaid.1 mX12_readSaid.2.1 mX12_readSaid.2.2.1 mX12_readSaid.2.2.2 ∈ tblG := (tblG_in (List.mem_append_right _ (List.mem_append_right _ (List.mem_append_right _ (List.mem_append_right _ (List.mem_append_right _ (List.mem_append_right _ (List.mem_append_right _ (List.mem_append_right _ (List.mem_append_right _ (List.mem_of_getElem? (l := tables_1_9) (i := 65) rfl)))))))))) rfl)
set_option maxRecDepth 20000 in
theorem co_X12_sentence : Cond.code mX12_sentence.1 mX12_sentence.2.1 mX12_sentence.2.2.1 mX12_sentence.2.2.2 ∈ tblG := (tblG_in (List.mem_append_right _ (List.mem_append_right _ (List.mem_append_right _ (List.mem_append_right _ (List.mem_append_right _ (List.mem_append_right _ (List.mem_append_right _ (List.mem_append_right _ (List.mem_append_right _ (List.mem_of_getElem? (l := tables_1_9) (i := 53) rfl)))))))))) rfl)
set_option maxRecDepth 20000 in
theorem co_X12_holds : Cond.code mX12_holds.1 mX12_holds.2.1 mX12_holds.2.2.1 mX12_holds.2.2.2 ∈ tblG := (tblG_in (List.mem_append_right _ (List.mem_append_right _ (List.mem_append_right _ (List.mem_append_right _ (List.mem_append_right _ (List.mem_append_right _ (List.mem_append_right _ (List.mem_append_right _ (List.mem_append_right _ (List.mem_of_getElem? (l := tables_1_9) (i := 97) rfl)))))))))) rfl)
set_option maxRecDepth 20000 in
theorem co_X12_said : Cond.code mX12_said.1 mX12_said.2.1 mX12_said.2.2.1 mX12_said.2.2.2 ∈ tblG := (tblG_in (List.mem_append_right _ (List.mem_append_right _ (List.mem_append_right _ (List.mem_append_right _ (List.mem_append_right _ (List.mem_append_right _ (List.mem_append_right _ (List.mem_append_right _ (List.mem_append_right _ (List.mem_of_getElem? (l := tables_1_9) (i := 93) rfl)))))))))) rfl)
set_option maxRecDepth 20000 in
theorem co_X12_image : Cond.code mX12_image.1 mX12_image.2.1 mX12_image.2.2.1 mX12_image.2.2.2 ∈ tblG := (tblG_in (List.mem_append_right _ (List.mem_append_right _ (List.mem_append_right _ (List.mem_append_right _ (List.mem_append_right _ (List.mem_append_right _ (List.mem_append_right _ (List.mem_append_right _ (List.mem_append_right _ (List.mem_of_getElem? (l := tables_1_9) (i := 105) rfl)))))))))) rfl)
set_option maxRecDepth 20000 in
theorem co_X12_restore : Cond.code mX12_restore.1 mX12_restore.2.1 mX12_restore.2.2.1 mX12_restore.2.2.2 ∈ tblG := (tblG_in (List.mem_append_right _ (List.mem_append_right _ (List.mem_append_right _ (List.mem_append_right _ (List.mem_append_right _ (List.mem_append_right _ (List.mem_append_right _ (List.mem_append_right _ (List.mem_append_right _ (List.mem_of_getElem? (l := tables_1_9) (i := 109) rfl)))))))))) rfl)
set_option maxRecDepth 20000 in
theorem co_X12_count : Cond.code mX12_count.1 mX12_count.2.1 mX12_count.2.2.1 mX12_count.2.2.2 ∈ tblG := (tblG_in (List.mem_append_right _ (List.mem_append_right _ (List.mem_append_right _ (List.mem_append_right _ (List.mem_append_right _ (List.mem_append_right _ (List.mem_append_right _ (List.mem_append_right _ (List.mem_append_right _ (List.mem_of_getElem? (l := tables_1_9) (i := 113) rfl)))))))))) rfl)
set_option maxRecDepth 20000 in
theorem im_X7_byteOf : Cond.instanceMethod mX7_byteOf.1 ∈ tblG := (tblG_in (List.mem_append_right _ (List.mem_append_right _ (List.mem_append_right _ (List.mem_append_left _ (List.mem_of_getElem? (l := tables_1_3) (i := 154) rfl))))) rfl)
set_option maxRecDepth 20000 in
theorem se_X7_byteOf : Cond.selects mX7_byteOf.1.cls mX7_byteOf.1 mX7_byteOf.1 ∈ tblG := (tblG_in (List.mem_append_right _ (List.mem_append_right _ (List.mem_append_right _ (List.mem_append_left _ (List.mem_of_getElem? (l := tables_1_3) (i := 155) rfl))))) rfl)
set_option maxRecDepth 20000 in
theorem im_X7_skipBlanks : Cond.instanceMethod mX7_skipBlanks.1 ∈ tblG := (tblG_in (List.mem_append_right _ (List.mem_append_right _ (List.mem_append_right _ (List.mem_append_left _ (List.mem_of_getElem? (l := tables_1_3) (i := 151) rfl))))) rfl)
set_option maxRecDepth 20000 in
theorem se_X7_skipBlanks : Cond.selects mX7_skipBlanks.1.cls mX7_skipBlanks.1 mX7_skipBlanks.1 ∈ tblG := tblG_in (List.mem_append_left _ (List.mem_of_getElem? (i := 0) (by decide +kernel))) (by decide +kernel)
set_option maxRecDepth 20000 in
theorem st_X7_isLetter : Cond.static mX7_isLetter.1 ∈ tblG := (tblG_in (List.mem_append_right _ (List.mem_append_right _ (List.mem_append_right _ (List.mem_append_left _ (List.mem_of_getElem? (l := tables_1_3) (i := 165) rfl))))) rfl)
set_option maxRecDepth 20000 in
theorem st_X7_isDigit : Cond.static mX7_isDigit.1 ∈ tblG := (tblG_in (List.mem_append_right _ (List.mem_append_right _ (List.mem_append_right _ (List.mem_append_left _ (List.mem_of_getElem? (l := tables_1_3) (i := 168) rfl))))) rfl)
set_option maxRecDepth 20000 in
theorem st_X11_packLetter : Cond.static mX11_packLetter.1 ∈ tblG := (tblG_in (List.mem_append_right _ (List.mem_append_left _ (List.mem_of_getElem? (l := tables_1_1) (i := 92) rfl))) rfl)
set_option maxRecDepth 20000 in
theorem im_X7_kindOfWord : Cond.instanceMethod mX7_kindOfWord.1 ∈ tblG := (tblG_in (List.mem_append_right _ (List.mem_append_right _ (List.mem_append_right _ (List.mem_append_left _ (List.mem_of_getElem? (l := tables_1_3) (i := 176) rfl))))) rfl)
set_option maxRecDepth 20000 in
theorem se_X7_kindOfWord : Cond.selects mX7_kindOfWord.1.cls mX7_kindOfWord.1 mX7_kindOfWord.1 ∈ tblG := tblG_in (List.mem_append_left _ (List.mem_of_getElem? (i := 3) (by decide +kernel))) (by decide +kernel)
set_option maxRecDepth 20000 in
theorem im_X7_scanRun : Cond.instanceMethod mX7_scanRun.1 ∈ tblG := (tblG_in (List.mem_append_right _ (List.mem_append_right _ (List.mem_append_right _ (List.mem_append_left _ (List.mem_of_getElem? (l := tables_1_3) (i := 172) rfl))))) rfl)
set_option maxRecDepth 20000 in
theorem se_X7_scanRun : Cond.selects mX7_scanRun.1.cls mX7_scanRun.1 mX7_scanRun.1 ∈ tblG := tblG_in (List.mem_append_left _ (List.mem_of_getElem? (i := 2) (by decide +kernel))) (by decide +kernel)
set_option maxRecDepth 20000 in
theorem st_X11_isIn : Cond.static mX11_isIn.1 ∈ tblG := (tblG_in (List.mem_append_right _ (List.mem_append_right _ (List.mem_append_right _ (List.mem_append_left _ (List.mem_of_getElem? (l := tables_1_3) (i := 182) rfl))))) rfl)
set_option maxRecDepth 20000 in
theorem st_X7_isSign : Cond.static mX7_isSign.1 ∈ tblG := (tblG_in (List.mem_append_right _ (List.mem_append_right _ (List.mem_append_right _ (List.mem_append_left _ (List.mem_of_getElem? (l := tables_1_3) (i := 179) rfl))))) rfl)
set_option maxRecDepth 20000 in
theorem im_X7_scanToken : Cond.instanceMethod mX7_scanToken.1 ∈ tblG := (tblG_in (List.mem_append_right _ (List.mem_append_right _ (List.mem_append_right _ (List.mem_append_left _ (List.mem_of_getElem? (l := tables_1_3) (i := 162) rfl))))) rfl)
set_option maxRecDepth 20000 in
theorem se_X7_scanToken : Cond.selects mX7_scanToken.1.cls mX7_scanToken.1 mX7_scanToken.1 ∈ tblG := tblG_in (List.mem_append_left _ (List.mem_of_getElem? (i := 1) (by decide +kernel))) (by decide +kernel)
set_option maxRecDepth 20000 in
theorem im_X7_begin : Cond.instanceMethod mX7_begin.1 ∈ tblG := (tblG_in (List.mem_append_right _ (List.mem_append_right _ (List.mem_append_right _ (List.mem_append_left _ (List.mem_of_getElem? (l := tables_1_3) (i := 146) rfl))))) rfl)
set_option maxRecDepth 20000 in
theorem se_X7_begin : Cond.selects mX7_begin.1.cls mX7_begin.1 mX7_begin.1 ∈ tblG := (tblG_in (List.mem_append_right _ (List.mem_append_right _ (List.mem_append_right _ (List.mem_append_left _ (List.mem_of_getElem? (l := tables_1_3) (i := 147) rfl))))) rfl)
set_option maxRecDepth 20000 in
theorem im_X7_next : Cond.instanceMethod mX7_next.1 ∈ tblG := (tblG_in (List.mem_append_right _ (List.mem_append_right _ (List.mem_append_right _ (List.mem_append_left _ (List.mem_of_getElem? (l := tables_1_3) (i := 185) rfl))))) rfl)
set_option maxRecDepth 20000 in
theorem se_X7_next : Cond.selects mX7_next.1.cls mX7_next.1 mX7_next.1 ∈ tblG := (tblG_in (List.mem_append_right _ (List.mem_append_right _ (List.mem_append_right _ (List.mem_append_left _ (List.mem_of_getElem? (l := tables_1_3) (i := 186) rfl))))) rfl)
set_option maxRecDepth 20000 in
theorem im_X7_refuse : Cond.instanceMethod mX7_refuse.1 ∈ tblG := (tblG_in (List.mem_append_right _ (List.mem_append_right _ (List.mem_append_right _ (List.mem_append_left _ (List.mem_of_getElem? (l := tables_1_3) (i := 197) rfl))))) rfl)
set_option maxRecDepth 20000 in
theorem se_X7_refuse : Cond.selects mX7_refuse.1.cls mX7_refuse.1 mX7_refuse.1 ∈ tblG := (tblG_in (List.mem_append_right _ (List.mem_append_right _ (List.mem_append_right _ (List.mem_append_left _ (List.mem_of_getElem? (l := tables_1_3) (i := 198) rfl))))) rfl)
set_option maxRecDepth 20000 in
theorem st_X1_placeOf : Cond.static mX1_placeOf.1 ∈ tblG := (tblG_in (List.mem_append_right _ (List.mem_append_right _ (List.mem_append_right _ (List.mem_append_right _ (List.mem_append_left _ (List.mem_of_getElem? (l := tables_1_4) (i := 12) rfl)))))) rfl)
set_option maxRecDepth 20000 in
theorem im_X1_personNamed : Cond.instanceMethod mX1_personNamed.1 ∈ tblG := (tblG_in (List.mem_append_right _ (List.mem_append_right _ (List.mem_append_right _ (List.mem_append_right _ (List.mem_append_left _ (List.mem_of_getElem? (l := tables_1_4) (i := 15) rfl)))))) rfl)
set_option maxRecDepth 20000 in
theorem se_X1_personNamed : Cond.selects mX1_personNamed.1.cls mX1_personNamed.1 mX1_personNamed.1 ∈ tblG := (tblG_in (List.mem_append_right _ (List.mem_append_right _ (List.mem_append_right _ (List.mem_append_right _ (List.mem_append_left _ (List.mem_of_getElem? (l := tables_1_4) (i := 16) rfl)))))) rfl)
set_option maxRecDepth 20000 in
theorem im_X7_wantKind : Cond.instanceMethod mX7_wantKind.1 ∈ tblG := (tblG_in (List.mem_append_right _ (List.mem_append_right _ (List.mem_append_right _ (List.mem_append_left _ (List.mem_of_getElem? (l := tables_1_3) (i := 205) rfl))))) rfl)
set_option maxRecDepth 20000 in
theorem se_X7_wantKind : Cond.selects mX7_wantKind.1.cls mX7_wantKind.1 mX7_wantKind.1 ∈ tblG := (tblG_in (List.mem_append_right _ (List.mem_append_right _ (List.mem_append_right _ (List.mem_append_left _ (List.mem_of_getElem? (l := tables_1_3) (i := 206) rfl))))) rfl)
set_option maxRecDepth 20000 in
theorem im_X7_wantNumeral : Cond.instanceMethod mX7_wantNumeral.1 ∈ tblG := (tblG_in (List.mem_append_right _ (List.mem_append_right _ (List.mem_append_right _ (List.mem_append_left _ (List.mem_of_getElem? (l := tables_1_3) (i := 201) rfl))))) rfl)
set_option maxRecDepth 20000 in
theorem se_X7_wantNumeral : Cond.selects mX7_wantNumeral.1.cls mX7_wantNumeral.1 mX7_wantNumeral.1 ∈ tblG := (tblG_in (List.mem_append_right _ (List.mem_append_right _ (List.mem_append_right _ (List.mem_append_left _ (List.mem_of_getElem? (l := tables_1_3) (i := 202) rfl))))) rfl)
set_option maxRecDepth 20000 in
theorem im_X0_readHours : Cond.instanceMethod mX0_readHours.1 ∈ tblG := (tblG_in (List.mem_append_right _ (List.mem_append_right _ (List.mem_append_right _ (List.mem_append_right _ (List.mem_append_right _ (List.mem_append_left _ (List.mem_of_getElem? (l := tables_1_5) (i := 190) rfl))))))) rfl)
set_option maxRecDepth 20000 in
theorem se_X0_readHours : Cond.selects mX0_readHours.1.cls mX0_readHours.1 mX0_readHours.1 ∈ tblG := tblG_in (List.mem_append_left _ (List.mem_of_getElem? (i := 26) (by decide +kernel))) (by decide +kernel)
set_option maxRecDepth 20000 in
theorem im_X1_figureNamed : Cond.instanceMethod mX1_figureNamed.1 ∈ tblG := (tblG_in (List.mem_append_right _ (List.mem_append_right _ (List.mem_append_right _ (List.mem_append_right _ (List.mem_append_left _ (List.mem_of_getElem? (l := tables_1_4) (i := 8) rfl)))))) rfl)
set_option maxRecDepth 20000 in
theorem se_X1_figureNamed : Cond.selects mX1_figureNamed.1.cls mX1_figureNamed.1 mX1_figureNamed.1 ∈ tblG := (tblG_in (List.mem_append_right _ (List.mem_append_right _ (List.mem_append_right _ (List.mem_append_right _ (List.mem_append_left _ (List.mem_of_getElem? (l := tables_1_4) (i := 9) rfl)))))) rfl)
set_option maxRecDepth 20000 in
theorem im_X0_readFigure : Cond.instanceMethod mX0_readFigure.1 ∈ tblG := (tblG_in (List.mem_append_right _ (List.mem_append_right _ (List.mem_append_right _ (List.mem_append_right _ (List.mem_append_right _ (List.mem_append_left _ (List.mem_of_getElem? (l := tables_1_5) (i := 199) rfl))))))) rfl)
set_option maxRecDepth 20000 in
theorem se_X0_readFigure : Cond.selects mX0_readFigure.1.cls mX0_readFigure.1 mX0_readFigure.1 ∈ tblG := tblG_in (List.mem_append_left _ (List.mem_of_getElem? (i := 28) (by decide +kernel))) (by decide +kernel)
set_option maxRecDepth 20000 in
theorem im_X7_wantSide : Cond.instanceMethod mX7_wantSide.1 ∈ tblG := (tblG_in (List.mem_append_right _ (List.mem_append_right _ (List.mem_append_right _ (List.mem_append_right _ (List.mem_append_right _ (List.mem_append_left _ (List.mem_of_getElem? (l := tables_1_5) (i := 208) rfl))))))) rfl)
set_option maxRecDepth 20000 in
theorem se_X7_wantSide : Cond.selects mX7_wantSide.1.cls mX7_wantSide.1 mX7_wantSide.1 ∈ tblG := (tblG_in (List.mem_append_right _ (List.mem_append_right _ (List.mem_append_right _ (List.mem_append_right _ (List.mem_append_right _ (List.mem_append_left _ (List.mem_of_getElem? (l := tables_1_5) (i := 209) rfl))))))) rfl)
set_option maxRecDepth 20000 in
theorem im_X0_readSide : Cond.instanceMethod mX0_readSide.1 ∈ tblG := (tblG_in (List.mem_append_right _ (List.mem_append_right _ (List.mem_append_right _ (List.mem_append_right _ (List.mem_append_right _ (List.mem_append_left _ (List.mem_of_getElem? (l := tables_1_5) (i := 205) rfl))))))) rfl)
set_option maxRecDepth 20000 in
theorem se_X0_readSide : Cond.selects mX0_readSide.1.cls mX0_readSide.1 mX0_readSide.1 ∈ tblG := tblG_in (List.mem_append_left _ (List.mem_of_getElem? (i := 29) (by decide +kernel))) (by decide +kernel)
set_option maxRecDepth 20000 in
theorem im_X0_readDeed : Cond.instanceMethod mX0_readDeed.1 ∈ tblG := (tblG_in (List.mem_append_right _ (List.mem_append_right _ (List.mem_append_right _ (List.mem_append_right _ (List.mem_append_right _ (List.mem_append_left _ (List.mem_of_getElem? (l := tables_1_5) (i := 195) rfl))))))) rfl)
set_option maxRecDepth 20000 in
theorem se_X0_readDeed : Cond.selects mX0_readDeed.1.cls mX0_readDeed.1 mX0_readDeed.1 ∈ tblG := tblG_in (List.mem_append_left _ (List.mem_of_getElem? (i := 27) (by decide +kernel))) (by decide +kernel)
set_option maxRecDepth 20000 in
theorem im_X0_readLine : Cond.instanceMethod mX0_readLine.1 ∈ tblG := (tblG_in (List.mem_append_right _ (List.mem_append_right _ (List.mem_append_right _ (List.mem_append_right _ (List.mem_append_right _ (List.mem_append_left _ (List.mem_of_getElem? (l := tables_1_5) (i := 184) rfl))))))) rfl)
set_option maxRecDepth 20000 in
theorem se_X0_readLine : Cond.selects mX0_readLine.1.cls mX0_readLine.1 mX0_readLine.1 ∈ tblG := tblG_in (List.mem_append_left _ (List.mem_of_getElem? (i := 25) (by decide +kernel))) (by decide +kernel)
set_option maxRecDepth 20000 in
theorem im_X0_read : Cond.instanceMethod mX0_read.1 ∈ tblG := (tblG_in (List.mem_append_right _ (List.mem_append_right _ (List.mem_append_right _ (List.mem_append_right _ (List.mem_append_right _ (List.mem_append_left _ (List.mem_of_getElem? (l := tables_1_5) (i := 177) rfl))))))) rfl)
set_option maxRecDepth 20000 in
theorem se_X0_read : Cond.selects mX0_read.1.cls mX0_read.1 mX0_read.1 ∈ tblG := (tblG_in (List.mem_append_right _ (List.mem_append_right _ (List.mem_append_right _ (List.mem_append_right _ (List.mem_append_right _ (List.mem_append_left _ (List.mem_of_getElem? (l := tables_1_5) (i := 178) rfl))))))) rfl)
set_option maxRecDepth 20000 in
theorem im_X1_cost : Cond.instanceMethod mX1_cost.1 ∈ tblG := (tblG_in (List.mem_append_right _ (List.mem_append_right _ (List.mem_append_right _ (List.mem_append_right _ (List.mem_append_left _ (List.mem_of_getElem? (l := tables_1_4) (i := 72) rfl)))))) rfl)
set_option maxRecDepth 20000 in
theorem se_X1_cost : Cond.selects mX1_cost.1.cls mX1_cost.1 mX1_cost.1 ∈ tblG := (tblG_in (List.mem_append_right _ (List.mem_append_right _ (List.mem_append_right _ (List.mem_append_right _ (List.mem_append_left _ (List.mem_of_getElem? (l := tables_1_4) (i := 73) rfl)))))) rfl)
set_option maxRecDepth 20000 in
theorem im_X1_isInside : Cond.instanceMethod mX1_isInside.1 ∈ tblG := (tblG_in (List.mem_append_right _ (List.mem_append_right _ (List.mem_append_right _ (List.mem_append_left _ (List.mem_of_getElem? (l := tables_1_3) (i := 223) rfl))))) rfl)
set_option maxRecDepth 20000 in
theorem se_X1_isInside : Cond.selects mX1_isInside.1.cls mX1_isInside.1 mX1_isInside.1 ∈ tblG := (tblG_in (List.mem_append_right _ (List.mem_append_right _ (List.mem_append_right _ (List.mem_append_left _ (List.mem_of_getElem? (l := tables_1_3) (i := 224) rfl))))) rfl)
set_option maxRecDepth 20000 in
theorem st_X11_cellOf : Cond.static mX11_cellOf.1 ∈ tblG := (tblG_in (List.mem_append_right _ (List.mem_append_right _ (List.mem_append_right _ (List.mem_append_left _ (List.mem_of_getElem? (l := tables_1_3) (i := 227) rfl))))) rfl)
set_option maxRecDepth 20000 in
theorem im_X10_whoIsAt : Cond.instanceMethod mX10_whoIsAt.1 ∈ tblG := (tblG_in (List.mem_append_right _ (List.mem_append_right _ (List.mem_append_right _ (List.mem_append_left _ (List.mem_of_getElem? (l := tables_1_3) (i := 230) rfl))))) rfl)
set_option maxRecDepth 20000 in
theorem se_X10_whoIsAt : Cond.selects mX10_whoIsAt.1.cls mX10_whoIsAt.1 mX10_whoIsAt.1 ∈ tblG := (tblG_in (List.mem_append_right _ (List.mem_append_right _ (List.mem_append_right _ (List.mem_append_left _ (List.mem_of_getElem? (l := tables_1_3) (i := 231) rfl))))) rfl)
set_option maxRecDepth 20000 in
theorem im_X10_whatBars : Cond.instanceMethod mX10_whatBars.1 ∈ tblG := (tblG_in (List.mem_append_right _ (List.mem_append_right _ (List.mem_append_right _ (List.mem_append_right _ (List.mem_append_left _ (List.mem_of_getElem? (l := tables_1_4) (i := 159) rfl)))))) rfl)
set_option maxRecDepth 20000 in
theorem se_X10_whatBars : Cond.selects mX10_whatBars.1.cls mX10_whatBars.1 mX10_whatBars.1 ∈ tblG := tblG_in (List.mem_append_left _ (List.mem_of_getElem? (i := 12) (by decide +kernel))) (by decide +kernel)
set_option maxRecDepth 20000 in
theorem im_X10_whyNotSay : Cond.instanceMethod mX10_whyNotSay.1 ∈ tblG := (tblG_in (List.mem_append_right _ (List.mem_append_right _ (List.mem_append_right _ (List.mem_append_right _ (List.mem_append_left _ (List.mem_of_getElem? (l := tables_1_4) (i := 149) rfl)))))) rfl)
set_option maxRecDepth 20000 in
theorem se_X10_whyNotSay : Cond.selects mX10_whyNotSay.1.cls mX10_whyNotSay.1 mX10_whyNotSay.1 ∈ tblG := (tblG_in (List.mem_append_right _ (List.mem_append_right _ (List.mem_append_right _ (List.mem_append_right _ (List.mem_append_left _ (List.mem_of_getElem? (l := tables_1_4) (i := 150) rfl)))))) rfl)
set_option maxRecDepth 20000 in
theorem im_X10_bringUpPoints : Cond.instanceMethod mX10_bringUpPoints.1 ∈ tblG := (tblG_in (List.mem_append_right _ (List.mem_append_right _ (List.mem_append_right _ (List.mem_append_right _ (List.mem_append_left _ (List.mem_of_getElem? (l := tables_1_4) (i := 31) rfl)))))) rfl)
set_option maxRecDepth 20000 in
theorem se_X10_bringUpPoints : Cond.selects mX10_bringUpPoints.1.cls mX10_bringUpPoints.1 mX10_bringUpPoints.1 ∈ tblG := (tblG_in (List.mem_append_right _ (List.mem_append_right _ (List.mem_append_right _ (List.mem_append_right _ (List.mem_append_left _ (List.mem_of_getElem? (l := tables_1_4) (i := 32) rfl)))))) rfl)
set_option maxRecDepth 20000 in
theorem im_X10_doSay : Cond.instanceMethod mX10_doSay.1 ∈ tblG := (tblG_in (List.mem_append_right _ (List.mem_append_right _ (List.mem_append_right _ (List.mem_append_right _ (List.mem_append_left _ (List.mem_of_getElem? (l := tables_1_4) (i := 169) rfl)))))) rfl)
set_option maxRecDepth 20000 in
theorem se_X10_doSay : Cond.selects mX10_doSay.1.cls mX10_doSay.1 mX10_doSay.1 ∈ tblG := (tblG_in (List.mem_append_right _ (List.mem_append_right _ (List.mem_append_right _ (List.mem_append_right _ (List.mem_append_left _ (List.mem_of_getElem? (l := tables_1_4) (i := 170) rfl)))))) rfl)
set_option maxRecDepth 20000 in
theorem im_X10_sayIfCan : Cond.instanceMethod mX10_sayIfCan.1 ∈ tblG := (tblG_in (List.mem_append_right _ (List.mem_append_right _ (List.mem_append_right _ (List.mem_append_right _ (List.mem_append_right _ (List.mem_append_left _ (List.mem_of_getElem? (l := tables_1_5) (i := 149) rfl))))))) rfl)
set_option maxRecDepth 20000 in
theorem se_X10_sayIfCan : Cond.selects mX10_sayIfCan.1.cls mX10_sayIfCan.1 mX10_sayIfCan.1 ∈ tblG := (tblG_in (List.mem_append_right _ (List.mem_append_right _ (List.mem_append_right _ (List.mem_append_right _ (List.mem_append_right _ (List.mem_append_left _ (List.mem_of_getElem? (l := tables_1_5) (i := 150) rfl))))))) rfl)
set_option maxRecDepth 20000 in
theorem im_X10_wallAt : Cond.instanceMethod mX10_wallAt.1 ∈ tblG := (tblG_in (List.mem_append_right _ (List.mem_append_right _ (List.mem_append_right _ (List.mem_append_left _ (List.mem_of_getElem? (l := tables_1_3) (i := 219) rfl))))) rfl)
set_option maxRecDepth 20000 in
theorem se_X10_wallAt : Cond.selects mX10_wallAt.1.cls mX10_wallAt.1 mX10_wallAt.1 ∈ tblG := (tblG_in (List.mem_append_right _ (List.mem_append_right _ (List.mem_append_right _ (List.mem_append_left _ (List.mem_of_getElem? (l := tables_1_3) (i := 220) rfl))))) rfl)
set_option maxRecDepth 20000 in
theorem im_X10_whyNotKick : Cond.instanceMethod mX10_whyNotKick.1 ∈ tblG := (tblG_in (List.mem_append_right _ (List.mem_append_right _ (List.mem_append_right _ (List.mem_append_right _ (List.mem_append_left _ (List.mem_of_getElem? (l := tables_1_4) (i := 178) rfl)))))) rfl)
set_option maxRecDepth 20000 in
theorem se_X10_whyNotKick : Cond.selects mX10_whyNotKick.1.cls mX10_whyNotKick.1 mX10_whyNotKick.1 ∈ tblG := (tblG_in (List.mem_append_right _ (List.mem_append_right _ (List.mem_append_right _ (List.mem_append_right _ (List.mem_append_left _ (List.mem_of_getElem? (l := tables_1_4) (i := 179) rfl)))))) rfl)
set_option maxRecDepth 20000 in
theorem im_X10_doKick : Cond.instanceMethod mX10_doKick.1 ∈ tblG := (tblG_in (List.mem_append_right _ (List.mem_append_right _ (List.mem_append_right _ (List.mem_append_right _ (List.mem_append_left _ (List.mem_of_getElem? (l := tables_1_4) (i := 183) rfl)))))) rfl)
set_option maxRecDepth 20000 in
theorem se_X10_doKick : Cond.selects mX10_doKick.1.cls mX10_doKick.1 mX10_doKick.1 ∈ tblG := (tblG_in (List.mem_append_right _ (List.mem_append_right _ (List.mem_append_right _ (List.mem_append_right _ (List.mem_append_left _ (List.mem_of_getElem? (l := tables_1_4) (i := 184) rfl)))))) rfl)
set_option maxRecDepth 20000 in
theorem im_X10_kickIfCan : Cond.instanceMethod mX10_kickIfCan.1 ∈ tblG := (tblG_in (List.mem_append_right _ (List.mem_append_right _ (List.mem_append_right _ (List.mem_append_right _ (List.mem_append_right _ (List.mem_append_left _ (List.mem_of_getElem? (l := tables_1_5) (i := 155) rfl))))))) rfl)
set_option maxRecDepth 20000 in
theorem se_X10_kickIfCan : Cond.selects mX10_kickIfCan.1.cls mX10_kickIfCan.1 mX10_kickIfCan.1 ∈ tblG := (tblG_in (List.mem_append_right _ (List.mem_append_right _ (List.mem_append_right _ (List.mem_append_right _ (List.mem_append_right _ (List.mem_append_left _ (List.mem_of_getElem? (l := tables_1_5) (i := 156) rfl))))))) rfl)
set_option maxRecDepth 20000 in
theorem st_X0_behind : Cond.static mX0_behind.1 ∈ tblG := (tblG_in (List.mem_append_right _ (List.mem_append_right _ (List.mem_append_right _ (List.mem_append_right _ (List.mem_append_right _ (List.mem_append_left _ (List.mem_of_getElem? (l := tables_1_5) (i := 222) rfl))))))) rfl)
set_option maxRecDepth 20000 in
theorem im_X10_whyNotRest : Cond.instanceMethod mX10_whyNotRest.1 ∈ tblG := (tblG_in (List.mem_append_right _ (List.mem_append_right _ (List.mem_append_right _ (List.mem_append_right _ (List.mem_append_left _ (List.mem_of_getElem? (l := tables_1_4) (i := 191) rfl)))))) rfl)
set_option maxRecDepth 20000 in
theorem se_X10_whyNotRest : Cond.selects mX10_whyNotRest.1.cls mX10_whyNotRest.1 mX10_whyNotRest.1 ∈ tblG := (tblG_in (List.mem_append_right _ (List.mem_append_right _ (List.mem_append_right _ (List.mem_append_right _ (List.mem_append_left _ (List.mem_of_getElem? (l := tables_1_4) (i := 192) rfl)))))) rfl)
set_option maxRecDepth 20000 in
theorem im_X10_doRest : Cond.instanceMethod mX10_doRest.1 ∈ tblG := (tblG_in (List.mem_append_right _ (List.mem_append_right _ (List.mem_append_right _ (List.mem_append_right _ (List.mem_append_left _ (List.mem_of_getElem? (l := tables_1_4) (i := 195) rfl)))))) rfl)
set_option maxRecDepth 20000 in
theorem se_X10_doRest : Cond.selects mX10_doRest.1.cls mX10_doRest.1 mX10_doRest.1 ∈ tblG := (tblG_in (List.mem_append_right _ (List.mem_append_right _ (List.mem_append_right _ (List.mem_append_right _ (List.mem_append_left _ (List.mem_of_getElem? (l := tables_1_4) (i := 196) rfl)))))) rfl)
set_option maxRecDepth 20000 in
theorem im_X10_restIfCan : Cond.instanceMethod mX10_restIfCan.1 ∈ tblG := (tblG_in (List.mem_append_right _ (List.mem_append_right _ (List.mem_append_right _ (List.mem_append_right _ (List.mem_append_right _ (List.mem_append_left _ (List.mem_of_getElem? (l := tables_1_5) (i := 161) rfl))))))) rfl)
set_option maxRecDepth 20000 in
theorem se_X10_restIfCan : Cond.selects mX10_restIfCan.1.cls mX10_restIfCan.1 mX10_restIfCan.1 ∈ tblG := (tblG_in (List.mem_append_right _ (List.mem_append_right _ (List.mem_append_right _ (List.mem_append_right _ (List.mem_append_right _ (List.mem_append_left _ (List.mem_of_getElem? (l := tables_1_5) (i := 162) rfl))))))) rfl)
set_option maxRecDepth 20000 in
theorem im_X10_hoursLeft : Cond.instanceMethod mX10_hoursLeft.1 ∈ tblG := (tblG_in (List.mem_append_right _ (List.mem_append_right _ (List.mem_append_right _ (List.mem_append_right _ (List.mem_append_left _ (List.mem_of_getElem? (l := tables_1_4) (i := 203) rfl)))))) rfl)
set_option maxRecDepth 20000 in
theorem se_X10_hoursLeft : Cond.selects mX10_hoursLeft.1.cls mX10_hoursLeft.1 mX10_hoursLeft.1 ∈ tblG := (tblG_in (List.mem_append_right _ (List.mem_append_right _ (List.mem_append_right _ (List.mem_append_right _ (List.mem_append_left _ (List.mem_of_getElem? (l := tables_1_4) (i := 204) rfl)))))) rfl)
set_option maxRecDepth 20000 in
theorem im_X10_passHours : Cond.instanceMethod mX10_passHours.1 ∈ tblG := (tblG_in (List.mem_append_right _ (List.mem_append_right _ (List.mem_append_right _ (List.mem_append_right _ (List.mem_append_left _ (List.mem_of_getElem? (l := tables_1_4) (i := 208) rfl)))))) rfl)
set_option maxRecDepth 20000 in
theorem se_X10_passHours : Cond.selects mX10_passHours.1.cls mX10_passHours.1 mX10_passHours.1 ∈ tblG := (tblG_in (List.mem_append_right _ (List.mem_append_right _ (List.mem_append_right _ (List.mem_append_right _ (List.mem_append_left _ (List.mem_of_getElem? (l := tables_1_4) (i := 209) rfl)))))) rfl)
set_option maxRecDepth 20000 in
theorem st_X0_passIfCan : Cond.static mX0_passIfCan.1 ∈ tblG := (tblG_in (List.mem_append_right _ (List.mem_append_right _ (List.mem_append_right _ (List.mem_append_right _ (List.mem_append_right _ (List.mem_append_left _ (List.mem_of_getElem? (l := tables_1_5) (i := 226) rfl))))))) rfl)
set_option maxRecDepth 20000 in
theorem im_X0_live : Cond.instanceMethod mX0_live.1 ∈ tblG := (tblG_in (List.mem_append_right _ (List.mem_append_right _ (List.mem_append_right _ (List.mem_append_right _ (List.mem_append_right _ (List.mem_append_left _ (List.mem_of_getElem? (l := tables_1_5) (i := 217) rfl))))))) rfl)
set_option maxRecDepth 20000 in
theorem se_X0_live : Cond.selects mX0_live.1.cls mX0_live.1 mX0_live.1 ∈ tblG := tblG_in (List.mem_append_left _ (List.mem_of_getElem? (i := 30) (by decide +kernel))) (by decide +kernel)
set_option maxRecDepth 20000 in
theorem im_X10_isSettled : Cond.instanceMethod mX10_isSettled.1 ∈ tblG := (tblG_in (List.mem_append_right _ (List.mem_append_right _ (List.mem_append_right _ (List.mem_append_right _ (List.mem_append_left _ (List.mem_of_getElem? (l := tables_1_4) (i := 125) rfl)))))) rfl)
set_option maxRecDepth 20000 in
theorem se_X10_isSettled : Cond.selects mX10_isSettled.1.cls mX10_isSettled.1 mX10_isSettled.1 ∈ tblG := (tblG_in (List.mem_append_right _ (List.mem_append_right _ (List.mem_append_right _ (List.mem_append_right _ (List.mem_append_left _ (List.mem_of_getElem? (l := tables_1_4) (i := 126) rfl)))))) rfl)
set_option maxRecDepth 20000 in
theorem im_X10_whoIsSettled : Cond.instanceMethod mX10_whoIsSettled.1 ∈ tblG := (tblG_in (List.mem_append_right _ (List.mem_append_right _ (List.mem_append_right _ (List.mem_append_right _ (List.mem_append_left _ (List.mem_of_getElem? (l := tables_1_4) (i := 121) rfl)))))) rfl)
set_option maxRecDepth 20000 in
theorem se_X10_whoIsSettled : Cond.selects mX10_whoIsSettled.1.cls mX10_whoIsSettled.1 mX10_whoIsSettled.1 ∈ tblG := (tblG_in (List.mem_append_right _ (List.mem_append_right _ (List.mem_append_right _ (List.mem_append_right _ (List.mem_append_left _ (List.mem_of_getElem? (l := tables_1_4) (i := 122) rfl)))))) rfl)
set_option maxRecDepth 20000 in
theorem im_X0_judge : Cond.instanceMethod mX0_judge.1 ∈ tblG := (tblG_in (List.mem_append_right _ (List.mem_append_right _ (List.mem_append_right _ (List.mem_append_right _ (List.mem_append_right _ (List.mem_append_left _ (List.mem_of_getElem? (l := tables_1_5) (i := 212) rfl))))))) rfl)
set_option maxRecDepth 20000 in
theorem se_X0_judge : Cond.selects mX0_judge.1.cls mX0_judge.1 mX0_judge.1 ∈ tblG := (tblG_in (List.mem_append_right _ (List.mem_append_right _ (List.mem_append_right _ (List.mem_append_right _ (List.mem_append_right _ (List.mem_append_left _ (List.mem_of_getElem? (l := tables_1_5) (i := 213) rfl))))))) rfl)
set_option maxRecDepth 20000 in
theorem im_X1_clear : Cond.instanceMethod mX1_clear.1 ∈ tblG := (tblG_in (List.mem_append_right _ (List.mem_append_right _ (List.mem_append_right _ (List.mem_append_left _ (List.mem_of_getElem? (l := tables_1_3) (i := 131) rfl))))) rfl)
set_option maxRecDepth 20000 in
theorem se_X1_clear : Cond.selects mX1_clear.1.cls mX1_clear.1 mX1_clear.1 ∈ tblG := (tblG_in (List.mem_append_right _ (List.mem_append_right _ (List.mem_append_right _ (List.mem_append_left _ (List.mem_of_getElem? (l := tables_1_3) (i := 132) rfl))))) rfl)
set_option maxRecDepth 20000 in
theorem im_X1_copyFrom : Cond.instanceMethod mX1_copyFrom.1 ∈ tblG := (tblG_in (List.mem_append_right _ (List.mem_append_right _ (List.mem_append_right _ (List.mem_append_right _ (List.mem_append_left _ (List.mem_of_getElem? (l := tables_1_4) (i := 39) rfl)))))) rfl)
set_option maxRecDepth 20000 in
theorem se_X1_copyFrom : Cond.selects mX1_copyFrom.1.cls mX1_copyFrom.1 mX1_copyFrom.1 ∈ tblG := (tblG_in (List.mem_append_right _ (List.mem_append_right _ (List.mem_append_right _ (List.mem_append_right _ (List.mem_append_left _ (List.mem_of_getElem? (l := tables_1_4) (i := 40) rfl)))))) rfl)
set_option maxRecDepth 20000 in
theorem im_X1_standOfPoint : Cond.instanceMethod mX1_standOfPoint.1 ∈ tblG := (tblG_in (List.mem_append_right _ (List.mem_append_right _ (List.mem_append_right _ (List.mem_append_right _ (List.mem_append_right _ (List.mem_append_left _ (List.mem_of_getElem? (l := tables_1_5) (i := 18) rfl))))))) rfl)
set_option maxRecDepth 20000 in
theorem se_X1_standOfPoint : Cond.selects mX1_standOfPoint.1.cls mX1_standOfPoint.1 mX1_standOfPoint.1 ∈ tblG := (tblG_in (List.mem_append_right _ (List.mem_append_right _ (List.mem_append_right _ (List.mem_append_right _ (List.mem_append_right _ (List.mem_append_left _ (List.mem_of_getElem? (l := tables_1_5) (i := 19) rfl))))))) rfl)
set_option maxRecDepth 20000 in
theorem im_X1_pointsAt : Cond.instanceMethod mX1_pointsAt.1 ∈ tblG := (tblG_in (List.mem_append_right _ (List.mem_append_right _ (List.mem_append_right _ (List.mem_append_right _ (List.mem_append_left _ (List.mem_of_getElem? (l := tables_1_4) (i := 98) rfl)))))) rfl)
set_option maxRecDepth 20000 in
theorem se_X1_pointsAt : Cond.selects mX1_pointsAt.1.cls mX1_pointsAt.1 mX1_pointsAt.1 ∈ tblG := (tblG_in (List.mem_append_right _ (List.mem_append_right _ (List.mem_append_right _ (List.mem_append_right _ (List.mem_append_left _ (List.mem_of_getElem? (l := tables_1_4) (i := 99) rfl)))))) rfl)
set_option maxRecDepth 20000 in
theorem im_X1_pointNamed : Cond.instanceMethod mX1_pointNamed.1 ∈ tblG := (tblG_in (List.mem_append_right _ (List.mem_append_right _ (List.mem_append_right _ (List.mem_append_right _ (List.mem_append_left _ (List.mem_of_getElem? (l := tables_1_4) (i := 19) rfl)))))) rfl)
set_option maxRecDepth 20000 in
theorem se_X1_pointNamed : Cond.selects mX1_pointNamed.1.cls mX1_pointNamed.1 mX1_pointNamed.1 ∈ tblG := (tblG_in (List.mem_append_right _ (List.mem_append_right _ (List.mem_append_right _ (List.mem_append_right _ (List.mem_append_left _ (List.mem_of_getElem? (l := tables_1_4) (i := 20) rfl)))))) rfl)
set_option maxRecDepth 20000 in
theorem im_X1_isNamed : Cond.instanceMethod mX1_isNamed.1 ∈ tblG := (tblG_in (List.mem_append_right _ (List.mem_append_right _ (List.mem_append_right _ (List.mem_append_right _ (List.mem_append_left _ (List.mem_of_getElem? (l := tables_1_4) (i := 4) rfl)))))) rfl)
set_option maxRecDepth 20000 in
theorem se_X1_isNamed : Cond.selects mX1_isNamed.1.cls mX1_isNamed.1 mX1_isNamed.1 ∈ tblG := (tblG_in (List.mem_append_right _ (List.mem_append_right _ (List.mem_append_right _ (List.mem_append_right _ (List.mem_append_left _ (List.mem_of_getElem? (l := tables_1_4) (i := 5) rfl)))))) rfl)
set_option maxRecDepth 20000 in
theorem im_X6_clear : Cond.instanceMethod mX6_clear.1 ∈ tblG := (tblG_in (List.mem_append_right _ (List.mem_append_right _ (List.mem_append_right _ (List.mem_append_left _ (List.mem_of_getElem? (l := tables_1_3) (i := 135) rfl))))) rfl)
set_option maxRecDepth 20000 in
theorem se_X6_clear : Cond.selects mX6_clear.1.cls mX6_clear.1 mX6_clear.1 ∈ tblG := (tblG_in (List.mem_append_right _ (List.mem_append_right _ (List.mem_append_right _ (List.mem_append_left _ (List.mem_of_getElem? (l := tables_1_3) (i := 136) rfl))))) rfl)
set_option maxRecDepth 20000 in
theorem im_X5_clear : Cond.instanceMethod mX5_clear.1 ∈ tblG := (tblG_in (List.mem_append_right _ (List.mem_append_right _ (List.mem_append_right _ (List.mem_append_left _ (List.mem_of_getElem? (l := tables_1_3) (i := 142) rfl))))) rfl)
set_option maxRecDepth 20000 in
theorem se_X5_clear : Cond.selects mX5_clear.1.cls mX5_clear.1 mX5_clear.1 ∈ tblG := (tblG_in (List.mem_append_right _ (List.mem_append_right _ (List.mem_append_right _ (List.mem_append_left _ (List.mem_of_getElem? (l := tables_1_3) (i := 143) rfl))))) rfl)
set_option maxRecDepth 20000 in
theorem im_X10_clear : Cond.instanceMethod mX10_clear.1 ∈ tblG := (tblG_in (List.mem_append_right _ (List.mem_append_right _ (List.mem_append_right _ (List.mem_append_left _ (List.mem_of_getElem? (l := tables_1_3) (i := 127) rfl))))) rfl)
set_option maxRecDepth 20000 in
theorem se_X10_clear : Cond.selects mX10_clear.1.cls mX10_clear.1 mX10_clear.1 ∈ tblG := (tblG_in (List.mem_append_right _ (List.mem_append_right _ (List.mem_append_right _ (List.mem_append_left _ (List.mem_of_getElem? (l := tables_1_3) (i := 128) rfl))))) rfl)
set_option maxRecDepth 20000 in
theorem im_X2_readSize : Cond.instanceMethod mX2_readSize.1 ∈ tblG := (tblG_in (List.mem_append_right _ (List.mem_append_right _ (List.mem_append_right _ (List.mem_append_left _ (List.mem_of_getElem? (l := tables_1_3) (i := 194) rfl))))) rfl)
set_option maxRecDepth 20000 in
theorem se_X2_readSize : Cond.selects mX2_readSize.1.cls mX2_readSize.1 mX2_readSize.1 ∈ tblG := tblG_in (List.mem_append_left _ (List.mem_of_getElem? (i := 5) (by decide +kernel))) (by decide +kernel)
set_option maxRecDepth 20000 in
theorem im_X2_wantFreeY : Cond.instanceMethod mX2_wantFreeY.1 ∈ tblG := (tblG_in (List.mem_append_right _ (List.mem_append_right _ (List.mem_append_right _ (List.mem_append_left _ (List.mem_of_getElem? (l := tables_1_3) (i := 216) rfl))))) rfl)
set_option maxRecDepth 20000 in
theorem se_X2_wantFreeY : Cond.selects mX2_wantFreeY.1.cls mX2_wantFreeY.1 mX2_wantFreeY.1 ∈ tblG := tblG_in (List.mem_append_left _ (List.mem_of_getElem? (i := 7) (by decide +kernel))) (by decide +kernel)
set_option maxRecDepth 20000 in
theorem im_X2_readWall : Cond.instanceMethod mX2_readWall.1 ∈ tblG := (tblG_in (List.mem_append_right _ (List.mem_append_right _ (List.mem_append_right _ (List.mem_append_left _ (List.mem_of_getElem? (l := tables_1_3) (i := 212) rfl))))) rfl)
set_option maxRecDepth 20000 in
theorem se_X2_readWall : Cond.selects mX2_readWall.1.cls mX2_readWall.1 mX2_readWall.1 ∈ tblG := tblG_in (List.mem_append_left _ (List.mem_of_getElem? (i := 6) (by decide +kernel))) (by decide +kernel)
set_option maxRecDepth 20000 in
theorem im_X2_wantNewName : Cond.instanceMethod mX2_wantNewName.1 ∈ tblG := (tblG_in (List.mem_append_right _ (List.mem_append_right _ (List.mem_append_right _ (List.mem_append_right _ (List.mem_append_left _ (List.mem_of_getElem? (l := tables_1_4) (i := 0) rfl)))))) rfl)
set_option maxRecDepth 20000 in
theorem se_X2_wantNewName : Cond.selects mX2_wantNewName.1.cls mX2_wantNewName.1 mX2_wantNewName.1 ∈ tblG := tblG_in (List.mem_append_left _ (List.mem_of_getElem? (i := 9) (by decide +kernel))) (by decide +kernel)
set_option maxRecDepth 20000 in
theorem im_X2_readFigure : Cond.instanceMethod mX2_readFigure.1 ∈ tblG := (tblG_in (List.mem_append_right _ (List.mem_append_right _ (List.mem_append_right _ (List.mem_append_left _ (List.mem_of_getElem? (l := tables_1_3) (i := 236) rfl))))) rfl)
set_option maxRecDepth 20000 in
theorem se_X2_readFigure : Cond.selects mX2_readFigure.1.cls mX2_readFigure.1 mX2_readFigure.1 ∈ tblG := tblG_in (List.mem_append_left _ (List.mem_of_getElem? (i := 8) (by decide +kernel))) (by decide +kernel)
set_option maxRecDepth 20000 in
theorem im_X2_readPerson : Cond.instanceMethod mX2_readPerson.1 ∈ tblG := (tblG_in (List.mem_append_right _ (List.mem_append_right _ (List.mem_append_right _ (List.mem_append_right _ (List.mem_append_left _ (List.mem_of_getElem? (l := tables_1_4) (i := 24) rfl)))))) rfl)
set_option maxRecDepth 20000 in
theorem se_X2_readPerson : Cond.selects mX2_readPerson.1.cls mX2_readPerson.1 mX2_readPerson.1 ∈ tblG := tblG_in (List.mem_append_left _ (List.mem_of_getElem? (i := 10) (by decide +kernel))) (by decide +kernel)
set_option maxRecDepth 20000 in
theorem im_X2_readPoint : Cond.instanceMethod mX2_readPoint.1 ∈ tblG := (tblG_in (List.mem_append_right _ (List.mem_append_right _ (List.mem_append_right _ (List.mem_append_right _ (List.mem_append_left _ (List.mem_of_getElem? (l := tables_1_4) (i := 28) rfl)))))) rfl)
set_option maxRecDepth 20000 in
theorem se_X2_readPoint : Cond.selects mX2_readPoint.1.cls mX2_readPoint.1 mX2_readPoint.1 ∈ tblG := tblG_in (List.mem_append_left _ (List.mem_of_getElem? (i := 11) (by decide +kernel))) (by decide +kernel)
set_option maxRecDepth 20000 in
theorem im_X2_readLine : Cond.instanceMethod mX2_readLine.1 ∈ tblG := (tblG_in (List.mem_append_right _ (List.mem_append_right _ (List.mem_append_right _ (List.mem_append_left _ (List.mem_of_getElem? (l := tables_1_3) (i := 190) rfl))))) rfl)
set_option maxRecDepth 20000 in
theorem se_X2_readLine : Cond.selects mX2_readLine.1.cls mX2_readLine.1 mX2_readLine.1 ∈ tblG := tblG_in (List.mem_append_left _ (List.mem_of_getElem? (i := 4) (by decide +kernel))) (by decide +kernel)
set_option maxRecDepth 20000 in
theorem im_X2_read : Cond.instanceMethod mX2_read.1 ∈ tblG := (tblG_in (List.mem_append_right _ (List.mem_append_right _ (List.mem_append_right _ (List.mem_append_left _ (List.mem_of_getElem? (l := tables_1_3) (i := 123) rfl))))) rfl)
set_option maxRecDepth 20000 in
theorem se_X2_read : Cond.selects mX2_read.1.cls mX2_read.1 mX2_read.1 ∈ tblG := (tblG_in (List.mem_append_right _ (List.mem_append_right _ (List.mem_append_right _ (List.mem_append_left _ (List.mem_of_getElem? (l := tables_1_3) (i := 124) rfl))))) rfl)
set_option maxRecDepth 20000 in
theorem im_X3_clear : Cond.instanceMethod mX3_clear.1 ∈ tblG := (tblG_in (List.mem_append_right _ (List.mem_append_right _ (List.mem_append_right _ (List.mem_append_right _ (List.mem_append_left _ (List.mem_of_getElem? (l := tables_1_4) (i := 56) rfl)))))) rfl)
set_option maxRecDepth 20000 in
theorem se_X3_clear : Cond.selects mX3_clear.1.cls mX3_clear.1 mX3_clear.1 ∈ tblG := (tblG_in (List.mem_append_right _ (List.mem_append_right _ (List.mem_append_right _ (List.mem_append_right _ (List.mem_append_left _ (List.mem_of_getElem? (l := tables_1_4) (i := 57) rfl)))))) rfl)
set_option maxRecDepth 20000 in
theorem im_X6_copyFrom : Cond.instanceMethod mX6_copyFrom.1 ∈ tblG := (tblG_in (List.mem_append_right _ (List.mem_append_right _ (List.mem_append_right _ (List.mem_append_right _ (List.mem_append_left _ (List.mem_of_getElem? (l := tables_1_4) (i := 46) rfl)))))) rfl)
set_option maxRecDepth 20000 in
theorem se_X6_copyFrom : Cond.selects mX6_copyFrom.1.cls mX6_copyFrom.1 mX6_copyFrom.1 ∈ tblG := (tblG_in (List.mem_append_right _ (List.mem_append_right _ (List.mem_append_right _ (List.mem_append_right _ (List.mem_append_left _ (List.mem_of_getElem? (l := tables_1_4) (i := 47) rfl)))))) rfl)
set_option maxRecDepth 20000 in
theorem im_X3_keep : Cond.instanceMethod mX3_keep.1 ∈ tblG := (tblG_in (List.mem_append_right _ (List.mem_append_right _ (List.mem_append_right _ (List.mem_append_right _ (List.mem_append_left _ (List.mem_of_getElem? (l := tables_1_4) (i := 163) rfl)))))) rfl)
set_option maxRecDepth 20000 in
theorem se_X3_keep : Cond.selects mX3_keep.1.cls mX3_keep.1 mX3_keep.1 ∈ tblG := (tblG_in (List.mem_append_right _ (List.mem_append_right _ (List.mem_append_right _ (List.mem_append_right _ (List.mem_append_left _ (List.mem_of_getElem? (l := tables_1_4) (i := 164) rfl)))))) rfl)
set_option maxRecDepth 20000 in
theorem im_X3_takeBack : Cond.instanceMethod mX3_takeBack.1 ∈ tblG := (tblG_in (List.mem_append_right _ (List.mem_append_right _ (List.mem_append_right _ (List.mem_append_right _ (List.mem_append_left _ (List.mem_of_getElem? (l := tables_1_4) (i := 217) rfl)))))) rfl)
set_option maxRecDepth 20000 in
theorem se_X3_takeBack : Cond.selects mX3_takeBack.1.cls mX3_takeBack.1 mX3_takeBack.1 ∈ tblG := (tblG_in (List.mem_append_right _ (List.mem_append_right _ (List.mem_append_right _ (List.mem_append_right _ (List.mem_append_left _ (List.mem_of_getElem? (l := tables_1_4) (i := 218) rfl)))))) rfl)
set_option maxRecDepth 20000 in
theorem im_X4_shutCells : Cond.instanceMethod mX4_shutCells.1 ∈ tblG := (tblG_in (List.mem_append_right _ (List.mem_append_right _ (List.mem_append_right _ (List.mem_append_right _ (List.mem_append_left _ (List.mem_of_getElem? (l := tables_1_4) (i := 234) rfl)))))) rfl)
set_option maxRecDepth 20000 in
theorem se_X4_shutCells : Cond.selects mX4_shutCells.1.cls mX4_shutCells.1 mX4_shutCells.1 ∈ tblG := tblG_in (List.mem_append_left _ (List.mem_of_getElem? (i := 13) (by decide +kernel))) (by decide +kernel)
set_option maxRecDepth 20000 in
theorem im_X4_runFrom : Cond.instanceMethod mX4_runFrom.1 ∈ tblG := (tblG_in (List.mem_append_right _ (List.mem_append_right _ (List.mem_append_right _ (List.mem_append_right _ (List.mem_append_right _ (List.mem_append_left _ (List.mem_of_getElem? (l := tables_1_5) (i := 3) rfl))))))) rfl)
set_option maxRecDepth 20000 in
theorem se_X4_runFrom : Cond.selects mX4_runFrom.1.cls mX4_runFrom.1 mX4_runFrom.1 ∈ tblG := tblG_in (List.mem_append_left _ (List.mem_of_getElem? (i := 15) (by decide +kernel))) (by decide +kernel)
set_option maxRecDepth 20000 in
theorem im_X4_measureRuns : Cond.instanceMethod mX4_measureRuns.1 ∈ tblG := (tblG_in (List.mem_append_right _ (List.mem_append_right _ (List.mem_append_right _ (List.mem_append_right _ (List.mem_append_left _ (List.mem_of_getElem? (l := tables_1_4) (i := 239) rfl)))))) rfl)
set_option maxRecDepth 20000 in
theorem se_X4_measureRuns : Cond.selects mX4_measureRuns.1.cls mX4_measureRuns.1 mX4_measureRuns.1 ∈ tblG := tblG_in (List.mem_append_left _ (List.mem_of_getElem? (i := 14) (by decide +kernel))) (by decide +kernel)
set_option maxRecDepth 20000 in
theorem im_X4_reach : Cond.instanceMethod mX4_reach.1 ∈ tblG := (tblG_in (List.mem_append_right _ (List.mem_append_right _ (List.mem_append_right _ (List.mem_append_right _ (List.mem_append_right _ (List.mem_append_left _ (List.mem_of_getElem? (l := tables_1_5) (i := 15) rfl))))))) rfl)
set_option maxRecDepth 20000 in
theorem se_X4_reach : Cond.selects mX4_reach.1.cls mX4_reach.1 mX4_reach.1 ∈ tblG := tblG_in (List.mem_append_left _ (List.mem_of_getElem? (i := 17) (by decide +kernel))) (by decide +kernel)
set_option maxRecDepth 20000 in
theorem im_X4_goOn : Cond.instanceMethod mX4_goOn.1 ∈ tblG := (tblG_in (List.mem_append_right _ (List.mem_append_right _ (List.mem_append_right _ (List.mem_append_right _ (List.mem_append_right _ (List.mem_append_left _ (List.mem_of_getElem? (l := tables_1_5) (i := 11) rfl))))))) rfl)
set_option maxRecDepth 20000 in
theorem se_X4_goOn : Cond.selects mX4_goOn.1.cls mX4_goOn.1 mX4_goOn.1 ∈ tblG := tblG_in (List.mem_append_left _ (List.mem_of_getElem? (i := 16) (by decide +kernel))) (by decide +kernel)
set_option maxRecDepth 20000 in
theorem im_X4_spread : Cond.instanceMethod mX4_spread.1 ∈ tblG := (tblG_in (List.mem_append_right _ (List.mem_append_right _ (List.mem_append_right _ (List.mem_append_right _ (List.mem_append_left _ (List.mem_of_getElem? (l := tables_1_4) (i := 229) rfl)))))) rfl)
set_option maxRecDepth 20000 in
theorem se_X4_spread : Cond.selects mX4_spread.1.cls mX4_spread.1 mX4_spread.1 ∈ tblG := (tblG_in (List.mem_append_right _ (List.mem_append_right _ (List.mem_append_right _ (List.mem_append_right _ (List.mem_append_left _ (List.mem_of_getElem? (l := tables_1_4) (i := 230) rfl)))))) rfl)
set_option maxRecDepth 20000 in
theorem im_X4_keepWayTo : Cond.instanceMethod mX4_keepWayTo.1 ∈ tblG := (tblG_in (List.mem_append_right _ (List.mem_append_right _ (List.mem_append_right _ (List.mem_append_right _ (List.mem_append_right _ (List.mem_append_left _ (List.mem_of_getElem? (l := tables_1_5) (i := 23) rfl))))))) rfl)
set_option maxRecDepth 20000 in
theorem se_X4_keepWayTo : Cond.selects mX4_keepWayTo.1.cls mX4_keepWayTo.1 mX4_keepWayTo.1 ∈ tblG := (tblG_in (List.mem_append_right _ (List.mem_append_right _ (List.mem_append_right _ (List.mem_append_right _ (List.mem_append_right _ (List.mem_append_left _ (List.mem_of_getElem? (l := tables_1_5) (i := 24) rfl))))))) rfl)
set_option maxRecDepth 20000 in
theorem im_X4_countCells : Cond.instanceMethod mX4_countCells.1 ∈ tblG := (tblG_in (List.mem_append_right _ (List.mem_append_right _ (List.mem_append_right _ (List.mem_append_right _ (List.mem_append_right _ (List.mem_append_left _ (List.mem_of_getElem? (l := tables_1_5) (i := 40) rfl))))))) rfl)
set_option maxRecDepth 20000 in
theorem se_X4_countCells : Cond.selects mX4_countCells.1.cls mX4_countCells.1 mX4_countCells.1 ∈ tblG := (tblG_in (List.mem_append_right _ (List.mem_append_right _ (List.mem_append_right _ (List.mem_append_right _ (List.mem_append_right _ (List.mem_append_left _ (List.mem_of_getElem? (l := tables_1_5) (i := 41) rfl))))))) rfl)
set_option maxRecDepth 20000 in
theorem im_X5_copyFrom : Cond.instanceMethod mX5_copyFrom.1 ∈ tblG := (tblG_in (List.mem_append_right _ (List.mem_append_right _ (List.mem_append_right _ (List.mem_append_right _ (List.mem_append_left _ (List.mem_of_getElem? (l := tables_1_4) (i := 51) rfl)))))) rfl)
set_option maxRecDepth 20000 in
theorem se_X5_copyFrom : Cond.selects mX5_copyFrom.1.cls mX5_copyFrom.1 mX5_copyFrom.1 ∈ tblG := (tblG_in (List.mem_append_right _ (List.mem_append_right _ (List.mem_append_right _ (List.mem_append_right _ (List.mem_append_left _ (List.mem_of_getElem? (l := tables_1_4) (i := 52) rfl)))))) rfl)
set_option maxRecDepth 20000 in
theorem im_X5_add : Cond.instanceMethod mX5_add.1 ∈ tblG := (tblG_in (List.mem_append_right _ (List.mem_append_right _ (List.mem_append_right _ (List.mem_append_right _ (List.mem_append_right _ (List.mem_append_right _ (List.mem_append_left _ (List.mem_of_getElem? (l := tables_1_6) (i := 26) rfl)))))))) rfl)
set_option maxRecDepth 20000 in
theorem se_X5_add : Cond.selects mX5_add.1.cls mX5_add.1 mX5_add.1 ∈ tblG := tblG_in (List.mem_append_left _ (List.mem_of_getElem? (i := 35) (by decide +kernel))) (by decide +kernel)
set_option maxRecDepth 20000 in
theorem im_X5_readNamed : Cond.instanceMethod mX5_readNamed.1 ∈ tblG := (tblG_in (List.mem_append_right _ (List.mem_append_right _ (List.mem_append_right _ (List.mem_append_right _ (List.mem_append_right _ (List.mem_append_right _ (List.mem_append_left _ (List.mem_of_getElem? (l := tables_1_6) (i := 34) rfl)))))))) rfl)
set_option maxRecDepth 20000 in
theorem se_X5_readNamed : Cond.selects mX5_readNamed.1.cls mX5_readNamed.1 mX5_readNamed.1 ∈ tblG := tblG_in (List.mem_append_left _ (List.mem_of_getElem? (i := 37) (by decide +kernel))) (by decide +kernel)
set_option maxRecDepth 20000 in
theorem im_X5_readCompared : Cond.instanceMethod mX5_readCompared.1 ∈ tblG := (tblG_in (List.mem_append_right _ (List.mem_append_right _ (List.mem_append_right _ (List.mem_append_right _ (List.mem_append_right _ (List.mem_append_right _ (List.mem_append_left _ (List.mem_of_getElem? (l := tables_1_6) (i := 41) rfl)))))))) rfl)
set_option maxRecDepth 20000 in
theorem se_X5_readCompared : Cond.selects mX5_readCompared.1.cls mX5_readCompared.1 mX5_readCompared.1 ∈ tblG := tblG_in (List.mem_append_left _ (List.mem_of_getElem? (i := 38) (by decide +kernel))) (by decide +kernel)
set_option maxRecDepth 20000 in
theorem im_X5_readAll : Cond.instanceMethod mX5_readAll.1 ∈ tblG := (tblG_in (List.mem_append_right _ (List.mem_append_right _ (List.mem_append_right _ (List.mem_append_right _ (List.mem_append_right _ (List.mem_append_right _ (List.mem_append_left _ (List.mem_of_getElem? (l := tables_1_6) (i := 12) rfl)))))))) rfl)
set_option maxRecDepth 20000 in
theorem se_X5_readAll : Cond.selects mX5_readAll.1.cls mX5_readAll.1 mX5_readAll.1 ∈ tblG := tblG_in (List.mem_append_left _ (List.mem_of_getElem? (i := 32) (by decide +kernel))) (by decide +kernel)
set_option maxRecDepth 20000 in
theorem im_X5_readBracket : Cond.instanceMethod mX5_readBracket.1 ∈ tblG := (tblG_in (List.mem_append_right _ (List.mem_append_right _ (List.mem_append_right _ (List.mem_append_right _ (List.mem_append_right _ (List.mem_append_right _ (List.mem_append_left _ (List.mem_of_getElem? (l := tables_1_6) (i := 30) rfl)))))))) rfl)
set_option maxRecDepth 20000 in
theorem se_X5_readBracket : Cond.selects mX5_readBracket.1.cls mX5_readBracket.1 mX5_readBracket.1 ∈ tblG := tblG_in (List.mem_append_left _ (List.mem_of_getElem? (i := 36) (by decide +kernel))) (by decide +kernel)
set_option maxRecDepth 20000 in
theorem im_X5_readCond : Cond.instanceMethod mX5_readCond.1 ∈ tblG := (tblG_in (List.mem_append_right _ (List.mem_append_right _ (List.mem_append_right _ (List.mem_append_right _ (List.mem_append_right _ (List.mem_append_right _ (List.mem_append_left _ (List.mem_of_getElem? (l := tables_1_6) (i := 8) rfl)))))))) rfl)
set_option maxRecDepth 20000 in
theorem se_X5_readCond : Cond.selects mX5_readCond.1.cls mX5_readCond.1 mX5_readCond.1 ∈ tblG := tblG_in (List.mem_append_left _ (List.mem_of_getElem? (i := 31) (by decide +kernel))) (by decide +kernel)
set_option maxRecDepth 20000 in
theorem im_X5_readNot : Cond.instanceMethod mX5_readNot.1 ∈ tblG := (tblG_in (List.mem_append_right _ (List.mem_append_right _ (List.mem_append_right _ (List.mem_append_right _ (List.mem_append_right _ (List.mem_append_right _ (List.mem_append_left _ (List.mem_of_getElem? (l := tables_1_6) (i := 22) rfl)))))))) rfl)
set_option maxRecDepth 20000 in
theorem se_X5_readNot : Cond.selects mX5_readNot.1.cls mX5_readNot.1 mX5_readNot.1 ∈ tblG := tblG_in (List.mem_append_left _ (List.mem_of_getElem? (i := 34) (by decide +kernel))) (by decide +kernel)
set_option maxRecDepth 20000 in
theorem im_X5_readOne : Cond.instanceMethod mX5_readOne.1 ∈ tblG := (tblG_in (List.mem_append_right _ (List.mem_append_right _ (List.mem_append_right _ (List.mem_append_right _ (List.mem_append_right _ (List.mem_append_right _ (List.mem_append_left _ (List.mem_of_getElem? (l := tables_1_6) (i := 16) rfl)))))))) rfl)
set_option maxRecDepth 20000 in
theorem se_X5_readOne : Cond.selects mX5_readOne.1.cls mX5_readOne.1 mX5_readOne.1 ∈ tblG := tblG_in (List.mem_append_left _ (List.mem_of_getElem? (i := 33) (by decide +kernel))) (by decide +kernel)
set_option maxRecDepth 20000 in
theorem im_X5_read : Cond.instanceMethod mX5_read.1 ∈ tblG := (tblG_in (List.mem_append_right _ (List.mem_append_right _ (List.mem_append_right _ (List.mem_append_right _ (List.mem_append_right _ (List.mem_append_right _ (List.mem_append_left _ (List.mem_of_getElem? (l := tables_1_6) (i := 0) rfl)))))))) rfl)
set_option maxRecDepth 20000 in
theorem se_X5_read : Cond.selects mX5_read.1.cls mX5_read.1 mX5_read.1 ∈ tblG := (tblG_in (List.mem_append_right _ (List.mem_append_right _ (List.mem_append_right _ (List.mem_append_right _ (List.mem_append_right _ (List.mem_append_right _ (List.mem_append_left _ (List.mem_of_getElem? (l := tables_1_6) (i := 1) rfl)))))))) rfl)
set_option maxRecDepth 20000 in
theorem st_X5_join : Cond.static mX5_join.1 ∈ tblG := (tblG_in (List.mem_append_right _ (List.mem_append_right _ (List.mem_append_right _ (List.mem_append_right _ (List.mem_append_right _ (List.mem_append_right _ (List.mem_append_left _ (List.mem_of_getElem? (l := tables_1_6) (i := 53) rfl)))))))) rfl)
set_option maxRecDepth 20000 in
theorem im_X10_isBeside : Cond.instanceMethod mX10_isBeside.1 ∈ tblG := (tblG_in (List.mem_append_right _ (List.mem_append_right _ (List.mem_append_right _ (List.mem_append_right _ (List.mem_append_right _ (List.mem_append_right _ (List.mem_append_left _ (List.mem_of_getElem? (l := tables_1_6) (i := 61) rfl)))))))) rfl)
set_option maxRecDepth 20000 in
theorem se_X10_isBeside : Cond.selects mX10_isBeside.1.cls mX10_isBeside.1 mX10_isBeside.1 ∈ tblG := (tblG_in (List.mem_append_right _ (List.mem_append_right _ (List.mem_append_right _ (List.mem_append_right _ (List.mem_append_right _ (List.mem_append_right _ (List.mem_append_left _ (List.mem_of_getElem? (l := tables_1_6) (i := 62) rfl)))))))) rfl)
set_option maxRecDepth 20000 in
theorem im_X5_compares : Cond.instanceMethod mX5_compares.1 ∈ tblG := (tblG_in (List.mem_append_right _ (List.mem_append_right _ (List.mem_append_right _ (List.mem_append_right _ (List.mem_append_right _ (List.mem_append_right _ (List.mem_append_left _ (List.mem_of_getElem? (l := tables_1_6) (i := 67) rfl)))))))) rfl)
set_option maxRecDepth 20000 in
theorem se_X5_compares : Cond.selects mX5_compares.1.cls mX5_compares.1 mX5_compares.1 ∈ tblG := tblG_in (List.mem_append_left _ (List.mem_of_getElem? (i := 40) (by decide +kernel))) (by decide +kernel)
set_option maxRecDepth 20000 in
theorem im_X5_plainHolds : Cond.instanceMethod mX5_plainHolds.1 ∈ tblG := (tblG_in (List.mem_append_right _ (List.mem_append_right _ (List.mem_append_right _ (List.mem_append_right _ (List.mem_append_right _ (List.mem_append_right _ (List.mem_append_left _ (List.mem_of_getElem? (l := tables_1_6) (i := 57) rfl)))))))) rfl)
set_option maxRecDepth 20000 in
theorem se_X5_plainHolds : Cond.selects mX5_plainHolds.1.cls mX5_plainHolds.1 mX5_plainHolds.1 ∈ tblG := tblG_in (List.mem_append_left _ (List.mem_of_getElem? (i := 39) (by decide +kernel))) (by decide +kernel)
set_option maxRecDepth 20000 in
theorem im_X5_holdsFor : Cond.instanceMethod mX5_holdsFor.1 ∈ tblG := (tblG_in (List.mem_append_right _ (List.mem_append_right _ (List.mem_append_right _ (List.mem_append_right _ (List.mem_append_right _ (List.mem_append_right _ (List.mem_append_left _ (List.mem_of_getElem? (l := tables_1_6) (i := 49) rfl)))))))) rfl)
set_option maxRecDepth 20000 in
theorem se_X5_holdsFor : Cond.selects mX5_holdsFor.1.cls mX5_holdsFor.1 mX5_holdsFor.1 ∈ tblG := (tblG_in (List.mem_append_right _ (List.mem_append_right _ (List.mem_append_right _ (List.mem_append_right _ (List.mem_append_right _ (List.mem_append_right _ (List.mem_append_left _ (List.mem_of_getElem? (l := tables_1_6) (i := 50) rfl)))))))) rfl)
set_option maxRecDepth 20000 in
theorem st_X7_packKeywords : Cond.static mX7_packKeywords.1 ∈ tblG := (tblG_in (List.mem_append_right _ (List.mem_append_left _ (List.mem_of_getElem? (l := tables_1_1) (i := 40) rfl))) rfl)
set_option maxRecDepth 20000 in
theorem im_X7_put : Cond.instanceMethod mX7_put.1 ∈ tblG := (tblG_in (List.mem_append_right _ (List.mem_append_right _ (List.mem_append_right _ (List.mem_append_left _ (List.mem_of_getElem? (l := tables_1_3) (i := 111) rfl))))) rfl)
set_option maxRecDepth 20000 in
theorem se_X7_put : Cond.selects mX7_put.1.cls mX7_put.1 mX7_put.1 ∈ tblG := (tblG_in (List.mem_append_right _ (List.mem_append_right _ (List.mem_append_right _ (List.mem_append_left _ (List.mem_of_getElem? (l := tables_1_3) (i := 112) rfl))))) rfl)
set_option maxRecDepth 20000 in
theorem im_X8_tryStep : Cond.instanceMethod mX8_tryStep.1 ∈ tblG := (tblG_in (List.mem_append_right _ (List.mem_append_right _ (List.mem_append_right _ (List.mem_append_right _ (List.mem_append_right _ (List.mem_append_left _ (List.mem_of_getElem? (l := tables_1_5) (i := 77) rfl))))))) rfl)
set_option maxRecDepth 20000 in
theorem se_X8_tryStep : Cond.selects mX8_tryStep.1.cls mX8_tryStep.1 mX8_tryStep.1 ∈ tblG := tblG_in (List.mem_append_left _ (List.mem_of_getElem? (i := 18) (by decide +kernel))) (by decide +kernel)
set_option maxRecDepth 20000 in
theorem im_X8_keep : Cond.instanceMethod mX8_keep.1 ∈ tblG := (tblG_in (List.mem_append_right _ (List.mem_append_right _ (List.mem_append_right _ (List.mem_append_right _ (List.mem_append_right _ (List.mem_append_left _ (List.mem_of_getElem? (l := tables_1_5) (i := 83) rfl))))))) rfl)
set_option maxRecDepth 20000 in
theorem se_X8_keep : Cond.selects mX8_keep.1.cls mX8_keep.1 mX8_keep.1 ∈ tblG := tblG_in (List.mem_append_left _ (List.mem_of_getElem? (i := 19) (by decide +kernel))) (by decide +kernel)
set_option maxRecDepth 20000 in
theorem im_X8_follow : Cond.instanceMethod mX8_follow.1 ∈ tblG := (tblG_in (List.mem_append_right _ (List.mem_append_right _ (List.mem_append_right _ (List.mem_append_right _ (List.mem_append_right _ (List.mem_append_left _ (List.mem_of_getElem? (l := tables_1_5) (i := 69) rfl))))))) rfl)
set_option maxRecDepth 20000 in
theorem se_X8_follow : Cond.selects mX8_follow.1.cls mX8_follow.1 mX8_follow.1 ∈ tblG := (tblG_in (List.mem_append_right _ (List.mem_append_right _ (List.mem_append_right _ (List.mem_append_right _ (List.mem_append_right _ (List.mem_append_left _ (List.mem_of_getElem? (l := tables_1_5) (i := 70) rfl))))))) rfl)
set_option maxRecDepth 20000 in
theorem im_X8_stepOfMost : Cond.instanceMethod mX8_stepOfMost.1 ∈ tblG := (tblG_in (List.mem_append_right _ (List.mem_append_right _ (List.mem_append_right _ (List.mem_append_right _ (List.mem_append_right _ (List.mem_append_left _ (List.mem_of_getElem? (l := tables_1_5) (i := 95) rfl))))))) rfl)
set_option maxRecDepth 20000 in
theorem se_X8_stepOfMost : Cond.selects mX8_stepOfMost.1.cls mX8_stepOfMost.1 mX8_stepOfMost.1 ∈ tblG := (tblG_in (List.mem_append_right _ (List.mem_append_right _ (List.mem_append_right _ (List.mem_append_right _ (List.mem_append_right _ (List.mem_append_left _ (List.mem_of_getElem? (l := tables_1_5) (i := 96) rfl))))))) rfl)
set_option maxRecDepth 20000 in
theorem st_X9_comesBack : Cond.static mX9_comesBack.1 ∈ tblG := (tblG_in (List.mem_append_right _ (List.mem_append_right _ (List.mem_append_right _ (List.mem_append_right _ (List.mem_append_right _ (List.mem_append_left _ (List.mem_of_getElem? (l := tables_1_5) (i := 52) rfl))))))) rfl)
set_option maxRecDepth 20000 in
theorem im_X9_find : Cond.instanceMethod mX9_find.1 ∈ tblG := (tblG_in (List.mem_append_right _ (List.mem_append_right _ (List.mem_append_right _ (List.mem_append_right _ (List.mem_append_right _ (List.mem_append_left _ (List.mem_of_getElem? (l := tables_1_5) (i := 48) rfl))))))) rfl)
set_option maxRecDepth 20000 in
theorem se_X9_find : Cond.selects mX9_find.1.cls mX9_find.1 mX9_find.1 ∈ tblG := (tblG_in (List.mem_append_right _ (List.mem_append_right _ (List.mem_append_right _ (List.mem_append_right _ (List.mem_append_right _ (List.mem_append_left _ (List.mem_of_getElem? (l := tables_1_5) (i := 49) rfl))))))) rfl)
set_option maxRecDepth 20000 in
theorem im_X10_copyFrom : Cond.instanceMethod mX10_copyFrom.1 ∈ tblG := (tblG_in (List.mem_append_right _ (List.mem_append_right _ (List.mem_append_right _ (List.mem_append_right _ (List.mem_append_left _ (List.mem_of_getElem? (l := tables_1_4) (i := 35) rfl)))))) rfl)
set_option maxRecDepth 20000 in
theorem se_X10_copyFrom : Cond.selects mX10_copyFrom.1.cls mX10_copyFrom.1 mX10_copyFrom.1 ∈ tblG := (tblG_in (List.mem_append_right _ (List.mem_append_right _ (List.mem_append_right _ (List.mem_append_right _ (List.mem_append_left _ (List.mem_of_getElem? (l := tables_1_4) (i := 36) rfl)))))) rfl)
set_option maxRecDepth 20000 in
theorem im_X10_hasFigure : Cond.instanceMethod mX10_hasFigure.1 ∈ tblG := (tblG_in (List.mem_append_right _ (List.mem_append_right _ (List.mem_append_right _ (List.mem_append_right _ (List.mem_append_left _ (List.mem_of_getElem? (l := tables_1_4) (i := 68) rfl)))))) rfl)
set_option maxRecDepth 20000 in
theorem se_X10_hasFigure : Cond.selects mX10_hasFigure.1.cls mX10_hasFigure.1 mX10_hasFigure.1 ∈ tblG := (tblG_in (List.mem_append_right _ (List.mem_append_right _ (List.mem_append_right _ (List.mem_append_right _ (List.mem_append_left _ (List.mem_of_getElem? (l := tables_1_4) (i := 69) rfl)))))) rfl)
set_option maxRecDepth 20000 in
theorem im_X10_hasPerson : Cond.instanceMethod mX10_hasPerson.1 ∈ tblG := (tblG_in (List.mem_append_right _ (List.mem_append_right _ (List.mem_append_right _ (List.mem_append_right _ (List.mem_append_left _ (List.mem_of_getElem? (l := tables_1_4) (i := 141) rfl)))))) rfl)
set_option maxRecDepth 20000 in
theorem se_X10_hasPerson : Cond.selects mX10_hasPerson.1.cls mX10_hasPerson.1 mX10_hasPerson.1 ∈ tblG := (tblG_in (List.mem_append_right _ (List.mem_append_right _ (List.mem_append_right _ (List.mem_append_right _ (List.mem_append_left _ (List.mem_of_getElem? (l := tables_1_4) (i := 142) rfl)))))) rfl)
set_option maxRecDepth 20000 in
theorem im_X10_hasPoint : Cond.instanceMethod mX10_hasPoint.1 ∈ tblG := (tblG_in (List.mem_append_right _ (List.mem_append_right _ (List.mem_append_right _ (List.mem_append_right _ (List.mem_append_left _ (List.mem_of_getElem? (l := tables_1_4) (i := 83) rfl)))))) rfl)
set_option maxRecDepth 20000 in
theorem se_X10_hasPoint : Cond.selects mX10_hasPoint.1.cls mX10_hasPoint.1 mX10_hasPoint.1 ∈ tblG := (tblG_in (List.mem_append_right _ (List.mem_append_right _ (List.mem_append_right _ (List.mem_append_right _ (List.mem_append_left _ (List.mem_of_getElem? (l := tables_1_4) (i := 84) rfl)))))) rfl)
set_option maxRecDepth 20000 in
theorem im_X10_draw : Cond.instanceMethod mX10_draw.1 ∈ tblG := (tblG_in (List.mem_append_right _ (List.mem_append_right _ (List.mem_append_right _ (List.mem_append_right _ (List.mem_append_right _ (List.mem_append_left _ (List.mem_of_getElem? (l := tables_1_5) (i := 145) rfl))))))) rfl)
set_option maxRecDepth 20000 in
theorem se_X10_draw : Cond.selects mX10_draw.1.cls mX10_draw.1 mX10_draw.1 ∈ tblG := tblG_in (List.mem_append_left _ (List.mem_of_getElem? (i := 24) (by decide +kernel))) (by decide +kernel)
set_option maxRecDepth 20000 in
theorem im_X10_drawAct : Cond.instanceMethod mX10_drawAct.1 ∈ tblG := (tblG_in (List.mem_append_right _ (List.mem_append_right _ (List.mem_append_right _ (List.mem_append_right _ (List.mem_append_right _ (List.mem_append_left _ (List.mem_of_getElem? (l := tables_1_5) (i := 141) rfl))))))) rfl)
set_option maxRecDepth 20000 in
theorem se_X10_drawAct : Cond.selects mX10_drawAct.1.cls mX10_drawAct.1 mX10_drawAct.1 ∈ tblG := tblG_in (List.mem_append_left _ (List.mem_of_getElem? (i := 23) (by decide +kernel))) (by decide +kernel)
set_option maxRecDepth 20000 in
theorem im_X10_drawHours : Cond.instanceMethod mX10_drawHours.1 ∈ tblG := (tblG_in (List.mem_append_right _ (List.mem_append_right _ (List.mem_append_right _ (List.mem_append_right _ (List.mem_append_right _ (List.mem_append_left _ (List.mem_of_getElem? (l := tables_1_5) (i := 136) rfl))))))) rfl)
set_option maxRecDepth 20000 in
theorem se_X10_drawHours : Cond.selects mX10_drawHours.1.cls mX10_drawHours.1 mX10_drawHours.1 ∈ tblG := (tblG_in (List.mem_append_right _ (List.mem_append_right _ (List.mem_append_right _ (List.mem_append_right _ (List.mem_append_right _ (List.mem_append_left _ (List.mem_of_getElem? (l := tables_1_5) (i := 137) rfl))))))) rfl)
set_option maxRecDepth 20000 in
theorem im_X10_whoIsSpent : Cond.instanceMethod mX10_whoIsSpent.1 ∈ tblG := (tblG_in (List.mem_append_right _ (List.mem_append_right _ (List.mem_append_right _ (List.mem_append_right _ (List.mem_append_left _ (List.mem_of_getElem? (l := tables_1_4) (i := 117) rfl)))))) rfl)
set_option maxRecDepth 20000 in
theorem se_X10_whoIsSpent : Cond.selects mX10_whoIsSpent.1.cls mX10_whoIsSpent.1 mX10_whoIsSpent.1 ∈ tblG := (tblG_in (List.mem_append_right _ (List.mem_append_right _ (List.mem_append_right _ (List.mem_append_right _ (List.mem_append_left _ (List.mem_of_getElem? (l := tables_1_4) (i := 118) rfl)))))) rfl)
set_option maxRecDepth 20000 in
theorem im_X10_whoIsUpright : Cond.instanceMethod mX10_whoIsUpright.1 ∈ tblG := (tblG_in (List.mem_append_right _ (List.mem_append_right _ (List.mem_append_right _ (List.mem_append_right _ (List.mem_append_left _ (List.mem_of_getElem? (l := tables_1_4) (i := 129) rfl)))))) rfl)
set_option maxRecDepth 20000 in
theorem se_X10_whoIsUpright : Cond.selects mX10_whoIsUpright.1.cls mX10_whoIsUpright.1 mX10_whoIsUpright.1 ∈ tblG := (tblG_in (List.mem_append_right _ (List.mem_append_right _ (List.mem_append_right _ (List.mem_append_right _ (List.mem_append_left _ (List.mem_of_getElem? (l := tables_1_4) (i := 130) rfl)))))) rfl)
set_option maxRecDepth 20000 in
theorem im_X10_forWhomCame : Cond.instanceMethod mX10_forWhomCame.1 ∈ tblG := (tblG_in (List.mem_append_right _ (List.mem_append_right _ (List.mem_append_right _ (List.mem_append_right _ (List.mem_append_left _ (List.mem_of_getElem? (l := tables_1_4) (i := 87) rfl)))))) rfl)
set_option maxRecDepth 20000 in
theorem se_X10_forWhomCame : Cond.selects mX10_forWhomCame.1.cls mX10_forWhomCame.1 mX10_forWhomCame.1 ∈ tblG := (tblG_in (List.mem_append_right _ (List.mem_append_right _ (List.mem_append_right _ (List.mem_append_right _ (List.mem_append_left _ (List.mem_of_getElem? (l := tables_1_4) (i := 88) rfl)))))) rfl)
set_option maxRecDepth 20000 in
theorem st_X10_sumOf : Cond.static mX10_sumOf.1 ∈ tblG := (tblG_in (List.mem_append_right _ (List.mem_append_right _ (List.mem_append_right _ (List.mem_append_right _ (List.mem_append_left _ (List.mem_of_getElem? (l := tables_1_4) (i := 110) rfl)))))) rfl)
set_option maxRecDepth 20000 in
theorem im_X10_allBreath : Cond.instanceMethod mX10_allBreath.1 ∈ tblG := (tblG_in (List.mem_append_right _ (List.mem_append_right _ (List.mem_append_right _ (List.mem_append_right _ (List.mem_append_left _ (List.mem_of_getElem? (l := tables_1_4) (i := 133) rfl)))))) rfl)
set_option maxRecDepth 20000 in
theorem se_X10_allBreath : Cond.selects mX10_allBreath.1.cls mX10_allBreath.1 mX10_allBreath.1 ∈ tblG := (tblG_in (List.mem_append_right _ (List.mem_append_right _ (List.mem_append_right _ (List.mem_append_right _ (List.mem_append_left _ (List.mem_of_getElem? (l := tables_1_4) (i := 134) rfl)))))) rfl)
set_option maxRecDepth 20000 in
theorem im_X10_allSpoken : Cond.instanceMethod mX10_allSpoken.1 ∈ tblG := (tblG_in (List.mem_append_right _ (List.mem_append_right _ (List.mem_append_right _ (List.mem_append_right _ (List.mem_append_left _ (List.mem_of_getElem? (l := tables_1_4) (i := 113) rfl)))))) rfl)
set_option maxRecDepth 20000 in
theorem se_X10_allSpoken : Cond.selects mX10_allSpoken.1.cls mX10_allSpoken.1 mX10_allSpoken.1 ∈ tblG := (tblG_in (List.mem_append_right _ (List.mem_append_right _ (List.mem_append_right _ (List.mem_append_right _ (List.mem_append_left _ (List.mem_of_getElem? (l := tables_1_4) (i := 114) rfl)))))) rfl)
set_option maxRecDepth 20000 in
theorem im_X10_allWalls : Cond.instanceMethod mX10_allWalls.1 ∈ tblG := (tblG_in (List.mem_append_right _ (List.mem_append_right _ (List.mem_append_right _ (List.mem_append_right _ (List.mem_append_left _ (List.mem_of_getElem? (l := tables_1_4) (i := 106) rfl)))))) rfl)
set_option maxRecDepth 20000 in
theorem se_X10_allWalls : Cond.selects mX10_allWalls.1.cls mX10_allWalls.1 mX10_allWalls.1 ∈ tblG := (tblG_in (List.mem_append_right _ (List.mem_append_right _ (List.mem_append_right _ (List.mem_append_right _ (List.mem_append_left _ (List.mem_of_getElem? (l := tables_1_4) (i := 107) rfl)))))) rfl)
set_option maxRecDepth 20000 in
theorem im_X10_whoHasLeast : Cond.instanceMethod mX10_whoHasLeast.1 ∈ tblG := (tblG_in (List.mem_append_right _ (List.mem_append_right _ (List.mem_append_right _ (List.mem_append_right _ (List.mem_append_right _ (List.mem_append_left _ (List.mem_of_getElem? (l := tables_1_5) (i := 103) rfl))))))) rfl)
set_option maxRecDepth 20000 in
theorem se_X10_whoHasLeast : Cond.selects mX10_whoHasLeast.1.cls mX10_whoHasLeast.1 mX10_whoHasLeast.1 ∈ tblG := (tblG_in (List.mem_append_right _ (List.mem_append_right _ (List.mem_append_right _ (List.mem_append_right _ (List.mem_append_right _ (List.mem_append_left _ (List.mem_of_getElem? (l := tables_1_5) (i := 104) rfl))))))) rfl)
set_option maxRecDepth 20000 in
theorem im_X11_feed : Cond.instanceMethod mX11_feed.1 ∈ tblG := (tblG_in (List.mem_append_right _ (List.mem_append_right _ (List.mem_append_right _ (List.mem_append_left _ (List.mem_of_getElem? (l := tables_1_3) (i := 107) rfl))))) rfl)
set_option maxRecDepth 20000 in
theorem se_X11_feed : Cond.selects mX11_feed.1.cls mX11_feed.1 mX11_feed.1 ∈ tblG := (tblG_in (List.mem_append_right _ (List.mem_append_right _ (List.mem_append_right _ (List.mem_append_left _ (List.mem_of_getElem? (l := tables_1_3) (i := 108) rfl))))) rfl)
set_option maxRecDepth 20000 in
theorem im_X11_end : Cond.instanceMethod mX11_end.1 ∈ tblG := (tblG_in (List.mem_append_right _ (List.mem_append_right _ (List.mem_append_right _ (List.mem_append_left _ (List.mem_of_getElem? (l := tables_1_3) (i := 115) rfl))))) rfl)
set_option maxRecDepth 20000 in
theorem se_X11_end : Cond.selects mX11_end.1.cls mX11_end.1 mX11_end.1 ∈ tblG := (tblG_in (List.mem_append_right _ (List.mem_append_right _ (List.mem_append_right _ (List.mem_append_left _ (List.mem_of_getElem? (l := tables_1_3) (i := 116) rfl))))) rfl)
set_option maxRecDepth 20000 in
theorem im_X11_downs : Cond.instanceMethod mX11_downs.1 ∈ tblG := (tblG_in (List.mem_append_right _ (List.mem_append_right _ (List.mem_append_right _ (List.mem_append_left _ (List.mem_of_getElem? (l := tables_1_3) (i := 119) rfl))))) rfl)
set_option maxRecDepth 20000 in
theorem se_X11_downs : Cond.selects mX11_downs.1.cls mX11_downs.1 mX11_downs.1 ∈ tblG := (tblG_in (List.mem_append_right _ (List.mem_append_right _ (List.mem_append_right _ (List.mem_append_left _ (List.mem_of_getElem? (l := tables_1_3) (i := 120) rfl))))) rfl)
set_option maxRecDepth 20000 in
theorem im_X11_fault : Cond.instanceMethod mX11_fault.1 ∈ tblG := (tblG_in (List.mem_append_right _ (List.mem_append_right _ (List.mem_append_right _ (List.mem_append_right _ (List.mem_append_left _ (List.mem_of_getElem? (l := tables_1_4) (i := 60) rfl)))))) rfl)
set_option maxRecDepth 20000 in
theorem se_X11_fault : Cond.selects mX11_fault.1.cls mX11_fault.1 mX11_fault.1 ∈ tblG := (tblG_in (List.mem_append_right _ (List.mem_append_right _ (List.mem_append_right _ (List.mem_append_right _ (List.mem_append_left _ (List.mem_of_getElem? (l := tables_1_4) (i := 61) rfl)))))) rfl)
set_option maxRecDepth 20000 in
theorem im_X11_person : Cond.instanceMethod mX11_person.1 ∈ tblG := (tblG_in (List.mem_append_right _ (List.mem_append_right _ (List.mem_append_right _ (List.mem_append_right _ (List.mem_append_right _ (List.mem_append_right _ (List.mem_append_left _ (List.mem_of_getElem? (l := tables_1_6) (i := 86) rfl)))))))) rfl)
set_option maxRecDepth 20000 in
theorem se_X11_person : Cond.selects mX11_person.1.cls mX11_person.1 mX11_person.1 ∈ tblG := (tblG_in (List.mem_append_right _ (List.mem_append_right _ (List.mem_append_right _ (List.mem_append_right _ (List.mem_append_right _ (List.mem_append_right _ (List.mem_append_left _ (List.mem_of_getElem? (l := tables_1_6) (i := 87) rfl)))))))) rfl)
set_option maxRecDepth 20000 in
theorem im_X11_figure : Cond.instanceMethod mX11_figure.1 ∈ tblG := (tblG_in (List.mem_append_right _ (List.mem_append_right _ (List.mem_append_right _ (List.mem_append_right _ (List.mem_append_left _ (List.mem_of_getElem? (l := tables_1_4) (i := 64) rfl)))))) rfl)
set_option maxRecDepth 20000 in
theorem se_X11_figure : Cond.selects mX11_figure.1.cls mX11_figure.1 mX11_figure.1 ∈ tblG := (tblG_in (List.mem_append_right _ (List.mem_append_right _ (List.mem_append_right _ (List.mem_append_right _ (List.mem_append_left _ (List.mem_of_getElem? (l := tables_1_4) (i := 65) rfl)))))) rfl)
set_option maxRecDepth 20000 in
theorem im_X11_point : Cond.instanceMethod mX11_point.1 ∈ tblG := (tblG_in (List.mem_append_right _ (List.mem_append_right _ (List.mem_append_right _ (List.mem_append_right _ (List.mem_append_left _ (List.mem_of_getElem? (l := tables_1_4) (i := 79) rfl)))))) rfl)
set_option maxRecDepth 20000 in
theorem se_X11_point : Cond.selects mX11_point.1.cls mX11_point.1 mX11_point.1 ∈ tblG := (tblG_in (List.mem_append_right _ (List.mem_append_right _ (List.mem_append_right _ (List.mem_append_right _ (List.mem_append_left _ (List.mem_of_getElem? (l := tables_1_4) (i := 80) rfl)))))) rfl)
set_option maxRecDepth 20000 in
theorem im_X11_cell : Cond.instanceMethod mX11_cell.1 ∈ tblG := (tblG_in (List.mem_append_right _ (List.mem_append_right _ (List.mem_append_right _ (List.mem_append_right _ (List.mem_append_left _ (List.mem_of_getElem? (l := tables_1_4) (i := 91) rfl)))))) rfl)
set_option maxRecDepth 20000 in
theorem se_X11_cell : Cond.selects mX11_cell.1.cls mX11_cell.1 mX11_cell.1 ∈ tblG := (tblG_in (List.mem_append_right _ (List.mem_append_right _ (List.mem_append_right _ (List.mem_append_right _ (List.mem_append_left _ (List.mem_of_getElem? (l := tables_1_4) (i := 92) rfl)))))) rfl)
set_option maxRecDepth 20000 in
theorem im_X11_now : Cond.instanceMethod mX11_now.1 ∈ tblG := (tblG_in (List.mem_append_right _ (List.mem_append_right _ (List.mem_append_right _ (List.mem_append_right _ (List.mem_append_left _ (List.mem_of_getElem? (l := tables_1_4) (i := 102) rfl)))))) rfl)
set_option maxRecDepth 20000 in
theorem se_X11_now : Cond.selects mX11_now.1.cls mX11_now.1 mX11_now.1 ∈ tblG := (tblG_in (List.mem_append_right _ (List.mem_append_right _ (List.mem_append_right _ (List.mem_append_right _ (List.mem_append_left _ (List.mem_of_getElem? (l := tables_1_4) (i := 103) rfl)))))) rfl)
set_option maxRecDepth 20000 in
theorem st_X11_isSide : Cond.static mX11_isSide.1 ∈ tblG := (tblG_in (List.mem_append_right _ (List.mem_append_right _ (List.mem_append_right _ (List.mem_append_right _ (List.mem_append_left _ (List.mem_of_getElem? (l := tables_1_4) (i := 145) rfl)))))) rfl)
set_option maxRecDepth 20000 in
theorem im_X11_say : Cond.instanceMethod mX11_say.1 ∈ tblG := (tblG_in (List.mem_append_right _ (List.mem_append_right _ (List.mem_append_right _ (List.mem_append_right _ (List.mem_append_left _ (List.mem_of_getElem? (l := tables_1_4) (i := 137) rfl)))))) rfl)
set_option maxRecDepth 20000 in
theorem se_X11_say : Cond.selects mX11_say.1.cls mX11_say.1 mX11_say.1 ∈ tblG := (tblG_in (List.mem_append_right _ (List.mem_append_right _ (List.mem_append_right _ (List.mem_append_right _ (List.mem_append_left _ (List.mem_of_getElem? (l := tables_1_4) (i := 138) rfl)))))) rfl)
set_option maxRecDepth 20000 in
theorem im_X11_kick : Cond.instanceMethod mX11_kick.1 ∈ tblG := (tblG_in (List.mem_append_right _ (List.mem_append_right _ (List.mem_append_right _ (List.mem_append_right _ (List.mem_append_left _ (List.mem_of_getElem? (l := tables_1_4) (i := 174) rfl)))))) rfl)
set_option maxRecDepth 20000 in
theorem se_X11_kick : Cond.selects mX11_kick.1.cls mX11_kick.1 mX11_kick.1 ∈ tblG := (tblG_in (List.mem_append_right _ (List.mem_append_right _ (List.mem_append_right _ (List.mem_append_right _ (List.mem_append_left _ (List.mem_of_getElem? (l := tables_1_4) (i := 175) rfl)))))) rfl)
set_option maxRecDepth 20000 in
theorem im_X11_rest : Cond.instanceMethod mX11_rest.1 ∈ tblG := (tblG_in (List.mem_append_right _ (List.mem_append_right _ (List.mem_append_right _ (List.mem_append_right _ (List.mem_append_left _ (List.mem_of_getElem? (l := tables_1_4) (i := 187) rfl)))))) rfl)
set_option maxRecDepth 20000 in
theorem se_X11_rest : Cond.selects mX11_rest.1.cls mX11_rest.1 mX11_rest.1 ∈ tblG := (tblG_in (List.mem_append_right _ (List.mem_append_right _ (List.mem_append_right _ (List.mem_append_right _ (List.mem_append_left _ (List.mem_of_getElem? (l := tables_1_4) (i := 188) rfl)))))) rfl)
set_option maxRecDepth 20000 in
theorem im_X11_hours : Cond.instanceMethod mX11_hours.1 ∈ tblG := (tblG_in (List.mem_append_right _ (List.mem_append_right _ (List.mem_append_right _ (List.mem_append_right _ (List.mem_append_left _ (List.mem_of_getElem? (l := tables_1_4) (i := 199) rfl)))))) rfl)
set_option maxRecDepth 20000 in
theorem se_X11_hours : Cond.selects mX11_hours.1.cls mX11_hours.1 mX11_hours.1 ∈ tblG := (tblG_in (List.mem_append_right _ (List.mem_append_right _ (List.mem_append_right _ (List.mem_append_right _ (List.mem_append_left _ (List.mem_of_getElem? (l := tables_1_4) (i := 200) rfl)))))) rfl)
set_option maxRecDepth 20000 in
theorem im_X11_undo : Cond.instanceMethod mX11_undo.1 ∈ tblG := (tblG_in (List.mem_append_right _ (List.mem_append_right _ (List.mem_append_right _ (List.mem_append_right _ (List.mem_append_left _ (List.mem_of_getElem? (l := tables_1_4) (i := 213) rfl)))))) rfl)
set_option maxRecDepth 20000 in
theorem se_X11_undo : Cond.selects mX11_undo.1.cls mX11_undo.1 mX11_undo.1 ∈ tblG := (tblG_in (List.mem_append_right _ (List.mem_append_right _ (List.mem_append_right _ (List.mem_append_right _ (List.mem_append_left _ (List.mem_of_getElem? (l := tables_1_4) (i := 214) rfl)))))) rfl)
set_option maxRecDepth 20000 in
theorem im_X11_could : Cond.instanceMethod mX11_could.1 ∈ tblG := (tblG_in (List.mem_append_right _ (List.mem_append_right _ (List.mem_append_right _ (List.mem_append_right _ (List.mem_append_left _ (List.mem_of_getElem? (l := tables_1_4) (i := 221) rfl)))))) rfl)
set_option maxRecDepth 20000 in
theorem se_X11_could : Cond.selects mX11_could.1.cls mX11_could.1 mX11_could.1 ∈ tblG := (tblG_in (List.mem_append_right _ (List.mem_append_right _ (List.mem_append_right _ (List.mem_append_right _ (List.mem_append_left _ (List.mem_of_getElem? (l := tables_1_4) (i := 222) rfl)))))) rfl)
set_option maxRecDepth 20000 in
theorem im_X11_way : Cond.instanceMethod mX11_way.1 ∈ tblG := (tblG_in (List.mem_append_right _ (List.mem_append_right _ (List.mem_append_right _ (List.mem_append_right _ (List.mem_append_left _ (List.mem_of_getElem? (l := tables_1_4) (i := 225) rfl)))))) rfl)
set_option maxRecDepth 20000 in
theorem se_X11_way : Cond.selects mX11_way.1.cls mX11_way.1 mX11_way.1 ∈ tblG := (tblG_in (List.mem_append_right _ (List.mem_append_right _ (List.mem_append_right _ (List.mem_append_right _ (List.mem_append_left _ (List.mem_of_getElem? (l := tables_1_4) (i := 226) rfl)))))) rfl)
set_option maxRecDepth 20000 in
theorem im_X11_wayAt : Cond.instanceMethod mX11_wayAt.1 ∈ tblG := (tblG_in (List.mem_append_right _ (List.mem_append_right _ (List.mem_append_right _ (List.mem_append_right _ (List.mem_append_right _ (List.mem_append_left _ (List.mem_of_getElem? (l := tables_1_5) (i := 27) rfl))))))) rfl)
set_option maxRecDepth 20000 in
theorem se_X11_wayAt : Cond.selects mX11_wayAt.1.cls mX11_wayAt.1 mX11_wayAt.1 ∈ tblG := (tblG_in (List.mem_append_right _ (List.mem_append_right _ (List.mem_append_right _ (List.mem_append_right _ (List.mem_append_right _ (List.mem_append_left _ (List.mem_of_getElem? (l := tables_1_5) (i := 28) rfl))))))) rfl)
set_option maxRecDepth 20000 in
theorem im_X11_both : Cond.instanceMethod mX11_both.1 ∈ tblG := (tblG_in (List.mem_append_right _ (List.mem_append_right _ (List.mem_append_right _ (List.mem_append_right _ (List.mem_append_right _ (List.mem_append_left _ (List.mem_of_getElem? (l := tables_1_5) (i := 31) rfl))))))) rfl)
set_option maxRecDepth 20000 in
theorem se_X11_both : Cond.selects mX11_both.1.cls mX11_both.1 mX11_both.1 ∈ tblG := (tblG_in (List.mem_append_right _ (List.mem_append_right _ (List.mem_append_right _ (List.mem_append_right _ (List.mem_append_right _ (List.mem_append_left _ (List.mem_of_getElem? (l := tables_1_5) (i := 32) rfl))))))) rfl)
set_option maxRecDepth 20000 in
theorem im_X11_sees : Cond.instanceMethod mX11_sees.1 ∈ tblG := (tblG_in (List.mem_append_right _ (List.mem_append_right _ (List.mem_append_right _ (List.mem_append_right _ (List.mem_append_right _ (List.mem_append_left _ (List.mem_of_getElem? (l := tables_1_5) (i := 36) rfl))))))) rfl)
set_option maxRecDepth 20000 in
theorem se_X11_sees : Cond.selects mX11_sees.1.cls mX11_sees.1 mX11_sees.1 ∈ tblG := (tblG_in (List.mem_append_right _ (List.mem_append_right _ (List.mem_append_right _ (List.mem_append_right _ (List.mem_append_right _ (List.mem_append_left _ (List.mem_of_getElem? (l := tables_1_5) (i := 37) rfl))))))) rfl)
set_option maxRecDepth 20000 in
theorem im_X11_undoes : Cond.instanceMethod mX11_undoes.1 ∈ tblG := (tblG_in (List.mem_append_right _ (List.mem_append_right _ (List.mem_append_right _ (List.mem_append_right _ (List.mem_append_right _ (List.mem_append_left _ (List.mem_of_getElem? (l := tables_1_5) (i := 44) rfl))))))) rfl)
set_option maxRecDepth 20000 in
theorem se_X11_undoes : Cond.selects mX11_undoes.1.cls mX11_undoes.1 mX11_undoes.1 ∈ tblG := (tblG_in (List.mem_append_right _ (List.mem_append_right _ (List.mem_append_right _ (List.mem_append_right _ (List.mem_append_right _ (List.mem_append_left _ (List.mem_of_getElem? (l := tables_1_5) (i := 45) rfl))))))) rfl)
set_option maxRecDepth 20000 in
theorem im_X11_undoesAt : Cond.instanceMethod mX11_undoesAt.1 ∈ tblG := (tblG_in (List.mem_append_right _ (List.mem_append_right _ (List.mem_append_right _ (List.mem_append_right _ (List.mem_append_right _ (List.mem_append_left _ (List.mem_of_getElem? (l := tables_1_5) (i := 61) rfl))))))) rfl)
set_option maxRecDepth 20000 in
theorem se_X11_undoesAt : Cond.selects mX11_undoesAt.1.cls mX11_undoesAt.1 mX11_undoesAt.1 ∈ tblG := (tblG_in (List.mem_append_right _ (List.mem_append_right _ (List.mem_append_right _ (List.mem_append_right _ (List.mem_append_right _ (List.mem_append_left _ (List.mem_of_getElem? (l := tables_1_5) (i := 62) rfl))))))) rfl)
set_option maxRecDepth 20000 in
theorem im_X11_tracks : Cond.instanceMethod mX11_tracks.1 ∈ tblG := (tblG_in (List.mem_append_right _ (List.mem_append_right _ (List.mem_append_right _ (List.mem_append_right _ (List.mem_append_right _ (List.mem_append_left _ (List.mem_of_getElem? (l := tables_1_5) (i := 65) rfl))))))) rfl)
set_option maxRecDepth 20000 in
theorem se_X11_tracks : Cond.selects mX11_tracks.1.cls mX11_tracks.1 mX11_tracks.1 ∈ tblG := (tblG_in (List.mem_append_right _ (List.mem_append_right _ (List.mem_append_right _ (List.mem_append_right _ (List.mem_append_right _ (List.mem_append_left _ (List.mem_of_getElem? (l := tables_1_5) (i := 66) rfl))))))) rfl)
set_option maxRecDepth 20000 in
theorem im_X11_tracksAt : Cond.instanceMethod mX11_tracksAt.1 ∈ tblG := (tblG_in (List.mem_append_right _ (List.mem_append_right _ (List.mem_append_right _ (List.mem_append_right _ (List.mem_append_right _ (List.mem_append_left _ (List.mem_of_getElem? (l := tables_1_5) (i := 87) rfl))))))) rfl)
set_option maxRecDepth 20000 in
theorem se_X11_tracksAt : Cond.selects mX11_tracksAt.1.cls mX11_tracksAt.1 mX11_tracksAt.1 ∈ tblG := (tblG_in (List.mem_append_right _ (List.mem_append_right _ (List.mem_append_right _ (List.mem_append_right _ (List.mem_append_right _ (List.mem_append_left _ (List.mem_of_getElem? (l := tables_1_5) (i := 88) rfl))))))) rfl)
set_option maxRecDepth 20000 in
theorem im_X11_tells : Cond.instanceMethod mX11_tells.1 ∈ tblG := (tblG_in (List.mem_append_right _ (List.mem_append_right _ (List.mem_append_right _ (List.mem_append_right _ (List.mem_append_right _ (List.mem_append_left _ (List.mem_of_getElem? (l := tables_1_5) (i := 91) rfl))))))) rfl)
set_option maxRecDepth 20000 in
theorem se_X11_tells : Cond.selects mX11_tells.1.cls mX11_tells.1 mX11_tells.1 ∈ tblG := (tblG_in (List.mem_append_right _ (List.mem_append_right _ (List.mem_append_right _ (List.mem_append_right _ (List.mem_append_right _ (List.mem_append_left _ (List.mem_of_getElem? (l := tables_1_5) (i := 92) rfl))))))) rfl)
set_option maxRecDepth 20000 in
theorem im_X11_least : Cond.instanceMethod mX11_least.1 ∈ tblG := (tblG_in (List.mem_append_right _ (List.mem_append_right _ (List.mem_append_right _ (List.mem_append_right _ (List.mem_append_right _ (List.mem_append_left _ (List.mem_of_getElem? (l := tables_1_5) (i := 99) rfl))))))) rfl)
set_option maxRecDepth 20000 in
theorem se_X11_least : Cond.selects mX11_least.1.cls mX11_least.1 mX11_least.1 ∈ tblG := (tblG_in (List.mem_append_right _ (List.mem_append_right _ (List.mem_append_right _ (List.mem_append_right _ (List.mem_append_right _ (List.mem_append_left _ (List.mem_of_getElem? (l := tables_1_5) (i := 100) rfl))))))) rfl)
set_option maxRecDepth 20000 in
theorem st_X11_commonDivisor : Cond.static mX11_commonDivisor.1 ∈ tblG := (tblG_in (List.mem_append_right _ (List.mem_append_right _ (List.mem_append_right _ (List.mem_append_right _ (List.mem_append_right _ (List.mem_append_right _ (List.mem_append_left _ (List.mem_of_getElem? (l := tables_1_6) (i := 158) rfl)))))))) rfl)
set_option maxRecDepth 20000 in
theorem im_X11_mean : Cond.instanceMethod mX11_mean.1 ∈ tblG := (tblG_in (List.mem_append_right _ (List.mem_append_right _ (List.mem_append_right _ (List.mem_append_right _ (List.mem_append_right _ (List.mem_append_right _ (List.mem_append_left _ (List.mem_of_getElem? (l := tables_1_6) (i := 154) rfl)))))))) rfl)
set_option maxRecDepth 20000 in
theorem se_X11_mean : Cond.selects mX11_mean.1.cls mX11_mean.1 mX11_mean.1 ∈ tblG := (tblG_in (List.mem_append_right _ (List.mem_append_right _ (List.mem_append_right _ (List.mem_append_right _ (List.mem_append_right _ (List.mem_append_right _ (List.mem_append_left _ (List.mem_of_getElem? (l := tables_1_6) (i := 155) rfl)))))))) rfl)
set_option maxRecDepth 20000 in
theorem im_X11_slipByte : Cond.instanceMethod mX11_slipByte.1 ∈ tblG := (tblG_in (List.mem_append_right _ (List.mem_append_right _ (List.mem_append_right _ (List.mem_append_right _ (List.mem_append_right _ (List.mem_append_left _ (List.mem_of_getElem? (l := tables_1_5) (i := 116) rfl))))))) rfl)
set_option maxRecDepth 20000 in
theorem se_X11_slipByte : Cond.selects mX11_slipByte.1.cls mX11_slipByte.1 mX11_slipByte.1 ∈ tblG := tblG_in (List.mem_append_left _ (List.mem_of_getElem? (i := 21) (by decide +kernel))) (by decide +kernel)
set_option maxRecDepth 20000 in
theorem im_X11_slipName : Cond.instanceMethod mX11_slipName.1 ∈ tblG := (tblG_in (List.mem_append_right _ (List.mem_append_right _ (List.mem_append_right _ (List.mem_append_right _ (List.mem_append_right _ (List.mem_append_left _ (List.mem_of_getElem? (l := tables_1_5) (i := 112) rfl))))))) rfl)
set_option maxRecDepth 20000 in
theorem se_X11_slipName : Cond.selects mX11_slipName.1.cls mX11_slipName.1 mX11_slipName.1 ∈ tblG := tblG_in (List.mem_append_left _ (List.mem_of_getElem? (i := 20) (by decide +kernel))) (by decide +kernel)
set_option maxRecDepth 20000 in
theorem im_X11_slipText : Cond.instanceMethod mX11_slipText.1 ∈ tblG := (tblG_in (List.mem_append_right _ (List.mem_append_right _ (List.mem_append_right _ (List.mem_append_right _ (List.mem_append_right _ (List.mem_append_left _ (List.mem_of_getElem? (l := tables_1_5) (i := 121) rfl))))))) rfl)
set_option maxRecDepth 20000 in
theorem se_X11_slipText : Cond.selects mX11_slipText.1.cls mX11_slipText.1 mX11_slipText.1 ∈ tblG := tblG_in (List.mem_append_left _ (List.mem_of_getElem? (i := 22) (by decide +kernel))) (by decide +kernel)
set_option maxRecDepth 20000 in
theorem im_X11_slip : Cond.instanceMethod mX11_slip.1 ∈ tblG := (tblG_in (List.mem_append_right _ (List.mem_append_right _ (List.mem_append_right _ (List.mem_append_right _ (List.mem_append_right _ (List.mem_append_left _ (List.mem_of_getElem? (l := tables_1_5) (i := 107) rfl))))))) rfl)
set_option maxRecDepth 20000 in
theorem se_X11_slip : Cond.selects mX11_slip.1.cls mX11_slip.1 mX11_slip.1 ∈ tblG := (tblG_in (List.mem_append_right _ (List.mem_append_right _ (List.mem_append_right _ (List.mem_append_right _ (List.mem_append_right _ (List.mem_append_left _ (List.mem_of_getElem? (l := tables_1_5) (i := 108) rfl))))))) rfl)
set_option maxRecDepth 20000 in
theorem im_X11_byteAt : Cond.instanceMethod mX11_byteAt.1 ∈ tblG := (tblG_in (List.mem_append_right _ (List.mem_append_right _ (List.mem_append_right _ (List.mem_append_right _ (List.mem_append_right _ (List.mem_append_left _ (List.mem_of_getElem? (l := tables_1_5) (i := 128) rfl))))))) rfl)
set_option maxRecDepth 20000 in
theorem se_X11_byteAt : Cond.selects mX11_byteAt.1.cls mX11_byteAt.1 mX11_byteAt.1 ∈ tblG := (tblG_in (List.mem_append_right _ (List.mem_append_right _ (List.mem_append_right _ (List.mem_append_right _ (List.mem_append_right _ (List.mem_append_left _ (List.mem_of_getElem? (l := tables_1_5) (i := 129) rfl))))))) rfl)
set_option maxRecDepth 20000 in
theorem im_X11_drawn : Cond.instanceMethod mX11_drawn.1 ∈ tblG := (tblG_in (List.mem_append_right _ (List.mem_append_right _ (List.mem_append_right _ (List.mem_append_right _ (List.mem_append_right _ (List.mem_append_left _ (List.mem_of_getElem? (l := tables_1_5) (i := 132) rfl))))))) rfl)
set_option maxRecDepth 20000 in
theorem se_X11_drawn : Cond.selects mX11_drawn.1.cls mX11_drawn.1 mX11_drawn.1 ∈ tblG := (tblG_in (List.mem_append_right _ (List.mem_append_right _ (List.mem_append_right _ (List.mem_append_right _ (List.mem_append_right _ (List.mem_append_left _ (List.mem_of_getElem? (l := tables_1_5) (i := 133) rfl))))))) rfl)
set_option maxRecDepth 20000 in
theorem im_X11_odds : Cond.instanceMethod mX11_odds.1 ∈ tblG := (tblG_in (List.mem_append_right _ (List.mem_append_right _ (List.mem_append_right _ (List.mem_append_right _ (List.mem_append_right _ (List.mem_append_left _ (List.mem_of_getElem? (l := tables_1_5) (i := 168) rfl))))))) rfl)
set_option maxRecDepth 20000 in
theorem se_X11_odds : Cond.selects mX11_odds.1.cls mX11_odds.1 mX11_odds.1 ∈ tblG := (tblG_in (List.mem_append_right _ (List.mem_append_right _ (List.mem_append_right _ (List.mem_append_right _ (List.mem_append_right _ (List.mem_append_left _ (List.mem_of_getElem? (l := tables_1_5) (i := 169) rfl))))))) rfl)
set_option maxRecDepth 20000 in
theorem im_X11_book : Cond.instanceMethod mX11_book.1 ∈ tblG := (tblG_in (List.mem_append_right _ (List.mem_append_right _ (List.mem_append_right _ (List.mem_append_right _ (List.mem_append_right _ (List.mem_append_left _ (List.mem_of_getElem? (l := tables_1_5) (i := 173) rfl))))))) rfl)
set_option maxRecDepth 20000 in
theorem se_X11_book : Cond.selects mX11_book.1.cls mX11_book.1 mX11_book.1 ∈ tblG := (tblG_in (List.mem_append_right _ (List.mem_append_right _ (List.mem_append_right _ (List.mem_append_right _ (List.mem_append_right _ (List.mem_append_left _ (List.mem_of_getElem? (l := tables_1_5) (i := 174) rfl))))))) rfl)
set_option maxRecDepth 20000 in
theorem im_X11_told : Cond.instanceMethod mX11_told.1 ∈ tblG := (tblG_in (List.mem_append_right _ (List.mem_append_right _ (List.mem_append_right _ (List.mem_append_right _ (List.mem_append_right _ (List.mem_append_left _ (List.mem_of_getElem? (l := tables_1_5) (i := 232) rfl))))))) rfl)
set_option maxRecDepth 20000 in
theorem se_X11_told : Cond.selects mX11_told.1.cls mX11_told.1 mX11_told.1 ∈ tblG := (tblG_in (List.mem_append_right _ (List.mem_append_right _ (List.mem_append_right _ (List.mem_append_right _ (List.mem_append_right _ (List.mem_append_left _ (List.mem_of_getElem? (l := tables_1_5) (i := 233) rfl))))))) rfl)
set_option maxRecDepth 20000 in
theorem im_X11_sentence : Cond.instanceMethod mX11_sentence.1 ∈ tblG := (tblG_in (List.mem_append_right _ (List.mem_append_right _ (List.mem_append_right _ (List.mem_append_right _ (List.mem_append_right _ (List.mem_append_left _ (List.mem_of_getElem? (l := tables_1_5) (i := 236) rfl))))))) rfl)
set_option maxRecDepth 20000 in
theorem se_X11_sentence : Cond.selects mX11_sentence.1.cls mX11_sentence.1 mX11_sentence.1 ∈ tblG := (tblG_in (List.mem_append_right _ (List.mem_append_right _ (List.mem_append_right _ (List.mem_append_right _ (List.mem_append_right _ (List.mem_append_left _ (List.mem_of_getElem? (l := tables_1_5) (i := 237) rfl))))))) rfl)
set_option maxRecDepth 20000 in
theorem im_X11_said : Cond.instanceMethod mX11_said.1 ∈ tblG := (tblG_in (List.mem_append_right _ (List.mem_append_right _ (List.mem_append_right _ (List.mem_append_right _ (List.mem_append_right _ (List.mem_append_right _ (List.mem_append_left _ (List.mem_of_getElem? (l := tables_1_6) (i := 45) rfl)))))))) rfl)
set_option maxRecDepth 20000 in
theorem se_X11_said : Cond.selects mX11_said.1.cls mX11_said.1 mX11_said.1 ∈ tblG := (tblG_in (List.mem_append_right _ (List.mem_append_right _ (List.mem_append_right _ (List.mem_append_right _ (List.mem_append_right _ (List.mem_append_right _ (List.mem_append_left _ (List.mem_of_getElem? (l := tables_1_6) (i := 46) rfl)))))))) rfl)
set_option maxRecDepth 20000 in
theorem im_X11_image : Cond.instanceMethod mX11_image.1 ∈ tblG := (tblG_in (List.mem_append_right _ (List.mem_append_right _ (List.mem_append_right _ (List.mem_append_right _ (List.mem_append_right _ (List.mem_append_right _ (List.mem_append_left _ (List.mem_of_getElem? (l := tables_1_6) (i := 70) rfl)))))))) rfl)
set_option maxRecDepth 20000 in
theorem se_X11_image : Cond.selects mX11_image.1.cls mX11_image.1 mX11_image.1 ∈ tblG := (tblG_in (List.mem_append_right _ (List.mem_append_right _ (List.mem_append_right _ (List.mem_append_right _ (List.mem_append_right _ (List.mem_append_right _ (List.mem_append_left _ (List.mem_of_getElem? (l := tables_1_6) (i := 71) rfl)))))))) rfl)
set_option maxRecDepth 20000 in
theorem im_X11_restore : Cond.instanceMethod mX11_restore.1 ∈ tblG := (tblG_in (List.mem_append_right _ (List.mem_append_right _ (List.mem_append_right _ (List.mem_append_right _ (List.mem_append_right _ (List.mem_append_right _ (List.mem_append_left _ (List.mem_of_getElem? (l := tables_1_6) (i := 74) rfl)))))))) rfl)
set_option maxRecDepth 20000 in
theorem se_X11_restore : Cond.selects mX11_restore.1.cls mX11_restore.1 mX11_restore.1 ∈ tblG := (tblG_in (List.mem_append_right _ (List.mem_append_right _ (List.mem_append_right _ (List.mem_append_right _ (List.mem_append_right _ (List.mem_append_right _ (List.mem_append_left _ (List.mem_of_getElem? (l := tables_1_6) (i := 75) rfl)))))))) rfl)
set_option maxRecDepth 20000 in
theorem im_X11_count : Cond.instanceMethod mX11_count.1 ∈ tblG := (tblG_in (List.mem_append_right _ (List.mem_append_right _ (List.mem_append_right _ (List.mem_append_right _ (List.mem_append_right _ (List.mem_append_right _ (List.mem_append_left _ (List.mem_of_getElem? (l := tables_1_6) (i := 78) rfl)))))))) rfl)
set_option maxRecDepth 20000 in
theorem se_X11_count : Cond.selects mX11_count.1.cls mX11_count.1 mX11_count.1 ∈ tblG := (tblG_in (List.mem_append_right _ (List.mem_append_right _ (List.mem_append_right _ (List.mem_append_right _ (List.mem_append_right _ (List.mem_append_right _ (List.mem_append_left _ (List.mem_of_getElem? (l := tables_1_6) (i := 79) rfl)))))))) rfl)
set_option maxRecDepth 20000 in
theorem im_X12_thrown : Cond.instanceMethod mX12_thrown.1 ∈ tblG := (tblG_in (List.mem_append_right _ (List.mem_append_right _ (List.mem_append_right _ (List.mem_append_right _ (List.mem_append_right _ (List.mem_append_right _ (List.mem_append_left _ (List.mem_of_getElem? (l := tables_1_6) (i := 161) rfl)))))))) rfl)
set_option maxRecDepth 20000 in
theorem se_X12_thrown : Cond.selects mX12_thrown.1.cls mX12_thrown.1 mX12_thrown.1 ∈ tblG := (tblG_in (List.mem_append_right _ (List.mem_append_right _ (List.mem_append_right _ (List.mem_append_right _ (List.mem_append_right _ (List.mem_append_right _ (List.mem_append_left _ (List.mem_of_getElem? (l := tables_1_6) (i := 162) rfl)))))))) rfl)
set_option maxRecDepth 20000 in
theorem im_X12_refuse : Cond.instanceMethod mX12_refuse.1 ∈ tblG := (tblG_in (List.mem_append_right _ (List.mem_append_right _ (List.mem_append_right _ (List.mem_append_right _ (List.mem_append_right _ (List.mem_append_right _ (List.mem_append_right _ (List.mem_append_left _ (List.mem_of_getElem? (l := tables_1_7) (i := 217) rfl))))))))) rfl)
set_option maxRecDepth 20000 in
theorem se_X12_refuse : Cond.selects mX12_refuse.1.cls mX12_refuse.1 mX12_refuse.1 ∈ tblG := tblG_in (List.mem_append_left _ (List.mem_of_getElem? (i := 67) (by decide +kernel))) (by decide +kernel)
set_option maxRecDepth 20000 in
theorem im_X12_come : Cond.instanceMethod mX12_come.1 ∈ tblG := (tblG_in (List.mem_append_right _ (List.mem_append_right _ (List.mem_append_right _ (List.mem_append_right _ (List.mem_append_right _ (List.mem_append_right _ (List.mem_append_left _ (List.mem_of_getElem? (l := tables_1_6) (i := 170) rfl)))))))) rfl)
set_option maxRecDepth 20000 in
theorem se_X12_come : Cond.selects mX12_come.1.cls mX12_come.1 mX12_come.1 ∈ tblG := tblG_in (List.mem_append_left _ (List.mem_of_getElem? (i := 42) (by decide +kernel))) (by decide +kernel)
set_option maxRecDepth 20000 in
theorem im_X12_feed : Cond.instanceMethod mX12_feed.1 ∈ tblG := (tblG_in (List.mem_append_right _ (List.mem_append_right _ (List.mem_append_right _ (List.mem_append_right _ (List.mem_append_right _ (List.mem_append_right _ (List.mem_append_left _ (List.mem_of_getElem? (l := tables_1_6) (i := 165) rfl)))))))) rfl)
set_option maxRecDepth 20000 in
theorem se_X12_feed : Cond.selects mX12_feed.1.cls mX12_feed.1 mX12_feed.1 ∈ tblG := (tblG_in (List.mem_append_right _ (List.mem_append_right _ (List.mem_append_right _ (List.mem_append_right _ (List.mem_append_right _ (List.mem_append_right _ (List.mem_append_left _ (List.mem_of_getElem? (l := tables_1_6) (i := 166) rfl)))))))) rfl)
set_option maxRecDepth 20000 in
theorem im_X12_end : Cond.instanceMethod mX12_end.1 ∈ tblG := (tblG_in (List.mem_append_right _ (List.mem_append_right _ (List.mem_append_right _ (List.mem_append_right _ (List.mem_append_right _ (List.mem_append_right _ (List.mem_append_left _ (List.mem_of_getElem? (l := tables_1_6) (i := 174) rfl)))))))) rfl)
set_option maxRecDepth 20000 in
theorem se_X12_end : Cond.selects mX12_end.1.cls mX12_end.1 mX12_end.1 ∈ tblG := (tblG_in (List.mem_append_right _ (List.mem_append_right _ (List.mem_append_right _ (List.mem_append_right _ (List.mem_append_right _ (List.mem_append_right _ (List.mem_append_left _ (List.mem_of_getElem? (l := tables_1_6) (i := 175) rfl)))))))) rfl)
set_option maxRecDepth 20000 in
theorem im_X12_take : Cond.instanceMethod mX12_take.1 ∈ tblG := (tblG_in (List.mem_append_right _ (List.mem_append_right _ (List.mem_append_right _ (List.mem_append_right _ (List.mem_append_right _ (List.mem_append_right _ (List.mem_append_right _ (List.mem_append_left _ (List.mem_of_getElem? (l := tables_1_7) (i := 105) rfl))))))))) rfl)
set_option maxRecDepth 20000 in
theorem se_X12_take : Cond.selects mX12_take.1.cls mX12_take.1 mX12_take.1 ∈ tblG := tblG_in (List.mem_append_left _ (List.mem_of_getElem? (i := 46) (by decide +kernel))) (by decide +kernel)
set_option maxRecDepth 20000 in
theorem st_X12_isIn : Cond.static mX12_isIn.1 ∈ tblG := (tblG_in (List.mem_append_right _ (List.mem_append_right _ (List.mem_append_right _ (List.mem_append_right _ (List.mem_append_right _ (List.mem_append_right _ (List.mem_append_right _ (List.mem_append_left _ (List.mem_of_getElem? (l := tables_1_7) (i := 150) rfl))))))))) rfl)
set_option maxRecDepth 20000 in
theorem st_X12_has : Cond.static mX12_has.1 ∈ tblG := (tblG_in (List.mem_append_right _ (List.mem_append_right _ (List.mem_append_right _ (List.mem_append_right _ (List.mem_append_right _ (List.mem_append_right _ (List.mem_append_right _ (List.mem_append_right _ (List.mem_append_left _ (List.mem_of_getElem? (l := tables_1_8) (i := 0) rfl)))))))))) rfl)
set_option maxRecDepth 20000 in
theorem st_X12_lesser : Cond.static mX12_lesser.1 ∈ tblG := (tblG_in (List.mem_append_right _ (List.mem_append_right _ (List.mem_append_right _ (List.mem_append_right _ (List.mem_append_right _ (List.mem_append_right _ (List.mem_append_right _ (List.mem_append_right _ (List.mem_append_left _ (List.mem_of_getElem? (l := tables_1_8) (i := 87) rfl)))))))))) rfl)
set_option maxRecDepth 20000 in
theorem st_X12_common : Cond.static mX12_common.1 ∈ tblG := (tblG_in (List.mem_append_right _ (List.mem_append_right _ (List.mem_append_right _ (List.mem_append_right _ (List.mem_append_right _ (List.mem_append_right _ (List.mem_append_right _ (List.mem_append_right _ (List.mem_append_left _ (List.mem_of_getElem? (l := tables_1_8) (i := 195) rfl)))))))))) rfl)
set_option maxRecDepth 20000 in
theorem im_X12_tapeAt : Cond.instanceMethod mX12_tapeAt.1 ∈ tblG := (tblG_in (List.mem_append_right _ (List.mem_append_right _ (List.mem_append_right _ (List.mem_append_right _ (List.mem_append_right _ (List.mem_append_right _ (List.mem_append_right _ (List.mem_append_left _ (List.mem_of_getElem? (l := tables_1_7) (i := 119) rfl))))))))) rfl)
set_option maxRecDepth 20000 in
theorem se_X12_tapeAt : Cond.selects mX12_tapeAt.1.cls mX12_tapeAt.1 mX12_tapeAt.1 ∈ tblG := tblG_in (List.mem_append_left _ (List.mem_of_getElem? (i := 48) (by decide +kernel))) (by decide +kernel)
set_option maxRecDepth 20000 in
theorem st_X12_isDigit : Cond.static mX12_isDigit.1 ∈ tblG := (tblG_in (List.mem_append_right _ (List.mem_append_right _ (List.mem_append_right _ (List.mem_append_right _ (List.mem_append_right _ (List.mem_append_right _ (List.mem_append_right _ (List.mem_append_left _ (List.mem_of_getElem? (l := tables_1_7) (i := 115) rfl))))))))) rfl)
set_option maxRecDepth 20000 in
theorem st_X12_isLetter : Cond.static mX12_isLetter.1 ∈ tblG := (tblG_in (List.mem_append_right _ (List.mem_append_right _ (List.mem_append_right _ (List.mem_append_right _ (List.mem_append_right _ (List.mem_append_right _ (List.mem_append_right _ (List.mem_append_left _ (List.mem_of_getElem? (l := tables_1_7) (i := 112) rfl))))))))) rfl)
set_option maxRecDepth 20000 in
theorem im_X12_go : Cond.instanceMethod mX12_go.1 ∈ tblG := (tblG_in (List.mem_append_right _ (List.mem_append_right _ (List.mem_append_right _ (List.mem_append_right _ (List.mem_append_right _ (List.mem_append_right _ (List.mem_append_right _ (List.mem_append_left _ (List.mem_of_getElem? (l := tables_1_7) (i := 109) rfl))))))))) rfl)
set_option maxRecDepth 20000 in
theorem se_X12_go : Cond.selects mX12_go.1.cls mX12_go.1 mX12_go.1 ∈ tblG := tblG_in (List.mem_append_left _ (List.mem_of_getElem? (i := 47) (by decide +kernel))) (by decide +kernel)
set_option maxRecDepth 20000 in
theorem st_X12_spelt : Cond.static mX12_spelt.1 ∈ tblG := (tblG_in (List.mem_append_right _ (List.mem_append_right _ (List.mem_append_right _ (List.mem_append_right _ (List.mem_append_right _ (List.mem_append_right _ (List.mem_append_right _ (List.mem_append_left _ (List.mem_of_getElem? (l := tables_1_7) (i := 135) rfl))))))))) rfl)
set_option maxRecDepth 20000 in
theorem st_X12_wordOf : Cond.static mX12_wordOf.1 ∈ tblG := (tblG_in (List.mem_append_right _ (List.mem_append_right _ (List.mem_append_right _ (List.mem_append_right _ (List.mem_append_right _ (List.mem_append_right _ (List.mem_append_right _ (List.mem_append_left _ (List.mem_of_getElem? (l := tables_1_7) (i := 132) rfl))))))))) rfl)
set_option maxRecDepth 20000 in
theorem im_X12_isWord : Cond.instanceMethod mX12_isWord.1 ∈ tblG := (tblG_in (List.mem_append_right _ (List.mem_append_right _ (List.mem_append_right _ (List.mem_append_right _ (List.mem_append_right _ (List.mem_append_right _ (List.mem_append_right _ (List.mem_append_left _ (List.mem_of_getElem? (l := tables_1_7) (i := 129) rfl))))))))) rfl)
set_option maxRecDepth 20000 in
theorem se_X12_isWord : Cond.selects mX12_isWord.1.cls mX12_isWord.1 mX12_isWord.1 ∈ tblG := tblG_in (List.mem_append_left _ (List.mem_of_getElem? (i := 50) (by decide +kernel))) (by decide +kernel)
set_option maxRecDepth 20000 in
theorem im_X12_isSign : Cond.instanceMethod mX12_isSign.1 ∈ tblG := (tblG_in (List.mem_append_right _ (List.mem_append_right _ (List.mem_append_right _ (List.mem_append_right _ (List.mem_append_right _ (List.mem_append_right _ (List.mem_append_right _ (List.mem_append_left _ (List.mem_of_getElem? (l := tables_1_7) (i := 201) rfl))))))))) rfl)
set_option maxRecDepth 20000 in
theorem se_X12_isSign : Cond.selects mX12_isSign.1.cls mX12_isSign.1 mX12_isSign.1 ∈ tblG := tblG_in (List.mem_append_left _ (List.mem_of_getElem? (i := 65) (by decide +kernel))) (by decide +kernel)
set_option maxRecDepth 20000 in
theorem im_X12_isName : Cond.instanceMethod mX12_isName.1 ∈ tblG := (tblG_in (List.mem_append_right _ (List.mem_append_right _ (List.mem_append_right _ (List.mem_append_right _ (List.mem_append_right _ (List.mem_append_right _ (List.mem_append_right _ (List.mem_append_left _ (List.mem_of_getElem? (l := tables_1_7) (i := 182) rfl))))))))) rfl)
set_option maxRecDepth 20000 in
theorem se_X12_isName : Cond.selects mX12_isName.1.cls mX12_isName.1 mX12_isName.1 ∈ tblG := tblG_in (List.mem_append_left _ (List.mem_of_getElem? (i := 61) (by decide +kernel))) (by decide +kernel)
set_option maxRecDepth 20000 in
theorem im_X12_bad : Cond.instanceMethod mX12_bad.1 ∈ tblG := (tblG_in (List.mem_append_right _ (List.mem_append_right _ (List.mem_append_right _ (List.mem_append_right _ (List.mem_append_right _ (List.mem_append_right _ (List.mem_append_right _ (List.mem_append_left _ (List.mem_of_getElem? (l := tables_1_7) (i := 143) rfl))))))))) rfl)
set_option maxRecDepth 20000 in
theorem se_X12_bad : Cond.selects mX12_bad.1.cls mX12_bad.1 mX12_bad.1 ∈ tblG := tblG_in (List.mem_append_left _ (List.mem_of_getElem? (i := 52) (by decide +kernel))) (by decide +kernel)
set_option maxRecDepth 20000 in
theorem im_X12_readNumber : Cond.instanceMethod mX12_readNumber.1 ∈ tblG := (tblG_in (List.mem_append_right _ (List.mem_append_right _ (List.mem_append_right _ (List.mem_append_right _ (List.mem_append_right _ (List.mem_append_right _ (List.mem_append_right _ (List.mem_append_left _ (List.mem_of_getElem? (l := tables_1_7) (i := 147) rfl))))))))) rfl)
set_option maxRecDepth 20000 in
theorem se_X12_readNumber : Cond.selects mX12_readNumber.1.cls mX12_readNumber.1 mX12_readNumber.1 ∈ tblG := tblG_in (List.mem_append_left _ (List.mem_of_getElem? (i := 53) (by decide +kernel))) (by decide +kernel)
set_option maxRecDepth 20000 in
theorem im_X12_readEnd : Cond.instanceMethod mX12_readEnd.1 ∈ tblG := (tblG_in (List.mem_append_right _ (List.mem_append_right _ (List.mem_append_right _ (List.mem_append_right _ (List.mem_append_right _ (List.mem_append_right _ (List.mem_append_right _ (List.mem_append_left _ (List.mem_of_getElem? (l := tables_1_7) (i := 197) rfl))))))))) rfl)
set_option maxRecDepth 20000 in
theorem se_X12_readEnd : Cond.selects mX12_readEnd.1.cls mX12_readEnd.1 mX12_readEnd.1 ∈ tblG := tblG_in (List.mem_append_left _ (List.mem_of_getElem? (i := 64) (by decide +kernel))) (by decide +kernel)
set_option maxRecDepth 20000 in
theorem im_X12_begin : Cond.instanceMethod mX12_begin.1 ∈ tblG := (tblG_in (List.mem_append_right _ (List.mem_append_right _ (List.mem_append_right _ (List.mem_append_right _ (List.mem_append_right _ (List.mem_append_right _ (List.mem_append_right _ (List.mem_append_left _ (List.mem_of_getElem? (l := tables_1_7) (i := 101) rfl))))))))) rfl)
set_option maxRecDepth 20000 in
theorem se_X12_begin : Cond.selects mX12_begin.1.cls mX12_begin.1 mX12_begin.1 ∈ tblG := tblG_in (List.mem_append_left _ (List.mem_of_getElem? (i := 45) (by decide +kernel))) (by decide +kernel)
set_option maxRecDepth 20000 in
theorem im_X12_comesUp : Cond.instanceMethod mX12_comesUp.1 ∈ tblG := (tblG_in (List.mem_append_right _ (List.mem_append_right _ (List.mem_append_right _ (List.mem_append_right _ (List.mem_append_right _ (List.mem_append_right _ (List.mem_append_left _ (List.mem_of_getElem? (l := tables_1_6) (i := 188) rfl)))))))) rfl)
set_option maxRecDepth 20000 in
theorem se_X12_comesUp : Cond.selects mX12_comesUp.1.cls mX12_comesUp.1 mX12_comesUp.1 ∈ tblG := tblG_in (List.mem_append_left _ (List.mem_of_getElem? (i := 44) (by decide +kernel))) (by decide +kernel)
set_option maxRecDepth 20000 in
theorem im_X12_startSo : Cond.instanceMethod mX12_startSo.1 ∈ tblG := (tblG_in (List.mem_append_right _ (List.mem_append_right _ (List.mem_append_right _ (List.mem_append_right _ (List.mem_append_right _ (List.mem_append_right _ (List.mem_append_left _ (List.mem_of_getElem? (l := tables_1_6) (i := 184) rfl)))))))) rfl)
set_option maxRecDepth 20000 in
theorem se_X12_startSo : Cond.selects mX12_startSo.1.cls mX12_startSo.1 mX12_startSo.1 ∈ tblG := tblG_in (List.mem_append_left _ (List.mem_of_getElem? (i := 43) (by decide +kernel))) (by decide +kernel)
set_option maxRecDepth 20000 in
theorem st_X12_findIn : Cond.static mX12_findIn.1 ∈ tblG := (tblG_in (List.mem_append_right _ (List.mem_append_right _ (List.mem_append_right _ (List.mem_append_right _ (List.mem_append_right _ (List.mem_append_right _ (List.mem_append_right _ (List.mem_append_left _ (List.mem_of_getElem? (l := tables_1_7) (i := 185) rfl))))))))) rfl)
set_option maxRecDepth 20000 in
theorem im_X12_readNew : Cond.instanceMethod mX12_readNew.1 ∈ tblG := (tblG_in (List.mem_append_right _ (List.mem_append_right _ (List.mem_append_right _ (List.mem_append_right _ (List.mem_append_right _ (List.mem_append_right _ (List.mem_append_right _ (List.mem_append_left _ (List.mem_of_getElem? (l := tables_1_7) (i := 178) rfl))))))))) rfl)
set_option maxRecDepth 20000 in
theorem se_X12_readNew : Cond.selects mX12_readNew.1.cls mX12_readNew.1 mX12_readNew.1 ∈ tblG := tblG_in (List.mem_append_left _ (List.mem_of_getElem? (i := 60) (by decide +kernel))) (by decide +kernel)
set_option maxRecDepth 20000 in
theorem im_X12_readFirst : Cond.instanceMethod mX12_readFirst.1 ∈ tblG := (tblG_in (List.mem_append_right _ (List.mem_append_right _ (List.mem_append_right _ (List.mem_append_right _ (List.mem_append_right _ (List.mem_append_right _ (List.mem_append_right _ (List.mem_append_left _ (List.mem_of_getElem? (l := tables_1_7) (i := 174) rfl))))))))) rfl)
set_option maxRecDepth 20000 in
theorem se_X12_readFirst : Cond.selects mX12_readFirst.1.cls mX12_readFirst.1 mX12_readFirst.1 ∈ tblG := tblG_in (List.mem_append_left _ (List.mem_of_getElem? (i := 59) (by decide +kernel))) (by decide +kernel)
set_option maxRecDepth 20000 in
theorem im_X12_put : Cond.instanceMethod mX12_put.1 ∈ tblG := (tblG_in (List.mem_append_right _ (List.mem_append_right _ (List.mem_append_right _ (List.mem_append_right _ (List.mem_append_right _ (List.mem_append_right _ (List.mem_append_right _ (List.mem_append_left _ (List.mem_of_getElem? (l := tables_1_7) (i := 154) rfl))))))))) rfl)
set_option maxRecDepth 20000 in
theorem se_X12_put : Cond.selects mX12_put.1.cls mX12_put.1 mX12_put.1 ∈ tblG := tblG_in (List.mem_append_left _ (List.mem_of_getElem? (i := 54) (by decide +kernel))) (by decide +kernel)
set_option maxRecDepth 20000 in
theorem im_X12_readDowns : Cond.instanceMethod mX12_readDowns.1 ∈ tblG := (tblG_in (List.mem_append_right _ (List.mem_append_right _ (List.mem_append_right _ (List.mem_append_right _ (List.mem_append_right _ (List.mem_append_right _ (List.mem_append_right _ (List.mem_append_left _ (List.mem_of_getElem? (l := tables_1_7) (i := 139) rfl))))))))) rfl)
set_option maxRecDepth 20000 in
theorem se_X12_readDowns : Cond.selects mX12_readDowns.1.cls mX12_readDowns.1 mX12_readDowns.1 ∈ tblG := tblG_in (List.mem_append_left _ (List.mem_of_getElem? (i := 51) (by decide +kernel))) (by decide +kernel)
set_option maxRecDepth 20000 in
theorem im_X12_isFilled : Cond.instanceMethod mX12_isFilled.1 ∈ tblG := (tblG_in (List.mem_append_right _ (List.mem_append_right _ (List.mem_append_right _ (List.mem_append_right _ (List.mem_append_right _ (List.mem_append_right _ (List.mem_append_right _ (List.mem_append_left _ (List.mem_of_getElem? (l := tables_1_7) (i := 166) rfl))))))))) rfl)
set_option maxRecDepth 20000 in
theorem se_X12_isFilled : Cond.selects mX12_isFilled.1.cls mX12_isFilled.1 mX12_isFilled.1 ∈ tblG := tblG_in (List.mem_append_left _ (List.mem_of_getElem? (i := 57) (by decide +kernel))) (by decide +kernel)
set_option maxRecDepth 20000 in
theorem im_X12_readCell : Cond.instanceMethod mX12_readCell.1 ∈ tblG := (tblG_in (List.mem_append_right _ (List.mem_append_right _ (List.mem_append_right _ (List.mem_append_right _ (List.mem_append_right _ (List.mem_append_right _ (List.mem_append_right _ (List.mem_append_left _ (List.mem_of_getElem? (l := tables_1_7) (i := 162) rfl))))))))) rfl)
set_option maxRecDepth 20000 in
theorem se_X12_readCell : Cond.selects mX12_readCell.1.cls mX12_readCell.1 mX12_readCell.1 ∈ tblG := tblG_in (List.mem_append_left _ (List.mem_of_getElem? (i := 56) (by decide +kernel))) (by decide +kernel)
set_option maxRecDepth 20000 in
theorem im_X12_readWall : Cond.instanceMethod mX12_readWall.1 ∈ tblG := (tblG_in (List.mem_append_right _ (List.mem_append_right _ (List.mem_append_right _ (List.mem_append_right _ (List.mem_append_right _ (List.mem_append_right _ (List.mem_append_right _ (List.mem_append_left _ (List.mem_of_getElem? (l := tables_1_7) (i := 158) rfl))))))))) rfl)
set_option maxRecDepth 20000 in
theorem se_X12_readWall : Cond.selects mX12_readWall.1.cls mX12_readWall.1 mX12_readWall.1 ∈ tblG := tblG_in (List.mem_append_left _ (List.mem_of_getElem? (i := 55) (by decide +kernel))) (by decide +kernel)
set_option maxRecDepth 20000 in
theorem im_X12_readFigure : Cond.instanceMethod mX12_readFigure.1 ∈ tblG := (tblG_in (List.mem_append_right _ (List.mem_append_right _ (List.mem_append_right _ (List.mem_append_right _ (List.mem_append_right _ (List.mem_append_right _ (List.mem_append_right _ (List.mem_append_left _ (List.mem_of_getElem? (l := tables_1_7) (i := 170) rfl))))))))) rfl)
set_option maxRecDepth 20000 in
theorem se_X12_readFigure : Cond.selects mX12_readFigure.1.cls mX12_readFigure.1 mX12_readFigure.1 ∈ tblG := tblG_in (List.mem_append_left _ (List.mem_of_getElem? (i := 58) (by decide +kernel))) (by decide +kernel)
set_option maxRecDepth 20000 in
theorem im_X12_readPerson : Cond.instanceMethod mX12_readPerson.1 ∈ tblG := (tblG_in (List.mem_append_right _ (List.mem_append_right _ (List.mem_append_right _ (List.mem_append_right _ (List.mem_append_right _ (List.mem_append_right _ (List.mem_append_right _ (List.mem_append_left _ (List.mem_of_getElem? (l := tables_1_7) (i := 189) rfl))))))))) rfl)
set_option maxRecDepth 20000 in
theorem se_X12_readPerson : Cond.selects mX12_readPerson.1.cls mX12_readPerson.1 mX12_readPerson.1 ∈ tblG := tblG_in (List.mem_append_left _ (List.mem_of_getElem? (i := 62) (by decide +kernel))) (by decide +kernel)
set_option maxRecDepth 20000 in
theorem im_X12_readPoint : Cond.instanceMethod mX12_readPoint.1 ∈ tblG := (tblG_in (List.mem_append_right _ (List.mem_append_right _ (List.mem_append_right _ (List.mem_append_right _ (List.mem_append_right _ (List.mem_append_right _ (List.mem_append_right _ (List.mem_append_left _ (List.mem_of_getElem? (l := tables_1_7) (i := 193) rfl))))))))) rfl)
set_option maxRecDepth 20000 in
theorem se_X12_readPoint : Cond.selects mX12_readPoint.1.cls mX12_readPoint.1 mX12_readPoint.1 ∈ tblG := tblG_in (List.mem_append_left _ (List.mem_of_getElem? (i := 63) (by decide +kernel))) (by decide +kernel)
set_option maxRecDepth 20000 in
theorem im_X12_readLine : Cond.instanceMethod mX12_readLine.1 ∈ tblG := (tblG_in (List.mem_append_right _ (List.mem_append_right _ (List.mem_append_right _ (List.mem_append_right _ (List.mem_append_right _ (List.mem_append_right _ (List.mem_append_right _ (List.mem_append_left _ (List.mem_of_getElem? (l := tables_1_7) (i := 125) rfl))))))))) rfl)
set_option maxRecDepth 20000 in
theorem se_X12_readLine : Cond.selects mX12_readLine.1.cls mX12_readLine.1 mX12_readLine.1 ∈ tblG := tblG_in (List.mem_append_left _ (List.mem_of_getElem? (i := 49) (by decide +kernel))) (by decide +kernel)
set_option maxRecDepth 20000 in
theorem im_X12_downs : Cond.instanceMethod mX12_downs.1 ∈ tblG := (tblG_in (List.mem_append_right _ (List.mem_append_right _ (List.mem_append_right _ (List.mem_append_right _ (List.mem_append_right _ (List.mem_append_right _ (List.mem_append_right _ (List.mem_append_left _ (List.mem_of_getElem? (l := tables_1_7) (i := 96) rfl))))))))) rfl)
set_option maxRecDepth 20000 in
theorem se_X12_downs : Cond.selects mX12_downs.1.cls mX12_downs.1 mX12_downs.1 ∈ tblG := (tblG_in (List.mem_append_right _ (List.mem_append_right _ (List.mem_append_right _ (List.mem_append_right _ (List.mem_append_right _ (List.mem_append_right _ (List.mem_append_right _ (List.mem_append_left _ (List.mem_of_getElem? (l := tables_1_7) (i := 97) rfl))))))))) rfl)
set_option maxRecDepth 20000 in
theorem im_X12_fault : Cond.instanceMethod mX12_fault.1 ∈ tblG := (tblG_in (List.mem_append_right _ (List.mem_append_right _ (List.mem_append_right _ (List.mem_append_right _ (List.mem_append_right _ (List.mem_append_right _ (List.mem_append_right _ (List.mem_append_left _ (List.mem_of_getElem? (l := tables_1_7) (i := 204) rfl))))))))) rfl)
set_option maxRecDepth 20000 in
theorem se_X12_fault : Cond.selects mX12_fault.1.cls mX12_fault.1 mX12_fault.1 ∈ tblG := (tblG_in (List.mem_append_right _ (List.mem_append_right _ (List.mem_append_right _ (List.mem_append_right _ (List.mem_append_right _ (List.mem_append_right _ (List.mem_append_right _ (List.mem_append_left _ (List.mem_of_getElem? (l := tables_1_7) (i := 205) rfl))))))))) rfl)
set_option maxRecDepth 20000 in
theorem im_X12_isCell : Cond.instanceMethod mX12_isCell.1 ∈ tblG := (tblG_in (List.mem_append_right _ (List.mem_append_right _ (List.mem_append_right _ (List.mem_append_right _ (List.mem_append_right _ (List.mem_append_right _ (List.mem_append_right _ (List.mem_append_right _ (List.mem_append_left _ (List.mem_of_getElem? (l := tables_1_8) (i := 8) rfl)))))))))) rfl)
set_option maxRecDepth 20000 in
theorem se_X12_isCell : Cond.selects mX12_isCell.1.cls mX12_isCell.1 mX12_isCell.1 ∈ tblG := tblG_in (List.mem_append_left _ (List.mem_of_getElem? (i := 71) (by decide +kernel))) (by decide +kernel)
set_option maxRecDepth 20000 in
theorem im_X12_isFigure : Cond.instanceMethod mX12_isFigure.1 ∈ tblG := (tblG_in (List.mem_append_right _ (List.mem_append_right _ (List.mem_append_right _ (List.mem_append_right _ (List.mem_append_right _ (List.mem_append_right _ (List.mem_append_right _ (List.mem_append_left _ (List.mem_of_getElem? (l := tables_1_7) (i := 225) rfl))))))))) rfl)
set_option maxRecDepth 20000 in
theorem se_X12_isFigure : Cond.selects mX12_isFigure.1.cls mX12_isFigure.1 mX12_isFigure.1 ∈ tblG := tblG_in (List.mem_append_left _ (List.mem_of_getElem? (i := 68) (by decide +kernel))) (by decide +kernel)
set_option maxRecDepth 20000 in
theorem im_X12_isPerson : Cond.instanceMethod mX12_isPerson.1 ∈ tblG := (tblG_in (List.mem_append_right _ (List.mem_append_right _ (List.mem_append_right _ (List.mem_append_right _ (List.mem_append_right _ (List.mem_append_right _ (List.mem_append_right _ (List.mem_append_left _ (List.mem_of_getElem? (l := tables_1_7) (i := 213) rfl))))))))) rfl)
set_option maxRecDepth 20000 in
theorem se_X12_isPerson : Cond.selects mX12_isPerson.1.cls mX12_isPerson.1 mX12_isPerson.1 ∈ tblG := tblG_in (List.mem_append_left _ (List.mem_of_getElem? (i := 66) (by decide +kernel))) (by decide +kernel)
set_option maxRecDepth 20000 in
theorem im_X12_isPoint : Cond.instanceMethod mX12_isPoint.1 ∈ tblG := (tblG_in (List.mem_append_right _ (List.mem_append_right _ (List.mem_append_right _ (List.mem_append_right _ (List.mem_append_right _ (List.mem_append_right _ (List.mem_append_right _ (List.mem_append_left _ (List.mem_of_getElem? (l := tables_1_7) (i := 237) rfl))))))))) rfl)
set_option maxRecDepth 20000 in
theorem se_X12_isPoint : Cond.selects mX12_isPoint.1.cls mX12_isPoint.1 mX12_isPoint.1 ∈ tblG := tblG_in (List.mem_append_left _ (List.mem_of_getElem? (i := 70) (by decide +kernel))) (by decide +kernel)
set_option maxRecDepth 20000 in
theorem im_X12_isSide : Cond.instanceMethod mX12_isSide.1 ∈ tblG := (tblG_in (List.mem_append_right _ (List.mem_append_right _ (List.mem_append_right _ (List.mem_append_right _ (List.mem_append_right _ (List.mem_append_right _ (List.mem_append_right _ (List.mem_append_right _ (List.mem_append_left _ (List.mem_of_getElem? (l := tables_1_8) (i := 36) rfl)))))))))) rfl)
set_option maxRecDepth 20000 in
theorem se_X12_isSide : Cond.selects mX12_isSide.1.cls mX12_isSide.1 mX12_isSide.1 ∈ tblG := tblG_in (List.mem_append_left _ (List.mem_of_getElem? (i := 76) (by decide +kernel))) (by decide +kernel)
set_option maxRecDepth 20000 in
theorem im_X12_whoIsAt : Cond.instanceMethod mX12_whoIsAt.1 ∈ tblG := (tblG_in (List.mem_append_right _ (List.mem_append_right _ (List.mem_append_right _ (List.mem_append_right _ (List.mem_append_right _ (List.mem_append_right _ (List.mem_append_right _ (List.mem_append_right _ (List.mem_append_left _ (List.mem_of_getElem? (l := tables_1_8) (i := 12) rfl)))))))))) rfl)
set_option maxRecDepth 20000 in
theorem se_X12_whoIsAt : Cond.selects mX12_whoIsAt.1.cls mX12_whoIsAt.1 mX12_whoIsAt.1 ∈ tblG := tblG_in (List.mem_append_left _ (List.mem_of_getElem? (i := 72) (by decide +kernel))) (by decide +kernel)
set_option maxRecDepth 20000 in
theorem im_X12_costOf : Cond.instanceMethod mX12_costOf.1 ∈ tblG := (tblG_in (List.mem_append_right _ (List.mem_append_right _ (List.mem_append_right _ (List.mem_append_right _ (List.mem_append_right _ (List.mem_append_right _ (List.mem_append_right _ (List.mem_append_left _ (List.mem_of_getElem? (l := tables_1_7) (i := 229) rfl))))))))) rfl)
set_option maxRecDepth 20000 in
theorem se_X12_costOf : Cond.selects mX12_costOf.1.cls mX12_costOf.1 mX12_costOf.1 ∈ tblG := tblG_in (List.mem_append_left _ (List.mem_of_getElem? (i := 69) (by decide +kernel))) (by decide +kernel)
set_option maxRecDepth 20000 in
theorem im_X12_cellOn : Cond.instanceMethod mX12_cellOn.1 ∈ tblG := (tblG_in (List.mem_append_right _ (List.mem_append_right _ (List.mem_append_right _ (List.mem_append_right _ (List.mem_append_right _ (List.mem_append_right _ (List.mem_append_right _ (List.mem_append_right _ (List.mem_append_left _ (List.mem_of_getElem? (l := tables_1_8) (i := 52) rfl)))))))))) rfl)
set_option maxRecDepth 20000 in
theorem se_X12_cellOn : Cond.selects mX12_cellOn.1.cls mX12_cellOn.1 mX12_cellOn.1 ∈ tblG := tblG_in (List.mem_append_left _ (List.mem_of_getElem? (i := 80) (by decide +kernel))) (by decide +kernel)
set_option maxRecDepth 20000 in
theorem im_X12_onWay : Cond.instanceMethod mX12_onWay.1 ∈ tblG := (tblG_in (List.mem_append_right _ (List.mem_append_right _ (List.mem_append_right _ (List.mem_append_right _ (List.mem_append_right _ (List.mem_append_right _ (List.mem_append_right _ (List.mem_append_right _ (List.mem_append_left _ (List.mem_of_getElem? (l := tables_1_8) (i := 48) rfl)))))))))) rfl)
set_option maxRecDepth 20000 in
theorem se_X12_onWay : Cond.selects mX12_onWay.1.cls mX12_onWay.1 mX12_onWay.1 ∈ tblG := tblG_in (List.mem_append_left _ (List.mem_of_getElem? (i := 79) (by decide +kernel))) (by decide +kernel)
set_option maxRecDepth 20000 in
theorem im_X12_isSettled : Cond.instanceMethod mX12_isSettled.1 ∈ tblG := (tblG_in (List.mem_append_right _ (List.mem_append_right _ (List.mem_append_right _ (List.mem_append_right _ (List.mem_append_right _ (List.mem_append_right _ (List.mem_append_right _ (List.mem_append_right _ (List.mem_append_left _ (List.mem_of_getElem? (l := tables_1_8) (i := 28) rfl)))))))))) rfl)
set_option maxRecDepth 20000 in
theorem se_X12_isSettled : Cond.selects mX12_isSettled.1.cls mX12_isSettled.1 mX12_isSettled.1 ∈ tblG := tblG_in (List.mem_append_left _ (List.mem_of_getElem? (i := 75) (by decide +kernel))) (by decide +kernel)
set_option maxRecDepth 20000 in
theorem im_X12_person : Cond.instanceMethod mX12_person.1 ∈ tblG := (tblG_in (List.mem_append_right _ (List.mem_append_right _ (List.mem_append_right _ (List.mem_append_right _ (List.mem_append_right _ (List.mem_append_right _ (List.mem_append_right _ (List.mem_append_left _ (List.mem_of_getElem? (l := tables_1_7) (i := 208) rfl))))))))) rfl)
set_option maxRecDepth 20000 in
theorem se_X12_person : Cond.selects mX12_person.1.cls mX12_person.1 mX12_person.1 ∈ tblG := (tblG_in (List.mem_append_right _ (List.mem_append_right _ (List.mem_append_right _ (List.mem_append_right _ (List.mem_append_right _ (List.mem_append_right _ (List.mem_append_right _ (List.mem_append_left _ (List.mem_of_getElem? (l := tables_1_7) (i := 209) rfl))))))))) rfl)
set_option maxRecDepth 20000 in
theorem im_X12_figure : Cond.instanceMethod mX12_figure.1 ∈ tblG := (tblG_in (List.mem_append_right _ (List.mem_append_right _ (List.mem_append_right _ (List.mem_append_right _ (List.mem_append_right _ (List.mem_append_right _ (List.mem_append_right _ (List.mem_append_left _ (List.mem_of_getElem? (l := tables_1_7) (i := 220) rfl))))))))) rfl)
set_option maxRecDepth 20000 in
theorem se_X12_figure : Cond.selects mX12_figure.1.cls mX12_figure.1 mX12_figure.1 ∈ tblG := (tblG_in (List.mem_append_right _ (List.mem_append_right _ (List.mem_append_right _ (List.mem_append_right _ (List.mem_append_right _ (List.mem_append_right _ (List.mem_append_right _ (List.mem_append_left _ (List.mem_of_getElem? (l := tables_1_7) (i := 221) rfl))))))))) rfl)
set_option maxRecDepth 20000 in
theorem im_X12_point : Cond.instanceMethod mX12_point.1 ∈ tblG := (tblG_in (List.mem_append_right _ (List.mem_append_right _ (List.mem_append_right _ (List.mem_append_right _ (List.mem_append_right _ (List.mem_append_right _ (List.mem_append_right _ (List.mem_append_left _ (List.mem_of_getElem? (l := tables_1_7) (i := 232) rfl))))))))) rfl)
set_option maxRecDepth 20000 in
theorem se_X12_point : Cond.selects mX12_point.1.cls mX12_point.1 mX12_point.1 ∈ tblG := (tblG_in (List.mem_append_right _ (List.mem_append_right _ (List.mem_append_right _ (List.mem_append_right _ (List.mem_append_right _ (List.mem_append_right _ (List.mem_append_right _ (List.mem_append_left _ (List.mem_of_getElem? (l := tables_1_7) (i := 233) rfl))))))))) rfl)
set_option maxRecDepth 20000 in
theorem im_X12_cell : Cond.instanceMethod mX12_cell.1 ∈ tblG := (tblG_in (List.mem_append_right _ (List.mem_append_right _ (List.mem_append_right _ (List.mem_append_right _ (List.mem_append_right _ (List.mem_append_right _ (List.mem_append_right _ (List.mem_append_right _ (List.mem_append_left _ (List.mem_of_getElem? (l := tables_1_8) (i := 3) rfl)))))))))) rfl)
set_option maxRecDepth 20000 in
theorem se_X12_cell : Cond.selects mX12_cell.1.cls mX12_cell.1 mX12_cell.1 ∈ tblG := (tblG_in (List.mem_append_right _ (List.mem_append_right _ (List.mem_append_right _ (List.mem_append_right _ (List.mem_append_right _ (List.mem_append_right _ (List.mem_append_right _ (List.mem_append_right _ (List.mem_append_left _ (List.mem_of_getElem? (l := tables_1_8) (i := 4) rfl)))))))))) rfl)
set_option maxRecDepth 20000 in
theorem im_X12_sum : Cond.instanceMethod mX12_sum.1 ∈ tblG := (tblG_in (List.mem_append_right _ (List.mem_append_right _ (List.mem_append_right _ (List.mem_append_right _ (List.mem_append_right _ (List.mem_append_right _ (List.mem_append_right _ (List.mem_append_right _ (List.mem_append_left _ (List.mem_of_getElem? (l := tables_1_8) (i := 20) rfl)))))))))) rfl)
set_option maxRecDepth 20000 in
theorem se_X12_sum : Cond.selects mX12_sum.1.cls mX12_sum.1 mX12_sum.1 ∈ tblG := tblG_in (List.mem_append_left _ (List.mem_of_getElem? (i := 73) (by decide +kernel))) (by decide +kernel)
set_option maxRecDepth 20000 in
theorem im_X12_who : Cond.instanceMethod mX12_who.1 ∈ tblG := (tblG_in (List.mem_append_right _ (List.mem_append_right _ (List.mem_append_right _ (List.mem_append_right _ (List.mem_append_right _ (List.mem_append_right _ (List.mem_append_right _ (List.mem_append_right _ (List.mem_append_left _ (List.mem_of_getElem? (l := tables_1_8) (i := 24) rfl)))))))))) rfl)
set_option maxRecDepth 20000 in
theorem se_X12_who : Cond.selects mX12_who.1.cls mX12_who.1 mX12_who.1 ∈ tblG := tblG_in (List.mem_append_left _ (List.mem_of_getElem? (i := 74) (by decide +kernel))) (by decide +kernel)
set_option maxRecDepth 20000 in
theorem im_X12_now : Cond.instanceMethod mX12_now.1 ∈ tblG := (tblG_in (List.mem_append_right _ (List.mem_append_right _ (List.mem_append_right _ (List.mem_append_right _ (List.mem_append_right _ (List.mem_append_right _ (List.mem_append_right _ (List.mem_append_right _ (List.mem_append_left _ (List.mem_of_getElem? (l := tables_1_8) (i := 15) rfl)))))))))) rfl)
set_option maxRecDepth 20000 in
theorem se_X12_now : Cond.selects mX12_now.1.cls mX12_now.1 mX12_now.1 ∈ tblG := (tblG_in (List.mem_append_right _ (List.mem_append_right _ (List.mem_append_right _ (List.mem_append_right _ (List.mem_append_right _ (List.mem_append_right _ (List.mem_append_right _ (List.mem_append_right _ (List.mem_append_left _ (List.mem_of_getElem? (l := tables_1_8) (i := 16) rfl)))))))))) rfl)
set_option maxRecDepth 20000 in
theorem im_X12_snap : Cond.instanceMethod mX12_snap.1 ∈ tblG := (tblG_in (List.mem_append_right _ (List.mem_append_right _ (List.mem_append_right _ (List.mem_append_right _ (List.mem_append_right _ (List.mem_append_right _ (List.mem_append_right _ (List.mem_append_right _ (List.mem_append_left _ (List.mem_of_getElem? (l := tables_1_8) (i := 60) rfl)))))))))) rfl)
set_option maxRecDepth 20000 in
theorem se_X12_snap : Cond.selects mX12_snap.1.cls mX12_snap.1 mX12_snap.1 ∈ tblG := tblG_in (List.mem_append_left _ (List.mem_of_getElem? (i := 82) (by decide +kernel))) (by decide +kernel)
set_option maxRecDepth 20000 in
theorem im_X12_whyKick : Cond.instanceMethod mX12_whyKick.1 ∈ tblG := (tblG_in (List.mem_append_right _ (List.mem_append_right _ (List.mem_append_right _ (List.mem_append_right _ (List.mem_append_right _ (List.mem_append_right _ (List.mem_append_right _ (List.mem_append_right _ (List.mem_append_left _ (List.mem_of_getElem? (l := tables_1_8) (i := 56) rfl)))))))))) rfl)
set_option maxRecDepth 20000 in
theorem se_X12_whyKick : Cond.selects mX12_whyKick.1.cls mX12_whyKick.1 mX12_whyKick.1 ∈ tblG := tblG_in (List.mem_append_left _ (List.mem_of_getElem? (i := 81) (by decide +kernel))) (by decide +kernel)
set_option maxRecDepth 20000 in
theorem im_X12_why : Cond.instanceMethod mX12_why.1 ∈ tblG := (tblG_in (List.mem_append_right _ (List.mem_append_right _ (List.mem_append_right _ (List.mem_append_right _ (List.mem_append_right _ (List.mem_append_right _ (List.mem_append_right _ (List.mem_append_right _ (List.mem_append_left _ (List.mem_of_getElem? (l := tables_1_8) (i := 44) rfl)))))))))) rfl)
set_option maxRecDepth 20000 in
theorem se_X12_why : Cond.selects mX12_why.1.cls mX12_why.1 mX12_why.1 ∈ tblG := tblG_in (List.mem_append_left _ (List.mem_of_getElem? (i := 78) (by decide +kernel))) (by decide +kernel)
set_option maxRecDepth 20000 in
theorem im_X12_live : Cond.instanceMethod mX12_live.1 ∈ tblG := (tblG_in (List.mem_append_right _ (List.mem_append_right _ (List.mem_append_right _ (List.mem_append_right _ (List.mem_append_right _ (List.mem_append_right _ (List.mem_append_right _ (List.mem_append_right _ (List.mem_append_left _ (List.mem_of_getElem? (l := tables_1_8) (i := 64) rfl)))))))))) rfl)
set_option maxRecDepth 20000 in
theorem se_X12_live : Cond.selects mX12_live.1.cls mX12_live.1 mX12_live.1 ∈ tblG := tblG_in (List.mem_append_left _ (List.mem_of_getElem? (i := 83) (by decide +kernel))) (by decide +kernel)
set_option maxRecDepth 20000 in
theorem im_X12_act : Cond.instanceMethod mX12_act.1 ∈ tblG := (tblG_in (List.mem_append_right _ (List.mem_append_right _ (List.mem_append_right _ (List.mem_append_right _ (List.mem_append_right _ (List.mem_append_right _ (List.mem_append_right _ (List.mem_append_right _ (List.mem_append_left _ (List.mem_of_getElem? (l := tables_1_8) (i := 40) rfl)))))))))) rfl)
set_option maxRecDepth 20000 in
theorem se_X12_act : Cond.selects mX12_act.1.cls mX12_act.1 mX12_act.1 ∈ tblG := tblG_in (List.mem_append_left _ (List.mem_of_getElem? (i := 77) (by decide +kernel))) (by decide +kernel)
set_option maxRecDepth 20000 in
theorem im_X12_say : Cond.instanceMethod mX12_say.1 ∈ tblG := (tblG_in (List.mem_append_right _ (List.mem_append_right _ (List.mem_append_right _ (List.mem_append_right _ (List.mem_append_right _ (List.mem_append_right _ (List.mem_append_right _ (List.mem_append_right _ (List.mem_append_left _ (List.mem_of_getElem? (l := tables_1_8) (i := 31) rfl)))))))))) rfl)
set_option maxRecDepth 20000 in
theorem se_X12_say : Cond.selects mX12_say.1.cls mX12_say.1 mX12_say.1 ∈ tblG := (tblG_in (List.mem_append_right _ (List.mem_append_right _ (List.mem_append_right _ (List.mem_append_right _ (List.mem_append_right _ (List.mem_append_right _ (List.mem_append_right _ (List.mem_append_right _ (List.mem_append_left _ (List.mem_of_getElem? (l := tables_1_8) (i := 32) rfl)))))))))) rfl)
set_option maxRecDepth 20000 in
theorem im_X12_kick : Cond.instanceMethod mX12_kick.1 ∈ tblG := (tblG_in (List.mem_append_right _ (List.mem_append_right _ (List.mem_append_right _ (List.mem_append_right _ (List.mem_append_right _ (List.mem_append_right _ (List.mem_append_right _ (List.mem_append_right _ (List.mem_append_left _ (List.mem_of_getElem? (l := tables_1_8) (i := 67) rfl)))))))))) rfl)
set_option maxRecDepth 20000 in
theorem se_X12_kick : Cond.selects mX12_kick.1.cls mX12_kick.1 mX12_kick.1 ∈ tblG := (tblG_in (List.mem_append_right _ (List.mem_append_right _ (List.mem_append_right _ (List.mem_append_right _ (List.mem_append_right _ (List.mem_append_right _ (List.mem_append_right _ (List.mem_append_right _ (List.mem_append_left _ (List.mem_of_getElem? (l := tables_1_8) (i := 68) rfl)))))))))) rfl)
set_option maxRecDepth 20000 in
theorem im_X12_rest : Cond.instanceMethod mX12_rest.1 ∈ tblG := (tblG_in (List.mem_append_right _ (List.mem_append_right _ (List.mem_append_right _ (List.mem_append_right _ (List.mem_append_right _ (List.mem_append_right _ (List.mem_append_right _ (List.mem_append_right _ (List.mem_append_left _ (List.mem_of_getElem? (l := tables_1_8) (i := 71) rfl)))))))))) rfl)
set_option maxRecDepth 20000 in
theorem se_X12_rest : Cond.selects mX12_rest.1.cls mX12_rest.1 mX12_rest.1 ∈ tblG := (tblG_in (List.mem_append_right _ (List.mem_append_right _ (List.mem_append_right _ (List.mem_append_right _ (List.mem_append_right _ (List.mem_append_right _ (List.mem_append_right _ (List.mem_append_right _ (List.mem_append_left _ (List.mem_of_getElem? (l := tables_1_8) (i := 72) rfl)))))))))) rfl)
set_option maxRecDepth 20000 in
theorem im_X12_undo : Cond.instanceMethod mX12_undo.1 ∈ tblG := (tblG_in (List.mem_append_right _ (List.mem_append_right _ (List.mem_append_right _ (List.mem_append_right _ (List.mem_append_right _ (List.mem_append_right _ (List.mem_append_right _ (List.mem_append_right _ (List.mem_append_left _ (List.mem_of_getElem? (l := tables_1_8) (i := 75) rfl)))))))))) rfl)
set_option maxRecDepth 20000 in
theorem se_X12_undo : Cond.selects mX12_undo.1.cls mX12_undo.1 mX12_undo.1 ∈ tblG := (tblG_in (List.mem_append_right _ (List.mem_append_right _ (List.mem_append_right _ (List.mem_append_right _ (List.mem_append_right _ (List.mem_append_right _ (List.mem_append_right _ (List.mem_append_right _ (List.mem_append_left _ (List.mem_of_getElem? (l := tables_1_8) (i := 76) rfl)))))))))) rfl)
set_option maxRecDepth 20000 in
theorem im_X12_oneHour : Cond.instanceMethod mX12_oneHour.1 ∈ tblG := (tblG_in (List.mem_append_right _ (List.mem_append_right _ (List.mem_append_right _ (List.mem_append_right _ (List.mem_append_right _ (List.mem_append_right _ (List.mem_append_right _ (List.mem_append_right _ (List.mem_append_left _ (List.mem_of_getElem? (l := tables_1_8) (i := 91) rfl)))))))))) rfl)
set_option maxRecDepth 20000 in
theorem se_X12_oneHour : Cond.selects mX12_oneHour.1.cls mX12_oneHour.1 mX12_oneHour.1 ∈ tblG := tblG_in (List.mem_append_left _ (List.mem_of_getElem? (i := 85) (by decide +kernel))) (by decide +kernel)
set_option maxRecDepth 20000 in
theorem im_X12_passHours : Cond.instanceMethod mX12_passHours.1 ∈ tblG := (tblG_in (List.mem_append_right _ (List.mem_append_right _ (List.mem_append_right _ (List.mem_append_right _ (List.mem_append_right _ (List.mem_append_right _ (List.mem_append_right _ (List.mem_append_right _ (List.mem_append_left _ (List.mem_of_getElem? (l := tables_1_8) (i := 84) rfl)))))))))) rfl)
set_option maxRecDepth 20000 in
theorem se_X12_passHours : Cond.selects mX12_passHours.1.cls mX12_passHours.1 mX12_passHours.1 ∈ tblG := tblG_in (List.mem_append_left _ (List.mem_of_getElem? (i := 84) (by decide +kernel))) (by decide +kernel)
set_option maxRecDepth 20000 in
theorem im_X12_hours : Cond.instanceMethod mX12_hours.1 ∈ tblG := (tblG_in (List.mem_append_right _ (List.mem_append_right _ (List.mem_append_right _ (List.mem_append_right _ (List.mem_append_right _ (List.mem_append_right _ (List.mem_append_right _ (List.mem_append_right _ (List.mem_append_left _ (List.mem_of_getElem? (l := tables_1_8) (i := 79) rfl)))))))))) rfl)
set_option maxRecDepth 20000 in
theorem se_X12_hours : Cond.selects mX12_hours.1.cls mX12_hours.1 mX12_hours.1 ∈ tblG := (tblG_in (List.mem_append_right _ (List.mem_append_right _ (List.mem_append_right _ (List.mem_append_right _ (List.mem_append_right _ (List.mem_append_right _ (List.mem_append_right _ (List.mem_append_right _ (List.mem_append_left _ (List.mem_of_getElem? (l := tables_1_8) (i := 80) rfl)))))))))) rfl)
set_option maxRecDepth 20000 in
theorem im_X12_could : Cond.instanceMethod mX12_could.1 ∈ tblG := (tblG_in (List.mem_append_right _ (List.mem_append_right _ (List.mem_append_right _ (List.mem_append_right _ (List.mem_append_right _ (List.mem_append_right _ (List.mem_append_right _ (List.mem_append_right _ (List.mem_append_left _ (List.mem_of_getElem? (l := tables_1_8) (i := 94) rfl)))))))))) rfl)
set_option maxRecDepth 20000 in
theorem se_X12_could : Cond.selects mX12_could.1.cls mX12_could.1 mX12_could.1 ∈ tblG := (tblG_in (List.mem_append_right _ (List.mem_append_right _ (List.mem_append_right _ (List.mem_append_right _ (List.mem_append_right _ (List.mem_append_right _ (List.mem_append_right _ (List.mem_append_right _ (List.mem_append_left _ (List.mem_of_getElem? (l := tables_1_8) (i := 95) rfl)))))))))) rfl)
set_option maxRecDepth 20000 in
theorem im_X12_behind : Cond.instanceMethod mX12_behind.1 ∈ tblG := (tblG_in (List.mem_append_right _ (List.mem_append_right _ (List.mem_append_right _ (List.mem_append_right _ (List.mem_append_right _ (List.mem_append_right _ (List.mem_append_right _ (List.mem_append_right _ (List.mem_append_left _ (List.mem_of_getElem? (l := tables_1_8) (i := 116) rfl)))))))))) rfl)
set_option maxRecDepth 20000 in
theorem se_X12_behind : Cond.selects mX12_behind.1.cls mX12_behind.1 mX12_behind.1 ∈ tblG := tblG_in (List.mem_append_left _ (List.mem_of_getElem? (i := 89) (by decide +kernel))) (by decide +kernel)
set_option maxRecDepth 20000 in
theorem im_X12_queueUp : Cond.instanceMethod mX12_queueUp.1 ∈ tblG := (tblG_in (List.mem_append_right _ (List.mem_append_right _ (List.mem_append_right _ (List.mem_append_right _ (List.mem_append_right _ (List.mem_append_right _ (List.mem_append_right _ (List.mem_append_right _ (List.mem_append_left _ (List.mem_of_getElem? (l := tables_1_8) (i := 144) rfl)))))))))) rfl)
set_option maxRecDepth 20000 in
theorem se_X12_queueUp : Cond.selects mX12_queueUp.1.cls mX12_queueUp.1 mX12_queueUp.1 ∈ tblG := tblG_in (List.mem_append_left _ (List.mem_of_getElem? (i := 93) (by decide +kernel))) (by decide +kernel)
set_option maxRecDepth 20000 in
theorem im_X12_layFrom : Cond.instanceMethod mX12_layFrom.1 ∈ tblG := (tblG_in (List.mem_append_right _ (List.mem_append_right _ (List.mem_append_right _ (List.mem_append_right _ (List.mem_append_right _ (List.mem_append_right _ (List.mem_append_right _ (List.mem_append_right _ (List.mem_append_left _ (List.mem_of_getElem? (l := tables_1_8) (i := 140) rfl)))))))))) rfl)
set_option maxRecDepth 20000 in
theorem se_X12_layFrom : Cond.selects mX12_layFrom.1.cls mX12_layFrom.1 mX12_layFrom.1 ∈ tblG := tblG_in (List.mem_append_left _ (List.mem_of_getElem? (i := 92) (by decide +kernel))) (by decide +kernel)
set_option maxRecDepth 20000 in
theorem im_X12_placeOf : Cond.instanceMethod mX12_placeOf.1 ∈ tblG := (tblG_in (List.mem_append_right _ (List.mem_append_right _ (List.mem_append_right _ (List.mem_append_right _ (List.mem_append_right _ (List.mem_append_right _ (List.mem_append_right _ (List.mem_append_right _ (List.mem_append_left _ (List.mem_of_getElem? (l := tables_1_8) (i := 120) rfl)))))))))) rfl)
set_option maxRecDepth 20000 in
theorem se_X12_placeOf : Cond.selects mX12_placeOf.1.cls mX12_placeOf.1 mX12_placeOf.1 ∈ tblG := tblG_in (List.mem_append_left _ (List.mem_of_getElem? (i := 90) (by decide +kernel))) (by decide +kernel)
set_option maxRecDepth 20000 in
theorem im_X12_goalOf : Cond.instanceMethod mX12_goalOf.1 ∈ tblG := (tblG_in (List.mem_append_right _ (List.mem_append_right _ (List.mem_append_right _ (List.mem_append_right _ (List.mem_append_right _ (List.mem_append_right _ (List.mem_append_right _ (List.mem_append_right _ (List.mem_append_left _ (List.mem_of_getElem? (l := tables_1_8) (i := 103) rfl)))))))))) rfl)
set_option maxRecDepth 20000 in
theorem se_X12_goalOf : Cond.selects mX12_goalOf.1.cls mX12_goalOf.1 mX12_goalOf.1 ∈ tblG := tblG_in (List.mem_append_left _ (List.mem_of_getElem? (i := 86) (by decide +kernel))) (by decide +kernel)
set_option maxRecDepth 20000 in
theorem im_X12_leadsTo : Cond.instanceMethod mX12_leadsTo.1 ∈ tblG := (tblG_in (List.mem_append_right _ (List.mem_append_right _ (List.mem_append_right _ (List.mem_append_right _ (List.mem_append_right _ (List.mem_append_right _ (List.mem_append_right _ (List.mem_append_right _ (List.mem_append_left _ (List.mem_of_getElem? (l := tables_1_8) (i := 112) rfl)))))))))) rfl)
set_option maxRecDepth 20000 in
theorem se_X12_leadsTo : Cond.selects mX12_leadsTo.1.cls mX12_leadsTo.1 mX12_leadsTo.1 ∈ tblG := tblG_in (List.mem_append_left _ (List.mem_of_getElem? (i := 88) (by decide +kernel))) (by decide +kernel)
set_option maxRecDepth 20000 in
theorem im_X12_layTo : Cond.instanceMethod mX12_layTo.1 ∈ tblG := (tblG_in (List.mem_append_right _ (List.mem_append_right _ (List.mem_append_right _ (List.mem_append_right _ (List.mem_append_right _ (List.mem_append_right _ (List.mem_append_right _ (List.mem_append_right _ (List.mem_append_left _ (List.mem_of_getElem? (l := tables_1_8) (i := 107) rfl)))))))))) rfl)
set_option maxRecDepth 20000 in
theorem se_X12_layTo : Cond.selects mX12_layTo.1.cls mX12_layTo.1 mX12_layTo.1 ∈ tblG := tblG_in (List.mem_append_left _ (List.mem_of_getElem? (i := 87) (by decide +kernel))) (by decide +kernel)
set_option maxRecDepth 20000 in
theorem im_X12_isShort : Cond.instanceMethod mX12_isShort.1 ∈ tblG := (tblG_in (List.mem_append_right _ (List.mem_append_right _ (List.mem_append_right _ (List.mem_append_right _ (List.mem_append_right _ (List.mem_append_right _ (List.mem_append_right _ (List.mem_append_right _ (List.mem_append_left _ (List.mem_of_getElem? (l := tables_1_8) (i := 124) rfl)))))))))) rfl)
set_option maxRecDepth 20000 in
theorem se_X12_isShort : Cond.selects mX12_isShort.1.cls mX12_isShort.1 mX12_isShort.1 ∈ tblG := tblG_in (List.mem_append_left _ (List.mem_of_getElem? (i := 91) (by decide +kernel))) (by decide +kernel)
set_option maxRecDepth 20000 in
theorem im_X12_way : Cond.instanceMethod mX12_way.1 ∈ tblG := (tblG_in (List.mem_append_right _ (List.mem_append_right _ (List.mem_append_right _ (List.mem_append_right _ (List.mem_append_right _ (List.mem_append_right _ (List.mem_append_right _ (List.mem_append_right _ (List.mem_append_left _ (List.mem_of_getElem? (l := tables_1_8) (i := 98) rfl)))))))))) rfl)
set_option maxRecDepth 20000 in
theorem se_X12_way : Cond.selects mX12_way.1.cls mX12_way.1 mX12_way.1 ∈ tblG := (tblG_in (List.mem_append_right _ (List.mem_append_right _ (List.mem_append_right _ (List.mem_append_right _ (List.mem_append_right _ (List.mem_append_right _ (List.mem_append_right _ (List.mem_append_right _ (List.mem_append_left _ (List.mem_of_getElem? (l := tables_1_8) (i := 99) rfl)))))))))) rfl)
set_option maxRecDepth 20000 in
theorem im_X12_wayAt : Cond.instanceMethod mX12_wayAt.1 ∈ tblG := (tblG_in (List.mem_append_right _ (List.mem_append_right _ (List.mem_append_right _ (List.mem_append_right _ (List.mem_append_right _ (List.mem_append_right _ (List.mem_append_right _ (List.mem_append_right _ (List.mem_append_left _ (List.mem_of_getElem? (l := tables_1_8) (i := 127) rfl)))))))))) rfl)
set_option maxRecDepth 20000 in
theorem se_X12_wayAt : Cond.selects mX12_wayAt.1.cls mX12_wayAt.1 mX12_wayAt.1 ∈ tblG := (tblG_in (List.mem_append_right _ (List.mem_append_right _ (List.mem_append_right _ (List.mem_append_right _ (List.mem_append_right _ (List.mem_append_right _ (List.mem_append_right _ (List.mem_append_right _ (List.mem_append_left _ (List.mem_of_getElem? (l := tables_1_8) (i := 128) rfl)))))))))) rfl)
set_option maxRecDepth 20000 in
theorem im_X12_both : Cond.instanceMethod mX12_both.1 ∈ tblG := (tblG_in (List.mem_append_right _ (List.mem_append_right _ (List.mem_append_right _ (List.mem_append_right _ (List.mem_append_right _ (List.mem_append_right _ (List.mem_append_right _ (List.mem_append_right _ (List.mem_append_left _ (List.mem_of_getElem? (l := tables_1_8) (i := 131) rfl)))))))))) rfl)
set_option maxRecDepth 20000 in
theorem se_X12_both : Cond.selects mX12_both.1.cls mX12_both.1 mX12_both.1 ∈ tblG := (tblG_in (List.mem_append_right _ (List.mem_append_right _ (List.mem_append_right _ (List.mem_append_right _ (List.mem_append_right _ (List.mem_append_right _ (List.mem_append_right _ (List.mem_append_right _ (List.mem_append_left _ (List.mem_of_getElem? (l := tables_1_8) (i := 132) rfl)))))))))) rfl)
set_option maxRecDepth 20000 in
theorem im_X12_sees : Cond.instanceMethod mX12_sees.1 ∈ tblG := (tblG_in (List.mem_append_right _ (List.mem_append_right _ (List.mem_append_right _ (List.mem_append_right _ (List.mem_append_right _ (List.mem_append_right _ (List.mem_append_right _ (List.mem_append_right _ (List.mem_append_left _ (List.mem_of_getElem? (l := tables_1_8) (i := 135) rfl)))))))))) rfl)
set_option maxRecDepth 20000 in
theorem se_X12_sees : Cond.selects mX12_sees.1.cls mX12_sees.1 mX12_sees.1 ∈ tblG := (tblG_in (List.mem_append_right _ (List.mem_append_right _ (List.mem_append_right _ (List.mem_append_right _ (List.mem_append_right _ (List.mem_append_right _ (List.mem_append_right _ (List.mem_append_right _ (List.mem_append_left _ (List.mem_of_getElem? (l := tables_1_8) (i := 136) rfl)))))))))) rfl)
set_option maxRecDepth 20000 in
theorem im_X12_acrossBy : Cond.instanceMethod mX12_acrossBy.1 ∈ tblG := (tblG_in (List.mem_append_right _ (List.mem_append_right _ (List.mem_append_right _ (List.mem_append_right _ (List.mem_append_right _ (List.mem_append_right _ (List.mem_append_right _ (List.mem_append_right _ (List.mem_append_left _ (List.mem_of_getElem? (l := tables_1_8) (i := 156) rfl)))))))))) rfl)
set_option maxRecDepth 20000 in
theorem se_X12_acrossBy : Cond.selects mX12_acrossBy.1.cls mX12_acrossBy.1 mX12_acrossBy.1 ∈ tblG := tblG_in (List.mem_append_left _ (List.mem_of_getElem? (i := 95) (by decide +kernel))) (by decide +kernel)
set_option maxRecDepth 20000 in
theorem im_X12_downBy : Cond.instanceMethod mX12_downBy.1 ∈ tblG := (tblG_in (List.mem_append_right _ (List.mem_append_right _ (List.mem_append_right _ (List.mem_append_right _ (List.mem_append_right _ (List.mem_append_right _ (List.mem_append_right _ (List.mem_append_right _ (List.mem_append_left _ (List.mem_of_getElem? (l := tables_1_8) (i := 160) rfl)))))))))) rfl)
set_option maxRecDepth 20000 in
theorem se_X12_downBy : Cond.selects mX12_downBy.1.cls mX12_downBy.1 mX12_downBy.1 ∈ tblG := tblG_in (List.mem_append_left _ (List.mem_of_getElem? (i := 96) (by decide +kernel))) (by decide +kernel)
set_option maxRecDepth 20000 in
theorem im_X12_doesUndo : Cond.instanceMethod mX12_doesUndo.1 ∈ tblG := (tblG_in (List.mem_append_right _ (List.mem_append_right _ (List.mem_append_right _ (List.mem_append_right _ (List.mem_append_right _ (List.mem_append_right _ (List.mem_append_right _ (List.mem_append_right _ (List.mem_append_left _ (List.mem_of_getElem? (l := tables_1_8) (i := 152) rfl)))))))))) rfl)
set_option maxRecDepth 20000 in
theorem se_X12_doesUndo : Cond.selects mX12_doesUndo.1.cls mX12_doesUndo.1 mX12_doesUndo.1 ∈ tblG := tblG_in (List.mem_append_left _ (List.mem_of_getElem? (i := 94) (by decide +kernel))) (by decide +kernel)
set_option maxRecDepth 20000 in
theorem im_X12_undoes : Cond.instanceMethod mX12_undoes.1 ∈ tblG := (tblG_in (List.mem_append_right _ (List.mem_append_right _ (List.mem_append_right _ (List.mem_append_right _ (List.mem_append_right _ (List.mem_append_right _ (List.mem_append_right _ (List.mem_append_right _ (List.mem_append_left _ (List.mem_of_getElem? (l := tables_1_8) (i := 147) rfl)))))))))) rfl)
set_option maxRecDepth 20000 in
theorem se_X12_undoes : Cond.selects mX12_undoes.1.cls mX12_undoes.1 mX12_undoes.1 ∈ tblG := (tblG_in (List.mem_append_right _ (List.mem_append_right _ (List.mem_append_right _ (List.mem_append_right _ (List.mem_append_right _ (List.mem_append_right _ (List.mem_append_right _ (List.mem_append_right _ (List.mem_append_left _ (List.mem_of_getElem? (l := tables_1_8) (i := 148) rfl)))))))))) rfl)
set_option maxRecDepth 20000 in
theorem im_X12_undoesAt : Cond.instanceMethod mX12_undoesAt.1 ∈ tblG := (tblG_in (List.mem_append_right _ (List.mem_append_right _ (List.mem_append_right _ (List.mem_append_right _ (List.mem_append_right _ (List.mem_append_right _ (List.mem_append_right _ (List.mem_append_right _ (List.mem_append_left _ (List.mem_of_getElem? (l := tables_1_8) (i := 163) rfl)))))))))) rfl)
set_option maxRecDepth 20000 in
theorem se_X12_undoesAt : Cond.selects mX12_undoesAt.1.cls mX12_undoesAt.1 mX12_undoesAt.1 ∈ tblG := (tblG_in (List.mem_append_right _ (List.mem_append_right _ (List.mem_append_right _ (List.mem_append_right _ (List.mem_append_right _ (List.mem_append_right _ (List.mem_append_right _ (List.mem_append_right _ (List.mem_append_left _ (List.mem_of_getElem? (l := tables_1_8) (i := 164) rfl)))))))))) rfl)
set_option maxRecDepth 20000 in
theorem im_X12_isStep : Cond.instanceMethod mX12_isStep.1 ∈ tblG := (tblG_in (List.mem_append_right _ (List.mem_append_right _ (List.mem_append_right _ (List.mem_append_right _ (List.mem_append_right _ (List.mem_append_right _ (List.mem_append_right _ (List.mem_append_right _ (List.mem_append_left _ (List.mem_of_getElem? (l := tables_1_8) (i := 176) rfl)))))))))) rfl)
set_option maxRecDepth 20000 in
theorem se_X12_isStep : Cond.selects mX12_isStep.1.cls mX12_isStep.1 mX12_isStep.1 ∈ tblG := tblG_in (List.mem_append_left _ (List.mem_of_getElem? (i := 98) (by decide +kernel))) (by decide +kernel)
set_option maxRecDepth 20000 in
theorem im_X12_stepsOf : Cond.instanceMethod mX12_stepsOf.1 ∈ tblG := (tblG_in (List.mem_append_right _ (List.mem_append_right _ (List.mem_append_right _ (List.mem_append_right _ (List.mem_append_right _ (List.mem_append_right _ (List.mem_append_right _ (List.mem_append_right _ (List.mem_append_left _ (List.mem_of_getElem? (l := tables_1_8) (i := 172) rfl)))))))))) rfl)
set_option maxRecDepth 20000 in
theorem se_X12_stepsOf : Cond.selects mX12_stepsOf.1.cls mX12_stepsOf.1 mX12_stepsOf.1 ∈ tblG := tblG_in (List.mem_append_left _ (List.mem_of_getElem? (i := 97) (by decide +kernel))) (by decide +kernel)
set_option maxRecDepth 20000 in
theorem im_X12_tracks : Cond.instanceMethod mX12_tracks.1 ∈ tblG := (tblG_in (List.mem_append_right _ (List.mem_append_right _ (List.mem_append_right _ (List.mem_append_right _ (List.mem_append_right _ (List.mem_append_right _ (List.mem_append_right _ (List.mem_append_right _ (List.mem_append_left _ (List.mem_of_getElem? (l := tables_1_8) (i := 167) rfl)))))))))) rfl)
set_option maxRecDepth 20000 in
theorem se_X12_tracks : Cond.selects mX12_tracks.1.cls mX12_tracks.1 mX12_tracks.1 ∈ tblG := (tblG_in (List.mem_append_right _ (List.mem_append_right _ (List.mem_append_right _ (List.mem_append_right _ (List.mem_append_right _ (List.mem_append_right _ (List.mem_append_right _ (List.mem_append_right _ (List.mem_append_left _ (List.mem_of_getElem? (l := tables_1_8) (i := 168) rfl)))))))))) rfl)
set_option maxRecDepth 20000 in
theorem im_X12_tracksAt : Cond.instanceMethod mX12_tracksAt.1 ∈ tblG := (tblG_in (List.mem_append_right _ (List.mem_append_right _ (List.mem_append_right _ (List.mem_append_right _ (List.mem_append_right _ (List.mem_append_right _ (List.mem_append_right _ (List.mem_append_right _ (List.mem_append_left _ (List.mem_of_getElem? (l := tables_1_8) (i := 179) rfl)))))))))) rfl)
set_option maxRecDepth 20000 in
theorem se_X12_tracksAt : Cond.selects mX12_tracksAt.1.cls mX12_tracksAt.1 mX12_tracksAt.1 ∈ tblG := (tblG_in (List.mem_append_right _ (List.mem_append_right _ (List.mem_append_right _ (List.mem_append_right _ (List.mem_append_right _ (List.mem_append_right _ (List.mem_append_right _ (List.mem_append_right _ (List.mem_append_left _ (List.mem_of_getElem? (l := tables_1_8) (i := 180) rfl)))))))))) rfl)
set_option maxRecDepth 20000 in
theorem im_X12_tells : Cond.instanceMethod mX12_tells.1 ∈ tblG := (tblG_in (List.mem_append_right _ (List.mem_append_right _ (List.mem_append_right _ (List.mem_append_right _ (List.mem_append_right _ (List.mem_append_right _ (List.mem_append_right _ (List.mem_append_right _ (List.mem_append_left _ (List.mem_of_getElem? (l := tables_1_8) (i := 183) rfl)))))))))) rfl)
set_option maxRecDepth 20000 in
theorem se_X12_tells : Cond.selects mX12_tells.1.cls mX12_tells.1 mX12_tells.1 ∈ tblG := (tblG_in (List.mem_append_right _ (List.mem_append_right _ (List.mem_append_right _ (List.mem_append_right _ (List.mem_append_right _ (List.mem_append_right _ (List.mem_append_right _ (List.mem_append_right _ (List.mem_append_left _ (List.mem_of_getElem? (l := tables_1_8) (i := 184) rfl)))))))))) rfl)
set_option maxRecDepth 20000 in
theorem im_X12_least : Cond.instanceMethod mX12_least.1 ∈ tblG := (tblG_in (List.mem_append_right _ (List.mem_append_right _ (List.mem_append_right _ (List.mem_append_right _ (List.mem_append_right _ (List.mem_append_right _ (List.mem_append_right _ (List.mem_append_right _ (List.mem_append_left _ (List.mem_of_getElem? (l := tables_1_8) (i := 187) rfl)))))))))) rfl)
set_option maxRecDepth 20000 in
theorem se_X12_least : Cond.selects mX12_least.1.cls mX12_least.1 mX12_least.1 ∈ tblG := (tblG_in (List.mem_append_right _ (List.mem_append_right _ (List.mem_append_right _ (List.mem_append_right _ (List.mem_append_right _ (List.mem_append_right _ (List.mem_append_right _ (List.mem_append_right _ (List.mem_append_left _ (List.mem_of_getElem? (l := tables_1_8) (i := 188) rfl)))))))))) rfl)
set_option maxRecDepth 20000 in
theorem im_X12_mean : Cond.instanceMethod mX12_mean.1 ∈ tblG := (tblG_in (List.mem_append_right _ (List.mem_append_right _ (List.mem_append_right _ (List.mem_append_right _ (List.mem_append_right _ (List.mem_append_right _ (List.mem_append_right _ (List.mem_append_right _ (List.mem_append_left _ (List.mem_of_getElem? (l := tables_1_8) (i := 191) rfl)))))))))) rfl)
set_option maxRecDepth 20000 in
theorem se_X12_mean : Cond.selects mX12_mean.1.cls mX12_mean.1 mX12_mean.1 ∈ tblG := (tblG_in (List.mem_append_right _ (List.mem_append_right _ (List.mem_append_right _ (List.mem_append_right _ (List.mem_append_right _ (List.mem_append_right _ (List.mem_append_right _ (List.mem_append_right _ (List.mem_append_left _ (List.mem_of_getElem? (l := tables_1_8) (i := 192) rfl)))))))))) rfl)
set_option maxRecDepth 20000 in
theorem im_X12_write : Cond.instanceMethod mX12_write.1 ∈ tblG := (tblG_in (List.mem_append_right _ (List.mem_append_right _ (List.mem_append_right _ (List.mem_append_right _ (List.mem_append_right _ (List.mem_append_right _ (List.mem_append_right _ (List.mem_append_right _ (List.mem_append_left _ (List.mem_of_getElem? (l := tables_1_8) (i := 207) rfl)))))))))) rfl)
set_option maxRecDepth 20000 in
theorem se_X12_write : Cond.selects mX12_write.1.cls mX12_write.1 mX12_write.1 ∈ tblG := tblG_in (List.mem_append_left _ (List.mem_of_getElem? (i := 100) (by decide +kernel))) (by decide +kernel)
set_option maxRecDepth 20000 in
theorem im_X12_writeWord : Cond.instanceMethod mX12_writeWord.1 ∈ tblG := (tblG_in (List.mem_append_right _ (List.mem_append_right _ (List.mem_append_right _ (List.mem_append_right _ (List.mem_append_right _ (List.mem_append_right _ (List.mem_append_right _ (List.mem_append_right _ (List.mem_append_left _ (List.mem_of_getElem? (l := tables_1_8) (i := 203) rfl)))))))))) rfl)
set_option maxRecDepth 20000 in
theorem se_X12_writeWord : Cond.selects mX12_writeWord.1.cls mX12_writeWord.1 mX12_writeWord.1 ∈ tblG := tblG_in (List.mem_append_left _ (List.mem_of_getElem? (i := 99) (by decide +kernel))) (by decide +kernel)
set_option maxRecDepth 20000 in
theorem im_X12_writeNext : Cond.instanceMethod mX12_writeNext.1 ∈ tblG := (tblG_in (List.mem_append_right _ (List.mem_append_right _ (List.mem_append_right _ (List.mem_append_right _ (List.mem_append_right _ (List.mem_append_right _ (List.mem_append_right _ (List.mem_append_right _ (List.mem_append_left _ (List.mem_of_getElem? (l := tables_1_8) (i := 211) rfl)))))))))) rfl)
set_option maxRecDepth 20000 in
theorem se_X12_writeNext : Cond.selects mX12_writeNext.1.cls mX12_writeNext.1 mX12_writeNext.1 ∈ tblG := tblG_in (List.mem_append_left _ (List.mem_of_getElem? (i := 101) (by decide +kernel))) (by decide +kernel)
set_option maxRecDepth 20000 in
theorem im_X12_writeDigit : Cond.instanceMethod mX12_writeDigit.1 ∈ tblG := (tblG_in (List.mem_append_right _ (List.mem_append_right _ (List.mem_append_right _ (List.mem_append_right _ (List.mem_append_right _ (List.mem_append_right _ (List.mem_append_right _ (List.mem_append_right _ (List.mem_append_left _ (List.mem_of_getElem? (l := tables_1_8) (i := 215) rfl)))))))))) rfl)
set_option maxRecDepth 20000 in
theorem se_X12_writeDigit : Cond.selects mX12_writeDigit.1.cls mX12_writeDigit.1 mX12_writeDigit.1 ∈ tblG := tblG_in (List.mem_append_left _ (List.mem_of_getElem? (i := 102) (by decide +kernel))) (by decide +kernel)
set_option maxRecDepth 20000 in
theorem im_X12_slip : Cond.instanceMethod mX12_slip.1 ∈ tblG := (tblG_in (List.mem_append_right _ (List.mem_append_right _ (List.mem_append_right _ (List.mem_append_right _ (List.mem_append_right _ (List.mem_append_right _ (List.mem_append_right _ (List.mem_append_right _ (List.mem_append_left _ (List.mem_of_getElem? (l := tables_1_8) (i := 198) rfl)))))))))) rfl)
set_option maxRecDepth 20000 in
theorem se_X12_slip : Cond.selects mX12_slip.1.cls mX12_slip.1 mX12_slip.1 ∈ tblG := (tblG_in (List.mem_append_right _ (List.mem_append_right _ (List.mem_append_right _ (List.mem_append_right _ (List.mem_append_right _ (List.mem_append_right _ (List.mem_append_right _ (List.mem_append_right _ (List.mem_append_left _ (List.mem_of_getElem? (l := tables_1_8) (i := 199) rfl)))))))))) rfl)
set_option maxRecDepth 20000 in
theorem im_X12_byteAt : Cond.instanceMethod mX12_byteAt.1 ∈ tblG := (tblG_in (List.mem_append_right _ (List.mem_append_right _ (List.mem_append_right _ (List.mem_append_right _ (List.mem_append_right _ (List.mem_append_right _ (List.mem_append_right _ (List.mem_append_right _ (List.mem_append_left _ (List.mem_of_getElem? (l := tables_1_8) (i := 218) rfl)))))))))) rfl)
set_option maxRecDepth 20000 in
theorem se_X12_byteAt : Cond.selects mX12_byteAt.1.cls mX12_byteAt.1 mX12_byteAt.1 ∈ tblG := (tblG_in (List.mem_append_right _ (List.mem_append_right _ (List.mem_append_right _ (List.mem_append_right _ (List.mem_append_right _ (List.mem_append_right _ (List.mem_append_right _ (List.mem_append_right _ (List.mem_append_left _ (List.mem_of_getElem? (l := tables_1_8) (i := 219) rfl)))))))))) rfl)
set_option maxRecDepth 20000 in
theorem im_X12_draw : Cond.instanceMethod mX12_draw.1 ∈ tblG := (tblG_in (List.mem_append_right _ (List.mem_append_right _ (List.mem_append_right _ (List.mem_append_right _ (List.mem_append_right _ (List.mem_append_right _ (List.mem_append_right _ (List.mem_append_right _ (List.mem_append_left _ (List.mem_of_getElem? (l := tables_1_8) (i := 235) rfl)))))))))) rfl)
set_option maxRecDepth 20000 in
theorem se_X12_draw : Cond.selects mX12_draw.1.cls mX12_draw.1 mX12_draw.1 ∈ tblG := tblG_in (List.mem_append_left _ (List.mem_of_getElem? (i := 105) (by decide +kernel))) (by decide +kernel)
set_option maxRecDepth 20000 in
theorem im_X12_doIf : Cond.instanceMethod mX12_doIf.1 ∈ tblG := (tblG_in (List.mem_append_right _ (List.mem_append_right _ (List.mem_append_right _ (List.mem_append_right _ (List.mem_append_right _ (List.mem_append_right _ (List.mem_append_right _ (List.mem_append_right _ (List.mem_append_right _ (List.mem_of_getElem? (l := tables_1_9) (i := 0) rfl)))))))))) rfl)
set_option maxRecDepth 20000 in
theorem se_X12_doIf : Cond.selects mX12_doIf.1.cls mX12_doIf.1 mX12_doIf.1 ∈ tblG := tblG_in (List.mem_append_left _ (List.mem_of_getElem? (i := 106) (by decide +kernel))) (by decide +kernel)
set_option maxRecDepth 20000 in
theorem im_X12_drawsFor : Cond.instanceMethod mX12_drawsFor.1 ∈ tblG := (tblG_in (List.mem_append_right _ (List.mem_append_right _ (List.mem_append_right _ (List.mem_append_right _ (List.mem_append_right _ (List.mem_append_right _ (List.mem_append_right _ (List.mem_append_right _ (List.mem_append_left _ (List.mem_of_getElem? (l := tables_1_8) (i := 231) rfl)))))))))) rfl)
set_option maxRecDepth 20000 in
theorem se_X12_drawsFor : Cond.selects mX12_drawsFor.1.cls mX12_drawsFor.1 mX12_drawsFor.1 ∈ tblG := tblG_in (List.mem_append_left _ (List.mem_of_getElem? (i := 104) (by decide +kernel))) (by decide +kernel)
set_option maxRecDepth 20000 in
theorem im_X12_drawHours : Cond.instanceMethod mX12_drawHours.1 ∈ tblG := (tblG_in (List.mem_append_right _ (List.mem_append_right _ (List.mem_append_right _ (List.mem_append_right _ (List.mem_append_right _ (List.mem_append_right _ (List.mem_append_right _ (List.mem_append_right _ (List.mem_append_left _ (List.mem_of_getElem? (l := tables_1_8) (i := 227) rfl)))))))))) rfl)
set_option maxRecDepth 20000 in
theorem se_X12_drawHours : Cond.selects mX12_drawHours.1.cls mX12_drawHours.1 mX12_drawHours.1 ∈ tblG := tblG_in (List.mem_append_left _ (List.mem_of_getElem? (i := 103) (by decide +kernel))) (by decide +kernel)
set_option maxRecDepth 20000 in
theorem im_X12_drawn : Cond.instanceMethod mX12_drawn.1 ∈ tblG := (tblG_in (List.mem_append_right _ (List.mem_append_right _ (List.mem_append_right _ (List.mem_append_right _ (List.mem_append_right _ (List.mem_append_right _ (List.mem_append_right _ (List.mem_append_right _ (List.mem_append_left _ (List.mem_of_getElem? (l := tables_1_8) (i := 222) rfl)))))))))) rfl)
set_option maxRecDepth 20000 in
theorem se_X12_drawn : Cond.selects mX12_drawn.1.cls mX12_drawn.1 mX12_drawn.1 ∈ tblG := (tblG_in (List.mem_append_right _ (List.mem_append_right _ (List.mem_append_right _ (List.mem_append_right _ (List.mem_append_right _ (List.mem_append_right _ (List.mem_append_right _ (List.mem_append_right _ (List.mem_append_left _ (List.mem_of_getElem? (l := tables_1_8) (i := 223) rfl)))))))))) rfl)
set_option maxRecDepth 20000 in
theorem im_X12_layAside : Cond.instanceMethod mX12_layAside.1 ∈ tblG := (tblG_in (List.mem_append_right _ (List.mem_append_right _ (List.mem_append_right _ (List.mem_append_right _ (List.mem_append_right _ (List.mem_append_right _ (List.mem_append_right _ (List.mem_append_right _ (List.mem_append_right _ (List.mem_of_getElem? (l := tables_1_9) (i := 8) rfl)))))))))) rfl)
set_option maxRecDepth 20000 in
theorem se_X12_layAside : Cond.selects mX12_layAside.1.cls mX12_layAside.1 mX12_layAside.1 ∈ tblG := tblG_in (List.mem_append_left _ (List.mem_of_getElem? (i := 107) (by decide +kernel))) (by decide +kernel)
set_option maxRecDepth 20000 in
theorem im_X12_takeBack : Cond.instanceMethod mX12_takeBack.1 ∈ tblG := (tblG_in (List.mem_append_right _ (List.mem_append_right _ (List.mem_append_right _ (List.mem_append_right _ (List.mem_append_right _ (List.mem_append_right _ (List.mem_append_right _ (List.mem_append_right _ (List.mem_append_right _ (List.mem_of_getElem? (l := tables_1_9) (i := 12) rfl)))))))))) rfl)
set_option maxRecDepth 20000 in
theorem se_X12_takeBack : Cond.selects mX12_takeBack.1.cls mX12_takeBack.1 mX12_takeBack.1 ∈ tblG := tblG_in (List.mem_append_left _ (List.mem_of_getElem? (i := 108) (by decide +kernel))) (by decide +kernel)
set_option maxRecDepth 20000 in
theorem im_X12_odds : Cond.instanceMethod mX12_odds.1 ∈ tblG := (tblG_in (List.mem_append_right _ (List.mem_append_right _ (List.mem_append_right _ (List.mem_append_right _ (List.mem_append_right _ (List.mem_append_right _ (List.mem_append_right _ (List.mem_append_right _ (List.mem_append_right _ (List.mem_of_getElem? (l := tables_1_9) (i := 3) rfl)))))))))) rfl)
set_option maxRecDepth 20000 in
theorem se_X12_odds : Cond.selects mX12_odds.1.cls mX12_odds.1 mX12_odds.1 ∈ tblG := (tblG_in (List.mem_append_right _ (List.mem_append_right _ (List.mem_append_right _ (List.mem_append_right _ (List.mem_append_right _ (List.mem_append_right _ (List.mem_append_right _ (List.mem_append_right _ (List.mem_append_right _ (List.mem_of_getElem? (l := tables_1_9) (i := 4) rfl)))))))))) rfl)
set_option maxRecDepth 20000 in
theorem im_X12_keep : Cond.instanceMethod mX12_keep.1 ∈ tblG := (tblG_in (List.mem_append_right _ (List.mem_append_right _ (List.mem_append_right _ (List.mem_append_right _ (List.mem_append_right _ (List.mem_append_right _ (List.mem_append_right _ (List.mem_append_right _ (List.mem_append_right _ (List.mem_of_getElem? (l := tables_1_9) (i := 24) rfl)))))))))) rfl)
set_option maxRecDepth 20000 in
theorem se_X12_keep : Cond.selects mX12_keep.1.cls mX12_keep.1 mX12_keep.1 ∈ tblG := tblG_in (List.mem_append_left _ (List.mem_of_getElem? (i := 110) (by decide +kernel))) (by decide +kernel)
set_option maxRecDepth 20000 in
theorem im_X12_readNamed : Cond.instanceMethod mX12_readNamed.1 ∈ tblG := (tblG_in (List.mem_append_right _ (List.mem_append_right _ (List.mem_append_right _ (List.mem_append_right _ (List.mem_append_right _ (List.mem_append_right _ (List.mem_append_right _ (List.mem_append_right _ (List.mem_append_right _ (List.mem_of_getElem? (l := tables_1_9) (i := 32) rfl)))))))))) rfl)
set_option maxRecDepth 20000 in
theorem se_X12_readNamed : Cond.selects mX12_readNamed.1.cls mX12_readNamed.1 mX12_readNamed.1 ∈ tblG := tblG_in (List.mem_append_left _ (List.mem_of_getElem? (i := 112) (by decide +kernel))) (by decide +kernel)
set_option maxRecDepth 20000 in
theorem im_X12_readSide : Cond.instanceMethod mX12_readSide.1 ∈ tblG := (tblG_in (List.mem_append_right _ (List.mem_append_right _ (List.mem_append_right _ (List.mem_append_right _ (List.mem_append_right _ (List.mem_append_right _ (List.mem_append_right _ (List.mem_append_right _ (List.mem_append_right _ (List.mem_of_getElem? (l := tables_1_9) (i := 36) rfl)))))))))) rfl)
set_option maxRecDepth 20000 in
theorem se_X12_readSide : Cond.selects mX12_readSide.1.cls mX12_readSide.1 mX12_readSide.1 ∈ tblG := tblG_in (List.mem_append_left _ (List.mem_of_getElem? (i := 113) (by decide +kernel))) (by decide +kernel)
set_option maxRecDepth 20000 in
theorem im_X12_readDoes : Cond.instanceMethod mX12_readDoes.1 ∈ tblG := (tblG_in (List.mem_append_right _ (List.mem_append_right _ (List.mem_append_right _ (List.mem_append_right _ (List.mem_append_right _ (List.mem_append_right _ (List.mem_append_right _ (List.mem_append_right _ (List.mem_append_right _ (List.mem_of_getElem? (l := tables_1_9) (i := 28) rfl)))))))))) rfl)
set_option maxRecDepth 20000 in
theorem se_X12_readDoes : Cond.selects mX12_readDoes.1.cls mX12_readDoes.1 mX12_readDoes.1 ∈ tblG := tblG_in (List.mem_append_left _ (List.mem_of_getElem? (i := 111) (by decide +kernel))) (by decide +kernel)
set_option maxRecDepth 20000 in
theorem im_X12_readBookLine : Cond.instanceMethod mX12_readBookLine.1 ∈ tblG := (tblG_in (List.mem_append_right _ (List.mem_append_right _ (List.mem_append_right _ (List.mem_append_right _ (List.mem_append_right _ (List.mem_append_right _ (List.mem_append_right _ (List.mem_append_right _ (List.mem_append_right _ (List.mem_of_getElem? (l := tables_1_9) (i := 20) rfl)))))))))) rfl)
set_option maxRecDepth 20000 in
theorem se_X12_readBookLine : Cond.selects mX12_readBookLine.1.cls mX12_readBookLine.1 mX12_readBookLine.1 ∈ tblG := tblG_in (List.mem_append_left _ (List.mem_of_getElem? (i := 109) (by decide +kernel))) (by decide +kernel)
set_option maxRecDepth 20000 in
theorem im_X12_goBy : Cond.instanceMethod mX12_goBy.1 ∈ tblG := (tblG_in (List.mem_append_right _ (List.mem_append_right _ (List.mem_append_right _ (List.mem_append_right _ (List.mem_append_right _ (List.mem_append_right _ (List.mem_append_right _ (List.mem_append_right _ (List.mem_append_right _ (List.mem_of_getElem? (l := tables_1_9) (i := 40) rfl)))))))))) rfl)
set_option maxRecDepth 20000 in
theorem se_X12_goBy : Cond.selects mX12_goBy.1.cls mX12_goBy.1 mX12_goBy.1 ∈ tblG := tblG_in (List.mem_append_left _ (List.mem_of_getElem? (i := 114) (by decide +kernel))) (by decide +kernel)
set_option maxRecDepth 20000 in
theorem im_X12_stay : Cond.instanceMethod mX12_stay.1 ∈ tblG := (tblG_in (List.mem_append_right _ (List.mem_append_right _ (List.mem_append_right _ (List.mem_append_right _ (List.mem_append_right _ (List.mem_append_right _ (List.mem_append_right _ (List.mem_append_right _ (List.mem_append_right _ (List.mem_of_getElem? (l := tables_1_9) (i := 44) rfl)))))))))) rfl)
set_option maxRecDepth 20000 in
theorem se_X12_stay : Cond.selects mX12_stay.1.cls mX12_stay.1 mX12_stay.1 ∈ tblG := tblG_in (List.mem_append_left _ (List.mem_of_getElem? (i := 115) (by decide +kernel))) (by decide +kernel)
set_option maxRecDepth 20000 in
theorem im_X12_book : Cond.instanceMethod mX12_book.1 ∈ tblG := (tblG_in (List.mem_append_right _ (List.mem_append_right _ (List.mem_append_right _ (List.mem_append_right _ (List.mem_append_right _ (List.mem_append_right _ (List.mem_append_right _ (List.mem_append_right _ (List.mem_append_right _ (List.mem_of_getElem? (l := tables_1_9) (i := 15) rfl)))))))))) rfl)
set_option maxRecDepth 20000 in
theorem se_X12_book : Cond.selects mX12_book.1.cls mX12_book.1 mX12_book.1 ∈ tblG := (tblG_in (List.mem_append_right _ (List.mem_append_right _ (List.mem_append_right _ (List.mem_append_right _ (List.mem_append_right _ (List.mem_append_right _ (List.mem_append_right _ (List.mem_append_right _ (List.mem_append_right _ (List.mem_of_getElem? (l := tables_1_9) (i := 16) rfl)))))))))) rfl)
set_option maxRecDepth 20000 in
theorem im_X12_told : Cond.instanceMethod mX12_told.1 ∈ tblG := (tblG_in (List.mem_append_right _ (List.mem_append_right _ (List.mem_append_right _ (List.mem_append_right _ (List.mem_append_right _ (List.mem_append_right _ (List.mem_append_right _ (List.mem_append_right _ (List.mem_append_right _ (List.mem_of_getElem? (l := tables_1_9) (i := 47) rfl)))))))))) rfl)
set_option maxRecDepth 20000 in
theorem se_X12_told : Cond.selects mX12_told.1.cls mX12_told.1 mX12_told.1 ∈ tblG := (tblG_in (List.mem_append_right _ (List.mem_append_right _ (List.mem_append_right _ (List.mem_append_right _ (List.mem_append_right _ (List.mem_append_right _ (List.mem_append_right _ (List.mem_append_right _ (List.mem_append_right _ (List.mem_of_getElem? (l := tables_1_9) (i := 48) rfl)))))))))) rfl)
set_option maxRecDepth 20000 in
theorem im_X12_readThat : Cond.instanceMethod mX12_readThat.1 ∈ tblG := (tblG_in (List.mem_append_right _ (List.mem_append_right _ (List.mem_append_right _ (List.mem_append_right _ (List.mem_append_right _ (List.mem_append_right _ (List.mem_append_right _ (List.mem_append_right _ (List.mem_append_right _ (List.mem_of_getElem? (l := tables_1_9) (i := 84) rfl)))))))))) rfl)
set_option maxRecDepth 20000 in
theorem se_X12_readThat : Cond.selects mX12_readThat.1.cls mX12_readThat.1 mX12_readThat.1 ∈ tblG := tblG_in (List.mem_append_left _ (List.mem_of_getElem? (i := 123) (by decide +kernel))) (by decide +kernel)
set_option maxRecDepth 20000 in
theorem im_X12_isBy : Cond.instanceMethod mX12_isBy.1 ∈ tblG := (tblG_in (List.mem_append_right _ (List.mem_append_right _ (List.mem_append_right _ (List.mem_append_right _ (List.mem_append_right _ (List.mem_append_right _ (List.mem_append_right _ (List.mem_append_right _ (List.mem_append_right _ (List.mem_of_getElem? (l := tables_1_9) (i := 100) rfl)))))))))) rfl)
set_option maxRecDepth 20000 in
theorem se_X12_isBy : Cond.selects mX12_isBy.1.cls mX12_isBy.1 mX12_isBy.1 ∈ tblG := tblG_in (List.mem_append_left _ (List.mem_of_getElem? (i := 126) (by decide +kernel))) (by decide +kernel)
set_option maxRecDepth 20000 in
theorem im_X12_saysOne : Cond.instanceMethod mX12_saysOne.1 ∈ tblG := (tblG_in (List.mem_append_right _ (List.mem_append_right _ (List.mem_append_right _ (List.mem_append_right _ (List.mem_append_right _ (List.mem_append_right _ (List.mem_append_right _ (List.mem_append_right _ (List.mem_append_right _ (List.mem_of_getElem? (l := tables_1_9) (i := 76) rfl)))))))))) rfl)
set_option maxRecDepth 20000 in
theorem se_X12_saysOne : Cond.selects mX12_saysOne.1.cls mX12_saysOne.1 mX12_saysOne.1 ∈ tblG := tblG_in (List.mem_append_left _ (List.mem_of_getElem? (i := 121) (by decide +kernel))) (by decide +kernel)
set_option maxRecDepth 20000 in
theorem im_X12_readOf : Cond.instanceMethod mX12_readOf.1 ∈ tblG := (tblG_in (List.mem_append_right _ (List.mem_append_right _ (List.mem_append_right _ (List.mem_append_right _ (List.mem_append_right _ (List.mem_append_right _ (List.mem_append_right _ (List.mem_append_right _ (List.mem_append_right _ (List.mem_of_getElem? (l := tables_1_9) (i := 80) rfl)))))))))) rfl)
set_option maxRecDepth 20000 in
theorem se_X12_readOf : Cond.selects mX12_readOf.1.cls mX12_readOf.1 mX12_readOf.1 ∈ tblG := tblG_in (List.mem_append_left _ (List.mem_of_getElem? (i := 122) (by decide +kernel))) (by decide +kernel)
set_option maxRecDepth 20000 in
theorem im_X12_readCompare : Cond.instanceMethod mX12_readCompare.1 ∈ tblG := (tblG_in (List.mem_append_right _ (List.mem_append_right _ (List.mem_append_right _ (List.mem_append_right _ (List.mem_append_right _ (List.mem_append_right _ (List.mem_append_right _ (List.mem_append_right _ (List.mem_append_right _ (List.mem_of_getElem? (l := tables_1_9) (i := 88) rfl)))))))))) rfl)
set_option maxRecDepth 20000 in
theorem se_X12_readCompare : Cond.selects mX12_readCompare.1.cls mX12_readCompare.1 mX12_readCompare.1 ∈ tblG := tblG_in (List.mem_append_left _ (List.mem_of_getElem? (i := 124) (by decide +kernel))) (by decide +kernel)
set_option maxRecDepth 20000 in
theorem im_X12_readAnd : Cond.instanceMethod mX12_readAnd.1 ∈ tblG := (tblG_in (List.mem_append_right _ (List.mem_append_right _ (List.mem_append_right _ (List.mem_append_right _ (List.mem_append_right _ (List.mem_append_right _ (List.mem_append_right _ (List.mem_append_right _ (List.mem_append_right _ (List.mem_of_getElem? (l := tables_1_9) (i := 60) rfl)))))))))) rfl)
set_option maxRecDepth 20000 in
theorem se_X12_readAnd : Cond.selects mX12_readAnd.1.cls mX12_readAnd.1 mX12_readAnd.1 ∈ tblG := tblG_in (List.mem_append_left _ (List.mem_of_getElem? (i := 117) (by decide +kernel))) (by decide +kernel)
set_option maxRecDepth 20000 in
theorem im_X12_readBracket : Cond.instanceMethod mX12_readBracket.1 ∈ tblG := (tblG_in (List.mem_append_right _ (List.mem_append_right _ (List.mem_append_right _ (List.mem_append_right _ (List.mem_append_right _ (List.mem_append_right _ (List.mem_append_right _ (List.mem_append_right _ (List.mem_append_right _ (List.mem_of_getElem? (l := tables_1_9) (i := 68) rfl)))))))))) rfl)
set_option maxRecDepth 20000 in
theorem se_X12_readBracket : Cond.selects mX12_readBracket.1.cls mX12_readBracket.1 mX12_readBracket.1 ∈ tblG := tblG_in (List.mem_append_left _ (List.mem_of_getElem? (i := 119) (by decide +kernel))) (by decide +kernel)
set_option maxRecDepth 20000 in
theorem im_X12_readNot : Cond.instanceMethod mX12_readNot.1 ∈ tblG := (tblG_in (List.mem_append_right _ (List.mem_append_right _ (List.mem_append_right _ (List.mem_append_right _ (List.mem_append_right _ (List.mem_append_right _ (List.mem_append_right _ (List.mem_append_right _ (List.mem_append_right _ (List.mem_of_getElem? (l := tables_1_9) (i := 72) rfl)))))))))) rfl)
set_option maxRecDepth 20000 in
theorem se_X12_readNot : Cond.selects mX12_readNot.1.cls mX12_readNot.1 mX12_readNot.1 ∈ tblG := tblG_in (List.mem_append_left _ (List.mem_of_getElem? (i := 120) (by decide +kernel))) (by decide +kernel)
set_option maxRecDepth 20000 in
theorem im_X12_readOr : Cond.instanceMethod mX12_readOr.1 ∈ tblG := (tblG_in (List.mem_append_right _ (List.mem_append_right _ (List.mem_append_right _ (List.mem_append_right _ (List.mem_append_right _ (List.mem_append_right _ (List.mem_append_right _ (List.mem_append_right _ (List.mem_append_right _ (List.mem_of_getElem? (l := tables_1_9) (i := 56) rfl)))))))))) rfl)
set_option maxRecDepth 20000 in
theorem se_X12_readOr : Cond.selects mX12_readOr.1.cls mX12_readOr.1 mX12_readOr.1 ∈ tblG := tblG_in (List.mem_append_left _ (List.mem_of_getElem? (i := 116) (by decide +kernel))) (by decide +kernel)
set_option maxRecDepth 20000 in
theorem im_X12_readSaid : Cond.instanceMethod mX12_readSaid.1 ∈ tblG := (tblG_in (List.mem_append_right _ (List.mem_append_right _ (List.mem_append_right _ (List.mem_append_right _ (List.mem_append_right _ (List.mem_append_right _ (List.mem_append_right _ (List.mem_append_right _ (List.mem_append_right _ (List.mem_of_getElem? (l := tables_1_9) (i := 64) rfl)))))))))) rfl)
set_option maxRecDepth 20000 in
theorem se_X12_readSaid : Cond.selects mX12_readSaid.1.cls mX12_readSaid.1 mX12_readSaid.1 ∈ tblG := tblG_in (List.mem_append_left _ (List.mem_of_getElem? (i := 118) (by decide +kernel))) (by decide +kernel)
set_option maxRecDepth 20000 in
theorem im_X12_sentence : Cond.instanceMethod mX12_sentence.1 ∈ tblG := (tblG_in (List.mem_append_right _ (List.mem_append_right _ (List.mem_append_right _ (List.mem_append_right _ (List.mem_append_right _ (List.mem_append_right _ (List.mem_append_right _ (List.mem_append_right _ (List.mem_append_right _ (List.mem_of_getElem? (l := tables_1_9) (i := 51) rfl)))))))))) rfl)
set_option maxRecDepth 20000 in
theorem se_X12_sentence : Cond.selects mX12_sentence.1.cls mX12_sentence.1 mX12_sentence.1 ∈ tblG := (tblG_in (List.mem_append_right _ (List.mem_append_right _ (List.mem_append_right _ (List.mem_append_right _ (List.mem_append_right _ (List.mem_append_right _ (List.mem_append_right _ (List.mem_append_right _ (List.mem_append_right _ (List.mem_of_getElem? (l := tables_1_9) (i := 52) rfl)))))))))) rfl)
set_option maxRecDepth 20000 in
theorem im_X12_holds : Cond.instanceMethod mX12_holds.1 ∈ tblG := (tblG_in (List.mem_append_right _ (List.mem_append_right _ (List.mem_append_right _ (List.mem_append_right _ (List.mem_append_right _ (List.mem_append_right _ (List.mem_append_right _ (List.mem_append_right _ (List.mem_append_right _ (List.mem_of_getElem? (l := tables_1_9) (i := 96) rfl)))))))))) rfl)
set_option maxRecDepth 20000 in
theorem se_X12_holds : Cond.selects mX12_holds.1.cls mX12_holds.1 mX12_holds.1 ∈ tblG := tblG_in (List.mem_append_left _ (List.mem_of_getElem? (i := 125) (by decide +kernel))) (by decide +kernel)
set_option maxRecDepth 20000 in
theorem im_X12_said : Cond.instanceMethod mX12_said.1 ∈ tblG := (tblG_in (List.mem_append_right _ (List.mem_append_right _ (List.mem_append_right _ (List.mem_append_right _ (List.mem_append_right _ (List.mem_append_right _ (List.mem_append_right _ (List.mem_append_right _ (List.mem_append_right _ (List.mem_of_getElem? (l := tables_1_9) (i := 91) rfl)))))))))) rfl)
set_option maxRecDepth 20000 in
theorem se_X12_said : Cond.selects mX12_said.1.cls mX12_said.1 mX12_said.1 ∈ tblG := (tblG_in (List.mem_append_right _ (List.mem_append_right _ (List.mem_append_right _ (List.mem_append_right _ (List.mem_append_right _ (List.mem_append_right _ (List.mem_append_right _ (List.mem_append_right _ (List.mem_append_right _ (List.mem_of_getElem? (l := tables_1_9) (i := 92) rfl)))))))))) rfl)
set_option maxRecDepth 20000 in
theorem im_X12_image : Cond.instanceMethod mX12_image.1 ∈ tblG := (tblG_in (List.mem_append_right _ (List.mem_append_right _ (List.mem_append_right _ (List.mem_append_right _ (List.mem_append_right _ (List.mem_append_right _ (List.mem_append_right _ (List.mem_append_right _ (List.mem_append_right _ (List.mem_of_getElem? (l := tables_1_9) (i := 103) rfl)))))))))) rfl)
set_option maxRecDepth 20000 in
theorem se_X12_image : Cond.selects mX12_image.1.cls mX12_image.1 mX12_image.1 ∈ tblG := (tblG_in (List.mem_append_right _ (List.mem_append_right _ (List.mem_append_right _ (List.mem_append_right _ (List.mem_append_right _ (List.mem_append_right _ (List.mem_append_right _ (List.mem_append_right _ (List.mem_append_right _ (List.mem_of_getElem? (l := tables_1_9) (i := 104) rfl)))))))))) rfl)
set_option maxRecDepth 20000 in
theorem im_X12_restore : Cond.instanceMethod mX12_restore.1 ∈ tblG := (tblG_in (List.mem_append_right _ (List.mem_append_right _ (List.mem_append_right _ (List.mem_append_right _ (List.mem_append_right _ (List.mem_append_right _ (List.mem_append_right _ (List.mem_append_right _ (List.mem_append_right _ (List.mem_of_getElem? (l := tables_1_9) (i := 107) rfl)))))))))) rfl)
set_option maxRecDepth 20000 in
theorem se_X12_restore : Cond.selects mX12_restore.1.cls mX12_restore.1 mX12_restore.1 ∈ tblG := (tblG_in (List.mem_append_right _ (List.mem_append_right _ (List.mem_append_right _ (List.mem_append_right _ (List.mem_append_right _ (List.mem_append_right _ (List.mem_append_right _ (List.mem_append_right _ (List.mem_append_right _ (List.mem_of_getElem? (l := tables_1_9) (i := 108) rfl)))))))))) rfl)
set_option maxRecDepth 20000 in
theorem im_X12_count : Cond.instanceMethod mX12_count.1 ∈ tblG := (tblG_in (List.mem_append_right _ (List.mem_append_right _ (List.mem_append_right _ (List.mem_append_right _ (List.mem_append_right _ (List.mem_append_right _ (List.mem_append_right _ (List.mem_append_right _ (List.mem_append_right _ (List.mem_of_getElem? (l := tables_1_9) (i := 111) rfl)))))))))) rfl)
set_option maxRecDepth 20000 in
theorem se_X12_count : Cond.selects mX12_count.1.cls mX12_count.1 mX12_count.1 ∈ tblG := (tblG_in (List.mem_append_right _ (List.mem_append_right _ (List.mem_append_right _ (List.mem_append_right _ (List.mem_append_right _ (List.mem_append_right _ (List.mem_append_right _ (List.mem_append_right _ (List.mem_append_right _ (List.mem_of_getElem? (l := tables_1_9) (i := 112) rfl)))))))))) rfl)
set_option maxRecDepth 20000 in
theorem cv_11_105 : CV RX11 105 mX7_put 1 := ⟨⟨Or.inl (tblG_in (List.mem_append_right _ (List.mem_append_right _ (List.mem_append_right _ (List.mem_append_left _ (List.mem_of_getElem? (l := tables_1_3) (i := 110) rfl))))) rfl), ini_7, co_X7_put, by decide +kernel, by decide +kernel, by decide +kernel, by decide⟩, im_X7_put, se_X7_put⟩
set_option maxRecDepth 20000 in
theorem cv_11_109 : CV RX11 109 mX2_read 0 := ⟨⟨Or.inl (tblG_in (List.mem_append_right _ (List.mem_append_right _ (List.mem_append_right _ (List.mem_append_left _ (List.mem_of_getElem? (l := tables_1_3) (i := 122) rfl))))) rfl), ini_2, co_X2_read, by decide +kernel, by decide +kernel, by decide +kernel, by decide⟩, im_X2_read, se_X2_read⟩
set_option maxRecDepth 20000 in
theorem cv_11_119 : CV RX11 119 mX10_copyFrom 1 := ⟨⟨Or.inl (tblG_in (List.mem_append_right _ (List.mem_append_right _ (List.mem_append_right _ (List.mem_append_right _ (List.mem_append_left _ (List.mem_of_getElem? (l := tables_1_4) (i := 34) rfl)))))) rfl), ini_10, co_X10_copyFrom, by decide +kernel, by decide +kernel, by decide +kernel, by decide⟩, im_X10_copyFrom, se_X10_copyFrom⟩
set_option maxRecDepth 20000 in
theorem cv_11_123 : CV RX11 123 mX3_clear 0 := ⟨⟨Or.inl (tblG_in (List.mem_append_right _ (List.mem_append_right _ (List.mem_append_right _ (List.mem_append_right _ (List.mem_append_left _ (List.mem_of_getElem? (l := tables_1_4) (i := 55) rfl)))))) rfl), ini_3, co_X3_clear, by decide +kernel, by decide +kernel, by decide +kernel, by decide⟩, im_X3_clear, se_X3_clear⟩
set_option maxRecDepth 20000 in
theorem cv_11_129 : CV RX11 129 mX10_hasPerson 1 := ⟨⟨Or.inl (tblG_in (List.mem_append_right _ (List.mem_append_right _ (List.mem_append_right _ (List.mem_append_right _ (List.mem_append_left _ (List.mem_of_getElem? (l := tables_1_4) (i := 140) rfl)))))) rfl), ini_10, co_X10_hasPerson, by decide +kernel, by decide +kernel, by decide +kernel, by decide⟩, im_X10_hasPerson, se_X10_hasPerson⟩
set_option maxRecDepth 20000 in
theorem cv_11_164 : CV RX11 164 mX10_hasFigure 1 := ⟨⟨Or.inl (tblG_in (List.mem_append_right _ (List.mem_append_right _ (List.mem_append_right _ (List.mem_append_right _ (List.mem_append_left _ (List.mem_of_getElem? (l := tables_1_4) (i := 67) rfl)))))) rfl), ini_10, co_X10_hasFigure, by decide +kernel, by decide +kernel, by decide +kernel, by decide⟩, im_X10_hasFigure, se_X10_hasFigure⟩
set_option maxRecDepth 20000 in
theorem cv_11_173 : CV RX11 173 mX1_cost 1 := ⟨⟨Or.inl (tblG_in (List.mem_append_right _ (List.mem_append_right _ (List.mem_append_right _ (List.mem_append_right _ (List.mem_append_left _ (List.mem_of_getElem? (l := tables_1_4) (i := 71) rfl)))))) rfl), ini_1, co_X1_cost, by decide +kernel, by decide +kernel, by decide +kernel, by decide⟩, im_X1_cost, se_X1_cost⟩
set_option maxRecDepth 20000 in
theorem cv_11_177 : CV RX11 177 mX10_hasPoint 1 := ⟨⟨Or.inl (tblG_in (List.mem_append_right _ (List.mem_append_right _ (List.mem_append_right _ (List.mem_append_right _ (List.mem_append_left _ (List.mem_of_getElem? (l := tables_1_4) (i := 82) rfl)))))) rfl), ini_10, co_X10_hasPoint, by decide +kernel, by decide +kernel, by decide +kernel, by decide⟩, im_X10_hasPoint, se_X10_hasPoint⟩
set_option maxRecDepth 20000 in
theorem cv_11_189 : CV RX11 189 mX10_forWhomCame 1 := ⟨⟨Or.inl (tblG_in (List.mem_append_right _ (List.mem_append_right _ (List.mem_append_right _ (List.mem_append_right _ (List.mem_append_left _ (List.mem_of_getElem? (l := tables_1_4) (i := 86) rfl)))))) rfl), ini_10, co_X10_forWhomCame, by decide +kernel, by decide +kernel, by decide +kernel, by decide⟩, im_X10_forWhomCame, se_X10_forWhomCame⟩
set_option maxRecDepth 20000 in
theorem cv_11_192 : CV RX11 192 mX1_isInside 2 := ⟨⟨Or.inl (tblG_in (List.mem_append_right _ (List.mem_append_right _ (List.mem_append_right _ (List.mem_append_right _ (List.mem_append_left _ (List.mem_of_getElem? (l := tables_1_4) (i := 94) rfl)))))) rfl), ini_1, co_X1_isInside, by decide +kernel, by decide +kernel, by decide +kernel, by decide⟩, im_X1_isInside, se_X1_isInside⟩
set_option maxRecDepth 20000 in
theorem cs_11_199 : CS RX11 199 mX11_cellOf 2 := ⟨⟨Or.inl (tblG_in (List.mem_append_right _ (List.mem_append_right _ (List.mem_append_right _ (List.mem_append_right _ (List.mem_append_left _ (List.mem_of_getElem? (l := tables_1_4) (i := 95) rfl)))))) rfl), ini_11, co_X11_cellOf, by decide +kernel, by decide +kernel, by decide +kernel, by decide⟩, st_X11_cellOf⟩
set_option maxRecDepth 20000 in
theorem cv_11_203 : CV RX11 203 mX10_whoIsAt 2 := ⟨⟨Or.inl (tblG_in (List.mem_append_right _ (List.mem_append_right _ (List.mem_append_right _ (List.mem_append_right _ (List.mem_append_left _ (List.mem_of_getElem? (l := tables_1_4) (i := 96) rfl)))))) rfl), ini_10, co_X10_whoIsAt, by decide +kernel, by decide +kernel, by decide +kernel, by decide⟩, im_X10_whoIsAt, se_X10_whoIsAt⟩
set_option maxRecDepth 20000 in
theorem cv_11_206 : CV RX11 206 mX1_pointsAt 2 := ⟨⟨Or.inl (tblG_in (List.mem_append_right _ (List.mem_append_right _ (List.mem_append_right _ (List.mem_append_right _ (List.mem_append_left _ (List.mem_of_getElem? (l := tables_1_4) (i := 97) rfl)))))) rfl), ini_1, co_X1_pointsAt, by decide +kernel, by decide +kernel, by decide +kernel, by decide⟩, im_X1_pointsAt, se_X1_pointsAt⟩
set_option maxRecDepth 20000 in
theorem cv_11_212 : CV RX11 212 mX10_allWalls 0 := ⟨⟨Or.inl (tblG_in (List.mem_append_right _ (List.mem_append_right _ (List.mem_append_right _ (List.mem_append_right _ (List.mem_append_left _ (List.mem_of_getElem? (l := tables_1_4) (i := 105) rfl)))))) rfl), ini_10, co_X10_allWalls, by decide +kernel, by decide +kernel, by decide +kernel, by decide⟩, im_X10_allWalls, se_X10_allWalls⟩
set_option maxRecDepth 20000 in
theorem cv_11_215 : CV RX11 215 mX10_allSpoken 0 := ⟨⟨Or.inl (tblG_in (List.mem_append_right _ (List.mem_append_right _ (List.mem_append_right _ (List.mem_append_right _ (List.mem_append_left _ (List.mem_of_getElem? (l := tables_1_4) (i := 112) rfl)))))) rfl), ini_10, co_X10_allSpoken, by decide +kernel, by decide +kernel, by decide +kernel, by decide⟩, im_X10_allSpoken, se_X10_allSpoken⟩
set_option maxRecDepth 20000 in
theorem cv_11_221 : CV RX11 221 mX10_whoIsSpent 0 := ⟨⟨Or.inl (tblG_in (List.mem_append_right _ (List.mem_append_right _ (List.mem_append_right _ (List.mem_append_right _ (List.mem_append_left _ (List.mem_of_getElem? (l := tables_1_4) (i := 116) rfl)))))) rfl), ini_10, co_X10_whoIsSpent, by decide +kernel, by decide +kernel, by decide +kernel, by decide⟩, im_X10_whoIsSpent, se_X10_whoIsSpent⟩
set_option maxRecDepth 20000 in
theorem cv_11_224 : CV RX11 224 mX10_whoIsSettled 0 := ⟨⟨Or.inl (tblG_in (List.mem_append_right _ (List.mem_append_right _ (List.mem_append_right _ (List.mem_append_right _ (List.mem_append_left _ (List.mem_of_getElem? (l := tables_1_4) (i := 120) rfl)))))) rfl), ini_10, co_X10_whoIsSettled, by decide +kernel, by decide +kernel, by decide +kernel, by decide⟩, im_X10_whoIsSettled, se_X10_whoIsSettled⟩
set_option maxRecDepth 20000 in
theorem cv_11_227 : CV RX11 227 mX10_whoIsUpright 0 := ⟨⟨Or.inl (tblG_in (List.mem_append_right _ (List.mem_append_right _ (List.mem_append_right _ (List.mem_append_right _ (List.mem_append_left _ (List.mem_of_getElem? (l := tables_1_4) (i := 128) rfl)))))) rfl), ini_10, co_X10_whoIsUpright, by decide +kernel, by decide +kernel, by decide +kernel, by decide⟩, im_X10_whoIsUpright, se_X10_whoIsUpright⟩
set_option maxRecDepth 20000 in
theorem cv_11_230 : CV RX11 230 mX10_allBreath 0 := ⟨⟨Or.inl (tblG_in (List.mem_append_right _ (List.mem_append_right _ (List.mem_append_right _ (List.mem_append_right _ (List.mem_append_left _ (List.mem_of_getElem? (l := tables_1_4) (i := 132) rfl)))))) rfl), ini_10, co_X10_allBreath, by decide +kernel, by decide +kernel, by decide +kernel, by decide⟩, im_X10_allBreath, se_X10_allBreath⟩
set_option maxRecDepth 20000 in
theorem cs_11_233 : CS RX11 233 mX11_isSide 1 := ⟨⟨Or.inl (tblG_in (List.mem_append_right _ (List.mem_append_right _ (List.mem_append_right _ (List.mem_append_right _ (List.mem_append_left _ (List.mem_of_getElem? (l := tables_1_4) (i := 144) rfl)))))) rfl), ini_11, co_X11_isSide, by decide +kernel, by decide +kernel, by decide +kernel, by decide⟩, st_X11_isSide⟩
set_option maxRecDepth 20000 in
theorem cv_11_236 : CV RX11 236 mX10_whyNotSay 3 := ⟨⟨Or.inl (tblG_in (List.mem_append_right _ (List.mem_append_right _ (List.mem_append_right _ (List.mem_append_right _ (List.mem_append_left _ (List.mem_of_getElem? (l := tables_1_4) (i := 148) rfl)))))) rfl), ini_10, co_X10_whyNotSay, by decide +kernel, by decide +kernel, by decide +kernel, by decide⟩, im_X10_whyNotSay, se_X10_whyNotSay⟩
set_option maxRecDepth 20000 in
theorem cv_11_240 : CV RX11 240 mX3_keep 1 := ⟨⟨Or.inl (tblG_in (List.mem_append_right _ (List.mem_append_right _ (List.mem_append_right _ (List.mem_append_right _ (List.mem_append_left _ (List.mem_of_getElem? (l := tables_1_4) (i := 162) rfl)))))) rfl), ini_3, co_X3_keep, by decide +kernel, by decide +kernel, by decide +kernel, by decide⟩, im_X3_keep, se_X3_keep⟩
set_option maxRecDepth 20000 in
theorem cv_11_244 : CV RX11 244 mX10_doSay 3 := ⟨⟨Or.inl (tblG_in (List.mem_append_right _ (List.mem_append_right _ (List.mem_append_right _ (List.mem_append_right _ (List.mem_append_left _ (List.mem_of_getElem? (l := tables_1_4) (i := 168) rfl)))))) rfl), ini_10, co_X10_doSay, by decide +kernel, by decide +kernel, by decide +kernel, by decide⟩, im_X10_doSay, se_X10_doSay⟩
set_option maxRecDepth 20000 in
theorem cv_11_248 : CV RX11 248 mX10_whyNotKick 2 := ⟨⟨Or.inl (tblG_in (List.mem_append_right _ (List.mem_append_right _ (List.mem_append_right _ (List.mem_append_right _ (List.mem_append_left _ (List.mem_of_getElem? (l := tables_1_4) (i := 177) rfl)))))) rfl), ini_10, co_X10_whyNotKick, by decide +kernel, by decide +kernel, by decide +kernel, by decide⟩, im_X10_whyNotKick, se_X10_whyNotKick⟩
set_option maxRecDepth 20000 in
theorem cv_11_251 : CV RX11 251 mX10_doKick 2 := ⟨⟨Or.inl (tblG_in (List.mem_append_right _ (List.mem_append_right _ (List.mem_append_right _ (List.mem_append_right _ (List.mem_append_left _ (List.mem_of_getElem? (l := tables_1_4) (i := 182) rfl)))))) rfl), ini_10, co_X10_doKick, by decide +kernel, by decide +kernel, by decide +kernel, by decide⟩, im_X10_doKick, se_X10_doKick⟩
set_option maxRecDepth 20000 in
theorem cv_11_255 : CV RX11 255 mX10_whyNotRest 1 := ⟨⟨Or.inl (tblG_in (List.mem_append_right _ (List.mem_append_right _ (List.mem_append_right _ (List.mem_append_right _ (List.mem_append_left _ (List.mem_of_getElem? (l := tables_1_4) (i := 190) rfl)))))) rfl), ini_10, co_X10_whyNotRest, by decide +kernel, by decide +kernel, by decide +kernel, by decide⟩, im_X10_whyNotRest, se_X10_whyNotRest⟩
set_option maxRecDepth 20000 in
theorem cv_11_258 : CV RX11 258 mX10_doRest 1 := ⟨⟨Or.inl (tblG_in (List.mem_append_right _ (List.mem_append_right _ (List.mem_append_right _ (List.mem_append_right _ (List.mem_append_left _ (List.mem_of_getElem? (l := tables_1_4) (i := 194) rfl)))))) rfl), ini_10, co_X10_doRest, by decide +kernel, by decide +kernel, by decide +kernel, by decide⟩, im_X10_doRest, se_X10_doRest⟩
set_option maxRecDepth 20000 in
theorem cs_11_261 : CS RX11 261 mX11_isIn 3 := ⟨⟨Or.inl (tblG_in (List.mem_append_right _ (List.mem_append_right _ (List.mem_append_right _ (List.mem_append_right _ (List.mem_append_left _ (List.mem_of_getElem? (l := tables_1_4) (i := 147) rfl)))))) rfl), ini_11, co_X11_isIn, by decide +kernel, by decide +kernel, by decide +kernel, by decide⟩, st_X11_isIn⟩
set_option maxRecDepth 20000 in
theorem cv_11_265 : CV RX11 265 mX10_hoursLeft 0 := ⟨⟨Or.inl (tblG_in (List.mem_append_right _ (List.mem_append_right _ (List.mem_append_right _ (List.mem_append_right _ (List.mem_append_left _ (List.mem_of_getElem? (l := tables_1_4) (i := 202) rfl)))))) rfl), ini_10, co_X10_hoursLeft, by decide +kernel, by decide +kernel, by decide +kernel, by decide⟩, im_X10_hoursLeft, se_X10_hoursLeft⟩
set_option maxRecDepth 20000 in
theorem cv_11_273 : CV RX11 273 mX10_passHours 1 := ⟨⟨Or.inl (tblG_in (List.mem_append_right _ (List.mem_append_right _ (List.mem_append_right _ (List.mem_append_right _ (List.mem_append_left _ (List.mem_of_getElem? (l := tables_1_4) (i := 207) rfl)))))) rfl), ini_10, co_X10_passHours, by decide +kernel, by decide +kernel, by decide +kernel, by decide⟩, im_X10_passHours, se_X10_passHours⟩
set_option maxRecDepth 20000 in
theorem cv_11_276 : CV RX11 276 mX3_takeBack 1 := ⟨⟨Or.inl (tblG_in (List.mem_append_right _ (List.mem_append_right _ (List.mem_append_right _ (List.mem_append_right _ (List.mem_append_left _ (List.mem_of_getElem? (l := tables_1_4) (i := 216) rfl)))))) rfl), ini_3, co_X3_takeBack, by decide +kernel, by decide +kernel, by decide +kernel, by decide⟩, im_X3_takeBack, se_X3_takeBack⟩
set_option maxRecDepth 20000 in
theorem cv_11_280 : CV RX11 280 mX4_spread 3 := ⟨⟨Or.inl (tblG_in (List.mem_append_right _ (List.mem_append_right _ (List.mem_append_right _ (List.mem_append_right _ (List.mem_append_left _ (List.mem_of_getElem? (l := tables_1_4) (i := 228) rfl)))))) rfl), ini_4, co_X4_spread, by decide +kernel, by decide +kernel, by decide +kernel, by decide⟩, im_X4_spread, se_X4_spread⟩
set_option maxRecDepth 20000 in
theorem cv_11_284 : CV RX11 284 mX1_standOfPoint 1 := ⟨⟨Or.inl (tblG_in (List.mem_append_right _ (List.mem_append_right _ (List.mem_append_right _ (List.mem_append_right _ (List.mem_append_right _ (List.mem_append_left _ (List.mem_of_getElem? (l := tables_1_5) (i := 17) rfl))))))) rfl), ini_1, co_X1_standOfPoint, by decide +kernel, by decide +kernel, by decide +kernel, by decide⟩, im_X1_standOfPoint, se_X1_standOfPoint⟩
set_option maxRecDepth 20000 in
theorem cv_11_287 : CV RX11 287 mX4_keepWayTo 1 := ⟨⟨Or.inl (tblG_in (List.mem_append_right _ (List.mem_append_right _ (List.mem_append_right _ (List.mem_append_right _ (List.mem_append_right _ (List.mem_append_left _ (List.mem_of_getElem? (l := tables_1_5) (i := 22) rfl))))))) rfl), ini_4, co_X4_keepWayTo, by decide +kernel, by decide +kernel, by decide +kernel, by decide⟩, im_X4_keepWayTo, se_X4_keepWayTo⟩
set_option maxRecDepth 20000 in
theorem cv_11_302 : CV RX11 302 mX4_countCells 0 := ⟨⟨Or.inl (tblG_in (List.mem_append_right _ (List.mem_append_right _ (List.mem_append_right _ (List.mem_append_right _ (List.mem_append_right _ (List.mem_append_left _ (List.mem_of_getElem? (l := tables_1_5) (i := 39) rfl))))))) rfl), ini_4, co_X4_countCells, by decide +kernel, by decide +kernel, by decide +kernel, by decide⟩, im_X4_countCells, se_X4_countCells⟩
set_option maxRecDepth 20000 in
theorem cv_11_305 : CV RX11 305 mX9_find 2 := ⟨⟨Or.inl (tblG_in (List.mem_append_right _ (List.mem_append_right _ (List.mem_append_right _ (List.mem_append_right _ (List.mem_append_right _ (List.mem_append_left _ (List.mem_of_getElem? (l := tables_1_5) (i := 47) rfl))))))) rfl), ini_9, co_X9_find, by decide +kernel, by decide +kernel, by decide +kernel, by decide⟩, im_X9_find, se_X9_find⟩
set_option maxRecDepth 20000 in
theorem cv_11_311 : CV RX11 311 mX8_follow 2 := ⟨⟨Or.inl (tblG_in (List.mem_append_right _ (List.mem_append_right _ (List.mem_append_right _ (List.mem_append_right _ (List.mem_append_right _ (List.mem_append_left _ (List.mem_of_getElem? (l := tables_1_5) (i := 68) rfl))))))) rfl), ini_8, co_X8_follow, by decide +kernel, by decide +kernel, by decide +kernel, by decide⟩, im_X8_follow, se_X8_follow⟩
set_option maxRecDepth 20000 in
theorem cv_11_321 : CV RX11 321 mX8_stepOfMost 0 := ⟨⟨Or.inl (tblG_in (List.mem_append_right _ (List.mem_append_right _ (List.mem_append_right _ (List.mem_append_right _ (List.mem_append_right _ (List.mem_append_left _ (List.mem_of_getElem? (l := tables_1_5) (i := 94) rfl))))))) rfl), ini_8, co_X8_stepOfMost, by decide +kernel, by decide +kernel, by decide +kernel, by decide⟩, im_X8_stepOfMost, se_X8_stepOfMost⟩
set_option maxRecDepth 20000 in
theorem cv_11_324 : CV RX11 324 mX10_whoHasLeast 0 := ⟨⟨Or.inl (tblG_in (List.mem_append_right _ (List.mem_append_right _ (List.mem_append_right _ (List.mem_append_right _ (List.mem_append_right _ (List.mem_append_left _ (List.mem_of_getElem? (l := tables_1_5) (i := 102) rfl))))))) rfl), ini_10, co_X10_whoHasLeast, by decide +kernel, by decide +kernel, by decide +kernel, by decide⟩, im_X10_whoHasLeast, se_X10_whoHasLeast⟩
set_option maxRecDepth 20000 in
theorem cs_11_330 : CS RX11 330 mX11_commonDivisor 2 := ⟨⟨Or.inl (tblG_in (List.mem_append_right _ (List.mem_append_right _ (List.mem_append_right _ (List.mem_append_right _ (List.mem_append_right _ (List.mem_append_right _ (List.mem_append_left _ (List.mem_of_getElem? (l := tables_1_6) (i := 157) rfl)))))))) rfl), ini_11, co_X11_commonDivisor, by decide +kernel, by decide +kernel, by decide +kernel, by decide⟩, st_X11_commonDivisor⟩
set_option maxRecDepth 20000 in
theorem cv_11_337 : CV RX11 337 mX11_slipName 1 := ⟨⟨Or.inl (tblG_in (List.mem_append_right _ (List.mem_append_right _ (List.mem_append_right _ (List.mem_append_right _ (List.mem_append_right _ (List.mem_append_left _ (List.mem_of_getElem? (l := tables_1_5) (i := 110) rfl))))))) rfl), ini_11, co_X11_slipName, by decide +kernel, by decide +kernel, by decide +kernel, by decide⟩, im_X11_slipName, se_X11_slipName⟩
set_option maxRecDepth 20000 in
theorem cv_11_343 : CV RX11 343 mX11_slipText 1 := ⟨⟨Or.inl (tblG_in (List.mem_append_right _ (List.mem_append_right _ (List.mem_append_right _ (List.mem_append_right _ (List.mem_append_right _ (List.mem_append_left _ (List.mem_of_getElem? (l := tables_1_5) (i := 119) rfl))))))) rfl), ini_11, co_X11_slipText, by decide +kernel, by decide +kernel, by decide +kernel, by decide⟩, im_X11_slipText, se_X11_slipText⟩
set_option maxRecDepth 20000 in
theorem cv_11_347 : CV RX11 347 mX11_slipByte 1 := ⟨⟨Or.inl (tblG_in (List.mem_append_right _ (List.mem_append_right _ (List.mem_append_right _ (List.mem_append_right _ (List.mem_append_right _ (List.mem_append_left _ (List.mem_of_getElem? (l := tables_1_5) (i := 114) rfl))))))) rfl), ini_11, co_X11_slipByte, by decide +kernel, by decide +kernel, by decide +kernel, by decide⟩, im_X11_slipByte, se_X11_slipByte⟩
set_option maxRecDepth 20000 in
theorem cv_11_354 : CV RX11 354 mX10_drawHours 2 := ⟨⟨Or.inl (tblG_in (List.mem_append_right _ (List.mem_append_right _ (List.mem_append_right _ (List.mem_append_right _ (List.mem_append_right _ (List.mem_append_left _ (List.mem_of_getElem? (l := tables_1_5) (i := 135) rfl))))))) rfl), ini_10, co_X10_drawHours, by decide +kernel, by decide +kernel, by decide +kernel, by decide⟩, im_X10_drawHours, se_X10_drawHours⟩
set_option maxRecDepth 20000 in
theorem cv_11_357 : CV RX11 357 mX6_copyFrom 1 := ⟨⟨Or.inl (tblG_in (List.mem_append_right _ (List.mem_append_right _ (List.mem_append_right _ (List.mem_append_right _ (List.mem_append_right _ (List.mem_append_left _ (List.mem_of_getElem? (l := tables_1_5) (i := 171) rfl))))))) rfl), ini_6, co_X6_copyFrom, by decide +kernel, by decide +kernel, by decide +kernel, by decide⟩, im_X6_copyFrom, se_X6_copyFrom⟩
set_option maxRecDepth 20000 in
theorem cv_11_359 : CV RX11 359 mX0_read 1 := ⟨⟨Or.inl (tblG_in (List.mem_append_right _ (List.mem_append_right _ (List.mem_append_right _ (List.mem_append_right _ (List.mem_append_right _ (List.mem_append_left _ (List.mem_of_getElem? (l := tables_1_5) (i := 176) rfl))))))) rfl), ini_0, co_X0_read, by decide +kernel, by decide +kernel, by decide +kernel, by decide⟩, im_X0_read, se_X0_read⟩
set_option maxRecDepth 20000 in
theorem cv_11_362 : CV RX11 362 mX0_judge 1 := ⟨⟨Or.inl (tblG_in (List.mem_append_right _ (List.mem_append_right _ (List.mem_append_right _ (List.mem_append_right _ (List.mem_append_right _ (List.mem_append_left _ (List.mem_of_getElem? (l := tables_1_5) (i := 211) rfl))))))) rfl), ini_0, co_X0_judge, by decide +kernel, by decide +kernel, by decide +kernel, by decide⟩, im_X0_judge, se_X0_judge⟩
set_option maxRecDepth 20000 in
theorem cv_11_379 : CV RX11 379 mX5_read 2 := ⟨⟨Or.inl (tblG_in (List.mem_append_right _ (List.mem_append_right _ (List.mem_append_right _ (List.mem_append_right _ (List.mem_append_right _ (List.mem_append_left _ (List.mem_of_getElem? (l := tables_1_5) (i := 239) rfl))))))) rfl), ini_5, co_X5_read, by decide +kernel, by decide +kernel, by decide +kernel, by decide⟩, im_X5_read, se_X5_read⟩
set_option maxRecDepth 20000 in
theorem cv_11_385 : CV RX11 385 mX5_copyFrom 1 := ⟨⟨Or.inl (tblG_in (List.mem_append_right _ (List.mem_append_right _ (List.mem_append_right _ (List.mem_append_right _ (List.mem_append_right _ (List.mem_append_right _ (List.mem_append_left _ (List.mem_of_getElem? (l := tables_1_6) (i := 43) rfl)))))))) rfl), ini_5, co_X5_copyFrom, by decide +kernel, by decide +kernel, by decide +kernel, by decide⟩, im_X5_copyFrom, se_X5_copyFrom⟩
set_option maxRecDepth 20000 in
theorem cv_11_391 : CV RX11 391 mX5_holdsFor 2 := ⟨⟨Or.inl (tblG_in (List.mem_append_right _ (List.mem_append_right _ (List.mem_append_right _ (List.mem_append_right _ (List.mem_append_right _ (List.mem_append_right _ (List.mem_append_left _ (List.mem_of_getElem? (l := tables_1_6) (i := 48) rfl)))))))) rfl), ini_5, co_X5_holdsFor, by decide +kernel, by decide +kernel, by decide +kernel, by decide⟩, im_X5_holdsFor, se_X5_holdsFor⟩
set_option maxRecDepth 20000 in
theorem cv_0_51 : CV RX0 51 mX7_begin 1 := ⟨⟨Or.inl (tblG_in (List.mem_append_right _ (List.mem_append_right _ (List.mem_append_right _ (List.mem_append_right _ (List.mem_append_right _ (List.mem_append_left _ (List.mem_of_getElem? (l := tables_1_5) (i := 180) rfl))))))) rfl), ini_7, co_X7_begin, by decide +kernel, by decide +kernel, by decide +kernel, by decide⟩, im_X7_begin, se_X7_begin⟩
set_option maxRecDepth 20000 in
theorem cv_0_57 : CV RX0 57 mX7_next 0 := ⟨⟨Or.inl (tblG_in (List.mem_append_right _ (List.mem_append_right _ (List.mem_append_right _ (List.mem_append_right _ (List.mem_append_right _ (List.mem_append_left _ (List.mem_of_getElem? (l := tables_1_5) (i := 181) rfl))))))) rfl), ini_7, co_X7_next, by decide +kernel, by decide +kernel, by decide +kernel, by decide⟩, im_X7_next, se_X7_next⟩
set_option maxRecDepth 20000 in
theorem cv_0_63 : CV RX0 63 mX0_readLine 1 := ⟨⟨Or.inl (tblG_in (List.mem_append_right _ (List.mem_append_right _ (List.mem_append_right _ (List.mem_append_right _ (List.mem_append_right _ (List.mem_append_left _ (List.mem_of_getElem? (l := tables_1_5) (i := 182) rfl))))))) rfl), ini_0, co_X0_readLine, by decide +kernel, by decide +kernel, by decide +kernel, by decide⟩, im_X0_readLine, se_X0_readLine⟩
set_option maxRecDepth 20000 in
theorem cv_0_67 : CV RX0 67 mX7_wantKind 1 := ⟨⟨Or.inl (tblG_in (List.mem_append_right _ (List.mem_append_right _ (List.mem_append_right _ (List.mem_append_right _ (List.mem_append_right _ (List.mem_append_left _ (List.mem_of_getElem? (l := tables_1_5) (i := 201) rfl))))))) rfl), ini_7, co_X7_wantKind, by decide +kernel, by decide +kernel, by decide +kernel, by decide⟩, im_X7_wantKind, se_X7_wantKind⟩
set_option maxRecDepth 20000 in
theorem cv_0_71 : CV RX0 71 mX7_refuse 1 := ⟨⟨Or.inl (tblG_in (List.mem_append_right _ (List.mem_append_right _ (List.mem_append_right _ (List.mem_append_right _ (List.mem_append_right _ (List.mem_append_left _ (List.mem_of_getElem? (l := tables_1_5) (i := 186) rfl))))))) rfl), ini_7, co_X7_refuse, by decide +kernel, by decide +kernel, by decide +kernel, by decide⟩, im_X7_refuse, se_X7_refuse⟩
set_option maxRecDepth 20000 in
theorem cv_0_78 : CV RX0 78 mX1_personNamed 1 := ⟨⟨Or.inl (tblG_in (List.mem_append_right _ (List.mem_append_right _ (List.mem_append_right _ (List.mem_append_right _ (List.mem_append_right _ (List.mem_append_left _ (List.mem_of_getElem? (l := tables_1_5) (i := 187) rfl))))))) rfl), ini_1, co_X1_personNamed, by decide +kernel, by decide +kernel, by decide +kernel, by decide⟩, im_X1_personNamed, se_X1_personNamed⟩
set_option maxRecDepth 20000 in
theorem cv_0_84 : CV RX0 84 mX0_readHours 0 := ⟨⟨Or.inl (tblG_in (List.mem_append_right _ (List.mem_append_right _ (List.mem_append_right _ (List.mem_append_right _ (List.mem_append_right _ (List.mem_append_left _ (List.mem_of_getElem? (l := tables_1_5) (i := 188) rfl))))))) rfl), ini_0, co_X0_readHours, by decide +kernel, by decide +kernel, by decide +kernel, by decide⟩, im_X0_readHours, se_X0_readHours⟩
set_option maxRecDepth 20000 in
theorem cv_0_88 : CV RX0 88 mX0_readDeed 1 := ⟨⟨Or.inl (tblG_in (List.mem_append_right _ (List.mem_append_right _ (List.mem_append_right _ (List.mem_append_right _ (List.mem_append_right _ (List.mem_append_left _ (List.mem_of_getElem? (l := tables_1_5) (i := 193) rfl))))))) rfl), ini_0, co_X0_readDeed, by decide +kernel, by decide +kernel, by decide +kernel, by decide⟩, im_X0_readDeed, se_X0_readDeed⟩
set_option maxRecDepth 20000 in
theorem cv_0_91 : CV RX0 91 mX7_wantNumeral 2 := ⟨⟨Or.inl (tblG_in (List.mem_append_right _ (List.mem_append_right _ (List.mem_append_right _ (List.mem_append_right _ (List.mem_append_right _ (List.mem_append_left _ (List.mem_of_getElem? (l := tables_1_5) (i := 192) rfl))))))) rfl), ini_7, co_X7_wantNumeral, by decide +kernel, by decide +kernel, by decide +kernel, by decide⟩, im_X7_wantNumeral, se_X7_wantNumeral⟩
set_option maxRecDepth 20000 in
theorem cv_0_98 : CV RX0 98 mX0_readFigure 1 := ⟨⟨Or.inl (tblG_in (List.mem_append_right _ (List.mem_append_right _ (List.mem_append_right _ (List.mem_append_right _ (List.mem_append_right _ (List.mem_append_left _ (List.mem_of_getElem? (l := tables_1_5) (i := 197) rfl))))))) rfl), ini_0, co_X0_readFigure, by decide +kernel, by decide +kernel, by decide +kernel, by decide⟩, im_X0_readFigure, se_X0_readFigure⟩
set_option maxRecDepth 20000 in
theorem cv_0_101 : CV RX0 101 mX0_readSide 0 := ⟨⟨Or.inl (tblG_in (List.mem_append_right _ (List.mem_append_right _ (List.mem_append_right _ (List.mem_append_right _ (List.mem_append_right _ (List.mem_append_left _ (List.mem_of_getElem? (l := tables_1_5) (i := 203) rfl))))))) rfl), ini_0, co_X0_readSide, by decide +kernel, by decide +kernel, by decide +kernel, by decide⟩, im_X0_readSide, se_X0_readSide⟩
set_option maxRecDepth 20000 in
theorem cv_0_104 : CV RX0 104 mX1_figureNamed 1 := ⟨⟨Or.inl (tblG_in (List.mem_append_right _ (List.mem_append_right _ (List.mem_append_right _ (List.mem_append_right _ (List.mem_append_right _ (List.mem_append_left _ (List.mem_of_getElem? (l := tables_1_5) (i := 202) rfl))))))) rfl), ini_1, co_X1_figureNamed, by decide +kernel, by decide +kernel, by decide +kernel, by decide⟩, im_X1_figureNamed, se_X1_figureNamed⟩
set_option maxRecDepth 20000 in
theorem cv_0_107 : CV RX0 107 mX7_wantSide 0 := ⟨⟨Or.inl (tblG_in (List.mem_append_right _ (List.mem_append_right _ (List.mem_append_right _ (List.mem_append_right _ (List.mem_append_right _ (List.mem_append_left _ (List.mem_of_getElem? (l := tables_1_5) (i := 207) rfl))))))) rfl), ini_7, co_X7_wantSide, by decide +kernel, by decide +kernel, by decide +kernel, by decide⟩, im_X7_wantSide, se_X7_wantSide⟩
set_option maxRecDepth 20000 in
theorem cv_0_110 : CV RX0 110 mX0_live 2 := ⟨⟨Or.inl (tblG_in (List.mem_append_right _ (List.mem_append_right _ (List.mem_append_right _ (List.mem_append_right _ (List.mem_append_right _ (List.mem_append_left _ (List.mem_of_getElem? (l := tables_1_5) (i := 215) rfl))))))) rfl), ini_0, co_X0_live, by decide +kernel, by decide +kernel, by decide +kernel, by decide⟩, im_X0_live, se_X0_live⟩
set_option maxRecDepth 20000 in
theorem cv_0_123 : CV RX0 123 mX10_whoIsSettled 0 := ⟨⟨Or.inl (tblG_in (List.mem_append_right _ (List.mem_append_right _ (List.mem_append_right _ (List.mem_append_right _ (List.mem_append_right _ (List.mem_append_left _ (List.mem_of_getElem? (l := tables_1_5) (i := 230) rfl))))))) rfl), ini_10, co_X10_whoIsSettled, by decide +kernel, by decide +kernel, by decide +kernel, by decide⟩, im_X10_whoIsSettled, se_X10_whoIsSettled⟩
set_option maxRecDepth 20000 in
theorem cv_0_127 : CV RX0 127 mX10_sayIfCan 3 := ⟨⟨Or.inl (tblG_in (List.mem_append_right _ (List.mem_append_right _ (List.mem_append_right _ (List.mem_append_right _ (List.mem_append_right _ (List.mem_append_left _ (List.mem_of_getElem? (l := tables_1_5) (i := 219) rfl))))))) rfl), ini_10, co_X10_sayIfCan, by decide +kernel, by decide +kernel, by decide +kernel, by decide⟩, im_X10_sayIfCan, se_X10_sayIfCan⟩
set_option maxRecDepth 20000 in
theorem cv_0_131 : CV RX0 131 mX10_kickIfCan 2 := ⟨⟨Or.inl (tblG_in (List.mem_append_right _ (List.mem_append_right _ (List.mem_append_right _ (List.mem_append_right _ (List.mem_append_right _ (List.mem_append_left _ (List.mem_of_getElem? (l := tables_1_5) (i := 220) rfl))))))) rfl), ini_10, co_X10_kickIfCan, by decide +kernel, by decide +kernel, by decide +kernel, by decide⟩, im_X10_kickIfCan, se_X10_kickIfCan⟩
set_option maxRecDepth 20000 in
theorem cs_0_135 : CS RX0 135 mX0_behind 2 := ⟨⟨Or.inl (tblG_in (List.mem_append_right _ (List.mem_append_right _ (List.mem_append_right _ (List.mem_append_right _ (List.mem_append_right _ (List.mem_append_left _ (List.mem_of_getElem? (l := tables_1_5) (i := 221) rfl))))))) rfl), ini_0, co_X0_behind, by decide +kernel, by decide +kernel, by decide +kernel, by decide⟩, st_X0_behind⟩
set_option maxRecDepth 20000 in
theorem cv_0_138 : CV RX0 138 mX10_restIfCan 1 := ⟨⟨Or.inl (tblG_in (List.mem_append_right _ (List.mem_append_right _ (List.mem_append_right _ (List.mem_append_right _ (List.mem_append_right _ (List.mem_append_left _ (List.mem_of_getElem? (l := tables_1_5) (i := 224) rfl))))))) rfl), ini_10, co_X10_restIfCan, by decide +kernel, by decide +kernel, by decide +kernel, by decide⟩, im_X10_restIfCan, se_X10_restIfCan⟩
set_option maxRecDepth 20000 in
theorem cs_0_142 : CS RX0 142 mX0_passIfCan 2 := ⟨⟨Or.inl (tblG_in (List.mem_append_right _ (List.mem_append_right _ (List.mem_append_right _ (List.mem_append_right _ (List.mem_append_right _ (List.mem_append_left _ (List.mem_of_getElem? (l := tables_1_5) (i := 225) rfl))))))) rfl), ini_0, co_X0_passIfCan, by decide +kernel, by decide +kernel, by decide +kernel, by decide⟩, st_X0_passIfCan⟩
set_option maxRecDepth 20000 in
theorem cv_0_145 : CV RX0 145 mX10_hoursLeft 0 := ⟨⟨Or.inl (tblG_in (List.mem_append_right _ (List.mem_append_right _ (List.mem_append_right _ (List.mem_append_right _ (List.mem_append_right _ (List.mem_append_left _ (List.mem_of_getElem? (l := tables_1_5) (i := 228) rfl))))))) rfl), ini_10, co_X10_hoursLeft, by decide +kernel, by decide +kernel, by decide +kernel, by decide⟩, im_X10_hoursLeft, se_X10_hoursLeft⟩
set_option maxRecDepth 20000 in
theorem cv_0_148 : CV RX0 148 mX10_passHours 1 := ⟨⟨Or.inl (tblG_in (List.mem_append_right _ (List.mem_append_right _ (List.mem_append_right _ (List.mem_append_right _ (List.mem_append_right _ (List.mem_append_left _ (List.mem_of_getElem? (l := tables_1_5) (i := 229) rfl))))))) rfl), ini_10, co_X10_passHours, by decide +kernel, by decide +kernel, by decide +kernel, by decide⟩, im_X10_passHours, se_X10_passHours⟩
set_option maxRecDepth 20000 in
theorem cs_1_68 : CS RX1 68 mX11_cellOf 2 := ⟨⟨Or.inr ⟨"CartTurns", List.mem_of_getElem? (i := 19) (by decide +kernel)⟩, ini_11, co_X11_cellOf, by decide +kernel, by decide +kernel, by decide +kernel, by decide⟩, st_X11_cellOf⟩
set_option maxRecDepth 20000 in
theorem cs_1_71 : CS RX1 71 mX1_placeOf 3 := ⟨⟨Or.inl (tblG_in (List.mem_append_right _ (List.mem_append_right _ (List.mem_append_right _ (List.mem_append_right _ (List.mem_append_left _ (List.mem_of_getElem? (l := tables_1_4) (i := 11) rfl)))))) rfl), ini_1, co_X1_placeOf, by decide +kernel, by decide +kernel, by decide +kernel, by decide⟩, st_X1_placeOf⟩
set_option maxRecDepth 20000 in
theorem cv_1_75 : CV RX1 75 mX1_figureNamed 1 := ⟨⟨Or.inl (tblG_in (List.mem_append_right _ (List.mem_append_right _ (List.mem_append_right _ (List.mem_append_right _ (List.mem_append_left _ (List.mem_of_getElem? (l := tables_1_4) (i := 7) rfl)))))) rfl), ini_1, co_X1_figureNamed, by decide +kernel, by decide +kernel, by decide +kernel, by decide⟩, im_X1_figureNamed, se_X1_figureNamed⟩
set_option maxRecDepth 20000 in
theorem cv_1_79 : CV RX1 79 mX1_personNamed 1 := ⟨⟨Or.inl (tblG_in (List.mem_append_right _ (List.mem_append_right _ (List.mem_append_right _ (List.mem_append_right _ (List.mem_append_left _ (List.mem_of_getElem? (l := tables_1_4) (i := 14) rfl)))))) rfl), ini_1, co_X1_personNamed, by decide +kernel, by decide +kernel, by decide +kernel, by decide⟩, im_X1_personNamed, se_X1_personNamed⟩
set_option maxRecDepth 20000 in
theorem cv_1_82 : CV RX1 82 mX1_pointNamed 1 := ⟨⟨Or.inl (tblG_in (List.mem_append_right _ (List.mem_append_right _ (List.mem_append_right _ (List.mem_append_right _ (List.mem_append_left _ (List.mem_of_getElem? (l := tables_1_4) (i := 18) rfl)))))) rfl), ini_1, co_X1_pointNamed, by decide +kernel, by decide +kernel, by decide +kernel, by decide⟩, im_X1_pointNamed, se_X1_pointNamed⟩
set_option maxRecDepth 20000 in
theorem cv_2_34 : CV RX2 34 mX10_clear 0 := ⟨⟨Or.inl (tblG_in (List.mem_append_right _ (List.mem_append_right _ (List.mem_append_right _ (List.mem_append_left _ (List.mem_of_getElem? (l := tables_1_3) (i := 126) rfl))))) rfl), ini_10, co_X10_clear, by decide +kernel, by decide +kernel, by decide +kernel, by decide⟩, im_X10_clear, se_X10_clear⟩
set_option maxRecDepth 20000 in
theorem cv_2_37 : CV RX2 37 mX7_begin 1 := ⟨⟨Or.inl (tblG_in (List.mem_append_right _ (List.mem_append_right _ (List.mem_append_right _ (List.mem_append_left _ (List.mem_of_getElem? (l := tables_1_3) (i := 145) rfl))))) rfl), ini_7, co_X7_begin, by decide +kernel, by decide +kernel, by decide +kernel, by decide⟩, im_X7_begin, se_X7_begin⟩
set_option maxRecDepth 20000 in
theorem cv_2_43 : CV RX2 43 mX7_next 0 := ⟨⟨Or.inl (tblG_in (List.mem_append_right _ (List.mem_append_right _ (List.mem_append_right _ (List.mem_append_left _ (List.mem_of_getElem? (l := tables_1_3) (i := 184) rfl))))) rfl), ini_7, co_X7_next, by decide +kernel, by decide +kernel, by decide +kernel, by decide⟩, im_X7_next, se_X7_next⟩
set_option maxRecDepth 20000 in
theorem cv_2_50 : CV RX2 50 mX2_readLine 0 := ⟨⟨Or.inl (tblG_in (List.mem_append_right _ (List.mem_append_right _ (List.mem_append_right _ (List.mem_append_left _ (List.mem_of_getElem? (l := tables_1_3) (i := 188) rfl))))) rfl), ini_2, co_X2_readLine, by decide +kernel, by decide +kernel, by decide +kernel, by decide⟩, im_X2_readLine, se_X2_readLine⟩
set_option maxRecDepth 20000 in
theorem cv_2_54 : CV RX2 54 mX7_wantKind 1 := ⟨⟨Or.inl (tblG_in (List.mem_append_right _ (List.mem_append_right _ (List.mem_append_right _ (List.mem_append_right _ (List.mem_append_left _ (List.mem_of_getElem? (l := tables_1_4) (i := 2) rfl)))))) rfl), ini_7, co_X7_wantKind, by decide +kernel, by decide +kernel, by decide +kernel, by decide⟩, im_X7_wantKind, se_X7_wantKind⟩
set_option maxRecDepth 20000 in
theorem cv_2_65 : CV RX2 65 mX10_bringUpPoints 1 := ⟨⟨Or.inl (tblG_in (List.mem_append_right _ (List.mem_append_right _ (List.mem_append_right _ (List.mem_append_right _ (List.mem_append_left _ (List.mem_of_getElem? (l := tables_1_4) (i := 30) rfl)))))) rfl), ini_10, co_X10_bringUpPoints, by decide +kernel, by decide +kernel, by decide +kernel, by decide⟩, im_X10_bringUpPoints, se_X10_bringUpPoints⟩
set_option maxRecDepth 20000 in
theorem cv_2_68 : CV RX2 68 mX2_readSize 0 := ⟨⟨Or.inl (tblG_in (List.mem_append_right _ (List.mem_append_right _ (List.mem_append_right _ (List.mem_append_left _ (List.mem_of_getElem? (l := tables_1_3) (i := 192) rfl))))) rfl), ini_2, co_X2_readSize, by decide +kernel, by decide +kernel, by decide +kernel, by decide⟩, im_X2_readSize, se_X2_readSize⟩
set_option maxRecDepth 20000 in
theorem cv_2_71 : CV RX2 71 mX2_readWall 0 := ⟨⟨Or.inl (tblG_in (List.mem_append_right _ (List.mem_append_right _ (List.mem_append_right _ (List.mem_append_left _ (List.mem_of_getElem? (l := tables_1_3) (i := 210) rfl))))) rfl), ini_2, co_X2_readWall, by decide +kernel, by decide +kernel, by decide +kernel, by decide⟩, im_X2_readWall, se_X2_readWall⟩
set_option maxRecDepth 20000 in
theorem cv_2_74 : CV RX2 74 mX2_readFigure 0 := ⟨⟨Or.inl (tblG_in (List.mem_append_right _ (List.mem_append_right _ (List.mem_append_right _ (List.mem_append_left _ (List.mem_of_getElem? (l := tables_1_3) (i := 234) rfl))))) rfl), ini_2, co_X2_readFigure, by decide +kernel, by decide +kernel, by decide +kernel, by decide⟩, im_X2_readFigure, se_X2_readFigure⟩
set_option maxRecDepth 20000 in
theorem cv_2_77 : CV RX2 77 mX2_readPerson 0 := ⟨⟨Or.inl (tblG_in (List.mem_append_right _ (List.mem_append_right _ (List.mem_append_right _ (List.mem_append_right _ (List.mem_append_left _ (List.mem_of_getElem? (l := tables_1_4) (i := 22) rfl)))))) rfl), ini_2, co_X2_readPerson, by decide +kernel, by decide +kernel, by decide +kernel, by decide⟩, im_X2_readPerson, se_X2_readPerson⟩
set_option maxRecDepth 20000 in
theorem cv_2_80 : CV RX2 80 mX2_readPoint 0 := ⟨⟨Or.inl (tblG_in (List.mem_append_right _ (List.mem_append_right _ (List.mem_append_right _ (List.mem_append_right _ (List.mem_append_left _ (List.mem_of_getElem? (l := tables_1_4) (i := 26) rfl)))))) rfl), ini_2, co_X2_readPoint, by decide +kernel, by decide +kernel, by decide +kernel, by decide⟩, im_X2_readPoint, se_X2_readPoint⟩
set_option maxRecDepth 20000 in
theorem cv_2_83 : CV RX2 83 mX7_refuse 1 := ⟨⟨Or.inl (tblG_in (List.mem_append_right _ (List.mem_append_right _ (List.mem_append_right _ (List.mem_append_left _ (List.mem_of_getElem? (l := tables_1_3) (i := 196) rfl))))) rfl), ini_7, co_X7_refuse, by decide +kernel, by decide +kernel, by decide +kernel, by decide⟩, im_X7_refuse, se_X7_refuse⟩
set_option maxRecDepth 20000 in
theorem cv_2_86 : CV RX2 86 mX7_wantNumeral 2 := ⟨⟨Or.inl (tblG_in (List.mem_append_right _ (List.mem_append_right _ (List.mem_append_right _ (List.mem_append_left _ (List.mem_of_getElem? (l := tables_1_3) (i := 200) rfl))))) rfl), ini_7, co_X7_wantNumeral, by decide +kernel, by decide +kernel, by decide +kernel, by decide⟩, im_X7_wantNumeral, se_X7_wantNumeral⟩
set_option maxRecDepth 20000 in
theorem cv_2_99 : CV RX2 99 mX2_wantFreeY 1 := ⟨⟨Or.inl (tblG_in (List.mem_append_right _ (List.mem_append_right _ (List.mem_append_right _ (List.mem_append_left _ (List.mem_of_getElem? (l := tables_1_3) (i := 214) rfl))))) rfl), ini_2, co_X2_wantFreeY, by decide +kernel, by decide +kernel, by decide +kernel, by decide⟩, im_X2_wantFreeY, se_X2_wantFreeY⟩
set_option maxRecDepth 20000 in
theorem cs_2_112 : CS RX2 112 mX11_cellOf 2 := ⟨⟨Or.inr ⟨"CartTurns", List.mem_of_getElem? (i := 13) (by decide +kernel)⟩, ini_11, co_X11_cellOf, by decide +kernel, by decide +kernel, by decide +kernel, by decide⟩, st_X11_cellOf⟩
set_option maxRecDepth 20000 in
theorem cv_2_119 : CV RX2 119 mX2_wantNewName 0 := ⟨⟨Or.inl (tblG_in (List.mem_append_right _ (List.mem_append_right _ (List.mem_append_right _ (List.mem_append_left _ (List.mem_of_getElem? (l := tables_1_3) (i := 238) rfl))))) rfl), ini_2, co_X2_wantNewName, by decide +kernel, by decide +kernel, by decide +kernel, by decide⟩, im_X2_wantNewName, se_X2_wantNewName⟩
set_option maxRecDepth 20000 in
theorem cv_2_169 : CV RX2 169 mX1_isNamed 1 := ⟨⟨Or.inl (tblG_in (List.mem_append_right _ (List.mem_append_right _ (List.mem_append_right _ (List.mem_append_right _ (List.mem_append_left _ (List.mem_of_getElem? (l := tables_1_4) (i := 3) rfl)))))) rfl), ini_1, co_X1_isNamed, by decide +kernel, by decide +kernel, by decide +kernel, by decide⟩, im_X1_isNamed, se_X1_isNamed⟩
set_option maxRecDepth 20000 in
theorem cv_2_173 : CV RX2 173 mX10_wallAt 2 := ⟨⟨Or.inl (tblG_in (List.mem_append_right _ (List.mem_append_right _ (List.mem_append_right _ (List.mem_append_left _ (List.mem_of_getElem? (l := tables_1_3) (i := 218) rfl))))) rfl), ini_10, co_X10_wallAt, by decide +kernel, by decide +kernel, by decide +kernel, by decide⟩, im_X10_wallAt, se_X10_wallAt⟩
set_option maxRecDepth 20000 in
theorem cv_2_176 : CV RX2 176 mX10_whoIsAt 2 := ⟨⟨Or.inl (tblG_in (List.mem_append_right _ (List.mem_append_right _ (List.mem_append_right _ (List.mem_append_left _ (List.mem_of_getElem? (l := tables_1_3) (i := 229) rfl))))) rfl), ini_10, co_X10_whoIsAt, by decide +kernel, by decide +kernel, by decide +kernel, by decide⟩, im_X10_whoIsAt, se_X10_whoIsAt⟩
set_option maxRecDepth 20000 in
theorem cv_3_25 : CV RX3 25 mX6_copyFrom 1 := ⟨⟨Or.inl (tblG_in (List.mem_append_right _ (List.mem_append_right _ (List.mem_append_right _ (List.mem_append_right _ (List.mem_append_left _ (List.mem_of_getElem? (l := tables_1_4) (i := 166) rfl)))))) rfl), ini_6, co_X6_copyFrom, by decide +kernel, by decide +kernel, by decide +kernel, by decide⟩, im_X6_copyFrom, se_X6_copyFrom⟩
set_option maxRecDepth 20000 in
theorem cv_4_41 : CV RX4 41 mX4_shutCells 3 := ⟨⟨Or.inl (tblG_in (List.mem_append_right _ (List.mem_append_right _ (List.mem_append_right _ (List.mem_append_right _ (List.mem_append_left _ (List.mem_of_getElem? (l := tables_1_4) (i := 232) rfl)))))) rfl), ini_4, co_X4_shutCells, by decide +kernel, by decide +kernel, by decide +kernel, by decide⟩, im_X4_shutCells, se_X4_shutCells⟩
set_option maxRecDepth 20000 in
theorem cv_4_51 : CV RX4 51 mX4_measureRuns 1 := ⟨⟨Or.inl (tblG_in (List.mem_append_right _ (List.mem_append_right _ (List.mem_append_right _ (List.mem_append_right _ (List.mem_append_left _ (List.mem_of_getElem? (l := tables_1_4) (i := 237) rfl)))))) rfl), ini_4, co_X4_measureRuns, by decide +kernel, by decide +kernel, by decide +kernel, by decide⟩, im_X4_measureRuns, se_X4_measureRuns⟩
set_option maxRecDepth 20000 in
theorem cs_4_73 : CS RX4 73 mX11_cellOf 2 := ⟨⟨Or.inr ⟨"CartTurns", List.mem_of_getElem? (i := 16) (by decide +kernel)⟩, ini_11, co_X11_cellOf, by decide +kernel, by decide +kernel, by decide +kernel, by decide⟩, st_X11_cellOf⟩
set_option maxRecDepth 20000 in
theorem cv_4_80 : CV RX4 80 mX4_goOn 2 := ⟨⟨Or.inl (tblG_in (List.mem_append_right _ (List.mem_append_right _ (List.mem_append_right _ (List.mem_append_right _ (List.mem_append_right _ (List.mem_append_left _ (List.mem_of_getElem? (l := tables_1_5) (i := 9) rfl))))))) rfl), ini_4, co_X4_goOn, by decide +kernel, by decide +kernel, by decide +kernel, by decide⟩, im_X4_goOn, se_X4_goOn⟩
set_option maxRecDepth 20000 in
theorem cv_4_98 : CV RX4 98 mX4_runFrom 4 := ⟨⟨Or.inl (tblG_in (List.mem_append_right _ (List.mem_append_right _ (List.mem_append_right _ (List.mem_append_right _ (List.mem_append_right _ (List.mem_append_left _ (List.mem_of_getElem? (l := tables_1_5) (i := 1) rfl))))))) rfl), ini_4, co_X4_runFrom, by decide +kernel, by decide +kernel, by decide +kernel, by decide⟩, im_X4_runFrom, se_X4_runFrom⟩
set_option maxRecDepth 20000 in
theorem cv_4_108 : CV RX4 108 mX1_isInside 2 := ⟨⟨Or.inl (tblG_in (List.mem_append_right _ (List.mem_append_right _ (List.mem_append_right _ (List.mem_append_right _ (List.mem_append_right _ (List.mem_append_left _ (List.mem_of_getElem? (l := tables_1_5) (i := 7) rfl))))))) rfl), ini_1, co_X1_isInside, by decide +kernel, by decide +kernel, by decide +kernel, by decide⟩, im_X1_isInside, se_X1_isInside⟩
set_option maxRecDepth 20000 in
theorem cv_4_121 : CV RX4 121 mX4_reach 3 := ⟨⟨Or.inl (tblG_in (List.mem_append_right _ (List.mem_append_right _ (List.mem_append_right _ (List.mem_append_right _ (List.mem_append_right _ (List.mem_append_left _ (List.mem_of_getElem? (l := tables_1_5) (i := 13) rfl))))))) rfl), ini_4, co_X4_reach, by decide +kernel, by decide +kernel, by decide +kernel, by decide⟩, im_X4_reach, se_X4_reach⟩
set_option maxRecDepth 20000 in
theorem cv_5_38 : CV RX5 38 mX5_clear 0 := ⟨⟨Or.inl (tblG_in (List.mem_append_right _ (List.mem_append_right _ (List.mem_append_right _ (List.mem_append_right _ (List.mem_append_right _ (List.mem_append_right _ (List.mem_append_left _ (List.mem_of_getElem? (l := tables_1_6) (i := 3) rfl)))))))) rfl), ini_5, co_X5_clear, by decide +kernel, by decide +kernel, by decide +kernel, by decide⟩, im_X5_clear, se_X5_clear⟩
set_option maxRecDepth 20000 in
theorem cv_5_41 : CV RX5 41 mX7_begin 1 := ⟨⟨Or.inl (tblG_in (List.mem_append_right _ (List.mem_append_right _ (List.mem_append_right _ (List.mem_append_right _ (List.mem_append_right _ (List.mem_append_right _ (List.mem_append_left _ (List.mem_of_getElem? (l := tables_1_6) (i := 4) rfl)))))))) rfl), ini_7, co_X7_begin, by decide +kernel, by decide +kernel, by decide +kernel, by decide⟩, im_X7_begin, se_X7_begin⟩
set_option maxRecDepth 20000 in
theorem cv_5_47 : CV RX5 47 mX7_next 0 := ⟨⟨Or.inl (tblG_in (List.mem_append_right _ (List.mem_append_right _ (List.mem_append_right _ (List.mem_append_right _ (List.mem_append_right _ (List.mem_append_right _ (List.mem_append_left _ (List.mem_of_getElem? (l := tables_1_6) (i := 5) rfl)))))))) rfl), ini_7, co_X7_next, by decide +kernel, by decide +kernel, by decide +kernel, by decide⟩, im_X7_next, se_X7_next⟩
set_option maxRecDepth 20000 in
theorem cv_5_50 : CV RX5 50 mX5_readCond 3 := ⟨⟨Or.inl (tblG_in (List.mem_append_right _ (List.mem_append_right _ (List.mem_append_right _ (List.mem_append_right _ (List.mem_append_right _ (List.mem_append_right _ (List.mem_append_left _ (List.mem_of_getElem? (l := tables_1_6) (i := 6) rfl)))))))) rfl), ini_5, co_X5_readCond, by decide +kernel, by decide +kernel, by decide +kernel, by decide⟩, im_X5_readCond, se_X5_readCond⟩
set_option maxRecDepth 20000 in
theorem cv_5_57 : CV RX5 57 mX7_refuse 1 := ⟨⟨Or.inl (tblG_in (List.mem_append_right _ (List.mem_append_right _ (List.mem_append_right _ (List.mem_append_right _ (List.mem_append_right _ (List.mem_append_right _ (List.mem_append_left _ (List.mem_of_getElem? (l := tables_1_6) (i := 19) rfl)))))))) rfl), ini_7, co_X7_refuse, by decide +kernel, by decide +kernel, by decide +kernel, by decide⟩, im_X7_refuse, se_X7_refuse⟩
set_option maxRecDepth 20000 in
theorem cv_5_61 : CV RX5 61 mX5_readAll 3 := ⟨⟨Or.inl (tblG_in (List.mem_append_right _ (List.mem_append_right _ (List.mem_append_right _ (List.mem_append_right _ (List.mem_append_right _ (List.mem_append_right _ (List.mem_append_left _ (List.mem_of_getElem? (l := tables_1_6) (i := 10) rfl)))))))) rfl), ini_5, co_X5_readAll, by decide +kernel, by decide +kernel, by decide +kernel, by decide⟩, im_X5_readAll, se_X5_readAll⟩
set_option maxRecDepth 20000 in
theorem cv_5_64 : CV RX5 64 mX5_add 3 := ⟨⟨Or.inl (tblG_in (List.mem_append_right _ (List.mem_append_right _ (List.mem_append_right _ (List.mem_append_right _ (List.mem_append_right _ (List.mem_append_right _ (List.mem_append_left _ (List.mem_of_getElem? (l := tables_1_6) (i := 24) rfl)))))))) rfl), ini_5, co_X5_add, by decide +kernel, by decide +kernel, by decide +kernel, by decide⟩, im_X5_add, se_X5_add⟩
set_option maxRecDepth 20000 in
theorem cv_5_68 : CV RX5 68 mX5_readOne 3 := ⟨⟨Or.inl (tblG_in (List.mem_append_right _ (List.mem_append_right _ (List.mem_append_right _ (List.mem_append_right _ (List.mem_append_right _ (List.mem_append_right _ (List.mem_append_left _ (List.mem_of_getElem? (l := tables_1_6) (i := 14) rfl)))))))) rfl), ini_5, co_X5_readOne, by decide +kernel, by decide +kernel, by decide +kernel, by decide⟩, im_X5_readOne, se_X5_readOne⟩
set_option maxRecDepth 20000 in
theorem cs_5_71 : CS RX5 71 mX11_isIn 3 := ⟨⟨Or.inr ⟨"CartTurns", List.mem_of_getElem? (i := 25) (by decide +kernel)⟩, ini_11, co_X11_isIn, by decide +kernel, by decide +kernel, by decide +kernel, by decide⟩, st_X11_isIn⟩
set_option maxRecDepth 20000 in
theorem cv_5_75 : CV RX5 75 mX5_readNot 3 := ⟨⟨Or.inl (tblG_in (List.mem_append_right _ (List.mem_append_right _ (List.mem_append_right _ (List.mem_append_right _ (List.mem_append_right _ (List.mem_append_right _ (List.mem_append_left _ (List.mem_of_getElem? (l := tables_1_6) (i := 20) rfl)))))))) rfl), ini_5, co_X5_readNot, by decide +kernel, by decide +kernel, by decide +kernel, by decide⟩, im_X5_readNot, se_X5_readNot⟩
set_option maxRecDepth 20000 in
theorem cv_5_78 : CV RX5 78 mX5_readBracket 3 := ⟨⟨Or.inl (tblG_in (List.mem_append_right _ (List.mem_append_right _ (List.mem_append_right _ (List.mem_append_right _ (List.mem_append_right _ (List.mem_append_right _ (List.mem_append_left _ (List.mem_of_getElem? (l := tables_1_6) (i := 28) rfl)))))))) rfl), ini_5, co_X5_readBracket, by decide +kernel, by decide +kernel, by decide +kernel, by decide⟩, im_X5_readBracket, se_X5_readBracket⟩
set_option maxRecDepth 20000 in
theorem cv_5_81 : CV RX5 81 mX5_readNamed 3 := ⟨⟨Or.inl (tblG_in (List.mem_append_right _ (List.mem_append_right _ (List.mem_append_right _ (List.mem_append_right _ (List.mem_append_right _ (List.mem_append_right _ (List.mem_append_left _ (List.mem_of_getElem? (l := tables_1_6) (i := 32) rfl)))))))) rfl), ini_5, co_X5_readNamed, by decide +kernel, by decide +kernel, by decide +kernel, by decide⟩, im_X5_readNamed, se_X5_readNamed⟩
set_option maxRecDepth 20000 in
theorem cv_5_84 : CV RX5 84 mX5_readCompared 2 := ⟨⟨Or.inl (tblG_in (List.mem_append_right _ (List.mem_append_right _ (List.mem_append_right _ (List.mem_append_right _ (List.mem_append_right _ (List.mem_append_right _ (List.mem_append_left _ (List.mem_of_getElem? (l := tables_1_6) (i := 39) rfl)))))))) rfl), ini_5, co_X5_readCompared, by decide +kernel, by decide +kernel, by decide +kernel, by decide⟩, im_X5_readCompared, se_X5_readCompared⟩
set_option maxRecDepth 20000 in
theorem cv_5_88 : CV RX5 88 mX7_wantKind 1 := ⟨⟨Or.inl (tblG_in (List.mem_append_right _ (List.mem_append_right _ (List.mem_append_right _ (List.mem_append_right _ (List.mem_append_right _ (List.mem_append_right _ (List.mem_append_left _ (List.mem_of_getElem? (l := tables_1_6) (i := 36) rfl)))))))) rfl), ini_7, co_X7_wantKind, by decide +kernel, by decide +kernel, by decide +kernel, by decide⟩, im_X7_wantKind, se_X7_wantKind⟩
set_option maxRecDepth 20000 in
theorem cv_5_95 : CV RX5 95 mX1_pointNamed 1 := ⟨⟨Or.inl (tblG_in (List.mem_append_right _ (List.mem_append_right _ (List.mem_append_right _ (List.mem_append_right _ (List.mem_append_right _ (List.mem_append_right _ (List.mem_append_left _ (List.mem_of_getElem? (l := tables_1_6) (i := 37) rfl)))))))) rfl), ini_1, co_X1_pointNamed, by decide +kernel, by decide +kernel, by decide +kernel, by decide⟩, im_X1_pointNamed, se_X1_pointNamed⟩
set_option maxRecDepth 20000 in
theorem cv_5_101 : CV RX5 101 mX1_personNamed 1 := ⟨⟨Or.inl (tblG_in (List.mem_append_right _ (List.mem_append_right _ (List.mem_append_right _ (List.mem_append_right _ (List.mem_append_right _ (List.mem_append_right _ (List.mem_append_left _ (List.mem_of_getElem? (l := tables_1_6) (i := 38) rfl)))))))) rfl), ini_1, co_X1_personNamed, by decide +kernel, by decide +kernel, by decide +kernel, by decide⟩, im_X1_personNamed, se_X1_personNamed⟩
set_option maxRecDepth 20000 in
theorem cs_5_107 : CS RX5 107 mX5_join 3 := ⟨⟨Or.inl (tblG_in (List.mem_append_right _ (List.mem_append_right _ (List.mem_append_right _ (List.mem_append_right _ (List.mem_append_right _ (List.mem_append_right _ (List.mem_append_left _ (List.mem_of_getElem? (l := tables_1_6) (i := 52) rfl)))))))) rfl), ini_5, co_X5_join, by decide +kernel, by decide +kernel, by decide +kernel, by decide⟩, st_X5_join⟩
set_option maxRecDepth 20000 in
theorem cv_5_111 : CV RX5 111 mX5_plainHolds 3 := ⟨⟨Or.inl (tblG_in (List.mem_append_right _ (List.mem_append_right _ (List.mem_append_right _ (List.mem_append_right _ (List.mem_append_right _ (List.mem_append_right _ (List.mem_append_left _ (List.mem_of_getElem? (l := tables_1_6) (i := 55) rfl)))))))) rfl), ini_5, co_X5_plainHolds, by decide +kernel, by decide +kernel, by decide +kernel, by decide⟩, im_X5_plainHolds, se_X5_plainHolds⟩
set_option maxRecDepth 20000 in
theorem cv_5_129 : CV RX5 129 mX10_isSettled 1 := ⟨⟨Or.inl (tblG_in (List.mem_append_right _ (List.mem_append_right _ (List.mem_append_right _ (List.mem_append_right _ (List.mem_append_right _ (List.mem_append_right _ (List.mem_append_left _ (List.mem_of_getElem? (l := tables_1_6) (i := 59) rfl)))))))) rfl), ini_10, co_X10_isSettled, by decide +kernel, by decide +kernel, by decide +kernel, by decide⟩, im_X10_isSettled, se_X10_isSettled⟩
set_option maxRecDepth 20000 in
theorem cv_5_135 : CV RX5 135 mX10_isBeside 2 := ⟨⟨Or.inl (tblG_in (List.mem_append_right _ (List.mem_append_right _ (List.mem_append_right _ (List.mem_append_right _ (List.mem_append_right _ (List.mem_append_right _ (List.mem_append_left _ (List.mem_of_getElem? (l := tables_1_6) (i := 60) rfl)))))))) rfl), ini_10, co_X10_isBeside, by decide +kernel, by decide +kernel, by decide +kernel, by decide⟩, im_X10_isBeside, se_X10_isBeside⟩
set_option maxRecDepth 20000 in
theorem cv_5_139 : CV RX5 139 mX5_compares 2 := ⟨⟨Or.inl (tblG_in (List.mem_append_right _ (List.mem_append_right _ (List.mem_append_right _ (List.mem_append_right _ (List.mem_append_right _ (List.mem_append_right _ (List.mem_append_left _ (List.mem_of_getElem? (l := tables_1_6) (i := 65) rfl)))))))) rfl), ini_5, co_X5_compares, by decide +kernel, by decide +kernel, by decide +kernel, by decide⟩, im_X5_compares, se_X5_compares⟩
set_option maxRecDepth 20000 in
theorem cs_7_35 : CS RX7 35 mX7_packKeywords 0 := ⟨⟨Or.inl (tblG_in (List.mem_append_right _ (List.mem_append_left _ (List.mem_of_getElem? (l := tables_1_1) (i := 39) rfl))) rfl), ini_7, co_X7_packKeywords, by decide +kernel, by decide +kernel, by decide +kernel, by decide⟩, st_X7_packKeywords⟩
set_option maxRecDepth 20000 in
theorem cv_7_62 : CV RX7 62 mX7_skipBlanks 0 := ⟨⟨Or.inl (tblG_in (List.mem_append_right _ (List.mem_append_right _ (List.mem_append_right _ (List.mem_append_left _ (List.mem_of_getElem? (l := tables_1_3) (i := 149) rfl))))) rfl), ini_7, co_X7_skipBlanks, by decide +kernel, by decide +kernel, by decide +kernel, by decide⟩, im_X7_skipBlanks, se_X7_skipBlanks⟩
set_option maxRecDepth 20000 in
theorem cv_7_71 : CV RX7 71 mX7_scanToken 1 := ⟨⟨Or.inl (tblG_in (List.mem_append_right _ (List.mem_append_right _ (List.mem_append_right _ (List.mem_append_left _ (List.mem_of_getElem? (l := tables_1_3) (i := 160) rfl))))) rfl), ini_7, co_X7_scanToken, by decide +kernel, by decide +kernel, by decide +kernel, by decide⟩, im_X7_scanToken, se_X7_scanToken⟩
set_option maxRecDepth 20000 in
theorem cv_7_75 : CV RX7 75 mX7_next 0 := ⟨⟨Or.inl (tblG_in (List.mem_append_right _ (List.mem_append_right _ (List.mem_append_right _ (List.mem_append_left _ (List.mem_of_getElem? (l := tables_1_3) (i := 208) rfl))))) rfl), ini_7, co_X7_next, by decide +kernel, by decide +kernel, by decide +kernel, by decide⟩, im_X7_next, se_X7_next⟩
set_option maxRecDepth 20000 in
theorem cv_7_78 : CV RX7 78 mX7_refuse 1 := ⟨⟨Or.inl (tblG_in (List.mem_append_right _ (List.mem_append_right _ (List.mem_append_right _ (List.mem_append_left _ (List.mem_of_getElem? (l := tables_1_3) (i := 209) rfl))))) rfl), ini_7, co_X7_refuse, by decide +kernel, by decide +kernel, by decide +kernel, by decide⟩, im_X7_refuse, se_X7_refuse⟩
set_option maxRecDepth 20000 in
theorem cv_7_82 : CV RX7 82 mX7_wantKind 1 := ⟨⟨Or.inl (tblG_in (List.mem_append_right _ (List.mem_append_right _ (List.mem_append_right _ (List.mem_append_left _ (List.mem_of_getElem? (l := tables_1_3) (i := 204) rfl))))) rfl), ini_7, co_X7_wantKind, by decide +kernel, by decide +kernel, by decide +kernel, by decide⟩, im_X7_wantKind, se_X7_wantKind⟩
set_option maxRecDepth 20000 in
theorem cs_7_85 : CS RX7 85 mX11_isIn 3 := ⟨⟨Or.inr ⟨"CartTurns", List.mem_of_getElem? (i := 11) (by decide +kernel)⟩, ini_11, co_X11_isIn, by decide +kernel, by decide +kernel, by decide +kernel, by decide⟩, st_X11_isIn⟩
set_option maxRecDepth 20000 in
theorem cv_7_89 : CV RX7 89 mX7_byteOf 1 := ⟨⟨Or.inl (tblG_in (List.mem_append_right _ (List.mem_append_right _ (List.mem_append_right _ (List.mem_append_left _ (List.mem_of_getElem? (l := tables_1_3) (i := 153) rfl))))) rfl), ini_7, co_X7_byteOf, by decide +kernel, by decide +kernel, by decide +kernel, by decide⟩, im_X7_byteOf, se_X7_byteOf⟩
set_option maxRecDepth 20000 in
theorem cs_7_92 : CS RX7 92 mX7_isLetter 1 := ⟨⟨Or.inl (tblG_in (List.mem_append_right _ (List.mem_append_right _ (List.mem_append_right _ (List.mem_append_left _ (List.mem_of_getElem? (l := tables_1_3) (i := 164) rfl))))) rfl), ini_7, co_X7_isLetter, by decide +kernel, by decide +kernel, by decide +kernel, by decide⟩, st_X7_isLetter⟩
set_option maxRecDepth 20000 in
theorem cs_7_95 : CS RX7 95 mX7_isDigit 1 := ⟨⟨Or.inl (tblG_in (List.mem_append_right _ (List.mem_append_right _ (List.mem_append_right _ (List.mem_append_left _ (List.mem_of_getElem? (l := tables_1_3) (i := 167) rfl))))) rfl), ini_7, co_X7_isDigit, by decide +kernel, by decide +kernel, by decide +kernel, by decide⟩, st_X7_isDigit⟩
set_option maxRecDepth 20000 in
theorem cv_7_98 : CV RX7 98 mX7_scanRun 0 := ⟨⟨Or.inl (tblG_in (List.mem_append_right _ (List.mem_append_right _ (List.mem_append_right _ (List.mem_append_left _ (List.mem_of_getElem? (l := tables_1_3) (i := 170) rfl))))) rfl), ini_7, co_X7_scanRun, by decide +kernel, by decide +kernel, by decide +kernel, by decide⟩, im_X7_scanRun, se_X7_scanRun⟩
set_option maxRecDepth 20000 in
theorem cs_7_102 : CS RX7 102 mX7_isSign 1 := ⟨⟨Or.inl (tblG_in (List.mem_append_right _ (List.mem_append_right _ (List.mem_append_right _ (List.mem_append_left _ (List.mem_of_getElem? (l := tables_1_3) (i := 178) rfl))))) rfl), ini_7, co_X7_isSign, by decide +kernel, by decide +kernel, by decide +kernel, by decide⟩, st_X7_isSign⟩
set_option maxRecDepth 20000 in
theorem cs_7_105 : CS RX7 105 mX11_packLetter 2 := ⟨⟨Or.inr ⟨"CartTurns", List.mem_of_getElem? (i := 1) (by decide +kernel)⟩, ini_11, co_X11_packLetter, by decide +kernel, by decide +kernel, by decide +kernel, by decide⟩, st_X11_packLetter⟩
set_option maxRecDepth 20000 in
theorem cv_7_109 : CV RX7 109 mX7_kindOfWord 1 := ⟨⟨Or.inl (tblG_in (List.mem_append_right _ (List.mem_append_right _ (List.mem_append_right _ (List.mem_append_left _ (List.mem_of_getElem? (l := tables_1_3) (i := 174) rfl))))) rfl), ini_7, co_X7_kindOfWord, by decide +kernel, by decide +kernel, by decide +kernel, by decide⟩, im_X7_kindOfWord, se_X7_kindOfWord⟩
set_option maxRecDepth 20000 in
theorem cs_8_33 : CS RX8 33 mX11_isIn 3 := ⟨⟨Or.inr ⟨"CartTurns", List.mem_of_getElem? (i := 22) (by decide +kernel)⟩, ini_11, co_X11_isIn, by decide +kernel, by decide +kernel, by decide +kernel, by decide⟩, st_X11_isIn⟩
set_option maxRecDepth 20000 in
theorem cv_8_37 : CV RX8 37 mX7_byteOf 1 := ⟨⟨Or.inl (tblG_in (List.mem_append_right _ (List.mem_append_right _ (List.mem_append_right _ (List.mem_append_right _ (List.mem_append_right _ (List.mem_append_left _ (List.mem_of_getElem? (l := tables_1_5) (i := 73) rfl))))))) rfl), ini_7, co_X7_byteOf, by decide +kernel, by decide +kernel, by decide +kernel, by decide⟩, im_X7_byteOf, se_X7_byteOf⟩
set_option maxRecDepth 20000 in
theorem cv_8_41 : CV RX8 41 mX1_isInside 2 := ⟨⟨Or.inl (tblG_in (List.mem_append_right _ (List.mem_append_right _ (List.mem_append_right _ (List.mem_append_right _ (List.mem_append_right _ (List.mem_append_left _ (List.mem_of_getElem? (l := tables_1_5) (i := 74) rfl))))))) rfl), ini_1, co_X1_isInside, by decide +kernel, by decide +kernel, by decide +kernel, by decide⟩, im_X1_isInside, se_X1_isInside⟩
set_option maxRecDepth 20000 in
theorem cv_8_47 : CV RX8 47 mX8_tryStep 4 := ⟨⟨Or.inl (tblG_in (List.mem_append_right _ (List.mem_append_right _ (List.mem_append_right _ (List.mem_append_right _ (List.mem_append_right _ (List.mem_append_left _ (List.mem_of_getElem? (l := tables_1_5) (i := 75) rfl))))))) rfl), ini_8, co_X8_tryStep, by decide +kernel, by decide +kernel, by decide +kernel, by decide⟩, im_X8_tryStep, se_X8_tryStep⟩
set_option maxRecDepth 20000 in
theorem cv_8_51 : CV RX8 51 mX8_keep 1 := ⟨⟨Or.inl (tblG_in (List.mem_append_right _ (List.mem_append_right _ (List.mem_append_right _ (List.mem_append_right _ (List.mem_append_right _ (List.mem_append_left _ (List.mem_of_getElem? (l := tables_1_5) (i := 81) rfl))))))) rfl), ini_8, co_X8_keep, by decide +kernel, by decide +kernel, by decide +kernel, by decide⟩, im_X8_keep, se_X8_keep⟩
set_option maxRecDepth 20000 in
theorem cs_9_30 : CS RX9 30 mX9_comesBack 7 := ⟨⟨Or.inl (tblG_in (List.mem_append_right _ (List.mem_append_right _ (List.mem_append_right _ (List.mem_append_right _ (List.mem_append_right _ (List.mem_append_left _ (List.mem_of_getElem? (l := tables_1_5) (i := 51) rfl))))))) rfl), ini_9, co_X9_comesBack, by decide +kernel, by decide +kernel, by decide +kernel, by decide⟩, st_X9_comesBack⟩
set_option maxRecDepth 20000 in
theorem cv_10_33 : CV RX10 33 mX1_clear 0 := ⟨⟨Or.inl (tblG_in (List.mem_append_right _ (List.mem_append_right _ (List.mem_append_right _ (List.mem_append_left _ (List.mem_of_getElem? (l := tables_1_3) (i := 130) rfl))))) rfl), ini_1, co_X1_clear, by decide +kernel, by decide +kernel, by decide +kernel, by decide⟩, im_X1_clear, se_X1_clear⟩
set_option maxRecDepth 20000 in
theorem cv_10_38 : CV RX10 38 mX6_clear 0 := ⟨⟨Or.inl (tblG_in (List.mem_append_right _ (List.mem_append_right _ (List.mem_append_right _ (List.mem_append_left _ (List.mem_of_getElem? (l := tables_1_3) (i := 134) rfl))))) rfl), ini_6, co_X6_clear, by decide +kernel, by decide +kernel, by decide +kernel, by decide⟩, im_X6_clear, se_X6_clear⟩
set_option maxRecDepth 20000 in
theorem cv_10_39 : CV RX10 39 mX5_clear 0 := ⟨⟨Or.inl (tblG_in (List.mem_append_right _ (List.mem_append_right _ (List.mem_append_right _ (List.mem_append_left _ (List.mem_of_getElem? (l := tables_1_3) (i := 141) rfl))))) rfl), ini_5, co_X5_clear, by decide +kernel, by decide +kernel, by decide +kernel, by decide⟩, im_X5_clear, se_X5_clear⟩
set_option maxRecDepth 20000 in
theorem cv_10_40 : CV RX10 40 mX1_copyFrom 1 := ⟨⟨Or.inl (tblG_in (List.mem_append_right _ (List.mem_append_right _ (List.mem_append_right _ (List.mem_append_right _ (List.mem_append_left _ (List.mem_of_getElem? (l := tables_1_4) (i := 38) rfl)))))) rfl), ini_1, co_X1_copyFrom, by decide +kernel, by decide +kernel, by decide +kernel, by decide⟩, im_X1_copyFrom, se_X1_copyFrom⟩
set_option maxRecDepth 20000 in
theorem cv_10_44 : CV RX10 44 mX6_copyFrom 1 := ⟨⟨Or.inl (tblG_in (List.mem_append_right _ (List.mem_append_right _ (List.mem_append_right _ (List.mem_append_right _ (List.mem_append_left _ (List.mem_of_getElem? (l := tables_1_4) (i := 45) rfl)))))) rfl), ini_6, co_X6_copyFrom, by decide +kernel, by decide +kernel, by decide +kernel, by decide⟩, im_X6_copyFrom, se_X6_copyFrom⟩
set_option maxRecDepth 20000 in
theorem cv_10_47 : CV RX10 47 mX5_copyFrom 1 := ⟨⟨Or.inl (tblG_in (List.mem_append_right _ (List.mem_append_right _ (List.mem_append_right _ (List.mem_append_right _ (List.mem_append_left _ (List.mem_of_getElem? (l := tables_1_4) (i := 50) rfl)))))) rfl), ini_5, co_X5_copyFrom, by decide +kernel, by decide +kernel, by decide +kernel, by decide⟩, im_X5_copyFrom, se_X5_copyFrom⟩
set_option maxRecDepth 20000 in
theorem cv_10_66 : CV RX10 66 mX1_isInside 2 := ⟨⟨Or.inl (tblG_in (List.mem_append_right _ (List.mem_append_right _ (List.mem_append_right _ (List.mem_append_left _ (List.mem_of_getElem? (l := tables_1_3) (i := 222) rfl))))) rfl), ini_1, co_X1_isInside, by decide +kernel, by decide +kernel, by decide +kernel, by decide⟩, im_X1_isInside, se_X1_isInside⟩
set_option maxRecDepth 20000 in
theorem cs_10_73 : CS RX10 73 mX11_cellOf 2 := ⟨⟨Or.inr ⟨"CartTurns", List.mem_of_getElem? (i := 12) (by decide +kernel)⟩, ini_11, co_X11_cellOf, by decide +kernel, by decide +kernel, by decide +kernel, by decide⟩, st_X11_cellOf⟩
set_option maxRecDepth 20000 in
theorem cv_10_80 : CV RX10 80 mX1_cost 1 := ⟨⟨Or.inl (tblG_in (List.mem_append_right _ (List.mem_append_right _ (List.mem_append_right _ (List.mem_append_right _ (List.mem_append_left _ (List.mem_of_getElem? (l := tables_1_4) (i := 152) rfl)))))) rfl), ini_1, co_X1_cost, by decide +kernel, by decide +kernel, by decide +kernel, by decide⟩, im_X1_cost, se_X1_cost⟩
set_option maxRecDepth 20000 in
theorem cv_10_93 : CV RX10 93 mX10_whatBars 2 := ⟨⟨Or.inl (tblG_in (List.mem_append_right _ (List.mem_append_right _ (List.mem_append_right _ (List.mem_append_right _ (List.mem_append_left _ (List.mem_of_getElem? (l := tables_1_4) (i := 157) rfl)))))) rfl), ini_10, co_X10_whatBars, by decide +kernel, by decide +kernel, by decide +kernel, by decide⟩, im_X10_whatBars, se_X10_whatBars⟩
set_option maxRecDepth 20000 in
theorem cv_10_96 : CV RX10 96 mX10_whoIsAt 2 := ⟨⟨Or.inl (tblG_in (List.mem_append_right _ (List.mem_append_right _ (List.mem_append_right _ (List.mem_append_right _ (List.mem_append_left _ (List.mem_of_getElem? (l := tables_1_4) (i := 161) rfl)))))) rfl), ini_10, co_X10_whoIsAt, by decide +kernel, by decide +kernel, by decide +kernel, by decide⟩, im_X10_whoIsAt, se_X10_whoIsAt⟩
set_option maxRecDepth 20000 in
theorem cv_10_108 : CV RX10 108 mX10_bringUpPoints 1 := ⟨⟨Or.inl (tblG_in (List.mem_append_right _ (List.mem_append_right _ (List.mem_append_right _ (List.mem_append_right _ (List.mem_append_left _ (List.mem_of_getElem? (l := tables_1_4) (i := 172) rfl)))))) rfl), ini_10, co_X10_bringUpPoints, by decide +kernel, by decide +kernel, by decide +kernel, by decide⟩, im_X10_bringUpPoints, se_X10_bringUpPoints⟩
set_option maxRecDepth 20000 in
theorem cv_10_124 : CV RX10 124 mX10_wallAt 2 := ⟨⟨Or.inl (tblG_in (List.mem_append_right _ (List.mem_append_right _ (List.mem_append_right _ (List.mem_append_right _ (List.mem_append_left _ (List.mem_of_getElem? (l := tables_1_4) (i := 181) rfl)))))) rfl), ini_10, co_X10_wallAt, by decide +kernel, by decide +kernel, by decide +kernel, by decide⟩, im_X10_wallAt, se_X10_wallAt⟩
set_option maxRecDepth 20000 in
theorem cv_10_141 : CV RX10 141 mX10_whyNotSay 3 := ⟨⟨Or.inl (tblG_in (List.mem_append_right _ (List.mem_append_right _ (List.mem_append_right _ (List.mem_append_right _ (List.mem_append_right _ (List.mem_append_left _ (List.mem_of_getElem? (l := tables_1_5) (i := 152) rfl))))))) rfl), ini_10, co_X10_whyNotSay, by decide +kernel, by decide +kernel, by decide +kernel, by decide⟩, im_X10_whyNotSay, se_X10_whyNotSay⟩
set_option maxRecDepth 20000 in
theorem cv_10_145 : CV RX10 145 mX10_doSay 3 := ⟨⟨Or.inl (tblG_in (List.mem_append_right _ (List.mem_append_right _ (List.mem_append_right _ (List.mem_append_right _ (List.mem_append_right _ (List.mem_append_left _ (List.mem_of_getElem? (l := tables_1_5) (i := 153) rfl))))))) rfl), ini_10, co_X10_doSay, by decide +kernel, by decide +kernel, by decide +kernel, by decide⟩, im_X10_doSay, se_X10_doSay⟩
set_option maxRecDepth 20000 in
theorem cv_10_149 : CV RX10 149 mX10_whyNotKick 2 := ⟨⟨Or.inl (tblG_in (List.mem_append_right _ (List.mem_append_right _ (List.mem_append_right _ (List.mem_append_right _ (List.mem_append_right _ (List.mem_append_left _ (List.mem_of_getElem? (l := tables_1_5) (i := 158) rfl))))))) rfl), ini_10, co_X10_whyNotKick, by decide +kernel, by decide +kernel, by decide +kernel, by decide⟩, im_X10_whyNotKick, se_X10_whyNotKick⟩
set_option maxRecDepth 20000 in
theorem cv_10_152 : CV RX10 152 mX10_doKick 2 := ⟨⟨Or.inl (tblG_in (List.mem_append_right _ (List.mem_append_right _ (List.mem_append_right _ (List.mem_append_right _ (List.mem_append_right _ (List.mem_append_left _ (List.mem_of_getElem? (l := tables_1_5) (i := 159) rfl))))))) rfl), ini_10, co_X10_doKick, by decide +kernel, by decide +kernel, by decide +kernel, by decide⟩, im_X10_doKick, se_X10_doKick⟩
set_option maxRecDepth 20000 in
theorem cv_10_156 : CV RX10 156 mX10_whyNotRest 1 := ⟨⟨Or.inl (tblG_in (List.mem_append_right _ (List.mem_append_right _ (List.mem_append_right _ (List.mem_append_right _ (List.mem_append_right _ (List.mem_append_left _ (List.mem_of_getElem? (l := tables_1_5) (i := 164) rfl))))))) rfl), ini_10, co_X10_whyNotRest, by decide +kernel, by decide +kernel, by decide +kernel, by decide⟩, im_X10_whyNotRest, se_X10_whyNotRest⟩
set_option maxRecDepth 20000 in
theorem cv_10_159 : CV RX10 159 mX10_doRest 1 := ⟨⟨Or.inl (tblG_in (List.mem_append_right _ (List.mem_append_right _ (List.mem_append_right _ (List.mem_append_right _ (List.mem_append_right _ (List.mem_append_left _ (List.mem_of_getElem? (l := tables_1_5) (i := 165) rfl))))))) rfl), ini_10, co_X10_doRest, by decide +kernel, by decide +kernel, by decide +kernel, by decide⟩, im_X10_doRest, se_X10_doRest⟩
set_option maxRecDepth 20000 in
theorem cv_10_162 : CV RX10 162 mX10_drawAct 1 := ⟨⟨Or.inl (tblG_in (List.mem_append_right _ (List.mem_append_right _ (List.mem_append_right _ (List.mem_append_right _ (List.mem_append_right _ (List.mem_append_left _ (List.mem_of_getElem? (l := tables_1_5) (i := 139) rfl))))))) rfl), ini_10, co_X10_drawAct, by decide +kernel, by decide +kernel, by decide +kernel, by decide⟩, im_X10_drawAct, se_X10_drawAct⟩
set_option maxRecDepth 20000 in
theorem cv_10_165 : CV RX10 165 mX10_passHours 1 := ⟨⟨Or.inl (tblG_in (List.mem_append_right _ (List.mem_append_right _ (List.mem_append_right _ (List.mem_append_right _ (List.mem_append_right _ (List.mem_append_left _ (List.mem_of_getElem? (l := tables_1_5) (i := 166) rfl))))))) rfl), ini_10, co_X10_passHours, by decide +kernel, by decide +kernel, by decide +kernel, by decide⟩, im_X10_passHours, se_X10_passHours⟩
set_option maxRecDepth 20000 in
theorem cv_10_168 : CV RX10 168 mX10_draw 1 := ⟨⟨Or.inl (tblG_in (List.mem_append_right _ (List.mem_append_right _ (List.mem_append_right _ (List.mem_append_right _ (List.mem_append_right _ (List.mem_append_left _ (List.mem_of_getElem? (l := tables_1_5) (i := 143) rfl))))))) rfl), ini_10, co_X10_draw, by decide +kernel, by decide +kernel, by decide +kernel, by decide⟩, im_X10_draw, se_X10_draw⟩
set_option maxRecDepth 20000 in
theorem cv_10_171 : CV RX10 171 mX10_sayIfCan 3 := ⟨⟨Or.inl (tblG_in (List.mem_append_right _ (List.mem_append_right _ (List.mem_append_right _ (List.mem_append_right _ (List.mem_append_right _ (List.mem_append_left _ (List.mem_of_getElem? (l := tables_1_5) (i := 148) rfl))))))) rfl), ini_10, co_X10_sayIfCan, by decide +kernel, by decide +kernel, by decide +kernel, by decide⟩, im_X10_sayIfCan, se_X10_sayIfCan⟩
set_option maxRecDepth 20000 in
theorem cv_10_174 : CV RX10 174 mX10_kickIfCan 2 := ⟨⟨Or.inl (tblG_in (List.mem_append_right _ (List.mem_append_right _ (List.mem_append_right _ (List.mem_append_right _ (List.mem_append_right _ (List.mem_append_left _ (List.mem_of_getElem? (l := tables_1_5) (i := 154) rfl))))))) rfl), ini_10, co_X10_kickIfCan, by decide +kernel, by decide +kernel, by decide +kernel, by decide⟩, im_X10_kickIfCan, se_X10_kickIfCan⟩
set_option maxRecDepth 20000 in
theorem cv_10_177 : CV RX10 177 mX10_restIfCan 1 := ⟨⟨Or.inl (tblG_in (List.mem_append_right _ (List.mem_append_right _ (List.mem_append_right _ (List.mem_append_right _ (List.mem_append_right _ (List.mem_append_left _ (List.mem_of_getElem? (l := tables_1_5) (i := 160) rfl))))))) rfl), ini_10, co_X10_restIfCan, by decide +kernel, by decide +kernel, by decide +kernel, by decide⟩, im_X10_restIfCan, se_X10_restIfCan⟩
set_option maxRecDepth 20000 in
theorem cv_10_181 : CV RX10 181 mX10_isSettled 1 := ⟨⟨Or.inl (tblG_in (List.mem_append_right _ (List.mem_append_right _ (List.mem_append_right _ (List.mem_append_right _ (List.mem_append_left _ (List.mem_of_getElem? (l := tables_1_4) (i := 124) rfl)))))) rfl), ini_10, co_X10_isSettled, by decide +kernel, by decide +kernel, by decide +kernel, by decide⟩, im_X10_isSettled, se_X10_isSettled⟩
set_option maxRecDepth 20000 in
theorem cs_10_185 : CS RX10 185 mX10_sumOf 2 := ⟨⟨Or.inl (tblG_in (List.mem_append_right _ (List.mem_append_right _ (List.mem_append_right _ (List.mem_append_right _ (List.mem_append_left _ (List.mem_of_getElem? (l := tables_1_4) (i := 109) rfl)))))) rfl), ini_10, co_X10_sumOf, by decide +kernel, by decide +kernel, by decide +kernel, by decide⟩, st_X10_sumOf⟩
set_option maxRecDepth 20000 in
theorem cv_L_7 : CV "CartTurnsLaw" 7 mX11_person 2 := ⟨⟨Or.inl (tblG_in (List.mem_append_right _ (List.mem_append_right _ (List.mem_append_right _ (List.mem_append_right _ (List.mem_append_right _ (List.mem_append_right _ (List.mem_append_left _ (List.mem_of_getElem? (l := tables_1_6) (i := 85) rfl)))))))) rfl), ini_11, co_X11_person, by decide +kernel, by decide +kernel, by decide +kernel, by decide⟩, im_X11_person, se_X11_person⟩
set_option maxRecDepth 20000 in
theorem cv_L_15 : CV "CartTurnsLaw" 15 mX11_mean 1 := ⟨⟨Or.inl (tblG_in (List.mem_append_right _ (List.mem_append_right _ (List.mem_append_right _ (List.mem_append_right _ (List.mem_append_right _ (List.mem_append_right _ (List.mem_append_left _ (List.mem_of_getElem? (l := tables_1_6) (i := 153) rfl)))))))) rfl), ini_11, co_X11_mean, by decide +kernel, by decide +kernel, by decide +kernel, by decide⟩, im_X11_mean, se_X11_mean⟩
set_option maxRecDepth 20000 in
theorem cv_L_23 : CV "CartTurnsLaw" 23 mX11_feed 5 := ⟨⟨Or.inl (tblG_in (List.mem_append_right _ (List.mem_append_right _ (List.mem_append_right _ (List.mem_append_left _ (List.mem_of_getElem? (l := tables_1_3) (i := 106) rfl))))) rfl), ini_11, co_X11_feed, by decide +kernel, by decide +kernel, by decide +kernel, by decide⟩, im_X11_feed, se_X11_feed⟩
set_option maxRecDepth 20000 in
theorem cv_L_27 : CV "CartTurnsLaw" 27 mX12_feed 5 := ⟨⟨Or.inl (tblG_in (List.mem_append_right _ (List.mem_append_right _ (List.mem_append_right _ (List.mem_append_right _ (List.mem_append_right _ (List.mem_append_right _ (List.mem_append_left _ (List.mem_of_getElem? (l := tables_1_6) (i := 164) rfl)))))))) rfl), ini_12, co_X12_feed, by decide +kernel, by decide +kernel, by decide +kernel, by decide⟩, im_X12_feed, se_X12_feed⟩
set_option maxRecDepth 20000 in
theorem cv_L_28 : CV "CartTurnsLaw" 28 mX11_end 1 := ⟨⟨Or.inl (tblG_in (List.mem_append_right _ (List.mem_append_right _ (List.mem_append_right _ (List.mem_append_left _ (List.mem_of_getElem? (l := tables_1_3) (i := 114) rfl))))) rfl), ini_11, co_X11_end, by decide +kernel, by decide +kernel, by decide +kernel, by decide⟩, im_X11_end, se_X11_end⟩
set_option maxRecDepth 20000 in
theorem cv_L_32 : CV "CartTurnsLaw" 32 mX12_end 1 := ⟨⟨Or.inl (tblG_in (List.mem_append_right _ (List.mem_append_right _ (List.mem_append_right _ (List.mem_append_right _ (List.mem_append_right _ (List.mem_append_right _ (List.mem_append_left _ (List.mem_of_getElem? (l := tables_1_6) (i := 173) rfl)))))))) rfl), ini_12, co_X12_end, by decide +kernel, by decide +kernel, by decide +kernel, by decide⟩, im_X12_end, se_X12_end⟩
set_option maxRecDepth 20000 in
theorem cv_L_33 : CV "CartTurnsLaw" 33 mX11_downs 0 := ⟨⟨Or.inl (tblG_in (List.mem_append_right _ (List.mem_append_right _ (List.mem_append_right _ (List.mem_append_left _ (List.mem_of_getElem? (l := tables_1_3) (i := 118) rfl))))) rfl), ini_11, co_X11_downs, by decide +kernel, by decide +kernel, by decide +kernel, by decide⟩, im_X11_downs, se_X11_downs⟩
set_option maxRecDepth 20000 in
theorem cv_L_37 : CV "CartTurnsLaw" 37 mX12_downs 0 := ⟨⟨Or.inl (tblG_in (List.mem_append_right _ (List.mem_append_right _ (List.mem_append_right _ (List.mem_append_right _ (List.mem_append_right _ (List.mem_append_right _ (List.mem_append_right _ (List.mem_append_left _ (List.mem_of_getElem? (l := tables_1_7) (i := 95) rfl))))))))) rfl), ini_12, co_X12_downs, by decide +kernel, by decide +kernel, by decide +kernel, by decide⟩, im_X12_downs, se_X12_downs⟩
set_option maxRecDepth 20000 in
theorem cv_L_38 : CV "CartTurnsLaw" 38 mX11_fault 0 := ⟨⟨Or.inl (tblG_in (List.mem_append_right _ (List.mem_append_right _ (List.mem_append_right _ (List.mem_append_right _ (List.mem_append_left _ (List.mem_of_getElem? (l := tables_1_4) (i := 59) rfl)))))) rfl), ini_11, co_X11_fault, by decide +kernel, by decide +kernel, by decide +kernel, by decide⟩, im_X11_fault, se_X11_fault⟩
set_option maxRecDepth 20000 in
theorem cv_L_41 : CV "CartTurnsLaw" 41 mX12_fault 0 := ⟨⟨Or.inl (tblG_in (List.mem_append_right _ (List.mem_append_right _ (List.mem_append_right _ (List.mem_append_right _ (List.mem_append_right _ (List.mem_append_right _ (List.mem_append_right _ (List.mem_append_left _ (List.mem_of_getElem? (l := tables_1_7) (i := 203) rfl))))))))) rfl), ini_12, co_X12_fault, by decide +kernel, by decide +kernel, by decide +kernel, by decide⟩, im_X12_fault, se_X12_fault⟩
set_option maxRecDepth 20000 in
theorem cv_L_47 : CV "CartTurnsLaw" 47 mX12_person 2 := ⟨⟨Or.inl (tblG_in (List.mem_append_right _ (List.mem_append_right _ (List.mem_append_right _ (List.mem_append_right _ (List.mem_append_right _ (List.mem_append_right _ (List.mem_append_right _ (List.mem_append_left _ (List.mem_of_getElem? (l := tables_1_7) (i := 207) rfl))))))))) rfl), ini_12, co_X12_person, by decide +kernel, by decide +kernel, by decide +kernel, by decide⟩, im_X12_person, se_X12_person⟩
set_option maxRecDepth 20000 in
theorem cv_L_48 : CV "CartTurnsLaw" 48 mX12_thrown 0 := ⟨⟨Or.inl (tblG_in (List.mem_append_right _ (List.mem_append_right _ (List.mem_append_right _ (List.mem_append_right _ (List.mem_append_right _ (List.mem_append_right _ (List.mem_append_left _ (List.mem_of_getElem? (l := tables_1_6) (i := 160) rfl)))))))) rfl), ini_12, co_X12_thrown, by decide +kernel, by decide +kernel, by decide +kernel, by decide⟩, im_X12_thrown, se_X12_thrown⟩
set_option maxRecDepth 20000 in
theorem cv_L_51 : CV "CartTurnsLaw" 51 mX11_figure 2 := ⟨⟨Or.inl (tblG_in (List.mem_append_right _ (List.mem_append_right _ (List.mem_append_right _ (List.mem_append_right _ (List.mem_append_left _ (List.mem_of_getElem? (l := tables_1_4) (i := 63) rfl)))))) rfl), ini_11, co_X11_figure, by decide +kernel, by decide +kernel, by decide +kernel, by decide⟩, im_X11_figure, se_X11_figure⟩
set_option maxRecDepth 20000 in
theorem cv_L_54 : CV "CartTurnsLaw" 54 mX12_figure 2 := ⟨⟨Or.inl (tblG_in (List.mem_append_right _ (List.mem_append_right _ (List.mem_append_right _ (List.mem_append_right _ (List.mem_append_right _ (List.mem_append_right _ (List.mem_append_right _ (List.mem_append_left _ (List.mem_of_getElem? (l := tables_1_7) (i := 219) rfl))))))))) rfl), ini_12, co_X12_figure, by decide +kernel, by decide +kernel, by decide +kernel, by decide⟩, im_X12_figure, se_X12_figure⟩
set_option maxRecDepth 20000 in
theorem cv_L_55 : CV "CartTurnsLaw" 55 mX11_point 2 := ⟨⟨Or.inl (tblG_in (List.mem_append_right _ (List.mem_append_right _ (List.mem_append_right _ (List.mem_append_right _ (List.mem_append_left _ (List.mem_of_getElem? (l := tables_1_4) (i := 78) rfl)))))) rfl), ini_11, co_X11_point, by decide +kernel, by decide +kernel, by decide +kernel, by decide⟩, im_X11_point, se_X11_point⟩
set_option maxRecDepth 20000 in
theorem cv_L_58 : CV "CartTurnsLaw" 58 mX12_point 2 := ⟨⟨Or.inl (tblG_in (List.mem_append_right _ (List.mem_append_right _ (List.mem_append_right _ (List.mem_append_right _ (List.mem_append_right _ (List.mem_append_right _ (List.mem_append_right _ (List.mem_append_left _ (List.mem_of_getElem? (l := tables_1_7) (i := 231) rfl))))))))) rfl), ini_12, co_X12_point, by decide +kernel, by decide +kernel, by decide +kernel, by decide⟩, im_X12_point, se_X12_point⟩
set_option maxRecDepth 20000 in
theorem cv_L_59 : CV "CartTurnsLaw" 59 mX11_cell 3 := ⟨⟨Or.inl (tblG_in (List.mem_append_right _ (List.mem_append_right _ (List.mem_append_right _ (List.mem_append_right _ (List.mem_append_left _ (List.mem_of_getElem? (l := tables_1_4) (i := 90) rfl)))))) rfl), ini_11, co_X11_cell, by decide +kernel, by decide +kernel, by decide +kernel, by decide⟩, im_X11_cell, se_X11_cell⟩
set_option maxRecDepth 20000 in
theorem cv_L_63 : CV "CartTurnsLaw" 63 mX12_cell 3 := ⟨⟨Or.inl (tblG_in (List.mem_append_right _ (List.mem_append_right _ (List.mem_append_right _ (List.mem_append_right _ (List.mem_append_right _ (List.mem_append_right _ (List.mem_append_right _ (List.mem_append_right _ (List.mem_append_left _ (List.mem_of_getElem? (l := tables_1_8) (i := 2) rfl)))))))))) rfl), ini_12, co_X12_cell, by decide +kernel, by decide +kernel, by decide +kernel, by decide⟩, im_X12_cell, se_X12_cell⟩
set_option maxRecDepth 20000 in
theorem cv_L_64 : CV "CartTurnsLaw" 64 mX11_now 1 := ⟨⟨Or.inl (tblG_in (List.mem_append_right _ (List.mem_append_right _ (List.mem_append_right _ (List.mem_append_right _ (List.mem_append_left _ (List.mem_of_getElem? (l := tables_1_4) (i := 101) rfl)))))) rfl), ini_11, co_X11_now, by decide +kernel, by decide +kernel, by decide +kernel, by decide⟩, im_X11_now, se_X11_now⟩
set_option maxRecDepth 20000 in
theorem cv_L_67 : CV "CartTurnsLaw" 67 mX12_now 1 := ⟨⟨Or.inl (tblG_in (List.mem_append_right _ (List.mem_append_right _ (List.mem_append_right _ (List.mem_append_right _ (List.mem_append_right _ (List.mem_append_right _ (List.mem_append_right _ (List.mem_append_right _ (List.mem_append_left _ (List.mem_of_getElem? (l := tables_1_8) (i := 14) rfl)))))))))) rfl), ini_12, co_X12_now, by decide +kernel, by decide +kernel, by decide +kernel, by decide⟩, im_X12_now, se_X12_now⟩
set_option maxRecDepth 20000 in
theorem cv_L_68 : CV "CartTurnsLaw" 68 mX11_say 3 := ⟨⟨Or.inl (tblG_in (List.mem_append_right _ (List.mem_append_right _ (List.mem_append_right _ (List.mem_append_right _ (List.mem_append_left _ (List.mem_of_getElem? (l := tables_1_4) (i := 136) rfl)))))) rfl), ini_11, co_X11_say, by decide +kernel, by decide +kernel, by decide +kernel, by decide⟩, im_X11_say, se_X11_say⟩
set_option maxRecDepth 20000 in
theorem cv_L_71 : CV "CartTurnsLaw" 71 mX12_say 3 := ⟨⟨Or.inl (tblG_in (List.mem_append_right _ (List.mem_append_right _ (List.mem_append_right _ (List.mem_append_right _ (List.mem_append_right _ (List.mem_append_right _ (List.mem_append_right _ (List.mem_append_right _ (List.mem_append_left _ (List.mem_of_getElem? (l := tables_1_8) (i := 30) rfl)))))))))) rfl), ini_12, co_X12_say, by decide +kernel, by decide +kernel, by decide +kernel, by decide⟩, im_X12_say, se_X12_say⟩
set_option maxRecDepth 20000 in
theorem cv_L_72 : CV "CartTurnsLaw" 72 mX11_kick 2 := ⟨⟨Or.inl (tblG_in (List.mem_append_right _ (List.mem_append_right _ (List.mem_append_right _ (List.mem_append_right _ (List.mem_append_left _ (List.mem_of_getElem? (l := tables_1_4) (i := 173) rfl)))))) rfl), ini_11, co_X11_kick, by decide +kernel, by decide +kernel, by decide +kernel, by decide⟩, im_X11_kick, se_X11_kick⟩
set_option maxRecDepth 20000 in
theorem cv_L_75 : CV "CartTurnsLaw" 75 mX12_kick 2 := ⟨⟨Or.inl (tblG_in (List.mem_append_right _ (List.mem_append_right _ (List.mem_append_right _ (List.mem_append_right _ (List.mem_append_right _ (List.mem_append_right _ (List.mem_append_right _ (List.mem_append_right _ (List.mem_append_left _ (List.mem_of_getElem? (l := tables_1_8) (i := 66) rfl)))))))))) rfl), ini_12, co_X12_kick, by decide +kernel, by decide +kernel, by decide +kernel, by decide⟩, im_X12_kick, se_X12_kick⟩
set_option maxRecDepth 20000 in
theorem cv_L_76 : CV "CartTurnsLaw" 76 mX11_rest 1 := ⟨⟨Or.inl (tblG_in (List.mem_append_right _ (List.mem_append_right _ (List.mem_append_right _ (List.mem_append_right _ (List.mem_append_left _ (List.mem_of_getElem? (l := tables_1_4) (i := 186) rfl)))))) rfl), ini_11, co_X11_rest, by decide +kernel, by decide +kernel, by decide +kernel, by decide⟩, im_X11_rest, se_X11_rest⟩
set_option maxRecDepth 20000 in
theorem cv_L_79 : CV "CartTurnsLaw" 79 mX12_rest 1 := ⟨⟨Or.inl (tblG_in (List.mem_append_right _ (List.mem_append_right _ (List.mem_append_right _ (List.mem_append_right _ (List.mem_append_right _ (List.mem_append_right _ (List.mem_append_right _ (List.mem_append_right _ (List.mem_append_left _ (List.mem_of_getElem? (l := tables_1_8) (i := 70) rfl)))))))))) rfl), ini_12, co_X12_rest, by decide +kernel, by decide +kernel, by decide +kernel, by decide⟩, im_X12_rest, se_X12_rest⟩
set_option maxRecDepth 20000 in
theorem cv_L_80 : CV "CartTurnsLaw" 80 mX11_hours 1 := ⟨⟨Or.inl (tblG_in (List.mem_append_right _ (List.mem_append_right _ (List.mem_append_right _ (List.mem_append_right _ (List.mem_append_left _ (List.mem_of_getElem? (l := tables_1_4) (i := 198) rfl)))))) rfl), ini_11, co_X11_hours, by decide +kernel, by decide +kernel, by decide +kernel, by decide⟩, im_X11_hours, se_X11_hours⟩
set_option maxRecDepth 20000 in
theorem cv_L_83 : CV "CartTurnsLaw" 83 mX12_hours 1 := ⟨⟨Or.inl (tblG_in (List.mem_append_right _ (List.mem_append_right _ (List.mem_append_right _ (List.mem_append_right _ (List.mem_append_right _ (List.mem_append_right _ (List.mem_append_right _ (List.mem_append_right _ (List.mem_append_left _ (List.mem_of_getElem? (l := tables_1_8) (i := 78) rfl)))))))))) rfl), ini_12, co_X12_hours, by decide +kernel, by decide +kernel, by decide +kernel, by decide⟩, im_X12_hours, se_X12_hours⟩
set_option maxRecDepth 20000 in
theorem cv_L_84 : CV "CartTurnsLaw" 84 mX11_undo 0 := ⟨⟨Or.inl (tblG_in (List.mem_append_right _ (List.mem_append_right _ (List.mem_append_right _ (List.mem_append_right _ (List.mem_append_left _ (List.mem_of_getElem? (l := tables_1_4) (i := 212) rfl)))))) rfl), ini_11, co_X11_undo, by decide +kernel, by decide +kernel, by decide +kernel, by decide⟩, im_X11_undo, se_X11_undo⟩
set_option maxRecDepth 20000 in
theorem cv_L_87 : CV "CartTurnsLaw" 87 mX12_undo 0 := ⟨⟨Or.inl (tblG_in (List.mem_append_right _ (List.mem_append_right _ (List.mem_append_right _ (List.mem_append_right _ (List.mem_append_right _ (List.mem_append_right _ (List.mem_append_right _ (List.mem_append_right _ (List.mem_append_left _ (List.mem_of_getElem? (l := tables_1_8) (i := 74) rfl)))))))))) rfl), ini_12, co_X12_undo, by decide +kernel, by decide +kernel, by decide +kernel, by decide⟩, im_X12_undo, se_X12_undo⟩
set_option maxRecDepth 20000 in
theorem cv_L_88 : CV "CartTurnsLaw" 88 mX11_could 2 := ⟨⟨Or.inl (tblG_in (List.mem_append_right _ (List.mem_append_right _ (List.mem_append_right _ (List.mem_append_right _ (List.mem_append_left _ (List.mem_of_getElem? (l := tables_1_4) (i := 220) rfl)))))) rfl), ini_11, co_X11_could, by decide +kernel, by decide +kernel, by decide +kernel, by decide⟩, im_X11_could, se_X11_could⟩
set_option maxRecDepth 20000 in
theorem cv_L_91 : CV "CartTurnsLaw" 91 mX12_could 2 := ⟨⟨Or.inl (tblG_in (List.mem_append_right _ (List.mem_append_right _ (List.mem_append_right _ (List.mem_append_right _ (List.mem_append_right _ (List.mem_append_right _ (List.mem_append_right _ (List.mem_append_right _ (List.mem_append_left _ (List.mem_of_getElem? (l := tables_1_8) (i := 93) rfl)))))))))) rfl), ini_12, co_X12_could, by decide +kernel, by decide +kernel, by decide +kernel, by decide⟩, im_X12_could, se_X12_could⟩
set_option maxRecDepth 20000 in
theorem cv_L_92 : CV "CartTurnsLaw" 92 mX11_way 2 := ⟨⟨Or.inl (tblG_in (List.mem_append_right _ (List.mem_append_right _ (List.mem_append_right _ (List.mem_append_right _ (List.mem_append_left _ (List.mem_of_getElem? (l := tables_1_4) (i := 224) rfl)))))) rfl), ini_11, co_X11_way, by decide +kernel, by decide +kernel, by decide +kernel, by decide⟩, im_X11_way, se_X11_way⟩
set_option maxRecDepth 20000 in
theorem cv_L_95 : CV "CartTurnsLaw" 95 mX12_way 2 := ⟨⟨Or.inl (tblG_in (List.mem_append_right _ (List.mem_append_right _ (List.mem_append_right _ (List.mem_append_right _ (List.mem_append_right _ (List.mem_append_right _ (List.mem_append_right _ (List.mem_append_right _ (List.mem_append_left _ (List.mem_of_getElem? (l := tables_1_8) (i := 97) rfl)))))))))) rfl), ini_12, co_X12_way, by decide +kernel, by decide +kernel, by decide +kernel, by decide⟩, im_X12_way, se_X12_way⟩
set_option maxRecDepth 20000 in
theorem cv_L_96 : CV "CartTurnsLaw" 96 mX11_wayAt 1 := ⟨⟨Or.inl (tblG_in (List.mem_append_right _ (List.mem_append_right _ (List.mem_append_right _ (List.mem_append_right _ (List.mem_append_right _ (List.mem_append_left _ (List.mem_of_getElem? (l := tables_1_5) (i := 26) rfl))))))) rfl), ini_11, co_X11_wayAt, by decide +kernel, by decide +kernel, by decide +kernel, by decide⟩, im_X11_wayAt, se_X11_wayAt⟩
set_option maxRecDepth 20000 in
theorem cv_L_99 : CV "CartTurnsLaw" 99 mX12_wayAt 1 := ⟨⟨Or.inl (tblG_in (List.mem_append_right _ (List.mem_append_right _ (List.mem_append_right _ (List.mem_append_right _ (List.mem_append_right _ (List.mem_append_right _ (List.mem_append_right _ (List.mem_append_right _ (List.mem_append_left _ (List.mem_of_getElem? (l := tables_1_8) (i := 126) rfl)))))))))) rfl), ini_12, co_X12_wayAt, by decide +kernel, by decide +kernel, by decide +kernel, by decide⟩, im_X12_wayAt, se_X12_wayAt⟩
set_option maxRecDepth 20000 in
theorem cv_L_100 : CV "CartTurnsLaw" 100 mX11_both 3 := ⟨⟨Or.inl (tblG_in (List.mem_append_right _ (List.mem_append_right _ (List.mem_append_right _ (List.mem_append_right _ (List.mem_append_right _ (List.mem_append_left _ (List.mem_of_getElem? (l := tables_1_5) (i := 30) rfl))))))) rfl), ini_11, co_X11_both, by decide +kernel, by decide +kernel, by decide +kernel, by decide⟩, im_X11_both, se_X11_both⟩
set_option maxRecDepth 20000 in
theorem cv_L_103 : CV "CartTurnsLaw" 103 mX12_both 3 := ⟨⟨Or.inl (tblG_in (List.mem_append_right _ (List.mem_append_right _ (List.mem_append_right _ (List.mem_append_right _ (List.mem_append_right _ (List.mem_append_right _ (List.mem_append_right _ (List.mem_append_right _ (List.mem_append_left _ (List.mem_of_getElem? (l := tables_1_8) (i := 130) rfl)))))))))) rfl), ini_12, co_X12_both, by decide +kernel, by decide +kernel, by decide +kernel, by decide⟩, im_X12_both, se_X12_both⟩
set_option maxRecDepth 20000 in
theorem cv_L_104 : CV "CartTurnsLaw" 104 mX11_sees 1 := ⟨⟨Or.inl (tblG_in (List.mem_append_right _ (List.mem_append_right _ (List.mem_append_right _ (List.mem_append_right _ (List.mem_append_right _ (List.mem_append_left _ (List.mem_of_getElem? (l := tables_1_5) (i := 35) rfl))))))) rfl), ini_11, co_X11_sees, by decide +kernel, by decide +kernel, by decide +kernel, by decide⟩, im_X11_sees, se_X11_sees⟩
set_option maxRecDepth 20000 in
theorem cv_L_107 : CV "CartTurnsLaw" 107 mX12_sees 1 := ⟨⟨Or.inl (tblG_in (List.mem_append_right _ (List.mem_append_right _ (List.mem_append_right _ (List.mem_append_right _ (List.mem_append_right _ (List.mem_append_right _ (List.mem_append_right _ (List.mem_append_right _ (List.mem_append_left _ (List.mem_of_getElem? (l := tables_1_8) (i := 134) rfl)))))))))) rfl), ini_12, co_X12_sees, by decide +kernel, by decide +kernel, by decide +kernel, by decide⟩, im_X12_sees, se_X12_sees⟩
set_option maxRecDepth 20000 in
theorem cv_L_108 : CV "CartTurnsLaw" 108 mX11_undoes 1 := ⟨⟨Or.inl (tblG_in (List.mem_append_right _ (List.mem_append_right _ (List.mem_append_right _ (List.mem_append_right _ (List.mem_append_right _ (List.mem_append_left _ (List.mem_of_getElem? (l := tables_1_5) (i := 43) rfl))))))) rfl), ini_11, co_X11_undoes, by decide +kernel, by decide +kernel, by decide +kernel, by decide⟩, im_X11_undoes, se_X11_undoes⟩
set_option maxRecDepth 20000 in
theorem cv_L_111 : CV "CartTurnsLaw" 111 mX12_undoes 1 := ⟨⟨Or.inl (tblG_in (List.mem_append_right _ (List.mem_append_right _ (List.mem_append_right _ (List.mem_append_right _ (List.mem_append_right _ (List.mem_append_right _ (List.mem_append_right _ (List.mem_append_right _ (List.mem_append_left _ (List.mem_of_getElem? (l := tables_1_8) (i := 146) rfl)))))))))) rfl), ini_12, co_X12_undoes, by decide +kernel, by decide +kernel, by decide +kernel, by decide⟩, im_X12_undoes, se_X12_undoes⟩
set_option maxRecDepth 20000 in
theorem cv_L_112 : CV "CartTurnsLaw" 112 mX11_undoesAt 1 := ⟨⟨Or.inl (tblG_in (List.mem_append_right _ (List.mem_append_right _ (List.mem_append_right _ (List.mem_append_right _ (List.mem_append_right _ (List.mem_append_left _ (List.mem_of_getElem? (l := tables_1_5) (i := 60) rfl))))))) rfl), ini_11, co_X11_undoesAt, by decide +kernel, by decide +kernel, by decide +kernel, by decide⟩, im_X11_undoesAt, se_X11_undoesAt⟩
set_option maxRecDepth 20000 in
theorem cv_L_115 : CV "CartTurnsLaw" 115 mX12_undoesAt 1 := ⟨⟨Or.inl (tblG_in (List.mem_append_right _ (List.mem_append_right _ (List.mem_append_right _ (List.mem_append_right _ (List.mem_append_right _ (List.mem_append_right _ (List.mem_append_right _ (List.mem_append_right _ (List.mem_append_left _ (List.mem_of_getElem? (l := tables_1_8) (i := 162) rfl)))))))))) rfl), ini_12, co_X12_undoesAt, by decide +kernel, by decide +kernel, by decide +kernel, by decide⟩, im_X12_undoesAt, se_X12_undoesAt⟩
set_option maxRecDepth 20000 in
theorem cv_L_116 : CV "CartTurnsLaw" 116 mX11_tracks 0 := ⟨⟨Or.inl (tblG_in (List.mem_append_right _ (List.mem_append_right _ (List.mem_append_right _ (List.mem_append_right _ (List.mem_append_right _ (List.mem_append_left _ (List.mem_of_getElem? (l := tables_1_5) (i := 64) rfl))))))) rfl), ini_11, co_X11_tracks, by decide +kernel, by decide +kernel, by decide +kernel, by decide⟩, im_X11_tracks, se_X11_tracks⟩
set_option maxRecDepth 20000 in
theorem cv_L_119 : CV "CartTurnsLaw" 119 mX12_tracks 0 := ⟨⟨Or.inl (tblG_in (List.mem_append_right _ (List.mem_append_right _ (List.mem_append_right _ (List.mem_append_right _ (List.mem_append_right _ (List.mem_append_right _ (List.mem_append_right _ (List.mem_append_right _ (List.mem_append_left _ (List.mem_of_getElem? (l := tables_1_8) (i := 166) rfl)))))))))) rfl), ini_12, co_X12_tracks, by decide +kernel, by decide +kernel, by decide +kernel, by decide⟩, im_X12_tracks, se_X12_tracks⟩
set_option maxRecDepth 20000 in
theorem cv_L_120 : CV "CartTurnsLaw" 120 mX11_tracksAt 1 := ⟨⟨Or.inl (tblG_in (List.mem_append_right _ (List.mem_append_right _ (List.mem_append_right _ (List.mem_append_right _ (List.mem_append_right _ (List.mem_append_left _ (List.mem_of_getElem? (l := tables_1_5) (i := 86) rfl))))))) rfl), ini_11, co_X11_tracksAt, by decide +kernel, by decide +kernel, by decide +kernel, by decide⟩, im_X11_tracksAt, se_X11_tracksAt⟩
set_option maxRecDepth 20000 in
theorem cv_L_123 : CV "CartTurnsLaw" 123 mX12_tracksAt 1 := ⟨⟨Or.inl (tblG_in (List.mem_append_right _ (List.mem_append_right _ (List.mem_append_right _ (List.mem_append_right _ (List.mem_append_right _ (List.mem_append_right _ (List.mem_append_right _ (List.mem_append_right _ (List.mem_append_left _ (List.mem_of_getElem? (l := tables_1_8) (i := 178) rfl)))))))))) rfl), ini_12, co_X12_tracksAt, by decide +kernel, by decide +kernel, by decide +kernel, by decide⟩, im_X12_tracksAt, se_X12_tracksAt⟩
set_option maxRecDepth 20000 in
theorem cv_L_124 : CV "CartTurnsLaw" 124 mX11_tells 0 := ⟨⟨Or.inl (tblG_in (List.mem_append_right _ (List.mem_append_right _ (List.mem_append_right _ (List.mem_append_right _ (List.mem_append_right _ (List.mem_append_left _ (List.mem_of_getElem? (l := tables_1_5) (i := 90) rfl))))))) rfl), ini_11, co_X11_tells, by decide +kernel, by decide +kernel, by decide +kernel, by decide⟩, im_X11_tells, se_X11_tells⟩
set_option maxRecDepth 20000 in
theorem cv_L_127 : CV "CartTurnsLaw" 127 mX12_tells 0 := ⟨⟨Or.inl (tblG_in (List.mem_append_right _ (List.mem_append_right _ (List.mem_append_right _ (List.mem_append_right _ (List.mem_append_right _ (List.mem_append_right _ (List.mem_append_right _ (List.mem_append_right _ (List.mem_append_left _ (List.mem_of_getElem? (l := tables_1_8) (i := 182) rfl)))))))))) rfl), ini_12, co_X12_tells, by decide +kernel, by decide +kernel, by decide +kernel, by decide⟩, im_X12_tells, se_X12_tells⟩
set_option maxRecDepth 20000 in
theorem cv_L_128 : CV "CartTurnsLaw" 128 mX11_least 0 := ⟨⟨Or.inl (tblG_in (List.mem_append_right _ (List.mem_append_right _ (List.mem_append_right _ (List.mem_append_right _ (List.mem_append_right _ (List.mem_append_left _ (List.mem_of_getElem? (l := tables_1_5) (i := 98) rfl))))))) rfl), ini_11, co_X11_least, by decide +kernel, by decide +kernel, by decide +kernel, by decide⟩, im_X11_least, se_X11_least⟩
set_option maxRecDepth 20000 in
theorem cv_L_131 : CV "CartTurnsLaw" 131 mX12_least 0 := ⟨⟨Or.inl (tblG_in (List.mem_append_right _ (List.mem_append_right _ (List.mem_append_right _ (List.mem_append_right _ (List.mem_append_right _ (List.mem_append_right _ (List.mem_append_right _ (List.mem_append_right _ (List.mem_append_left _ (List.mem_of_getElem? (l := tables_1_8) (i := 186) rfl)))))))))) rfl), ini_12, co_X12_least, by decide +kernel, by decide +kernel, by decide +kernel, by decide⟩, im_X12_least, se_X12_least⟩
set_option maxRecDepth 20000 in
theorem cv_L_135 : CV "CartTurnsLaw" 135 mX12_mean 1 := ⟨⟨Or.inl (tblG_in (List.mem_append_right _ (List.mem_append_right _ (List.mem_append_right _ (List.mem_append_right _ (List.mem_append_right _ (List.mem_append_right _ (List.mem_append_right _ (List.mem_append_right _ (List.mem_append_left _ (List.mem_of_getElem? (l := tables_1_8) (i := 190) rfl)))))))))) rfl), ini_12, co_X12_mean, by decide +kernel, by decide +kernel, by decide +kernel, by decide⟩, im_X12_mean, se_X12_mean⟩
set_option maxRecDepth 20000 in
theorem cv_L_136 : CV "CartTurnsLaw" 136 mX11_slip 1 := ⟨⟨Or.inl (tblG_in (List.mem_append_right _ (List.mem_append_right _ (List.mem_append_right _ (List.mem_append_right _ (List.mem_append_right _ (List.mem_append_left _ (List.mem_of_getElem? (l := tables_1_5) (i := 106) rfl))))))) rfl), ini_11, co_X11_slip, by decide +kernel, by decide +kernel, by decide +kernel, by decide⟩, im_X11_slip, se_X11_slip⟩
set_option maxRecDepth 20000 in
theorem cv_L_139 : CV "CartTurnsLaw" 139 mX12_slip 1 := ⟨⟨Or.inl (tblG_in (List.mem_append_right _ (List.mem_append_right _ (List.mem_append_right _ (List.mem_append_right _ (List.mem_append_right _ (List.mem_append_right _ (List.mem_append_right _ (List.mem_append_right _ (List.mem_append_left _ (List.mem_of_getElem? (l := tables_1_8) (i := 197) rfl)))))))))) rfl), ini_12, co_X12_slip, by decide +kernel, by decide +kernel, by decide +kernel, by decide⟩, im_X12_slip, se_X12_slip⟩
set_option maxRecDepth 20000 in
theorem cv_L_140 : CV "CartTurnsLaw" 140 mX11_byteAt 1 := ⟨⟨Or.inl (tblG_in (List.mem_append_right _ (List.mem_append_right _ (List.mem_append_right _ (List.mem_append_right _ (List.mem_append_right _ (List.mem_append_left _ (List.mem_of_getElem? (l := tables_1_5) (i := 127) rfl))))))) rfl), ini_11, co_X11_byteAt, by decide +kernel, by decide +kernel, by decide +kernel, by decide⟩, im_X11_byteAt, se_X11_byteAt⟩
set_option maxRecDepth 20000 in
theorem cv_L_143 : CV "CartTurnsLaw" 143 mX12_byteAt 1 := ⟨⟨Or.inl (tblG_in (List.mem_append_right _ (List.mem_append_right _ (List.mem_append_right _ (List.mem_append_right _ (List.mem_append_right _ (List.mem_append_right _ (List.mem_append_right _ (List.mem_append_right _ (List.mem_append_left _ (List.mem_of_getElem? (l := tables_1_8) (i := 217) rfl)))))))))) rfl), ini_12, co_X12_byteAt, by decide +kernel, by decide +kernel, by decide +kernel, by decide⟩, im_X12_byteAt, se_X12_byteAt⟩
set_option maxRecDepth 20000 in
theorem cv_L_144 : CV "CartTurnsLaw" 144 mX11_drawn 2 := ⟨⟨Or.inl (tblG_in (List.mem_append_right _ (List.mem_append_right _ (List.mem_append_right _ (List.mem_append_right _ (List.mem_append_right _ (List.mem_append_left _ (List.mem_of_getElem? (l := tables_1_5) (i := 131) rfl))))))) rfl), ini_11, co_X11_drawn, by decide +kernel, by decide +kernel, by decide +kernel, by decide⟩, im_X11_drawn, se_X11_drawn⟩
set_option maxRecDepth 20000 in
theorem cv_L_147 : CV "CartTurnsLaw" 147 mX12_drawn 2 := ⟨⟨Or.inl (tblG_in (List.mem_append_right _ (List.mem_append_right _ (List.mem_append_right _ (List.mem_append_right _ (List.mem_append_right _ (List.mem_append_right _ (List.mem_append_right _ (List.mem_append_right _ (List.mem_append_left _ (List.mem_of_getElem? (l := tables_1_8) (i := 221) rfl)))))))))) rfl), ini_12, co_X12_drawn, by decide +kernel, by decide +kernel, by decide +kernel, by decide⟩, im_X12_drawn, se_X12_drawn⟩
set_option maxRecDepth 20000 in
theorem cv_L_148 : CV "CartTurnsLaw" 148 mX11_odds 4 := ⟨⟨Or.inl (tblG_in (List.mem_append_right _ (List.mem_append_right _ (List.mem_append_right _ (List.mem_append_right _ (List.mem_append_right _ (List.mem_append_left _ (List.mem_of_getElem? (l := tables_1_5) (i := 167) rfl))))))) rfl), ini_11, co_X11_odds, by decide +kernel, by decide +kernel, by decide +kernel, by decide⟩, im_X11_odds, se_X11_odds⟩
set_option maxRecDepth 20000 in
theorem cv_L_152 : CV "CartTurnsLaw" 152 mX12_odds 4 := ⟨⟨Or.inl (tblG_in (List.mem_append_right _ (List.mem_append_right _ (List.mem_append_right _ (List.mem_append_right _ (List.mem_append_right _ (List.mem_append_right _ (List.mem_append_right _ (List.mem_append_right _ (List.mem_append_right _ (List.mem_of_getElem? (l := tables_1_9) (i := 2) rfl)))))))))) rfl), ini_12, co_X12_odds, by decide +kernel, by decide +kernel, by decide +kernel, by decide⟩, im_X12_odds, se_X12_odds⟩
set_option maxRecDepth 20000 in
theorem cv_L_153 : CV "CartTurnsLaw" 153 mX11_book 1 := ⟨⟨Or.inl (tblG_in (List.mem_append_right _ (List.mem_append_right _ (List.mem_append_right _ (List.mem_append_right _ (List.mem_append_right _ (List.mem_append_left _ (List.mem_of_getElem? (l := tables_1_5) (i := 172) rfl))))))) rfl), ini_11, co_X11_book, by decide +kernel, by decide +kernel, by decide +kernel, by decide⟩, im_X11_book, se_X11_book⟩
set_option maxRecDepth 20000 in
theorem cv_L_156 : CV "CartTurnsLaw" 156 mX12_book 1 := ⟨⟨Or.inl (tblG_in (List.mem_append_right _ (List.mem_append_right _ (List.mem_append_right _ (List.mem_append_right _ (List.mem_append_right _ (List.mem_append_right _ (List.mem_append_right _ (List.mem_append_right _ (List.mem_append_right _ (List.mem_of_getElem? (l := tables_1_9) (i := 14) rfl)))))))))) rfl), ini_12, co_X12_book, by decide +kernel, by decide +kernel, by decide +kernel, by decide⟩, im_X12_book, se_X12_book⟩
set_option maxRecDepth 20000 in
theorem cv_L_157 : CV "CartTurnsLaw" 157 mX11_told 1 := ⟨⟨Or.inl (tblG_in (List.mem_append_right _ (List.mem_append_right _ (List.mem_append_right _ (List.mem_append_right _ (List.mem_append_right _ (List.mem_append_left _ (List.mem_of_getElem? (l := tables_1_5) (i := 231) rfl))))))) rfl), ini_11, co_X11_told, by decide +kernel, by decide +kernel, by decide +kernel, by decide⟩, im_X11_told, se_X11_told⟩
set_option maxRecDepth 20000 in
theorem cv_L_160 : CV "CartTurnsLaw" 160 mX12_told 1 := ⟨⟨Or.inl (tblG_in (List.mem_append_right _ (List.mem_append_right _ (List.mem_append_right _ (List.mem_append_right _ (List.mem_append_right _ (List.mem_append_right _ (List.mem_append_right _ (List.mem_append_right _ (List.mem_append_right _ (List.mem_of_getElem? (l := tables_1_9) (i := 46) rfl)))))))))) rfl), ini_12, co_X12_told, by decide +kernel, by decide +kernel, by decide +kernel, by decide⟩, im_X12_told, se_X12_told⟩
set_option maxRecDepth 20000 in
theorem cv_L_161 : CV "CartTurnsLaw" 161 mX11_sentence 0 := ⟨⟨Or.inl (tblG_in (List.mem_append_right _ (List.mem_append_right _ (List.mem_append_right _ (List.mem_append_right _ (List.mem_append_right _ (List.mem_append_left _ (List.mem_of_getElem? (l := tables_1_5) (i := 235) rfl))))))) rfl), ini_11, co_X11_sentence, by decide +kernel, by decide +kernel, by decide +kernel, by decide⟩, im_X11_sentence, se_X11_sentence⟩
set_option maxRecDepth 20000 in
theorem cv_L_164 : CV "CartTurnsLaw" 164 mX12_sentence 0 := ⟨⟨Or.inl (tblG_in (List.mem_append_right _ (List.mem_append_right _ (List.mem_append_right _ (List.mem_append_right _ (List.mem_append_right _ (List.mem_append_right _ (List.mem_append_right _ (List.mem_append_right _ (List.mem_append_right _ (List.mem_of_getElem? (l := tables_1_9) (i := 50) rfl)))))))))) rfl), ini_12, co_X12_sentence, by decide +kernel, by decide +kernel, by decide +kernel, by decide⟩, im_X12_sentence, se_X12_sentence⟩
set_option maxRecDepth 20000 in
theorem cv_L_165 : CV "CartTurnsLaw" 165 mX11_said 1 := ⟨⟨Or.inl (tblG_in (List.mem_append_right _ (List.mem_append_right _ (List.mem_append_right _ (List.mem_append_right _ (List.mem_append_right _ (List.mem_append_right _ (List.mem_append_left _ (List.mem_of_getElem? (l := tables_1_6) (i := 44) rfl)))))))) rfl), ini_11, co_X11_said, by decide +kernel, by decide +kernel, by decide +kernel, by decide⟩, im_X11_said, se_X11_said⟩
set_option maxRecDepth 20000 in
theorem cv_L_168 : CV "CartTurnsLaw" 168 mX12_said 1 := ⟨⟨Or.inl (tblG_in (List.mem_append_right _ (List.mem_append_right _ (List.mem_append_right _ (List.mem_append_right _ (List.mem_append_right _ (List.mem_append_right _ (List.mem_append_right _ (List.mem_append_right _ (List.mem_append_right _ (List.mem_of_getElem? (l := tables_1_9) (i := 90) rfl)))))))))) rfl), ini_12, co_X12_said, by decide +kernel, by decide +kernel, by decide +kernel, by decide⟩, im_X12_said, se_X12_said⟩
set_option maxRecDepth 20000 in
theorem cv_L_169 : CV "CartTurnsLaw" 169 mX11_image 1 := ⟨⟨Or.inl (tblG_in (List.mem_append_right _ (List.mem_append_right _ (List.mem_append_right _ (List.mem_append_right _ (List.mem_append_right _ (List.mem_append_right _ (List.mem_append_left _ (List.mem_of_getElem? (l := tables_1_6) (i := 69) rfl)))))))) rfl), ini_11, co_X11_image, by decide +kernel, by decide +kernel, by decide +kernel, by decide⟩, im_X11_image, se_X11_image⟩
set_option maxRecDepth 20000 in
theorem cv_L_172 : CV "CartTurnsLaw" 172 mX12_image 1 := ⟨⟨Or.inl (tblG_in (List.mem_append_right _ (List.mem_append_right _ (List.mem_append_right _ (List.mem_append_right _ (List.mem_append_right _ (List.mem_append_right _ (List.mem_append_right _ (List.mem_append_right _ (List.mem_append_right _ (List.mem_of_getElem? (l := tables_1_9) (i := 102) rfl)))))))))) rfl), ini_12, co_X12_image, by decide +kernel, by decide +kernel, by decide +kernel, by decide⟩, im_X12_image, se_X12_image⟩
set_option maxRecDepth 20000 in
theorem cv_L_173 : CV "CartTurnsLaw" 173 mX11_restore 1 := ⟨⟨Or.inl (tblG_in (List.mem_append_right _ (List.mem_append_right _ (List.mem_append_right _ (List.mem_append_right _ (List.mem_append_right _ (List.mem_append_right _ (List.mem_append_left _ (List.mem_of_getElem? (l := tables_1_6) (i := 73) rfl)))))))) rfl), ini_11, co_X11_restore, by decide +kernel, by decide +kernel, by decide +kernel, by decide⟩, im_X11_restore, se_X11_restore⟩
set_option maxRecDepth 20000 in
theorem cv_L_176 : CV "CartTurnsLaw" 176 mX12_restore 1 := ⟨⟨Or.inl (tblG_in (List.mem_append_right _ (List.mem_append_right _ (List.mem_append_right _ (List.mem_append_right _ (List.mem_append_right _ (List.mem_append_right _ (List.mem_append_right _ (List.mem_append_right _ (List.mem_append_right _ (List.mem_of_getElem? (l := tables_1_9) (i := 106) rfl)))))))))) rfl), ini_12, co_X12_restore, by decide +kernel, by decide +kernel, by decide +kernel, by decide⟩, im_X12_restore, se_X12_restore⟩
set_option maxRecDepth 20000 in
theorem cv_L_177 : CV "CartTurnsLaw" 177 mX11_count 1 := ⟨⟨Or.inl (tblG_in (List.mem_append_right _ (List.mem_append_right _ (List.mem_append_right _ (List.mem_append_right _ (List.mem_append_right _ (List.mem_append_right _ (List.mem_append_left _ (List.mem_of_getElem? (l := tables_1_6) (i := 77) rfl)))))))) rfl), ini_11, co_X11_count, by decide +kernel, by decide +kernel, by decide +kernel, by decide⟩, im_X11_count, se_X11_count⟩
set_option maxRecDepth 20000 in
theorem cv_L_180 : CV "CartTurnsLaw" 180 mX12_count 1 := ⟨⟨Or.inl (tblG_in (List.mem_append_right _ (List.mem_append_right _ (List.mem_append_right _ (List.mem_append_right _ (List.mem_append_right _ (List.mem_append_right _ (List.mem_append_right _ (List.mem_append_right _ (List.mem_append_right _ (List.mem_of_getElem? (l := tables_1_9) (i := 110) rfl)))))))))) rfl), ini_12, co_X12_count, by decide +kernel, by decide +kernel, by decide +kernel, by decide⟩, im_X12_count, se_X12_count⟩
set_option maxRecDepth 20000 in
theorem cv_12_14 : CV RX12 14 mX12_come 1 := ⟨⟨Or.inl (tblG_in (List.mem_append_right _ (List.mem_append_right _ (List.mem_append_right _ (List.mem_append_right _ (List.mem_append_right _ (List.mem_append_right _ (List.mem_append_left _ (List.mem_of_getElem? (l := tables_1_6) (i := 168) rfl)))))))) rfl), ini_12, co_X12_come, by decide +kernel, by decide +kernel, by decide +kernel, by decide⟩, im_X12_come, se_X12_come⟩
set_option maxRecDepth 20000 in
theorem cs_12_33 : CS RX12 33 mX12_isLetter 1 := ⟨⟨Or.inl (tblG_in (List.mem_append_right _ (List.mem_append_right _ (List.mem_append_right _ (List.mem_append_right _ (List.mem_append_right _ (List.mem_append_right _ (List.mem_append_right _ (List.mem_append_left _ (List.mem_of_getElem? (l := tables_1_7) (i := 111) rfl))))))))) rfl), ini_12, co_X12_isLetter, by decide +kernel, by decide +kernel, by decide +kernel, by decide⟩, st_X12_isLetter⟩
set_option maxRecDepth 20000 in
theorem cs_12_37 : CS RX12 37 mX12_isDigit 1 := ⟨⟨Or.inl (tblG_in (List.mem_append_right _ (List.mem_append_right _ (List.mem_append_right _ (List.mem_append_right _ (List.mem_append_right _ (List.mem_append_right _ (List.mem_append_right _ (List.mem_append_left _ (List.mem_of_getElem? (l := tables_1_7) (i := 114) rfl))))))))) rfl), ini_12, co_X12_isDigit, by decide +kernel, by decide +kernel, by decide +kernel, by decide⟩, st_X12_isDigit⟩
set_option maxRecDepth 20000 in
theorem cv_12_50 : CV RX12 50 mX12_tapeAt 1 := ⟨⟨Or.inl (tblG_in (List.mem_append_right _ (List.mem_append_right _ (List.mem_append_right _ (List.mem_append_right _ (List.mem_append_right _ (List.mem_append_right _ (List.mem_append_right _ (List.mem_append_left _ (List.mem_of_getElem? (l := tables_1_7) (i := 117) rfl))))))))) rfl), ini_12, co_X12_tapeAt, by decide +kernel, by decide +kernel, by decide +kernel, by decide⟩, im_X12_tapeAt, se_X12_tapeAt⟩
set_option maxRecDepth 20000 in
theorem cs_12_58 : CS RX12 58 mX12_spelt 7 := ⟨⟨Or.inl (tblG_in (List.mem_append_right _ (List.mem_append_right _ (List.mem_append_right _ (List.mem_append_right _ (List.mem_append_right _ (List.mem_append_right _ (List.mem_append_right _ (List.mem_append_left _ (List.mem_of_getElem? (l := tables_1_7) (i := 134) rfl))))))))) rfl), ini_12, co_X12_spelt, by decide +kernel, by decide +kernel, by decide +kernel, by decide⟩, st_X12_spelt⟩
set_option maxRecDepth 20000 in
theorem cs_12_62 : CS RX12 62 mX12_wordOf 1 := ⟨⟨Or.inl (tblG_in (List.mem_append_right _ (List.mem_append_right _ (List.mem_append_right _ (List.mem_append_right _ (List.mem_append_right _ (List.mem_append_right _ (List.mem_append_right _ (List.mem_append_left _ (List.mem_of_getElem? (l := tables_1_7) (i := 131) rfl))))))))) rfl), ini_12, co_X12_wordOf, by decide +kernel, by decide +kernel, by decide +kernel, by decide⟩, st_X12_wordOf⟩
set_option maxRecDepth 20000 in
theorem cv_12_72 : CV RX12 72 mX12_bad 1 := ⟨⟨Or.inl (tblG_in (List.mem_append_right _ (List.mem_append_right _ (List.mem_append_right _ (List.mem_append_right _ (List.mem_append_right _ (List.mem_append_right _ (List.mem_append_right _ (List.mem_append_left _ (List.mem_of_getElem? (l := tables_1_7) (i := 141) rfl))))))))) rfl), ini_12, co_X12_bad, by decide +kernel, by decide +kernel, by decide +kernel, by decide⟩, im_X12_bad, se_X12_bad⟩
set_option maxRecDepth 20000 in
theorem cs_12_75 : CS RX12 75 mX12_isIn 3 := ⟨⟨Or.inl (tblG_in (List.mem_append_right _ (List.mem_append_right _ (List.mem_append_right _ (List.mem_append_right _ (List.mem_append_right _ (List.mem_append_right _ (List.mem_append_right _ (List.mem_append_left _ (List.mem_of_getElem? (l := tables_1_7) (i := 149) rfl))))))))) rfl), ini_12, co_X12_isIn, by decide +kernel, by decide +kernel, by decide +kernel, by decide⟩, st_X12_isIn⟩
set_option maxRecDepth 20000 in
theorem cv_12_82 : CV RX12 82 mX12_go 0 := ⟨⟨Or.inl (tblG_in (List.mem_append_right _ (List.mem_append_right _ (List.mem_append_right _ (List.mem_append_right _ (List.mem_append_right _ (List.mem_append_right _ (List.mem_append_right _ (List.mem_append_left _ (List.mem_of_getElem? (l := tables_1_7) (i := 107) rfl))))))))) rfl), ini_12, co_X12_go, by decide +kernel, by decide +kernel, by decide +kernel, by decide⟩, im_X12_go, se_X12_go⟩
set_option maxRecDepth 20000 in
theorem cv_12_86 : CV RX12 86 mX12_isSign 1 := ⟨⟨Or.inl (tblG_in (List.mem_append_right _ (List.mem_append_right _ (List.mem_append_right _ (List.mem_append_right _ (List.mem_append_right _ (List.mem_append_right _ (List.mem_append_right _ (List.mem_append_left _ (List.mem_of_getElem? (l := tables_1_7) (i := 199) rfl))))))))) rfl), ini_12, co_X12_isSign, by decide +kernel, by decide +kernel, by decide +kernel, by decide⟩, im_X12_isSign, se_X12_isSign⟩
set_option maxRecDepth 20000 in
theorem cv_12_89 : CV RX12 89 mX12_take 0 := ⟨⟨Or.inl (tblG_in (List.mem_append_right _ (List.mem_append_right _ (List.mem_append_right _ (List.mem_append_right _ (List.mem_append_right _ (List.mem_append_right _ (List.mem_append_right _ (List.mem_append_left _ (List.mem_of_getElem? (l := tables_1_7) (i := 103) rfl))))))))) rfl), ini_12, co_X12_take, by decide +kernel, by decide +kernel, by decide +kernel, by decide⟩, im_X12_take, se_X12_take⟩
set_option maxRecDepth 20000 in
theorem cv_12_160 : CV RX12 160 mX12_startSo 0 := ⟨⟨Or.inl (tblG_in (List.mem_append_right _ (List.mem_append_right _ (List.mem_append_right _ (List.mem_append_right _ (List.mem_append_right _ (List.mem_append_right _ (List.mem_append_left _ (List.mem_of_getElem? (l := tables_1_6) (i := 182) rfl)))))))) rfl), ini_12, co_X12_startSo, by decide +kernel, by decide +kernel, by decide +kernel, by decide⟩, im_X12_startSo, se_X12_startSo⟩
set_option maxRecDepth 20000 in
theorem cv_12_163 : CV RX12 163 mX12_comesUp 1 := ⟨⟨Or.inl (tblG_in (List.mem_append_right _ (List.mem_append_right _ (List.mem_append_right _ (List.mem_append_right _ (List.mem_append_right _ (List.mem_append_right _ (List.mem_append_left _ (List.mem_of_getElem? (l := tables_1_6) (i := 186) rfl)))))))) rfl), ini_12, co_X12_comesUp, by decide +kernel, by decide +kernel, by decide +kernel, by decide⟩, im_X12_comesUp, se_X12_comesUp⟩
set_option maxRecDepth 20000 in
theorem cv_12_166 : CV RX12 166 mX12_isName 0 := ⟨⟨Or.inl (tblG_in (List.mem_append_right _ (List.mem_append_right _ (List.mem_append_right _ (List.mem_append_right _ (List.mem_append_right _ (List.mem_append_right _ (List.mem_append_right _ (List.mem_append_left _ (List.mem_of_getElem? (l := tables_1_7) (i := 180) rfl))))))))) rfl), ini_12, co_X12_isName, by decide +kernel, by decide +kernel, by decide +kernel, by decide⟩, im_X12_isName, se_X12_isName⟩
set_option maxRecDepth 20000 in
theorem cs_12_170 : CS RX12 170 mX12_findIn 4 := ⟨⟨Or.inl (tblG_in (List.mem_append_right _ (List.mem_append_right _ (List.mem_append_right _ (List.mem_append_right _ (List.mem_append_right _ (List.mem_append_right _ (List.mem_append_right _ (List.mem_append_left _ (List.mem_of_getElem? (l := tables_1_7) (i := 184) rfl))))))))) rfl), ini_12, co_X12_findIn, by decide +kernel, by decide +kernel, by decide +kernel, by decide⟩, st_X12_findIn⟩
set_option maxRecDepth 20000 in
theorem cv_12_181 : CV RX12 181 mX12_readNumber 2 := ⟨⟨Or.inl (tblG_in (List.mem_append_right _ (List.mem_append_right _ (List.mem_append_right _ (List.mem_append_right _ (List.mem_append_right _ (List.mem_append_right _ (List.mem_append_right _ (List.mem_append_left _ (List.mem_of_getElem? (l := tables_1_7) (i := 145) rfl))))))))) rfl), ini_12, co_X12_readNumber, by decide +kernel, by decide +kernel, by decide +kernel, by decide⟩, im_X12_readNumber, se_X12_readNumber⟩
set_option maxRecDepth 20000 in
theorem cv_12_185 : CV RX12 185 mX12_put 2 := ⟨⟨Or.inl (tblG_in (List.mem_append_right _ (List.mem_append_right _ (List.mem_append_right _ (List.mem_append_right _ (List.mem_append_right _ (List.mem_append_right _ (List.mem_append_right _ (List.mem_append_left _ (List.mem_of_getElem? (l := tables_1_7) (i := 152) rfl))))))))) rfl), ini_12, co_X12_put, by decide +kernel, by decide +kernel, by decide +kernel, by decide⟩, im_X12_put, se_X12_put⟩
set_option maxRecDepth 20000 in
theorem cv_12_189 : CV RX12 189 mX12_isFilled 1 := ⟨⟨Or.inl (tblG_in (List.mem_append_right _ (List.mem_append_right _ (List.mem_append_right _ (List.mem_append_right _ (List.mem_append_right _ (List.mem_append_right _ (List.mem_append_right _ (List.mem_append_left _ (List.mem_of_getElem? (l := tables_1_7) (i := 164) rfl))))))))) rfl), ini_12, co_X12_isFilled, by decide +kernel, by decide +kernel, by decide +kernel, by decide⟩, im_X12_isFilled, se_X12_isFilled⟩
set_option maxRecDepth 20000 in
theorem cv_12_192 : CV RX12 192 mX12_readCell 1 := ⟨⟨Or.inl (tblG_in (List.mem_append_right _ (List.mem_append_right _ (List.mem_append_right _ (List.mem_append_right _ (List.mem_append_right _ (List.mem_append_right _ (List.mem_append_right _ (List.mem_append_left _ (List.mem_of_getElem? (l := tables_1_7) (i := 160) rfl))))))))) rfl), ini_12, co_X12_readCell, by decide +kernel, by decide +kernel, by decide +kernel, by decide⟩, im_X12_readCell, se_X12_readCell⟩
set_option maxRecDepth 20000 in
theorem cv_12_196 : CV RX12 196 mX12_readFirst 2 := ⟨⟨Or.inl (tblG_in (List.mem_append_right _ (List.mem_append_right _ (List.mem_append_right _ (List.mem_append_right _ (List.mem_append_right _ (List.mem_append_right _ (List.mem_append_right _ (List.mem_append_left _ (List.mem_of_getElem? (l := tables_1_7) (i := 172) rfl))))))))) rfl), ini_12, co_X12_readFirst, by decide +kernel, by decide +kernel, by decide +kernel, by decide⟩, im_X12_readFirst, se_X12_readFirst⟩
set_option maxRecDepth 20000 in
theorem cv_12_199 : CV RX12 199 mX12_readNew 1 := ⟨⟨Or.inl (tblG_in (List.mem_append_right _ (List.mem_append_right _ (List.mem_append_right _ (List.mem_append_right _ (List.mem_append_right _ (List.mem_append_right _ (List.mem_append_right _ (List.mem_append_left _ (List.mem_of_getElem? (l := tables_1_7) (i := 176) rfl))))))))) rfl), ini_12, co_X12_readNew, by decide +kernel, by decide +kernel, by decide +kernel, by decide⟩, im_X12_readNew, se_X12_readNew⟩
set_option maxRecDepth 20000 in
theorem cv_12_202 : CV RX12 202 mX12_isWord 1 := ⟨⟨Or.inl (tblG_in (List.mem_append_right _ (List.mem_append_right _ (List.mem_append_right _ (List.mem_append_right _ (List.mem_append_right _ (List.mem_append_right _ (List.mem_append_right _ (List.mem_append_left _ (List.mem_of_getElem? (l := tables_1_7) (i := 127) rfl))))))))) rfl), ini_12, co_X12_isWord, by decide +kernel, by decide +kernel, by decide +kernel, by decide⟩, im_X12_isWord, se_X12_isWord⟩
set_option maxRecDepth 20000 in
theorem cv_12_205 : CV RX12 205 mX12_readDowns 0 := ⟨⟨Or.inl (tblG_in (List.mem_append_right _ (List.mem_append_right _ (List.mem_append_right _ (List.mem_append_right _ (List.mem_append_right _ (List.mem_append_right _ (List.mem_append_right _ (List.mem_append_left _ (List.mem_of_getElem? (l := tables_1_7) (i := 137) rfl))))))))) rfl), ini_12, co_X12_readDowns, by decide +kernel, by decide +kernel, by decide +kernel, by decide⟩, im_X12_readDowns, se_X12_readDowns⟩
set_option maxRecDepth 20000 in
theorem cv_12_208 : CV RX12 208 mX12_readWall 0 := ⟨⟨Or.inl (tblG_in (List.mem_append_right _ (List.mem_append_right _ (List.mem_append_right _ (List.mem_append_right _ (List.mem_append_right _ (List.mem_append_right _ (List.mem_append_right _ (List.mem_append_left _ (List.mem_of_getElem? (l := tables_1_7) (i := 156) rfl))))))))) rfl), ini_12, co_X12_readWall, by decide +kernel, by decide +kernel, by decide +kernel, by decide⟩, im_X12_readWall, se_X12_readWall⟩
set_option maxRecDepth 20000 in
theorem cv_12_211 : CV RX12 211 mX12_readFigure 0 := ⟨⟨Or.inl (tblG_in (List.mem_append_right _ (List.mem_append_right _ (List.mem_append_right _ (List.mem_append_right _ (List.mem_append_right _ (List.mem_append_right _ (List.mem_append_right _ (List.mem_append_left _ (List.mem_of_getElem? (l := tables_1_7) (i := 168) rfl))))))))) rfl), ini_12, co_X12_readFigure, by decide +kernel, by decide +kernel, by decide +kernel, by decide⟩, im_X12_readFigure, se_X12_readFigure⟩
set_option maxRecDepth 20000 in
theorem cv_12_214 : CV RX12 214 mX12_readPerson 0 := ⟨⟨Or.inl (tblG_in (List.mem_append_right _ (List.mem_append_right _ (List.mem_append_right _ (List.mem_append_right _ (List.mem_append_right _ (List.mem_append_right _ (List.mem_append_right _ (List.mem_append_left _ (List.mem_of_getElem? (l := tables_1_7) (i := 187) rfl))))))))) rfl), ini_12, co_X12_readPerson, by decide +kernel, by decide +kernel, by decide +kernel, by decide⟩, im_X12_readPerson, se_X12_readPerson⟩
set_option maxRecDepth 20000 in
theorem cv_12_217 : CV RX12 217 mX12_readPoint 0 := ⟨⟨Or.inl (tblG_in (List.mem_append_right _ (List.mem_append_right _ (List.mem_append_right _ (List.mem_append_right _ (List.mem_append_right _ (List.mem_append_right _ (List.mem_append_right _ (List.mem_append_left _ (List.mem_of_getElem? (l := tables_1_7) (i := 191) rfl))))))))) rfl), ini_12, co_X12_readPoint, by decide +kernel, by decide +kernel, by decide +kernel, by decide⟩, im_X12_readPoint, se_X12_readPoint⟩
set_option maxRecDepth 20000 in
theorem cv_12_220 : CV RX12 220 mX12_begin 1 := ⟨⟨Or.inl (tblG_in (List.mem_append_right _ (List.mem_append_right _ (List.mem_append_right _ (List.mem_append_right _ (List.mem_append_right _ (List.mem_append_right _ (List.mem_append_right _ (List.mem_append_left _ (List.mem_of_getElem? (l := tables_1_7) (i := 99) rfl))))))))) rfl), ini_12, co_X12_begin, by decide +kernel, by decide +kernel, by decide +kernel, by decide⟩, im_X12_begin, se_X12_begin⟩
set_option maxRecDepth 20000 in
theorem cv_12_223 : CV RX12 223 mX12_readLine 0 := ⟨⟨Or.inl (tblG_in (List.mem_append_right _ (List.mem_append_right _ (List.mem_append_right _ (List.mem_append_right _ (List.mem_append_right _ (List.mem_append_right _ (List.mem_append_right _ (List.mem_append_left _ (List.mem_of_getElem? (l := tables_1_7) (i := 123) rfl))))))))) rfl), ini_12, co_X12_readLine, by decide +kernel, by decide +kernel, by decide +kernel, by decide⟩, im_X12_readLine, se_X12_readLine⟩
set_option maxRecDepth 20000 in
theorem cv_12_226 : CV RX12 226 mX12_readEnd 0 := ⟨⟨Or.inl (tblG_in (List.mem_append_right _ (List.mem_append_right _ (List.mem_append_right _ (List.mem_append_right _ (List.mem_append_right _ (List.mem_append_right _ (List.mem_append_right _ (List.mem_append_left _ (List.mem_of_getElem? (l := tables_1_7) (i := 195) rfl))))))))) rfl), ini_12, co_X12_readEnd, by decide +kernel, by decide +kernel, by decide +kernel, by decide⟩, im_X12_readEnd, se_X12_readEnd⟩
set_option maxRecDepth 20000 in
theorem cv_12_232 : CV RX12 232 mX12_isCell 2 := ⟨⟨Or.inl (tblG_in (List.mem_append_right _ (List.mem_append_right _ (List.mem_append_right _ (List.mem_append_right _ (List.mem_append_right _ (List.mem_append_right _ (List.mem_append_right _ (List.mem_append_right _ (List.mem_append_left _ (List.mem_of_getElem? (l := tables_1_8) (i := 6) rfl)))))))))) rfl), ini_12, co_X12_isCell, by decide +kernel, by decide +kernel, by decide +kernel, by decide⟩, im_X12_isCell, se_X12_isCell⟩
set_option maxRecDepth 20000 in
theorem cv_12_235 : CV RX12 235 mX12_cellOn 3 := ⟨⟨Or.inl (tblG_in (List.mem_append_right _ (List.mem_append_right _ (List.mem_append_right _ (List.mem_append_right _ (List.mem_append_right _ (List.mem_append_right _ (List.mem_append_right _ (List.mem_append_right _ (List.mem_append_left _ (List.mem_of_getElem? (l := tables_1_8) (i := 50) rfl)))))))))) rfl), ini_12, co_X12_cellOn, by decide +kernel, by decide +kernel, by decide +kernel, by decide⟩, im_X12_cellOn, se_X12_cellOn⟩
set_option maxRecDepth 20000 in
theorem cv_12_239 : CV RX12 239 mX12_whoIsAt 1 := ⟨⟨Or.inl (tblG_in (List.mem_append_right _ (List.mem_append_right _ (List.mem_append_right _ (List.mem_append_right _ (List.mem_append_right _ (List.mem_append_right _ (List.mem_append_right _ (List.mem_append_right _ (List.mem_append_left _ (List.mem_of_getElem? (l := tables_1_8) (i := 10) rfl)))))))))) rfl), ini_12, co_X12_whoIsAt, by decide +kernel, by decide +kernel, by decide +kernel, by decide⟩, im_X12_whoIsAt, se_X12_whoIsAt⟩
set_option maxRecDepth 20000 in
theorem cs_12_242 : CS RX12 242 mX12_has 2 := ⟨⟨Or.inl (tblG_in (List.mem_append_right _ (List.mem_append_right _ (List.mem_append_right _ (List.mem_append_right _ (List.mem_append_right _ (List.mem_append_right _ (List.mem_append_right _ (List.mem_append_left _ (List.mem_of_getElem? (l := tables_1_7) (i := 239) rfl))))))))) rfl), ini_12, co_X12_has, by decide +kernel, by decide +kernel, by decide +kernel, by decide⟩, st_X12_has⟩
set_option maxRecDepth 20000 in
theorem cv_12_245 : CV RX12 245 mX12_isPerson 1 := ⟨⟨Or.inl (tblG_in (List.mem_append_right _ (List.mem_append_right _ (List.mem_append_right _ (List.mem_append_right _ (List.mem_append_right _ (List.mem_append_right _ (List.mem_append_right _ (List.mem_append_left _ (List.mem_of_getElem? (l := tables_1_7) (i := 211) rfl))))))))) rfl), ini_12, co_X12_isPerson, by decide +kernel, by decide +kernel, by decide +kernel, by decide⟩, im_X12_isPerson, se_X12_isPerson⟩
set_option maxRecDepth 20000 in
theorem cv_12_248 : CV RX12 248 mX12_refuse 0 := ⟨⟨Or.inl (tblG_in (List.mem_append_right _ (List.mem_append_right _ (List.mem_append_right _ (List.mem_append_right _ (List.mem_append_right _ (List.mem_append_right _ (List.mem_append_right _ (List.mem_append_left _ (List.mem_of_getElem? (l := tables_1_7) (i := 215) rfl))))))))) rfl), ini_12, co_X12_refuse, by decide +kernel, by decide +kernel, by decide +kernel, by decide⟩, im_X12_refuse, se_X12_refuse⟩
set_option maxRecDepth 20000 in
theorem cv_12_251 : CV RX12 251 mX12_isFigure 1 := ⟨⟨Or.inl (tblG_in (List.mem_append_right _ (List.mem_append_right _ (List.mem_append_right _ (List.mem_append_right _ (List.mem_append_right _ (List.mem_append_right _ (List.mem_append_right _ (List.mem_append_left _ (List.mem_of_getElem? (l := tables_1_7) (i := 223) rfl))))))))) rfl), ini_12, co_X12_isFigure, by decide +kernel, by decide +kernel, by decide +kernel, by decide⟩, im_X12_isFigure, se_X12_isFigure⟩
set_option maxRecDepth 20000 in
theorem cv_12_254 : CV RX12 254 mX12_costOf 1 := ⟨⟨Or.inl (tblG_in (List.mem_append_right _ (List.mem_append_right _ (List.mem_append_right _ (List.mem_append_right _ (List.mem_append_right _ (List.mem_append_right _ (List.mem_append_right _ (List.mem_append_left _ (List.mem_of_getElem? (l := tables_1_7) (i := 227) rfl))))))))) rfl), ini_12, co_X12_costOf, by decide +kernel, by decide +kernel, by decide +kernel, by decide⟩, im_X12_costOf, se_X12_costOf⟩
set_option maxRecDepth 20000 in
theorem cv_12_257 : CV RX12 257 mX12_isPoint 1 := ⟨⟨Or.inl (tblG_in (List.mem_append_right _ (List.mem_append_right _ (List.mem_append_right _ (List.mem_append_right _ (List.mem_append_right _ (List.mem_append_right _ (List.mem_append_right _ (List.mem_append_left _ (List.mem_of_getElem? (l := tables_1_7) (i := 235) rfl))))))))) rfl), ini_12, co_X12_isPoint, by decide +kernel, by decide +kernel, by decide +kernel, by decide⟩, im_X12_isPoint, se_X12_isPoint⟩
set_option maxRecDepth 20000 in
theorem cv_12_260 : CV RX12 260 mX12_isSettled 1 := ⟨⟨Or.inl (tblG_in (List.mem_append_right _ (List.mem_append_right _ (List.mem_append_right _ (List.mem_append_right _ (List.mem_append_right _ (List.mem_append_right _ (List.mem_append_right _ (List.mem_append_right _ (List.mem_append_left _ (List.mem_of_getElem? (l := tables_1_8) (i := 26) rfl)))))))))) rfl), ini_12, co_X12_isSettled, by decide +kernel, by decide +kernel, by decide +kernel, by decide⟩, im_X12_isSettled, se_X12_isSettled⟩
set_option maxRecDepth 20000 in
theorem cv_12_263 : CV RX12 263 mX12_sum 2 := ⟨⟨Or.inl (tblG_in (List.mem_append_right _ (List.mem_append_right _ (List.mem_append_right _ (List.mem_append_right _ (List.mem_append_right _ (List.mem_append_right _ (List.mem_append_right _ (List.mem_append_right _ (List.mem_append_left _ (List.mem_of_getElem? (l := tables_1_8) (i := 18) rfl)))))))))) rfl), ini_12, co_X12_sum, by decide +kernel, by decide +kernel, by decide +kernel, by decide⟩, im_X12_sum, se_X12_sum⟩
set_option maxRecDepth 20000 in
theorem cv_12_267 : CV RX12 267 mX12_who 1 := ⟨⟨Or.inl (tblG_in (List.mem_append_right _ (List.mem_append_right _ (List.mem_append_right _ (List.mem_append_right _ (List.mem_append_right _ (List.mem_append_right _ (List.mem_append_right _ (List.mem_append_right _ (List.mem_append_left _ (List.mem_of_getElem? (l := tables_1_8) (i := 22) rfl)))))))))) rfl), ini_12, co_X12_who, by decide +kernel, by decide +kernel, by decide +kernel, by decide⟩, im_X12_who, se_X12_who⟩
set_option maxRecDepth 20000 in
theorem cv_12_270 : CV RX12 270 mX12_onWay 4 := ⟨⟨Or.inl (tblG_in (List.mem_append_right _ (List.mem_append_right _ (List.mem_append_right _ (List.mem_append_right _ (List.mem_append_right _ (List.mem_append_right _ (List.mem_append_right _ (List.mem_append_right _ (List.mem_append_left _ (List.mem_of_getElem? (l := tables_1_8) (i := 46) rfl)))))))))) rfl), ini_12, co_X12_onWay, by decide +kernel, by decide +kernel, by decide +kernel, by decide⟩, im_X12_onWay, se_X12_onWay⟩
set_option maxRecDepth 20000 in
theorem cv_12_274 : CV RX12 274 mX12_whyKick 2 := ⟨⟨Or.inl (tblG_in (List.mem_append_right _ (List.mem_append_right _ (List.mem_append_right _ (List.mem_append_right _ (List.mem_append_right _ (List.mem_append_right _ (List.mem_append_right _ (List.mem_append_right _ (List.mem_append_left _ (List.mem_of_getElem? (l := tables_1_8) (i := 54) rfl)))))))))) rfl), ini_12, co_X12_whyKick, by decide +kernel, by decide +kernel, by decide +kernel, by decide⟩, im_X12_whyKick, se_X12_whyKick⟩
set_option maxRecDepth 20000 in
theorem cv_12_277 : CV RX12 277 mX12_why 4 := ⟨⟨Or.inl (tblG_in (List.mem_append_right _ (List.mem_append_right _ (List.mem_append_right _ (List.mem_append_right _ (List.mem_append_right _ (List.mem_append_right _ (List.mem_append_right _ (List.mem_append_right _ (List.mem_append_left _ (List.mem_of_getElem? (l := tables_1_8) (i := 42) rfl)))))))))) rfl), ini_12, co_X12_why, by decide +kernel, by decide +kernel, by decide +kernel, by decide⟩, im_X12_why, se_X12_why⟩
set_option maxRecDepth 20000 in
theorem cv_12_280 : CV RX12 280 mX12_snap 0 := ⟨⟨Or.inl (tblG_in (List.mem_append_right _ (List.mem_append_right _ (List.mem_append_right _ (List.mem_append_right _ (List.mem_append_right _ (List.mem_append_right _ (List.mem_append_right _ (List.mem_append_right _ (List.mem_append_left _ (List.mem_of_getElem? (l := tables_1_8) (i := 58) rfl)))))))))) rfl), ini_12, co_X12_snap, by decide +kernel, by decide +kernel, by decide +kernel, by decide⟩, im_X12_snap, se_X12_snap⟩
set_option maxRecDepth 20000 in
theorem cv_12_283 : CV RX12 283 mX12_live 4 := ⟨⟨Or.inl (tblG_in (List.mem_append_right _ (List.mem_append_right _ (List.mem_append_right _ (List.mem_append_right _ (List.mem_append_right _ (List.mem_append_right _ (List.mem_append_right _ (List.mem_append_right _ (List.mem_append_left _ (List.mem_of_getElem? (l := tables_1_8) (i := 62) rfl)))))))))) rfl), ini_12, co_X12_live, by decide +kernel, by decide +kernel, by decide +kernel, by decide⟩, im_X12_live, se_X12_live⟩
set_option maxRecDepth 20000 in
theorem cv_12_287 : CV RX12 287 mX12_isSide 1 := ⟨⟨Or.inl (tblG_in (List.mem_append_right _ (List.mem_append_right _ (List.mem_append_right _ (List.mem_append_right _ (List.mem_append_right _ (List.mem_append_right _ (List.mem_append_right _ (List.mem_append_right _ (List.mem_append_left _ (List.mem_of_getElem? (l := tables_1_8) (i := 34) rfl)))))))))) rfl), ini_12, co_X12_isSide, by decide +kernel, by decide +kernel, by decide +kernel, by decide⟩, im_X12_isSide, se_X12_isSide⟩
set_option maxRecDepth 20000 in
theorem cv_12_290 : CV RX12 290 mX12_act 5 := ⟨⟨Or.inl (tblG_in (List.mem_append_right _ (List.mem_append_right _ (List.mem_append_right _ (List.mem_append_right _ (List.mem_append_right _ (List.mem_append_right _ (List.mem_append_right _ (List.mem_append_right _ (List.mem_append_left _ (List.mem_of_getElem? (l := tables_1_8) (i := 38) rfl)))))))))) rfl), ini_12, co_X12_act, by decide +kernel, by decide +kernel, by decide +kernel, by decide⟩, im_X12_act, se_X12_act⟩
set_option maxRecDepth 20000 in
theorem cs_12_294 : CS RX12 294 mX12_lesser 2 := ⟨⟨Or.inl (tblG_in (List.mem_append_right _ (List.mem_append_right _ (List.mem_append_right _ (List.mem_append_right _ (List.mem_append_right _ (List.mem_append_right _ (List.mem_append_right _ (List.mem_append_right _ (List.mem_append_left _ (List.mem_of_getElem? (l := tables_1_8) (i := 86) rfl)))))))))) rfl), ini_12, co_X12_lesser, by decide +kernel, by decide +kernel, by decide +kernel, by decide⟩, st_X12_lesser⟩
set_option maxRecDepth 20000 in
theorem cv_12_297 : CV RX12 297 mX12_oneHour 0 := ⟨⟨Or.inl (tblG_in (List.mem_append_right _ (List.mem_append_right _ (List.mem_append_right _ (List.mem_append_right _ (List.mem_append_right _ (List.mem_append_right _ (List.mem_append_right _ (List.mem_append_right _ (List.mem_append_left _ (List.mem_of_getElem? (l := tables_1_8) (i := 89) rfl)))))))))) rfl), ini_12, co_X12_oneHour, by decide +kernel, by decide +kernel, by decide +kernel, by decide⟩, im_X12_oneHour, se_X12_oneHour⟩
set_option maxRecDepth 20000 in
theorem cv_12_300 : CV RX12 300 mX12_passHours 1 := ⟨⟨Or.inl (tblG_in (List.mem_append_right _ (List.mem_append_right _ (List.mem_append_right _ (List.mem_append_right _ (List.mem_append_right _ (List.mem_append_right _ (List.mem_append_right _ (List.mem_append_right _ (List.mem_append_left _ (List.mem_of_getElem? (l := tables_1_8) (i := 82) rfl)))))))))) rfl), ini_12, co_X12_passHours, by decide +kernel, by decide +kernel, by decide +kernel, by decide⟩, im_X12_passHours, se_X12_passHours⟩
set_option maxRecDepth 20000 in
theorem cv_12_304 : CV RX12 304 mX12_queueUp 3 := ⟨⟨Or.inl (tblG_in (List.mem_append_right _ (List.mem_append_right _ (List.mem_append_right _ (List.mem_append_right _ (List.mem_append_right _ (List.mem_append_right _ (List.mem_append_right _ (List.mem_append_right _ (List.mem_append_left _ (List.mem_of_getElem? (l := tables_1_8) (i := 142) rfl)))))))))) rfl), ini_12, co_X12_queueUp, by decide +kernel, by decide +kernel, by decide +kernel, by decide⟩, im_X12_queueUp, se_X12_queueUp⟩
set_option maxRecDepth 20000 in
theorem cv_12_308 : CV RX12 308 mX12_behind 4 := ⟨⟨Or.inl (tblG_in (List.mem_append_right _ (List.mem_append_right _ (List.mem_append_right _ (List.mem_append_right _ (List.mem_append_right _ (List.mem_append_right _ (List.mem_append_right _ (List.mem_append_right _ (List.mem_append_left _ (List.mem_of_getElem? (l := tables_1_8) (i := 114) rfl)))))))))) rfl), ini_12, co_X12_behind, by decide +kernel, by decide +kernel, by decide +kernel, by decide⟩, im_X12_behind, se_X12_behind⟩
set_option maxRecDepth 20000 in
theorem cv_12_311 : CV RX12 311 mX12_leadsTo 3 := ⟨⟨Or.inl (tblG_in (List.mem_append_right _ (List.mem_append_right _ (List.mem_append_right _ (List.mem_append_right _ (List.mem_append_right _ (List.mem_append_right _ (List.mem_append_right _ (List.mem_append_right _ (List.mem_append_left _ (List.mem_of_getElem? (l := tables_1_8) (i := 110) rfl)))))))))) rfl), ini_12, co_X12_leadsTo, by decide +kernel, by decide +kernel, by decide +kernel, by decide⟩, im_X12_leadsTo, se_X12_leadsTo⟩
set_option maxRecDepth 20000 in
theorem cv_12_314 : CV RX12 314 mX12_goalOf 1 := ⟨⟨Or.inl (tblG_in (List.mem_append_right _ (List.mem_append_right _ (List.mem_append_right _ (List.mem_append_right _ (List.mem_append_right _ (List.mem_append_right _ (List.mem_append_right _ (List.mem_append_right _ (List.mem_append_left _ (List.mem_of_getElem? (l := tables_1_8) (i := 101) rfl)))))))))) rfl), ini_12, co_X12_goalOf, by decide +kernel, by decide +kernel, by decide +kernel, by decide⟩, im_X12_goalOf, se_X12_goalOf⟩
set_option maxRecDepth 20000 in
theorem cv_12_317 : CV RX12 317 mX12_layTo 2 := ⟨⟨Or.inl (tblG_in (List.mem_append_right _ (List.mem_append_right _ (List.mem_append_right _ (List.mem_append_right _ (List.mem_append_right _ (List.mem_append_right _ (List.mem_append_right _ (List.mem_append_right _ (List.mem_append_left _ (List.mem_of_getElem? (l := tables_1_8) (i := 105) rfl)))))))))) rfl), ini_12, co_X12_layTo, by decide +kernel, by decide +kernel, by decide +kernel, by decide⟩, im_X12_layTo, se_X12_layTo⟩
set_option maxRecDepth 20000 in
theorem cv_12_321 : CV RX12 321 mX12_placeOf 1 := ⟨⟨Or.inl (tblG_in (List.mem_append_right _ (List.mem_append_right _ (List.mem_append_right _ (List.mem_append_right _ (List.mem_append_right _ (List.mem_append_right _ (List.mem_append_right _ (List.mem_append_right _ (List.mem_append_left _ (List.mem_of_getElem? (l := tables_1_8) (i := 118) rfl)))))))))) rfl), ini_12, co_X12_placeOf, by decide +kernel, by decide +kernel, by decide +kernel, by decide⟩, im_X12_placeOf, se_X12_placeOf⟩
set_option maxRecDepth 20000 in
theorem cv_12_324 : CV RX12 324 mX12_isShort 4 := ⟨⟨Or.inl (tblG_in (List.mem_append_right _ (List.mem_append_right _ (List.mem_append_right _ (List.mem_append_right _ (List.mem_append_right _ (List.mem_append_right _ (List.mem_append_right _ (List.mem_append_right _ (List.mem_append_left _ (List.mem_of_getElem? (l := tables_1_8) (i := 122) rfl)))))))))) rfl), ini_12, co_X12_isShort, by decide +kernel, by decide +kernel, by decide +kernel, by decide⟩, im_X12_isShort, se_X12_isShort⟩
set_option maxRecDepth 20000 in
theorem cv_12_331 : CV RX12 331 mX12_layFrom 2 := ⟨⟨Or.inl (tblG_in (List.mem_append_right _ (List.mem_append_right _ (List.mem_append_right _ (List.mem_append_right _ (List.mem_append_right _ (List.mem_append_right _ (List.mem_append_right _ (List.mem_append_right _ (List.mem_append_left _ (List.mem_of_getElem? (l := tables_1_8) (i := 138) rfl)))))))))) rfl), ini_12, co_X12_layFrom, by decide +kernel, by decide +kernel, by decide +kernel, by decide⟩, im_X12_layFrom, se_X12_layFrom⟩
set_option maxRecDepth 20000 in
theorem cv_12_334 : CV RX12 334 mX12_acrossBy 1 := ⟨⟨Or.inl (tblG_in (List.mem_append_right _ (List.mem_append_right _ (List.mem_append_right _ (List.mem_append_right _ (List.mem_append_right _ (List.mem_append_right _ (List.mem_append_right _ (List.mem_append_right _ (List.mem_append_left _ (List.mem_of_getElem? (l := tables_1_8) (i := 154) rfl)))))))))) rfl), ini_12, co_X12_acrossBy, by decide +kernel, by decide +kernel, by decide +kernel, by decide⟩, im_X12_acrossBy, se_X12_acrossBy⟩
set_option maxRecDepth 20000 in
theorem cv_12_337 : CV RX12 337 mX12_downBy 1 := ⟨⟨Or.inl (tblG_in (List.mem_append_right _ (List.mem_append_right _ (List.mem_append_right _ (List.mem_append_right _ (List.mem_append_right _ (List.mem_append_right _ (List.mem_append_right _ (List.mem_append_right _ (List.mem_append_left _ (List.mem_of_getElem? (l := tables_1_8) (i := 158) rfl)))))))))) rfl), ini_12, co_X12_downBy, by decide +kernel, by decide +kernel, by decide +kernel, by decide⟩, im_X12_downBy, se_X12_downBy⟩
set_option maxRecDepth 20000 in
theorem cv_12_340 : CV RX12 340 mX12_doesUndo 3 := ⟨⟨Or.inl (tblG_in (List.mem_append_right _ (List.mem_append_right _ (List.mem_append_right _ (List.mem_append_right _ (List.mem_append_right _ (List.mem_append_right _ (List.mem_append_right _ (List.mem_append_right _ (List.mem_append_left _ (List.mem_of_getElem? (l := tables_1_8) (i := 150) rfl)))))))))) rfl), ini_12, co_X12_doesUndo, by decide +kernel, by decide +kernel, by decide +kernel, by decide⟩, im_X12_doesUndo, se_X12_doesUndo⟩
set_option maxRecDepth 20000 in
theorem cv_12_346 : CV RX12 346 mX12_isStep 2 := ⟨⟨Or.inl (tblG_in (List.mem_append_right _ (List.mem_append_right _ (List.mem_append_right _ (List.mem_append_right _ (List.mem_append_right _ (List.mem_append_right _ (List.mem_append_right _ (List.mem_append_right _ (List.mem_append_left _ (List.mem_of_getElem? (l := tables_1_8) (i := 174) rfl)))))))))) rfl), ini_12, co_X12_isStep, by decide +kernel, by decide +kernel, by decide +kernel, by decide⟩, im_X12_isStep, se_X12_isStep⟩
set_option maxRecDepth 20000 in
theorem cv_12_349 : CV RX12 349 mX12_stepsOf 1 := ⟨⟨Or.inl (tblG_in (List.mem_append_right _ (List.mem_append_right _ (List.mem_append_right _ (List.mem_append_right _ (List.mem_append_right _ (List.mem_append_right _ (List.mem_append_right _ (List.mem_append_right _ (List.mem_append_left _ (List.mem_of_getElem? (l := tables_1_8) (i := 170) rfl)))))))))) rfl), ini_12, co_X12_stepsOf, by decide +kernel, by decide +kernel, by decide +kernel, by decide⟩, im_X12_stepsOf, se_X12_stepsOf⟩
set_option maxRecDepth 20000 in
theorem cs_12_355 : CS RX12 355 mX12_common 2 := ⟨⟨Or.inl (tblG_in (List.mem_append_right _ (List.mem_append_right _ (List.mem_append_right _ (List.mem_append_right _ (List.mem_append_right _ (List.mem_append_right _ (List.mem_append_right _ (List.mem_append_right _ (List.mem_append_left _ (List.mem_of_getElem? (l := tables_1_8) (i := 194) rfl)))))))))) rfl), ini_12, co_X12_common, by decide +kernel, by decide +kernel, by decide +kernel, by decide⟩, st_X12_common⟩
set_option maxRecDepth 20000 in
theorem cv_12_361 : CV RX12 361 mX12_writeWord 1 := ⟨⟨Or.inl (tblG_in (List.mem_append_right _ (List.mem_append_right _ (List.mem_append_right _ (List.mem_append_right _ (List.mem_append_right _ (List.mem_append_right _ (List.mem_append_right _ (List.mem_append_right _ (List.mem_append_left _ (List.mem_of_getElem? (l := tables_1_8) (i := 201) rfl)))))))))) rfl), ini_12, co_X12_writeWord, by decide +kernel, by decide +kernel, by decide +kernel, by decide⟩, im_X12_writeWord, se_X12_writeWord⟩
set_option maxRecDepth 20000 in
theorem cv_12_365 : CV RX12 365 mX12_write 1 := ⟨⟨Or.inl (tblG_in (List.mem_append_right _ (List.mem_append_right _ (List.mem_append_right _ (List.mem_append_right _ (List.mem_append_right _ (List.mem_append_right _ (List.mem_append_right _ (List.mem_append_right _ (List.mem_append_left _ (List.mem_of_getElem? (l := tables_1_8) (i := 205) rfl)))))))))) rfl), ini_12, co_X12_write, by decide +kernel, by decide +kernel, by decide +kernel, by decide⟩, im_X12_write, se_X12_write⟩
set_option maxRecDepth 20000 in
theorem cv_12_368 : CV RX12 368 mX12_writeNext 1 := ⟨⟨Or.inl (tblG_in (List.mem_append_right _ (List.mem_append_right _ (List.mem_append_right _ (List.mem_append_right _ (List.mem_append_right _ (List.mem_append_right _ (List.mem_append_right _ (List.mem_append_right _ (List.mem_append_left _ (List.mem_of_getElem? (l := tables_1_8) (i := 209) rfl)))))))))) rfl), ini_12, co_X12_writeNext, by decide +kernel, by decide +kernel, by decide +kernel, by decide⟩, im_X12_writeNext, se_X12_writeNext⟩
set_option maxRecDepth 20000 in
theorem cv_12_371 : CV RX12 371 mX12_writeDigit 1 := ⟨⟨Or.inl (tblG_in (List.mem_append_right _ (List.mem_append_right _ (List.mem_append_right _ (List.mem_append_right _ (List.mem_append_right _ (List.mem_append_right _ (List.mem_append_right _ (List.mem_append_right _ (List.mem_append_left _ (List.mem_of_getElem? (l := tables_1_8) (i := 213) rfl)))))))))) rfl), ini_12, co_X12_writeDigit, by decide +kernel, by decide +kernel, by decide +kernel, by decide⟩, im_X12_writeDigit, se_X12_writeDigit⟩
set_option maxRecDepth 20000 in
theorem cv_12_378 : CV RX12 378 mX12_draw 1 := ⟨⟨Or.inl (tblG_in (List.mem_append_right _ (List.mem_append_right _ (List.mem_append_right _ (List.mem_append_right _ (List.mem_append_right _ (List.mem_append_right _ (List.mem_append_right _ (List.mem_append_right _ (List.mem_append_left _ (List.mem_of_getElem? (l := tables_1_8) (i := 233) rfl)))))))))) rfl), ini_12, co_X12_draw, by decide +kernel, by decide +kernel, by decide +kernel, by decide⟩, im_X12_draw, se_X12_draw⟩
set_option maxRecDepth 20000 in
theorem cv_12_381 : CV RX12 381 mX12_doIf 4 := ⟨⟨Or.inl (tblG_in (List.mem_append_right _ (List.mem_append_right _ (List.mem_append_right _ (List.mem_append_right _ (List.mem_append_right _ (List.mem_append_right _ (List.mem_append_right _ (List.mem_append_right _ (List.mem_append_left _ (List.mem_of_getElem? (l := tables_1_8) (i := 238) rfl)))))))))) rfl), ini_12, co_X12_doIf, by decide +kernel, by decide +kernel, by decide +kernel, by decide⟩, im_X12_doIf, se_X12_doIf⟩
set_option maxRecDepth 20000 in
theorem cv_12_384 : CV RX12 384 mX12_drawsFor 1 := ⟨⟨Or.inl (tblG_in (List.mem_append_right _ (List.mem_append_right _ (List.mem_append_right _ (List.mem_append_right _ (List.mem_append_right _ (List.mem_append_right _ (List.mem_append_right _ (List.mem_append_right _ (List.mem_append_left _ (List.mem_of_getElem? (l := tables_1_8) (i := 229) rfl)))))))))) rfl), ini_12, co_X12_drawsFor, by decide +kernel, by decide +kernel, by decide +kernel, by decide⟩, im_X12_drawsFor, se_X12_drawsFor⟩
set_option maxRecDepth 20000 in
theorem cv_12_387 : CV RX12 387 mX12_drawHours 2 := ⟨⟨Or.inl (tblG_in (List.mem_append_right _ (List.mem_append_right _ (List.mem_append_right _ (List.mem_append_right _ (List.mem_append_right _ (List.mem_append_right _ (List.mem_append_right _ (List.mem_append_right _ (List.mem_append_left _ (List.mem_of_getElem? (l := tables_1_8) (i := 225) rfl)))))))))) rfl), ini_12, co_X12_drawHours, by decide +kernel, by decide +kernel, by decide +kernel, by decide⟩, im_X12_drawHours, se_X12_drawHours⟩
set_option maxRecDepth 20000 in
theorem cv_12_390 : CV RX12 390 mX12_layAside 0 := ⟨⟨Or.inl (tblG_in (List.mem_append_right _ (List.mem_append_right _ (List.mem_append_right _ (List.mem_append_right _ (List.mem_append_right _ (List.mem_append_right _ (List.mem_append_right _ (List.mem_append_right _ (List.mem_append_right _ (List.mem_of_getElem? (l := tables_1_9) (i := 6) rfl)))))))))) rfl), ini_12, co_X12_layAside, by decide +kernel, by decide +kernel, by decide +kernel, by decide⟩, im_X12_layAside, se_X12_layAside⟩
set_option maxRecDepth 20000 in
theorem cv_12_393 : CV RX12 393 mX12_takeBack 0 := ⟨⟨Or.inl (tblG_in (List.mem_append_right _ (List.mem_append_right _ (List.mem_append_right _ (List.mem_append_right _ (List.mem_append_right _ (List.mem_append_right _ (List.mem_append_right _ (List.mem_append_right _ (List.mem_append_right _ (List.mem_of_getElem? (l := tables_1_9) (i := 10) rfl)))))))))) rfl), ini_12, co_X12_takeBack, by decide +kernel, by decide +kernel, by decide +kernel, by decide⟩, im_X12_takeBack, se_X12_takeBack⟩
set_option maxRecDepth 20000 in
theorem cv_12_396 : CV RX12 396 mX12_readNamed 2 := ⟨⟨Or.inl (tblG_in (List.mem_append_right _ (List.mem_append_right _ (List.mem_append_right _ (List.mem_append_right _ (List.mem_append_right _ (List.mem_append_right _ (List.mem_append_right _ (List.mem_append_right _ (List.mem_append_right _ (List.mem_of_getElem? (l := tables_1_9) (i := 30) rfl)))))))))) rfl), ini_12, co_X12_readNamed, by decide +kernel, by decide +kernel, by decide +kernel, by decide⟩, im_X12_readNamed, se_X12_readNamed⟩
set_option maxRecDepth 20000 in
theorem cv_12_399 : CV RX12 399 mX12_keep 2 := ⟨⟨Or.inl (tblG_in (List.mem_append_right _ (List.mem_append_right _ (List.mem_append_right _ (List.mem_append_right _ (List.mem_append_right _ (List.mem_append_right _ (List.mem_append_right _ (List.mem_append_right _ (List.mem_append_right _ (List.mem_of_getElem? (l := tables_1_9) (i := 22) rfl)))))))))) rfl), ini_12, co_X12_keep, by decide +kernel, by decide +kernel, by decide +kernel, by decide⟩, im_X12_keep, se_X12_keep⟩
set_option maxRecDepth 20000 in
theorem cv_12_402 : CV RX12 402 mX12_readSide 0 := ⟨⟨Or.inl (tblG_in (List.mem_append_right _ (List.mem_append_right _ (List.mem_append_right _ (List.mem_append_right _ (List.mem_append_right _ (List.mem_append_right _ (List.mem_append_right _ (List.mem_append_right _ (List.mem_append_right _ (List.mem_of_getElem? (l := tables_1_9) (i := 34) rfl)))))))))) rfl), ini_12, co_X12_readSide, by decide +kernel, by decide +kernel, by decide +kernel, by decide⟩, im_X12_readSide, se_X12_readSide⟩
set_option maxRecDepth 20000 in
theorem cv_12_408 : CV RX12 408 mX12_readDoes 1 := ⟨⟨Or.inl (tblG_in (List.mem_append_right _ (List.mem_append_right _ (List.mem_append_right _ (List.mem_append_right _ (List.mem_append_right _ (List.mem_append_right _ (List.mem_append_right _ (List.mem_append_right _ (List.mem_append_right _ (List.mem_of_getElem? (l := tables_1_9) (i := 26) rfl)))))))))) rfl), ini_12, co_X12_readDoes, by decide +kernel, by decide +kernel, by decide +kernel, by decide⟩, im_X12_readDoes, se_X12_readDoes⟩
set_option maxRecDepth 20000 in
theorem cv_12_411 : CV RX12 411 mX12_readBookLine 0 := ⟨⟨Or.inl (tblG_in (List.mem_append_right _ (List.mem_append_right _ (List.mem_append_right _ (List.mem_append_right _ (List.mem_append_right _ (List.mem_append_right _ (List.mem_append_right _ (List.mem_append_right _ (List.mem_append_right _ (List.mem_of_getElem? (l := tables_1_9) (i := 18) rfl)))))))))) rfl), ini_12, co_X12_readBookLine, by decide +kernel, by decide +kernel, by decide +kernel, by decide⟩, im_X12_readBookLine, se_X12_readBookLine⟩
set_option maxRecDepth 20000 in
theorem cv_12_414 : CV RX12 414 mX12_goBy 1 := ⟨⟨Or.inl (tblG_in (List.mem_append_right _ (List.mem_append_right _ (List.mem_append_right _ (List.mem_append_right _ (List.mem_append_right _ (List.mem_append_right _ (List.mem_append_right _ (List.mem_append_right _ (List.mem_append_right _ (List.mem_of_getElem? (l := tables_1_9) (i := 38) rfl)))))))))) rfl), ini_12, co_X12_goBy, by decide +kernel, by decide +kernel, by decide +kernel, by decide⟩, im_X12_goBy, se_X12_goBy⟩
set_option maxRecDepth 20000 in
theorem cv_12_420 : CV RX12 420 mX12_stay 1 := ⟨⟨Or.inl (tblG_in (List.mem_append_right _ (List.mem_append_right _ (List.mem_append_right _ (List.mem_append_right _ (List.mem_append_right _ (List.mem_append_right _ (List.mem_append_right _ (List.mem_append_right _ (List.mem_append_right _ (List.mem_of_getElem? (l := tables_1_9) (i := 42) rfl)))))))))) rfl), ini_12, co_X12_stay, by decide +kernel, by decide +kernel, by decide +kernel, by decide⟩, im_X12_stay, se_X12_stay⟩
set_option maxRecDepth 20000 in
theorem cv_12_427 : CV RX12 427 mX12_readAnd 0 := ⟨⟨Or.inl (tblG_in (List.mem_append_right _ (List.mem_append_right _ (List.mem_append_right _ (List.mem_append_right _ (List.mem_append_right _ (List.mem_append_right _ (List.mem_append_right _ (List.mem_append_right _ (List.mem_append_right _ (List.mem_of_getElem? (l := tables_1_9) (i := 58) rfl)))))))))) rfl), ini_12, co_X12_readAnd, by decide +kernel, by decide +kernel, by decide +kernel, by decide⟩, im_X12_readAnd, se_X12_readAnd⟩
set_option maxRecDepth 20000 in
theorem cv_12_433 : CV RX12 433 mX12_saysOne 4 := ⟨⟨Or.inl (tblG_in (List.mem_append_right _ (List.mem_append_right _ (List.mem_append_right _ (List.mem_append_right _ (List.mem_append_right _ (List.mem_append_right _ (List.mem_append_right _ (List.mem_append_right _ (List.mem_append_right _ (List.mem_of_getElem? (l := tables_1_9) (i := 74) rfl)))))))))) rfl), ini_12, co_X12_saysOne, by decide +kernel, by decide +kernel, by decide +kernel, by decide⟩, im_X12_saysOne, se_X12_saysOne⟩
set_option maxRecDepth 20000 in
theorem cv_12_436 : CV RX12 436 mX12_readSaid 0 := ⟨⟨Or.inl (tblG_in (List.mem_append_right _ (List.mem_append_right _ (List.mem_append_right _ (List.mem_append_right _ (List.mem_append_right _ (List.mem_append_right _ (List.mem_append_right _ (List.mem_append_right _ (List.mem_append_right _ (List.mem_of_getElem? (l := tables_1_9) (i := 62) rfl)))))))))) rfl), ini_12, co_X12_readSaid, by decide +kernel, by decide +kernel, by decide +kernel, by decide⟩, im_X12_readSaid, se_X12_readSaid⟩
set_option maxRecDepth 20000 in
theorem cv_12_445 : CV RX12 445 mX12_readBracket 0 := ⟨⟨Or.inl (tblG_in (List.mem_append_right _ (List.mem_append_right _ (List.mem_append_right _ (List.mem_append_right _ (List.mem_append_right _ (List.mem_append_right _ (List.mem_append_right _ (List.mem_append_right _ (List.mem_append_right _ (List.mem_of_getElem? (l := tables_1_9) (i := 66) rfl)))))))))) rfl), ini_12, co_X12_readBracket, by decide +kernel, by decide +kernel, by decide +kernel, by decide⟩, im_X12_readBracket, se_X12_readBracket⟩
set_option maxRecDepth 20000 in
theorem cv_12_448 : CV RX12 448 mX12_readNot 0 := ⟨⟨Or.inl (tblG_in (List.mem_append_right _ (List.mem_append_right _ (List.mem_append_right _ (List.mem_append_right _ (List.mem_append_right _ (List.mem_append_right _ (List.mem_append_right _ (List.mem_append_right _ (List.mem_append_right _ (List.mem_of_getElem? (l := tables_1_9) (i := 70) rfl)))))))))) rfl), ini_12, co_X12_readNot, by decide +kernel, by decide +kernel, by decide +kernel, by decide⟩, im_X12_readNot, se_X12_readNot⟩
set_option maxRecDepth 20000 in
theorem cv_12_451 : CV RX12 451 mX12_readOf 1 := ⟨⟨Or.inl (tblG_in (List.mem_append_right _ (List.mem_append_right _ (List.mem_append_right _ (List.mem_append_right _ (List.mem_append_right _ (List.mem_append_right _ (List.mem_append_right _ (List.mem_append_right _ (List.mem_append_right _ (List.mem_of_getElem? (l := tables_1_9) (i := 78) rfl)))))))))) rfl), ini_12, co_X12_readOf, by decide +kernel, by decide +kernel, by decide +kernel, by decide⟩, im_X12_readOf, se_X12_readOf⟩
set_option maxRecDepth 20000 in
theorem cv_12_454 : CV RX12 454 mX12_readCompare 1 := ⟨⟨Or.inl (tblG_in (List.mem_append_right _ (List.mem_append_right _ (List.mem_append_right _ (List.mem_append_right _ (List.mem_append_right _ (List.mem_append_right _ (List.mem_append_right _ (List.mem_append_right _ (List.mem_append_right _ (List.mem_of_getElem? (l := tables_1_9) (i := 86) rfl)))))))))) rfl), ini_12, co_X12_readCompare, by decide +kernel, by decide +kernel, by decide +kernel, by decide⟩, im_X12_readCompare, se_X12_readCompare⟩
set_option maxRecDepth 20000 in
theorem cv_12_457 : CV RX12 457 mX12_readOr 0 := ⟨⟨Or.inl (tblG_in (List.mem_append_right _ (List.mem_append_right _ (List.mem_append_right _ (List.mem_append_right _ (List.mem_append_right _ (List.mem_append_right _ (List.mem_append_right _ (List.mem_append_right _ (List.mem_append_right _ (List.mem_of_getElem? (l := tables_1_9) (i := 54) rfl)))))))))) rfl), ini_12, co_X12_readOr, by decide +kernel, by decide +kernel, by decide +kernel, by decide⟩, im_X12_readOr, se_X12_readOr⟩
set_option maxRecDepth 20000 in
theorem cv_12_460 : CV RX12 460 mX12_readThat 1 := ⟨⟨Or.inl (tblG_in (List.mem_append_right _ (List.mem_append_right _ (List.mem_append_right _ (List.mem_append_right _ (List.mem_append_right _ (List.mem_append_right _ (List.mem_append_right _ (List.mem_append_right _ (List.mem_append_right _ (List.mem_of_getElem? (l := tables_1_9) (i := 82) rfl)))))))))) rfl), ini_12, co_X12_readThat, by decide +kernel, by decide +kernel, by decide +kernel, by decide⟩, im_X12_readThat, se_X12_readThat⟩
set_option maxRecDepth 20000 in
theorem cv_12_463 : CV RX12 463 mX12_holds 2 := ⟨⟨Or.inl (tblG_in (List.mem_append_right _ (List.mem_append_right _ (List.mem_append_right _ (List.mem_append_right _ (List.mem_append_right _ (List.mem_append_right _ (List.mem_append_right _ (List.mem_append_right _ (List.mem_append_right _ (List.mem_of_getElem? (l := tables_1_9) (i := 94) rfl)))))))))) rfl), ini_12, co_X12_holds, by decide +kernel, by decide +kernel, by decide +kernel, by decide⟩, im_X12_holds, se_X12_holds⟩
set_option maxRecDepth 20000 in
theorem cv_12_466 : CV RX12 466 mX12_isBy 2 := ⟨⟨Or.inl (tblG_in (List.mem_append_right _ (List.mem_append_right _ (List.mem_append_right _ (List.mem_append_right _ (List.mem_append_right _ (List.mem_append_right _ (List.mem_append_right _ (List.mem_append_right _ (List.mem_append_right _ (List.mem_of_getElem? (l := tables_1_9) (i := 98) rfl)))))))))) rfl), ini_12, co_X12_isBy, by decide +kernel, by decide +kernel, by decide +kernel, by decide⟩, im_X12_isBy, se_X12_isBy⟩
