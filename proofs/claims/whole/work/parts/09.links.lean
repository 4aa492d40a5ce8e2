set_option maxRecDepth 20000 in
theorem in_X0 : ∀ w ∈ u_ws RX0 TX0 12, w ∈ tblG := u_in (fun k hk => match k, hk with
  | 0, _ => (tblG_in (List.mem_append_right _ (List.mem_append_right _ (List.mem_append_left _ (List.mem_of_getElem? (l := tables_1_2) (i := 177) rfl)))) rfl)
  | 1, _ => (tblG_in (List.mem_append_right _ (List.mem_append_right _ (List.mem_append_left _ (List.mem_of_getElem? (l := tables_1_2) (i := 179) rfl)))) rfl)
  | 2, _ => (tblG_in (List.mem_append_right _ (List.mem_append_right _ (List.mem_append_left _ (List.mem_of_getElem? (l := tables_1_2) (i := 181) rfl)))) rfl)
  | 3, _ => (tblG_in (List.mem_append_right _ (List.mem_append_right _ (List.mem_append_left _ (List.mem_of_getElem? (l := tables_1_2) (i := 183) rfl)))) rfl)
  | 4, _ => (tblG_in (List.mem_append_right _ (List.mem_append_right _ (List.mem_append_left _ (List.mem_of_getElem? (l := tables_1_2) (i := 185) rfl)))) rfl)
  | 5, _ => (tblG_in (List.mem_append_right _ (List.mem_append_right _ (List.mem_append_left _ (List.mem_of_getElem? (l := tables_1_2) (i := 187) rfl)))) rfl)
  | 6, _ => (tblG_in (List.mem_append_right _ (List.mem_append_right _ (List.mem_append_left _ (List.mem_of_getElem? (l := tables_1_2) (i := 189) rfl)))) rfl)
  | 7, _ => (tblG_in (List.mem_append_right _ (List.mem_append_right _ (List.mem_append_left _ (List.mem_of_getElem? (l := tables_1_2) (i := 191) rfl)))) rfl)
  | 8, _ => (tblG_in (List.mem_append_right _ (List.mem_append_right _ (List.mem_append_left _ (List.mem_of_getElem? (l := tables_1_2) (i := 193) rfl)))) rfl)
  | 9, _ => (tblG_in (List.mem_append_right _ (List.mem_append_right _ (List.mem_append_left _ (List.mem_of_getElem? (l := tables_1_2) (i := 195) rfl)))) rfl)
  | 10, _ => (tblG_in (List.mem_append_right _ (List.mem_append_right _ (List.mem_append_left _ (List.mem_of_getElem? (l := tables_1_2) (i := 197) rfl)))) rfl)
  | 11, _ => (tblG_in (List.mem_append_right _ (List.mem_append_right _ (List.mem_append_left _ (List.mem_of_getElem? (l := tables_1_2) (i := 199) rfl)))) rfl)
  | k + 12, h => absurd h (by omega))
set_option maxRecDepth 20000 in
theorem in_X1 : ∀ w ∈ u_ws RX1 TX1 14, w ∈ tblG := u_in (fun k hk => match k, hk with
  | 0, _ => (tblG_in (List.mem_append_right _ (List.mem_append_left _ (List.mem_of_getElem? (l := tables_1_1) (i := 222) rfl))) rfl)
  | 1, _ => (tblG_in (List.mem_append_right _ (List.mem_append_left _ (List.mem_of_getElem? (l := tables_1_1) (i := 224) rfl))) rfl)
  | 2, _ => (tblG_in (List.mem_append_right _ (List.mem_append_left _ (List.mem_of_getElem? (l := tables_1_1) (i := 226) rfl))) rfl)
  | 3, _ => (tblG_in (List.mem_append_right _ (List.mem_append_left _ (List.mem_of_getElem? (l := tables_1_1) (i := 228) rfl))) rfl)
  | 4, _ => (tblG_in (List.mem_append_right _ (List.mem_append_left _ (List.mem_of_getElem? (l := tables_1_1) (i := 230) rfl))) rfl)
  | 5, _ => (tblG_in (List.mem_append_right _ (List.mem_append_left _ (List.mem_of_getElem? (l := tables_1_1) (i := 232) rfl))) rfl)
  | 6, _ => (tblG_in (List.mem_append_right _ (List.mem_append_left _ (List.mem_of_getElem? (l := tables_1_1) (i := 234) rfl))) rfl)
  | 7, _ => (tblG_in (List.mem_append_right _ (List.mem_append_left _ (List.mem_of_getElem? (l := tables_1_1) (i := 236) rfl))) rfl)
  | 8, _ => (tblG_in (List.mem_append_right _ (List.mem_append_left _ (List.mem_of_getElem? (l := tables_1_1) (i := 238) rfl))) rfl)
  | 9, _ => (tblG_in (List.mem_append_right _ (List.mem_append_right _ (List.mem_append_left _ (List.mem_of_getElem? (l := tables_1_2) (i := 0) rfl)))) rfl)
  | 10, _ => (tblG_in (List.mem_append_right _ (List.mem_append_right _ (List.mem_append_left _ (List.mem_of_getElem? (l := tables_1_2) (i := 2) rfl)))) rfl)
  | 11, _ => (tblG_in (List.mem_append_right _ (List.mem_append_right _ (List.mem_append_left _ (List.mem_of_getElem? (l := tables_1_2) (i := 4) rfl)))) rfl)
  | 12, _ => (tblG_in (List.mem_append_right _ (List.mem_append_right _ (List.mem_append_left _ (List.mem_of_getElem? (l := tables_1_2) (i := 6) rfl)))) rfl)
  | 13, _ => (tblG_in (List.mem_append_right _ (List.mem_append_right _ (List.mem_append_left _ (List.mem_of_getElem? (l := tables_1_2) (i := 8) rfl)))) rfl)
  | k + 14, h => absurd h (by omega))
set_option maxRecDepth 20000 in
theorem in_X2 : ∀ w ∈ u_ws RX2 TX2 4, w ∈ tblG := u_in (fun k hk => match k, hk with
  | 0, _ => (tblG_in (List.mem_append_right _ (List.mem_append_right _ (List.mem_append_left _ (List.mem_of_getElem? (l := tables_1_2) (i := 145) rfl)))) rfl)
  | 1, _ => (tblG_in (List.mem_append_right _ (List.mem_append_right _ (List.mem_append_left _ (List.mem_of_getElem? (l := tables_1_2) (i := 147) rfl)))) rfl)
  | 2, _ => (tblG_in (List.mem_append_right _ (List.mem_append_right _ (List.mem_append_left _ (List.mem_of_getElem? (l := tables_1_2) (i := 149) rfl)))) rfl)
  | 3, _ => (tblG_in (List.mem_append_right _ (List.mem_append_right _ (List.mem_append_left _ (List.mem_of_getElem? (l := tables_1_2) (i := 151) rfl)))) rfl)
  | k + 4, h => absurd h (by omega))
set_option maxRecDepth 20000 in
theorem in_X3 : ∀ w ∈ u_ws RX3 TX3 3, w ∈ tblG := u_in (fun k hk => match k, hk with
  | 0, _ => (tblG_in (List.mem_append_right _ (List.mem_append_right _ (List.mem_append_right _ (List.mem_append_left _ (List.mem_of_getElem? (l := tables_1_3) (i := 55) rfl))))) rfl)
  | 1, _ => (tblG_in (List.mem_append_right _ (List.mem_append_right _ (List.mem_append_right _ (List.mem_append_left _ (List.mem_of_getElem? (l := tables_1_3) (i := 57) rfl))))) rfl)
  | 2, _ => (tblG_in (List.mem_append_right _ (List.mem_append_right _ (List.mem_append_right _ (List.mem_append_left _ (List.mem_of_getElem? (l := tables_1_3) (i := 59) rfl))))) rfl)
  | k + 3, h => absurd h (by omega))
set_option maxRecDepth 20000 in
theorem in_X4 : ∀ w ∈ u_ws RX4 TX4 9, w ∈ tblG := u_in (fun k hk => match k, hk with
  | 0, _ => (tblG_in (List.mem_append_right _ (List.mem_append_right _ (List.mem_append_left _ (List.mem_of_getElem? (l := tables_1_2) (i := 222) rfl)))) rfl)
  | 1, _ => (tblG_in (List.mem_append_right _ (List.mem_append_right _ (List.mem_append_left _ (List.mem_of_getElem? (l := tables_1_2) (i := 224) rfl)))) rfl)
  | 2, _ => (tblG_in (List.mem_append_right _ (List.mem_append_right _ (List.mem_append_left _ (List.mem_of_getElem? (l := tables_1_2) (i := 226) rfl)))) rfl)
  | 3, _ => (tblG_in (List.mem_append_right _ (List.mem_append_right _ (List.mem_append_left _ (List.mem_of_getElem? (l := tables_1_2) (i := 228) rfl)))) rfl)
  | 4, _ => (tblG_in (List.mem_append_right _ (List.mem_append_right _ (List.mem_append_left _ (List.mem_of_getElem? (l := tables_1_2) (i := 230) rfl)))) rfl)
  | 5, _ => (tblG_in (List.mem_append_right _ (List.mem_append_right _ (List.mem_append_left _ (List.mem_of_getElem? (l := tables_1_2) (i := 232) rfl)))) rfl)
  | 6, _ => (tblG_in (List.mem_append_right _ (List.mem_append_right _ (List.mem_append_left _ (List.mem_of_getElem? (l := tables_1_2) (i := 234) rfl)))) rfl)
  | 7, _ => (tblG_in (List.mem_append_right _ (List.mem_append_right _ (List.mem_append_left _ (List.mem_of_getElem? (l := tables_1_2) (i := 236) rfl)))) rfl)
  | 8, _ => (tblG_in (List.mem_append_right _ (List.mem_append_right _ (List.mem_append_left _ (List.mem_of_getElem? (l := tables_1_2) (i := 238) rfl)))) rfl)
  | k + 9, h => absurd h (by omega))
set_option maxRecDepth 20000 in
theorem in_X5 : ∀ w ∈ u_ws RX5 TX5 6, w ∈ tblG := u_in (fun k hk => match k, hk with
  | 0, _ => (tblG_in (List.mem_append_right _ (List.mem_append_right _ (List.mem_append_left _ (List.mem_of_getElem? (l := tables_1_2) (i := 94) rfl)))) rfl)
  | 1, _ => (tblG_in (List.mem_append_right _ (List.mem_append_right _ (List.mem_append_left _ (List.mem_of_getElem? (l := tables_1_2) (i := 96) rfl)))) rfl)
  | 2, _ => (tblG_in (List.mem_append_right _ (List.mem_append_right _ (List.mem_append_left _ (List.mem_of_getElem? (l := tables_1_2) (i := 98) rfl)))) rfl)
  | 3, _ => (tblG_in (List.mem_append_right _ (List.mem_append_right _ (List.mem_append_left _ (List.mem_of_getElem? (l := tables_1_2) (i := 100) rfl)))) rfl)
  | 4, _ => (tblG_in (List.mem_append_right _ (List.mem_append_right _ (List.mem_append_left _ (List.mem_of_getElem? (l := tables_1_2) (i := 102) rfl)))) rfl)
  | 5, _ => (tblG_in (List.mem_append_right _ (List.mem_append_right _ (List.mem_append_left _ (List.mem_of_getElem? (l := tables_1_2) (i := 104) rfl)))) rfl)
  | k + 6, h => absurd h (by omega))
set_option maxRecDepth 20000 in
theorem in_X6 : ∀ w ∈ u_ws RX6 TX6 9, w ∈ tblG := u_in (fun k hk => match k, hk with
  | 0, _ => (tblG_in (List.mem_append_right _ (List.mem_append_right _ (List.mem_append_left _ (List.mem_of_getElem? (l := tables_1_2) (i := 62) rfl)))) rfl)
  | 1, _ => (tblG_in (List.mem_append_right _ (List.mem_append_right _ (List.mem_append_left _ (List.mem_of_getElem? (l := tables_1_2) (i := 64) rfl)))) rfl)
  | 2, _ => (tblG_in (List.mem_append_right _ (List.mem_append_right _ (List.mem_append_left _ (List.mem_of_getElem? (l := tables_1_2) (i := 66) rfl)))) rfl)
  | 3, _ => (tblG_in (List.mem_append_right _ (List.mem_append_right _ (List.mem_append_left _ (List.mem_of_getElem? (l := tables_1_2) (i := 68) rfl)))) rfl)
  | 4, _ => (tblG_in (List.mem_append_right _ (List.mem_append_right _ (List.mem_append_left _ (List.mem_of_getElem? (l := tables_1_2) (i := 70) rfl)))) rfl)
  | 5, _ => (tblG_in (List.mem_append_right _ (List.mem_append_right _ (List.mem_append_left _ (List.mem_of_getElem? (l := tables_1_2) (i := 72) rfl)))) rfl)
  | 6, _ => (tblG_in (List.mem_append_right _ (List.mem_append_right _ (List.mem_append_left _ (List.mem_of_getElem? (l := tables_1_2) (i := 74) rfl)))) rfl)
  | 7, _ => (tblG_in (List.mem_append_right _ (List.mem_append_right _ (List.mem_append_left _ (List.mem_of_getElem? (l := tables_1_2) (i := 76) rfl)))) rfl)
  | 8, _ => (tblG_in (List.mem_append_right _ (List.mem_append_right _ (List.mem_append_left _ (List.mem_of_getElem? (l := tables_1_2) (i := 78) rfl)))) rfl)
  | k + 9, h => absurd h (by omega))
set_option maxRecDepth 20000 in
theorem in_X7 : ∀ w ∈ u_ws RX7 TX7 14, w ∈ tblG := u_in (fun k hk => match k, hk with
  | 0, _ => (tblG_in (List.mem_append_right _ (List.mem_append_left _ (List.mem_of_getElem? (l := tables_1_1) (i := 122) rfl))) rfl)
  | 1, _ => (tblG_in (List.mem_append_right _ (List.mem_append_left _ (List.mem_of_getElem? (l := tables_1_1) (i := 124) rfl))) rfl)
  | 2, _ => (tblG_in (List.mem_append_right _ (List.mem_append_left _ (List.mem_of_getElem? (l := tables_1_1) (i := 126) rfl))) rfl)
  | 3, _ => (tblG_in (List.mem_append_right _ (List.mem_append_left _ (List.mem_of_getElem? (l := tables_1_1) (i := 128) rfl))) rfl)
  | 4, _ => (tblG_in (List.mem_append_right _ (List.mem_append_left _ (List.mem_of_getElem? (l := tables_1_1) (i := 130) rfl))) rfl)
  | 5, _ => (tblG_in (List.mem_append_right _ (List.mem_append_left _ (List.mem_of_getElem? (l := tables_1_1) (i := 132) rfl))) rfl)
  | 6, _ => (tblG_in (List.mem_append_right _ (List.mem_append_left _ (List.mem_of_getElem? (l := tables_1_1) (i := 134) rfl))) rfl)
  | 7, _ => (tblG_in (List.mem_append_right _ (List.mem_append_left _ (List.mem_of_getElem? (l := tables_1_1) (i := 136) rfl))) rfl)
  | 8, _ => (tblG_in (List.mem_append_right _ (List.mem_append_left _ (List.mem_of_getElem? (l := tables_1_1) (i := 138) rfl))) rfl)
  | 9, _ => (tblG_in (List.mem_append_right _ (List.mem_append_left _ (List.mem_of_getElem? (l := tables_1_1) (i := 140) rfl))) rfl)
  | 10, _ => (tblG_in (List.mem_append_right _ (List.mem_append_left _ (List.mem_of_getElem? (l := tables_1_1) (i := 142) rfl))) rfl)
  | 11, _ => (tblG_in (List.mem_append_right _ (List.mem_append_left _ (List.mem_of_getElem? (l := tables_1_1) (i := 144) rfl))) rfl)
  | 12, _ => (tblG_in (List.mem_append_right _ (List.mem_append_left _ (List.mem_of_getElem? (l := tables_1_1) (i := 146) rfl))) rfl)
  | 13, _ => (tblG_in (List.mem_append_right _ (List.mem_append_left _ (List.mem_of_getElem? (l := tables_1_1) (i := 148) rfl))) rfl)
  | k + 14, h => absurd h (by omega))
set_option maxRecDepth 20000 in
theorem in_X8 : ∀ w ∈ u_ws RX8 TX8 5, w ∈ tblG := u_in (fun k hk => match k, hk with
  | 0, _ => (tblG_in (List.mem_append_right _ (List.mem_append_right _ (List.mem_append_right _ (List.mem_append_left _ (List.mem_of_getElem? (l := tables_1_3) (i := 32) rfl))))) rfl)
  | 1, _ => (tblG_in (List.mem_append_right _ (List.mem_append_right _ (List.mem_append_right _ (List.mem_append_left _ (List.mem_of_getElem? (l := tables_1_3) (i := 34) rfl))))) rfl)
  | 2, _ => (tblG_in (List.mem_append_right _ (List.mem_append_right _ (List.mem_append_right _ (List.mem_append_left _ (List.mem_of_getElem? (l := tables_1_3) (i := 36) rfl))))) rfl)
  | 3, _ => (tblG_in (List.mem_append_right _ (List.mem_append_right _ (List.mem_append_right _ (List.mem_append_left _ (List.mem_of_getElem? (l := tables_1_3) (i := 38) rfl))))) rfl)
  | 4, _ => (tblG_in (List.mem_append_right _ (List.mem_append_right _ (List.mem_append_right _ (List.mem_append_left _ (List.mem_of_getElem? (l := tables_1_3) (i := 40) rfl))))) rfl)
  | k + 5, h => absurd h (by omega))
set_option maxRecDepth 20000 in
theorem in_X9 : ∀ w ∈ u_ws RX9 TX9 3, w ∈ tblG := u_in (fun k hk => match k, hk with
  | 0, _ => (tblG_in (List.mem_append_right _ (List.mem_append_right _ (List.mem_append_right _ (List.mem_append_left _ (List.mem_of_getElem? (l := tables_1_3) (i := 12) rfl))))) rfl)
  | 1, _ => (tblG_in (List.mem_append_right _ (List.mem_append_right _ (List.mem_append_right _ (List.mem_append_left _ (List.mem_of_getElem? (l := tables_1_3) (i := 14) rfl))))) rfl)
  | 2, _ => (tblG_in (List.mem_append_right _ (List.mem_append_right _ (List.mem_append_right _ (List.mem_append_left _ (List.mem_of_getElem? (l := tables_1_3) (i := 16) rfl))))) rfl)
  | k + 3, h => absurd h (by omega))
set_option maxRecDepth 20000 in
theorem in_X10 : ∀ w ∈ u_ws RX10 TX10 4, w ∈ tblG := u_in (fun k hk => match k, hk with
  | 0, _ => (tblG_in (List.mem_append_right _ (List.mem_append_right _ (List.mem_append_left _ (List.mem_of_getElem? (l := tables_1_2) (i := 121) rfl)))) rfl)
  | 1, _ => (tblG_in (List.mem_append_right _ (List.mem_append_right _ (List.mem_append_left _ (List.mem_of_getElem? (l := tables_1_2) (i := 123) rfl)))) rfl)
  | 2, _ => (tblG_in (List.mem_append_right _ (List.mem_append_right _ (List.mem_append_left _ (List.mem_of_getElem? (l := tables_1_2) (i := 125) rfl)))) rfl)
  | 3, _ => (tblG_in (List.mem_append_right _ (List.mem_append_right _ (List.mem_append_left _ (List.mem_of_getElem? (l := tables_1_2) (i := 127) rfl)))) rfl)
  | k + 4, h => absurd h (by omega))
set_option maxRecDepth 20000 in
theorem in_X11 : ∀ w ∈ u_ws RX11 TX11 14, w ∈ tblG := u_in (fun k hk => match k, hk with
  | 0, _ => (tblG_in (List.mem_append_right _ (List.mem_append_right _ (List.mem_append_right _ (List.mem_append_left _ (List.mem_of_getElem? (l := tables_1_3) (i := 77) rfl))))) rfl)
  | 1, _ => (tblG_in (List.mem_append_right _ (List.mem_append_right _ (List.mem_append_right _ (List.mem_append_left _ (List.mem_of_getElem? (l := tables_1_3) (i := 79) rfl))))) rfl)
  | 2, _ => (tblG_in (List.mem_append_right _ (List.mem_append_right _ (List.mem_append_right _ (List.mem_append_left _ (List.mem_of_getElem? (l := tables_1_3) (i := 81) rfl))))) rfl)
  | 3, _ => (tblG_in (List.mem_append_right _ (List.mem_append_right _ (List.mem_append_right _ (List.mem_append_left _ (List.mem_of_getElem? (l := tables_1_3) (i := 83) rfl))))) rfl)
  | 4, _ => (tblG_in (List.mem_append_right _ (List.mem_append_right _ (List.mem_append_right _ (List.mem_append_left _ (List.mem_of_getElem? (l := tables_1_3) (i := 85) rfl))))) rfl)
  | 5, _ => (tblG_in (List.mem_append_right _ (List.mem_append_right _ (List.mem_append_right _ (List.mem_append_left _ (List.mem_of_getElem? (l := tables_1_3) (i := 87) rfl))))) rfl)
  | 6, _ => (tblG_in (List.mem_append_right _ (List.mem_append_right _ (List.mem_append_right _ (List.mem_append_left _ (List.mem_of_getElem? (l := tables_1_3) (i := 89) rfl))))) rfl)
  | 7, _ => (tblG_in (List.mem_append_right _ (List.mem_append_right _ (List.mem_append_right _ (List.mem_append_left _ (List.mem_of_getElem? (l := tables_1_3) (i := 91) rfl))))) rfl)
  | 8, _ => (tblG_in (List.mem_append_right _ (List.mem_append_right _ (List.mem_append_right _ (List.mem_append_left _ (List.mem_of_getElem? (l := tables_1_3) (i := 93) rfl))))) rfl)
  | 9, _ => (tblG_in (List.mem_append_right _ (List.mem_append_right _ (List.mem_append_right _ (List.mem_append_left _ (List.mem_of_getElem? (l := tables_1_3) (i := 95) rfl))))) rfl)
  | 10, _ => (tblG_in (List.mem_append_right _ (List.mem_append_right _ (List.mem_append_right _ (List.mem_append_left _ (List.mem_of_getElem? (l := tables_1_3) (i := 97) rfl))))) rfl)
  | 11, _ => (tblG_in (List.mem_append_right _ (List.mem_append_right _ (List.mem_append_right _ (List.mem_append_left _ (List.mem_of_getElem? (l := tables_1_3) (i := 99) rfl))))) rfl)
  | 12, _ => (tblG_in (List.mem_append_right _ (List.mem_append_right _ (List.mem_append_right _ (List.mem_append_left _ (List.mem_of_getElem? (l := tables_1_3) (i := 101) rfl))))) rfl)
  | 13, _ => (tblG_in (List.mem_append_right _ (List.mem_append_right _ (List.mem_append_right _ (List.mem_append_left _ (List.mem_of_getElem? (l := tables_1_3) (i := 103) rfl))))) rfl)
  | k + 14, h => absurd h (by omega))
set_option maxRecDepth 20000 in
theorem in_X12 : ∀ w ∈ u_ws RX12 TX12 48, w ∈ tblG := u_in (fun k hk => match k, hk with
  | 0, _ => (tblG_in (List.mem_append_right _ (List.mem_append_right _ (List.mem_append_right _ (List.mem_append_right _ (List.mem_append_right _ (List.mem_append_right _ (List.mem_append_left _ (List.mem_of_getElem? (l := tables_1_6) (i := 238) rfl)))))))) rfl)
  | 1, _ => (tblG_in (List.mem_append_right _ (List.mem_append_right _ (List.mem_append_right _ (List.mem_append_right _ (List.mem_append_right _ (List.mem_append_right _ (List.mem_append_right _ (List.mem_append_left _ (List.mem_of_getElem? (l := tables_1_7) (i := 0) rfl))))))))) rfl)
  | 2, _ => (tblG_in (List.mem_append_right _ (List.mem_append_right _ (List.mem_append_right _ (List.mem_append_right _ (List.mem_append_right _ (List.mem_append_right _ (List.mem_append_right _ (List.mem_append_left _ (List.mem_of_getElem? (l := tables_1_7) (i := 2) rfl))))))))) rfl)
  | 3, _ => (tblG_in (List.mem_append_right _ (List.mem_append_right _ (List.mem_append_right _ (List.mem_append_right _ (List.mem_append_right _ (List.mem_append_right _ (List.mem_append_right _ (List.mem_append_left _ (List.mem_of_getElem? (l := tables_1_7) (i := 4) rfl))))))))) rfl)
  | 4, _ => (tblG_in (List.mem_append_right _ (List.mem_append_right _ (List.mem_append_right _ (List.mem_append_right _ (List.mem_append_right _ (List.mem_append_right _ (List.mem_append_right _ (List.mem_append_left _ (List.mem_of_getElem? (l := tables_1_7) (i := 6) rfl))))))))) rfl)
  | 5, _ => (tblG_in (List.mem_append_right _ (List.mem_append_right _ (List.mem_append_right _ (List.mem_append_right _ (List.mem_append_right _ (List.mem_append_right _ (List.mem_append_right _ (List.mem_append_left _ (List.mem_of_getElem? (l := tables_1_7) (i := 8) rfl))))))))) rfl)
  | 6, _ => (tblG_in (List.mem_append_right _ (List.mem_append_right _ (List.mem_append_right _ (List.mem_append_right _ (List.mem_append_right _ (List.mem_append_right _ (List.mem_append_right _ (List.mem_append_left _ (List.mem_of_getElem? (l := tables_1_7) (i := 10) rfl))))))))) rfl)
  | 7, _ => (tblG_in (List.mem_append_right _ (List.mem_append_right _ (List.mem_append_right _ (List.mem_append_right _ (List.mem_append_right _ (List.mem_append_right _ (List.mem_append_right _ (List.mem_append_left _ (List.mem_of_getElem? (l := tables_1_7) (i := 12) rfl))))))))) rfl)
  | 8, _ => (tblG_in (List.mem_append_right _ (List.mem_append_right _ (List.mem_append_right _ (List.mem_append_right _ (List.mem_append_right _ (List.mem_append_right _ (List.mem_append_right _ (List.mem_append_left _ (List.mem_of_getElem? (l := tables_1_7) (i := 14) rfl))))))))) rfl)
  | 9, _ => (tblG_in (List.mem_append_right _ (List.mem_append_right _ (List.mem_append_right _ (List.mem_append_right _ (List.mem_append_right _ (List.mem_append_right _ (List.mem_append_right _ (List.mem_append_left _ (List.mem_of_getElem? (l := tables_1_7) (i := 16) rfl))))))))) rfl)
  | 10, _ => (tblG_in (List.mem_append_right _ (List.mem_append_right _ (List.mem_append_right _ (List.mem_append_right _ (List.mem_append_right _ (List.mem_append_right _ (List.mem_append_right _ (List.mem_append_left _ (List.mem_of_getElem? (l := tables_1_7) (i := 18) rfl))))))))) rfl)
  | 11, _ => (tblG_in (List.mem_append_right _ (List.mem_append_right _ (List.mem_append_right _ (List.mem_append_right _ (List.mem_append_right _ (List.mem_append_right _ (List.mem_append_right _ (List.mem_append_left _ (List.mem_of_getElem? (l := tables_1_7) (i := 20) rfl))))))))) rfl)
  | 12, _ => (tblG_in (List.mem_append_right _ (List.mem_append_right _ (List.mem_append_right _ (List.mem_append_right _ (List.mem_append_right _ (List.mem_append_right _ (List.mem_append_right _ (List.mem_append_left _ (List.mem_of_getElem? (l := tables_1_7) (i := 22) rfl))))))))) rfl)
  | 13, _ => (tblG_in (List.mem_append_right _ (List.mem_append_right _ (List.mem_append_right _ (List.mem_append_right _ (List.mem_append_right _ (List.mem_append_right _ (List.mem_append_right _ (List.mem_append_left _ (List.mem_of_getElem? (l := tables_1_7) (i := 24) rfl))))))))) rfl)
  | 14, _ => (tblG_in (List.mem_append_right _ (List.mem_append_right _ (List.mem_append_right _ (List.mem_append_right _ (List.mem_append_right _ (List.mem_append_right _ (List.mem_append_right _ (List.mem_append_left _ (List.mem_of_getElem? (l := tables_1_7) (i := 26) rfl))))))))) rfl)
  | 15, _ => (tblG_in (List.mem_append_right _ (List.mem_append_right _ (List.mem_append_right _ (List.mem_append_right _ (List.mem_append_right _ (List.mem_append_right _ (List.mem_append_right _ (List.mem_append_left _ (List.mem_of_getElem? (l := tables_1_7) (i := 28) rfl))))))))) rfl)
  | 16, _ => (tblG_in (List.mem_append_right _ (List.mem_append_right _ (List.mem_append_right _ (List.mem_append_right _ (List.mem_append_right _ (List.mem_append_right _ (List.mem_append_right _ (List.mem_append_left _ (List.mem_of_getElem? (l := tables_1_7) (i := 30) rfl))))))))) rfl)
  | 17, _ => (tblG_in (List.mem_append_right _ (List.mem_append_right _ (List.mem_append_right _ (List.mem_append_right _ (List.mem_append_right _ (List.mem_append_right _ (List.mem_append_right _ (List.mem_append_left _ (List.mem_of_getElem? (l := tables_1_7) (i := 32) rfl))))))))) rfl)
  | 18, _ => (tblG_in (List.mem_append_right _ (List.mem_append_right _ (List.mem_append_right _ (List.mem_append_right _ (List.mem_append_right _ (List.mem_append_right _ (List.mem_append_right _ (List.mem_append_left _ (List.mem_of_getElem? (l := tables_1_7) (i := 34) rfl))))))))) rfl)
  | 19, _ => (tblG_in (List.mem_append_right _ (List.mem_append_right _ (List.mem_append_right _ (List.mem_append_right _ (List.mem_append_right _ (List.mem_append_right _ (List.mem_append_right _ (List.mem_append_left _ (List.mem_of_getElem? (l := tables_1_7) (i := 36) rfl))))))))) rfl)
  | 20, _ => (tblG_in (List.mem_append_right _ (List.mem_append_right _ (List.mem_append_right _ (List.mem_append_right _ (List.mem_append_right _ (List.mem_append_right _ (List.mem_append_right _ (List.mem_append_left _ (List.mem_of_getElem? (l := tables_1_7) (i := 38) rfl))))))))) rfl)
  | 21, _ => (tblG_in (List.mem_append_right _ (List.mem_append_right _ (List.mem_append_right _ (List.mem_append_right _ (List.mem_append_right _ (List.mem_append_right _ (List.mem_append_right _ (List.mem_append_left _ (List.mem_of_getElem? (l := tables_1_7) (i := 40) rfl))))))))) rfl)
  | 22, _ => (tblG_in (List.mem_append_right _ (List.mem_append_right _ (List.mem_append_right _ (List.mem_append_right _ (List.mem_append_right _ (List.mem_append_right _ (List.mem_append_right _ (List.mem_append_left _ (List.mem_of_getElem? (l := tables_1_7) (i := 42) rfl))))))))) rfl)
  | 23, _ => (tblG_in (List.mem_append_right _ (List.mem_append_right _ (List.mem_append_right _ (List.mem_append_right _ (List.mem_append_right _ (List.mem_append_right _ (List.mem_append_right _ (List.mem_append_left _ (List.mem_of_getElem? (l := tables_1_7) (i := 44) rfl))))))))) rfl)
  | 24, _ => (tblG_in (List.mem_append_right _ (List.mem_append_right _ (List.mem_append_right _ (List.mem_append_right _ (List.mem_append_right _ (List.mem_append_right _ (List.mem_append_right _ (List.mem_append_left _ (List.mem_of_getElem? (l := tables_1_7) (i := 46) rfl))))))))) rfl)
  | 25, _ => (tblG_in (List.mem_append_right _ (List.mem_append_right _ (List.mem_append_right _ (List.mem_append_right _ (List.mem_append_right _ (List.mem_append_right _ (List.mem_append_right _ (List.mem_append_left _ (List.mem_of_getElem? (l := tables_1_7) (i := 48) rfl))))))))) rfl)
  | 26, _ => (tblG_in (List.mem_append_right _ (List.mem_append_right _ (List.mem_append_right _ (List.mem_append_right _ (List.mem_append_right _ (List.mem_append_right _ (List.mem_append_right _ (List.mem_append_left _ (List.mem_of_getElem? (l := tables_1_7) (i := 50) rfl))))))))) rfl)
  | 27, _ => (tblG_in (List.mem_append_right _ (List.mem_append_right _ (List.mem_append_right _ (List.mem_append_right _ (List.mem_append_right _ (List.mem_append_right _ (List.mem_append_right _ (List.mem_append_left _ (List.mem_of_getElem? (l := tables_1_7) (i := 52) rfl))))))))) rfl)
  | 28, _ => (tblG_in (List.mem_append_right _ (List.mem_append_right _ (List.mem_append_right _ (List.mem_append_right _ (List.mem_append_right _ (List.mem_append_right _ (List.mem_append_right _ (List.mem_append_left _ (List.mem_of_getElem? (l := tables_1_7) (i := 54) rfl))))))))) rfl)
  | 29, _ => (tblG_in (List.mem_append_right _ (List.mem_append_right _ (List.mem_append_right _ (List.mem_append_right _ (List.mem_append_right _ (List.mem_append_right _ (List.mem_append_right _ (List.mem_append_left _ (List.mem_of_getElem? (l := tables_1_7) (i := 56) rfl))))))))) rfl)
  | 30, _ => (tblG_in (List.mem_append_right _ (List.mem_append_right _ (List.mem_append_right _ (List.mem_append_right _ (List.mem_append_right _ (List.mem_append_right _ (List.mem_append_right _ (List.mem_append_left _ (List.mem_of_getElem? (l := tables_1_7) (i := 58) rfl))))))))) rfl)
  | 31, _ => (tblG_in (List.mem_append_right _ (List.mem_append_right _ (List.mem_append_right _ (List.mem_append_right _ (List.mem_append_right _ (List.mem_append_right _ (List.mem_append_right _ (List.mem_append_left _ (List.mem_of_getElem? (l := tables_1_7) (i := 60) rfl))))))))) rfl)
  | 32, _ => (tblG_in (List.mem_append_right _ (List.mem_append_right _ (List.mem_append_right _ (List.mem_append_right _ (List.mem_append_right _ (List.mem_append_right _ (List.mem_append_right _ (List.mem_append_left _ (List.mem_of_getElem? (l := tables_1_7) (i := 62) rfl))))))))) rfl)
  | 33, _ => (tblG_in (List.mem_append_right _ (List.mem_append_right _ (List.mem_append_right _ (List.mem_append_right _ (List.mem_append_right _ (List.mem_append_right _ (List.mem_append_right _ (List.mem_append_left _ (List.mem_of_getElem? (l := tables_1_7) (i := 64) rfl))))))))) rfl)
  | 34, _ => (tblG_in (List.mem_append_right _ (List.mem_append_right _ (List.mem_append_right _ (List.mem_append_right _ (List.mem_append_right _ (List.mem_append_right _ (List.mem_append_right _ (List.mem_append_left _ (List.mem_of_getElem? (l := tables_1_7) (i := 66) rfl))))))))) rfl)
  | 35, _ => (tblG_in (List.mem_append_right _ (List.mem_append_right _ (List.mem_append_right _ (List.mem_append_right _ (List.mem_append_right _ (List.mem_append_right _ (List.mem_append_right _ (List.mem_append_left _ (List.mem_of_getElem? (l := tables_1_7) (i := 68) rfl))))))))) rfl)
  | 36, _ => (tblG_in (List.mem_append_right _ (List.mem_append_right _ (List.mem_append_right _ (List.mem_append_right _ (List.mem_append_right _ (List.mem_append_right _ (List.mem_append_right _ (List.mem_append_left _ (List.mem_of_getElem? (l := tables_1_7) (i := 70) rfl))))))))) rfl)
  | 37, _ => (tblG_in (List.mem_append_right _ (List.mem_append_right _ (List.mem_append_right _ (List.mem_append_right _ (List.mem_append_right _ (List.mem_append_right _ (List.mem_append_right _ (List.mem_append_left _ (List.mem_of_getElem? (l := tables_1_7) (i := 72) rfl))))))))) rfl)
  | 38, _ => (tblG_in (List.mem_append_right _ (List.mem_append_right _ (List.mem_append_right _ (List.mem_append_right _ (List.mem_append_right _ (List.mem_append_right _ (List.mem_append_right _ (List.mem_append_left _ (List.mem_of_getElem? (l := tables_1_7) (i := 74) rfl))))))))) rfl)
  | 39, _ => (tblG_in (List.mem_append_right _ (List.mem_append_right _ (List.mem_append_right _ (List.mem_append_right _ (List.mem_append_right _ (List.mem_append_right _ (List.mem_append_right _ (List.mem_append_left _ (List.mem_of_getElem? (l := tables_1_7) (i := 76) rfl))))))))) rfl)
  | 40, _ => (tblG_in (List.mem_append_right _ (List.mem_append_right _ (List.mem_append_right _ (List.mem_append_right _ (List.mem_append_right _ (List.mem_append_right _ (List.mem_append_right _ (List.mem_append_left _ (List.mem_of_getElem? (l := tables_1_7) (i := 78) rfl))))))))) rfl)
  | 41, _ => (tblG_in (List.mem_append_right _ (List.mem_append_right _ (List.mem_append_right _ (List.mem_append_right _ (List.mem_append_right _ (List.mem_append_right _ (List.mem_append_right _ (List.mem_append_left _ (List.mem_of_getElem? (l := tables_1_7) (i := 80) rfl))))))))) rfl)
  | 42, _ => (tblG_in (List.mem_append_right _ (List.mem_append_right _ (List.mem_append_right _ (List.mem_append_right _ (List.mem_append_right _ (List.mem_append_right _ (List.mem_append_right _ (List.mem_append_left _ (List.mem_of_getElem? (l := tables_1_7) (i := 82) rfl))))))))) rfl)
  | 43, _ => (tblG_in (List.mem_append_right _ (List.mem_append_right _ (List.mem_append_right _ (List.mem_append_right _ (List.mem_append_right _ (List.mem_append_right _ (List.mem_append_right _ (List.mem_append_left _ (List.mem_of_getElem? (l := tables_1_7) (i := 84) rfl))))))))) rfl)
  | 44, _ => (tblG_in (List.mem_append_right _ (List.mem_append_right _ (List.mem_append_right _ (List.mem_append_right _ (List.mem_append_right _ (List.mem_append_right _ (List.mem_append_right _ (List.mem_append_left _ (List.mem_of_getElem? (l := tables_1_7) (i := 86) rfl))))))))) rfl)
  | 45, _ => (tblG_in (List.mem_append_right _ (List.mem_append_right _ (List.mem_append_right _ (List.mem_append_right _ (List.mem_append_right _ (List.mem_append_right _ (List.mem_append_right _ (List.mem_append_left _ (List.mem_of_getElem? (l := tables_1_7) (i := 88) rfl))))))))) rfl)
  | 46, _ => (tblG_in (List.mem_append_right _ (List.mem_append_right _ (List.mem_append_right _ (List.mem_append_right _ (List.mem_append_right _ (List.mem_append_right _ (List.mem_append_right _ (List.mem_append_left _ (List.mem_of_getElem? (l := tables_1_7) (i := 90) rfl))))))))) rfl)
  | 47, _ => (tblG_in (List.mem_append_right _ (List.mem_append_right _ (List.mem_append_right _ (List.mem_append_right _ (List.mem_append_right _ (List.mem_append_right _ (List.mem_append_right _ (List.mem_append_left _ (List.mem_of_getElem? (l := tables_1_7) (i := 92) rfl))))))))) rfl)
  | k + 48, h => absurd h (by omega))
set_option maxRecDepth 20000 in
theorem fl_11_12 : FL RX11 12 11 0 := ⟨RX11, TX11, 14, rfl, by decide, in_X11, tyX11_ok, nmX11, Or.inl (tblG_in (List.mem_append_right _ (List.mem_append_right _ (List.mem_append_right _ (List.mem_append_left _ (List.mem_of_getElem? (l := tables_1_3) (i := 63) rfl))))) rfl)⟩
set_option maxRecDepth 20000 in
theorem fl_11_24 : FL RX11 24 11 1 := ⟨RX11, TX11, 14, rfl, by decide, in_X11, tyX11_ok, nmX11, Or.inl (tblG_in (List.mem_append_right _ (List.mem_append_right _ (List.mem_append_right _ (List.mem_append_left _ (List.mem_of_getElem? (l := tables_1_3) (i := 64) rfl))))) rfl)⟩
set_option maxRecDepth 20000 in
theorem fl_11_28 : FL RX11 28 10 0 := ⟨RX10, TX10, 4, rfl, by decide, in_X10, tyX10_ok, nmX10, Or.inl (tblG_in (List.mem_append_right _ (List.mem_append_right _ (List.mem_append_left _ (List.mem_of_getElem? (l := tables_1_2) (i := 109) rfl)))) rfl)⟩
set_option maxRecDepth 20000 in
theorem fl_11_32 : FL RX11 32 11 2 := ⟨RX11, TX11, 14, rfl, by decide, in_X11, tyX11_ok, nmX11, Or.inl (tblG_in (List.mem_append_right _ (List.mem_append_right _ (List.mem_append_right _ (List.mem_append_left _ (List.mem_of_getElem? (l := tables_1_3) (i := 65) rfl))))) rfl)⟩
set_option maxRecDepth 20000 in
theorem fl_11_40 : FL RX11 40 11 3 := ⟨RX11, TX11, 14, rfl, by decide, in_X11, tyX11_ok, nmX11, Or.inl (tblG_in (List.mem_append_right _ (List.mem_append_right _ (List.mem_append_right _ (List.mem_append_left _ (List.mem_of_getElem? (l := tables_1_3) (i := 66) rfl))))) rfl)⟩
set_option maxRecDepth 20000 in
theorem fl_11_47 : FL RX11 47 11 4 := ⟨RX11, TX11, 14, rfl, by decide, in_X11, tyX11_ok, nmX11, Or.inl (tblG_in (List.mem_append_right _ (List.mem_append_right _ (List.mem_append_right _ (List.mem_append_left _ (List.mem_of_getElem? (l := tables_1_3) (i := 67) rfl))))) rfl)⟩
set_option maxRecDepth 20000 in
theorem fl_11_54 : FL RX11 54 11 5 := ⟨RX11, TX11, 14, rfl, by decide, in_X11, tyX11_ok, nmX11, Or.inl (tblG_in (List.mem_append_right _ (List.mem_append_right _ (List.mem_append_right _ (List.mem_append_left _ (List.mem_of_getElem? (l := tables_1_3) (i := 68) rfl))))) rfl)⟩
set_option maxRecDepth 20000 in
theorem fl_11_61 : FL RX11 61 11 6 := ⟨RX11, TX11, 14, rfl, by decide, in_X11, tyX11_ok, nmX11, Or.inl (tblG_in (List.mem_append_right _ (List.mem_append_right _ (List.mem_append_right _ (List.mem_append_left _ (List.mem_of_getElem? (l := tables_1_3) (i := 69) rfl))))) rfl)⟩
set_option maxRecDepth 20000 in
theorem fl_11_68 : FL RX11 68 11 7 := ⟨RX11, TX11, 14, rfl, by decide, in_X11, tyX11_ok, nmX11, Or.inl (tblG_in (List.mem_append_right _ (List.mem_append_right _ (List.mem_append_right _ (List.mem_append_left _ (List.mem_of_getElem? (l := tables_1_3) (i := 70) rfl))))) rfl)⟩
set_option maxRecDepth 20000 in
theorem fl_11_75 : FL RX11 75 11 8 := ⟨RX11, TX11, 14, rfl, by decide, in_X11, tyX11_ok, nmX11, Or.inl (tblG_in (List.mem_append_right _ (List.mem_append_right _ (List.mem_append_right _ (List.mem_append_left _ (List.mem_of_getElem? (l := tables_1_3) (i := 71) rfl))))) rfl)⟩
set_option maxRecDepth 20000 in
theorem fl_11_82 : FL RX11 82 11 9 := ⟨RX11, TX11, 14, rfl, by decide, in_X11, tyX11_ok, nmX11, Or.inl (tblG_in (List.mem_append_right _ (List.mem_append_right _ (List.mem_append_right _ (List.mem_append_left _ (List.mem_of_getElem? (l := tables_1_3) (i := 72) rfl))))) rfl)⟩
set_option maxRecDepth 20000 in
theorem fl_11_86 : FL RX11 86 11 10 := ⟨RX11, TX11, 14, rfl, by decide, in_X11, tyX11_ok, nmX11, Or.inl (tblG_in (List.mem_append_right _ (List.mem_append_right _ (List.mem_append_right _ (List.mem_append_left _ (List.mem_of_getElem? (l := tables_1_3) (i := 73) rfl))))) rfl)⟩
set_option maxRecDepth 20000 in
theorem fl_11_90 : FL RX11 90 11 11 := ⟨RX11, TX11, 14, rfl, by decide, in_X11, tyX11_ok, nmX11, Or.inl (tblG_in (List.mem_append_right _ (List.mem_append_right _ (List.mem_append_right _ (List.mem_append_left _ (List.mem_of_getElem? (l := tables_1_3) (i := 74) rfl))))) rfl)⟩
set_option maxRecDepth 20000 in
theorem fl_11_94 : FL RX11 94 11 12 := ⟨RX11, TX11, 14, rfl, by decide, in_X11, tyX11_ok, nmX11, Or.inl (tblG_in (List.mem_append_right _ (List.mem_append_right _ (List.mem_append_right _ (List.mem_append_left _ (List.mem_of_getElem? (l := tables_1_3) (i := 75) rfl))))) rfl)⟩
set_option maxRecDepth 20000 in
theorem fl_11_98 : FL RX11 98 11 13 := ⟨RX11, TX11, 14, rfl, by decide, in_X11, tyX11_ok, nmX11, Or.inl (tblG_in (List.mem_append_right _ (List.mem_append_right _ (List.mem_append_right _ (List.mem_append_left _ (List.mem_of_getElem? (l := tables_1_3) (i := 76) rfl))))) rfl)⟩
set_option maxRecDepth 20000 in
theorem fw_11_98 : FLw RX11 98 11 13 := ⟨fl_11_98, fun q h => by cases h; rfl⟩
set_option maxRecDepth 20000 in
theorem fl_11_102 : FL RX11 102 7 1 := ⟨RX7, TX7, 14, rfl, by decide, in_X7, tyX7_ok, nmX7, Or.inl (tblG_in (List.mem_append_right _ (List.mem_append_left _ (List.mem_of_getElem? (l := tables_1_1) (i := 98) rfl))) rfl)⟩
set_option maxRecDepth 20000 in
theorem fw_11_102 : FLw RX11 102 7 1 := ⟨fl_11_102, fun q h => by cases h; rfl⟩
set_option maxRecDepth 20000 in
theorem fl_11_113 : FL RX11 113 7 3 := ⟨RX7, TX7, 14, rfl, by decide, in_X7, tyX7_ok, nmX7, Or.inl (tblG_in (List.mem_append_right _ (List.mem_append_left _ (List.mem_of_getElem? (l := tables_1_1) (i := 104) rfl))) rfl)⟩
set_option maxRecDepth 20000 in
theorem fw_11_113 : FLw RX11 113 7 3 := ⟨fl_11_113, fun q h => by cases h; rfl⟩
set_option maxRecDepth 20000 in
theorem fl_11_116 : FL RX11 116 2 0 := ⟨RX2, TX2, 4, rfl, by decide, in_X2, tyX2_ok, nmX2, Or.inl (tblG_in (List.mem_append_right _ (List.mem_append_right _ (List.mem_append_left _ (List.mem_of_getElem? (l := tables_1_2) (i := 141) rfl)))) rfl)⟩
set_option maxRecDepth 20000 in
theorem fl_11_126 : FL RX11 126 7 6 := ⟨RX7, TX7, 14, rfl, by decide, in_X7, tyX7_ok, nmX7, Or.inl (tblG_in (List.mem_append_right _ (List.mem_append_left _ (List.mem_of_getElem? (l := tables_1_1) (i := 114) rfl))) rfl)⟩
set_option maxRecDepth 20000 in
theorem fw_11_126 : FLw RX11 126 7 6 := ⟨fl_11_126, fun q h => by cases h; rfl⟩
set_option maxRecDepth 20000 in
theorem fl_11_136 : FL RX11 136 10 1 := ⟨RX10, TX10, 4, rfl, by decide, in_X10, tyX10_ok, nmX10, Or.inl (tblG_in (List.mem_append_right _ (List.mem_append_right _ (List.mem_append_left _ (List.mem_of_getElem? (l := tables_1_2) (i := 115) rfl)))) rfl)⟩
set_option maxRecDepth 20000 in
theorem fl_11_140 : FL RX11 140 6 3 := ⟨RX6, TX6, 9, rfl, by decide, in_X6, tyX6_ok, nmX6, Or.inl (tblG_in (List.mem_append_right _ (List.mem_append_right _ (List.mem_append_left _ (List.mem_of_getElem? (l := tables_1_2) (i := 35) rfl)))) rfl)⟩
set_option maxRecDepth 20000 in
theorem fl_11_146 : FL RX11 146 6 4 := ⟨RX6, TX6, 9, rfl, by decide, in_X6, tyX6_ok, nmX6, Or.inl (tblG_in (List.mem_append_right _ (List.mem_append_right _ (List.mem_append_left _ (List.mem_of_getElem? (l := tables_1_2) (i := 40) rfl)))) rfl)⟩
set_option maxRecDepth 20000 in
theorem fl_11_149 : FL RX11 149 6 5 := ⟨RX6, TX6, 9, rfl, by decide, in_X6, tyX6_ok, nmX6, Or.inl (tblG_in (List.mem_append_right _ (List.mem_append_right _ (List.mem_append_left _ (List.mem_of_getElem? (l := tables_1_2) (i := 45) rfl)))) rfl)⟩
set_option maxRecDepth 20000 in
theorem fl_11_152 : FL RX11 152 6 6 := ⟨RX6, TX6, 9, rfl, by decide, in_X6, tyX6_ok, nmX6, Or.inl (tblG_in (List.mem_append_right _ (List.mem_append_right _ (List.mem_append_left _ (List.mem_of_getElem? (l := tables_1_2) (i := 50) rfl)))) rfl)⟩
set_option maxRecDepth 20000 in
theorem fl_11_155 : FL RX11 155 1 9 := ⟨RX1, TX1, 14, rfl, by decide, in_X1, tyX1_ok, nmX1, Or.inl (tblG_in (List.mem_append_right _ (List.mem_append_left _ (List.mem_of_getElem? (l := tables_1_1) (i := 205) rfl))) rfl)⟩
set_option maxRecDepth 20000 in
theorem fl_11_158 : FL RX11 158 6 7 := ⟨RX6, TX6, 9, rfl, by decide, in_X6, tyX6_ok, nmX6, Or.inl (tblG_in (List.mem_append_right _ (List.mem_append_right _ (List.mem_append_left _ (List.mem_of_getElem? (l := tables_1_2) (i := 55) rfl)))) rfl)⟩
set_option maxRecDepth 20000 in
theorem fl_11_161 : FL RX11 161 6 8 := ⟨RX6, TX6, 9, rfl, by decide, in_X6, tyX6_ok, nmX6, Or.inl (tblG_in (List.mem_append_right _ (List.mem_append_right _ (List.mem_append_left _ (List.mem_of_getElem? (l := tables_1_2) (i := 59) rfl)))) rfl)⟩
set_option maxRecDepth 20000 in
theorem fl_11_167 : FL RX11 167 1 6 := ⟨RX1, TX1, 14, rfl, by decide, in_X1, tyX1_ok, nmX1, Or.inl (tblG_in (List.mem_append_right _ (List.mem_append_left _ (List.mem_of_getElem? (l := tables_1_1) (i := 192) rfl))) rfl)⟩
set_option maxRecDepth 20000 in
theorem fl_11_170 : FL RX11 170 1 7 := ⟨RX1, TX1, 14, rfl, by decide, in_X1, tyX1_ok, nmX1, Or.inl (tblG_in (List.mem_append_right _ (List.mem_append_left _ (List.mem_of_getElem? (l := tables_1_1) (i := 199) rfl))) rfl)⟩
set_option maxRecDepth 20000 in
theorem fl_11_180 : FL RX11 180 1 11 := ⟨RX1, TX1, 14, rfl, by decide, in_X1, tyX1_ok, nmX1, Or.inl (tblG_in (List.mem_append_right _ (List.mem_append_left _ (List.mem_of_getElem? (l := tables_1_1) (i := 211) rfl))) rfl)⟩
set_option maxRecDepth 20000 in
theorem fl_11_183 : FL RX11 183 1 12 := ⟨RX1, TX1, 14, rfl, by decide, in_X1, tyX1_ok, nmX1, Or.inl (tblG_in (List.mem_append_right _ (List.mem_append_left _ (List.mem_of_getElem? (l := tables_1_1) (i := 215) rfl))) rfl)⟩
set_option maxRecDepth 20000 in
theorem fl_11_186 : FL RX11 186 1 13 := ⟨RX1, TX1, 14, rfl, by decide, in_X1, tyX1_ok, nmX1, Or.inl (tblG_in (List.mem_append_right _ (List.mem_append_left _ (List.mem_of_getElem? (l := tables_1_1) (i := 219) rfl))) rfl)⟩
set_option maxRecDepth 20000 in
theorem fl_11_196 : FL RX11 196 6 2 := ⟨RX6, TX6, 9, rfl, by decide, in_X6, tyX6_ok, nmX6, Or.inl (tblG_in (List.mem_append_right _ (List.mem_append_right _ (List.mem_append_left _ (List.mem_of_getElem? (l := tables_1_2) (i := 32) rfl)))) rfl)⟩
set_option maxRecDepth 20000 in
theorem fl_11_209 : FL RX11 209 6 0 := ⟨RX6, TX6, 9, rfl, by decide, in_X6, tyX6_ok, nmX6, Or.inl (tblG_in (List.mem_append_right _ (List.mem_append_right _ (List.mem_append_left _ (List.mem_of_getElem? (l := tables_1_2) (i := 23) rfl)))) rfl)⟩
set_option maxRecDepth 20000 in
theorem fw_11_209 : FLw RX11 209 6 0 := ⟨fl_11_209, fun q h => by cases h; rfl⟩
set_option maxRecDepth 20000 in
theorem fl_11_218 : FL RX11 218 6 1 := ⟨RX6, TX6, 9, rfl, by decide, in_X6, tyX6_ok, nmX6, Or.inl (tblG_in (List.mem_append_right _ (List.mem_append_right _ (List.mem_append_left _ (List.mem_of_getElem? (l := tables_1_2) (i := 26) rfl)))) rfl)⟩
set_option maxRecDepth 20000 in
theorem fw_11_218 : FLw RX11 218 6 1 := ⟨fl_11_218, fun q h => by cases h; rfl⟩
set_option maxRecDepth 20000 in
theorem fl_11_290 : FL RX11 290 4 2 := ⟨RX4, TX4, 9, rfl, by decide, in_X4, tyX4_ok, nmX4, Or.inl (tblG_in (List.mem_append_right _ (List.mem_append_right _ (List.mem_append_left _ (List.mem_of_getElem? (l := tables_1_2) (i := 215) rfl)))) rfl)⟩
set_option maxRecDepth 20000 in
theorem fw_11_290 : FLw RX11 290 4 2 := ⟨fl_11_290, fun q h => by cases h; rfl⟩
set_option maxRecDepth 20000 in
theorem fl_11_293 : FL RX11 293 4 1 := ⟨RX4, TX4, 9, rfl, by decide, in_X4, tyX4_ok, nmX4, Or.inl (tblG_in (List.mem_append_right _ (List.mem_append_right _ (List.mem_append_left _ (List.mem_of_getElem? (l := tables_1_2) (i := 213) rfl)))) rfl)⟩
set_option maxRecDepth 20000 in
theorem fl_11_296 : FL RX11 296 4 0 := ⟨RX4, TX4, 9, rfl, by decide, in_X4, tyX4_ok, nmX4, Or.inl (tblG_in (List.mem_append_right _ (List.mem_append_right _ (List.mem_append_left _ (List.mem_of_getElem? (l := tables_1_2) (i := 211) rfl)))) rfl)⟩
set_option maxRecDepth 20000 in
theorem fl_11_309 : FL RX11 309 9 1 := ⟨RX9, TX9, 3, rfl, by decide, in_X9, tyX9_ok, nmX9, Or.inl (tblG_in (List.mem_append_right _ (List.mem_append_right _ (List.mem_append_right _ (List.mem_append_left _ (List.mem_of_getElem? (l := tables_1_3) (i := 10) rfl))))) rfl)⟩
set_option maxRecDepth 20000 in
theorem fw_11_309 : FLw RX11 309 9 1 := ⟨fl_11_309, fun q h => by cases h; rfl⟩
set_option maxRecDepth 20000 in
theorem fl_11_310 : FL RX11 310 9 0 := ⟨RX9, TX9, 3, rfl, by decide, in_X9, tyX9_ok, nmX9, Or.inl (tblG_in (List.mem_append_right _ (List.mem_append_right _ (List.mem_append_right _ (List.mem_append_left _ (List.mem_of_getElem? (l := tables_1_3) (i := 8) rfl))))) rfl)⟩
set_option maxRecDepth 20000 in
theorem fl_11_315 : FL RX11 315 8 1 := ⟨RX8, TX8, 5, rfl, by decide, in_X8, tyX8_ok, nmX8, Or.inl (tblG_in (List.mem_append_right _ (List.mem_append_right _ (List.mem_append_right _ (List.mem_append_left _ (List.mem_of_getElem? (l := tables_1_3) (i := 28) rfl))))) rfl)⟩
set_option maxRecDepth 20000 in
theorem fw_11_315 : FLw RX11 315 8 1 := ⟨fl_11_315, fun q h => by cases h; rfl⟩
set_option maxRecDepth 20000 in
theorem fl_11_318 : FL RX11 318 8 0 := ⟨RX8, TX8, 5, rfl, by decide, in_X8, tyX8_ok, nmX8, Or.inl (tblG_in (List.mem_append_right _ (List.mem_append_right _ (List.mem_append_right _ (List.mem_append_left _ (List.mem_of_getElem? (l := tables_1_3) (i := 26) rfl))))) rfl)⟩
set_option maxRecDepth 20000 in
theorem fl_11_327 : FL RX11 327 1 3 := ⟨RX1, TX1, 14, rfl, by decide, in_X1, tyX1_ok, nmX1, Or.inl (tblG_in (List.mem_append_right _ (List.mem_append_left _ (List.mem_of_getElem? (l := tables_1_1) (i := 181) rfl))) rfl)⟩
set_option maxRecDepth 20000 in
theorem fw_11_327 : FLw RX11 327 1 3 := ⟨fl_11_327, fun q h => by cases h; rfl⟩
set_option maxRecDepth 20000 in
theorem fl_11_333 : FL RX11 333 1 8 := ⟨RX1, TX1, 14, rfl, by decide, in_X1, tyX1_ok, nmX1, Or.inl (tblG_in (List.mem_append_right _ (List.mem_append_left _ (List.mem_of_getElem? (l := tables_1_1) (i := 203) rfl))) rfl)⟩
set_option maxRecDepth 20000 in
theorem fl_11_365 : FL RX11 365 0 2 := ⟨RX0, TX0, 12, rfl, by decide, in_X0, tyX0_ok, nmX0, Or.inl (tblG_in (List.mem_append_right _ (List.mem_append_right _ (List.mem_append_left _ (List.mem_of_getElem? (l := tables_1_2) (i := 165) rfl)))) rfl)⟩
set_option maxRecDepth 20000 in
theorem fw_11_365 : FLw RX11 365 0 2 := ⟨fl_11_365, fun q h => by cases h; rfl⟩
set_option maxRecDepth 20000 in
theorem fl_11_368 : FL RX11 368 0 1 := ⟨RX0, TX0, 12, rfl, by decide, in_X0, tyX0_ok, nmX0, Or.inl (tblG_in (List.mem_append_right _ (List.mem_append_right _ (List.mem_append_left _ (List.mem_of_getElem? (l := tables_1_2) (i := 163) rfl)))) rfl)⟩
set_option maxRecDepth 20000 in
theorem fw_11_368 : FLw RX11 368 0 1 := ⟨fl_11_368, fun q h => by cases h; rfl⟩
set_option maxRecDepth 20000 in
theorem fl_11_371 : FL RX11 371 0 0 := ⟨RX0, TX0, 12, rfl, by decide, in_X0, tyX0_ok, nmX0, Or.inl (tblG_in (List.mem_append_right _ (List.mem_append_right _ (List.mem_append_left _ (List.mem_of_getElem? (l := tables_1_2) (i := 161) rfl)))) rfl)⟩
set_option maxRecDepth 20000 in
theorem fw_11_371 : FLw RX11 371 0 0 := ⟨fl_11_371, fun q h => by cases h; rfl⟩
set_option maxRecDepth 20000 in
theorem fl_11_375 : FL RX11 375 0 3 := ⟨RX0, TX0, 12, rfl, by decide, in_X0, tyX0_ok, nmX0, Or.inl (tblG_in (List.mem_append_right _ (List.mem_append_right _ (List.mem_append_left _ (List.mem_of_getElem? (l := tables_1_2) (i := 167) rfl)))) rfl)⟩
set_option maxRecDepth 20000 in
theorem fw_11_375 : FLw RX11 375 0 3 := ⟨fl_11_375, fun q h => by cases h; rfl⟩
set_option maxRecDepth 20000 in
theorem fl_11_376 : FL RX11 376 0 4 := ⟨RX0, TX0, 12, rfl, by decide, in_X0, tyX0_ok, nmX0, Or.inl (tblG_in (List.mem_append_right _ (List.mem_append_right _ (List.mem_append_left _ (List.mem_of_getElem? (l := tables_1_2) (i := 169) rfl)))) rfl)⟩
set_option maxRecDepth 20000 in
theorem fw_11_376 : FLw RX11 376 0 4 := ⟨fl_11_376, fun q h => by cases h; rfl⟩
set_option maxRecDepth 20000 in
theorem fl_11_382 : FL RX11 382 10 2 := ⟨RX10, TX10, 4, rfl, by decide, in_X10, tyX10_ok, nmX10, Or.inl (tblG_in (List.mem_append_right _ (List.mem_append_right _ (List.mem_append_left _ (List.mem_of_getElem? (l := tables_1_2) (i := 119) rfl)))) rfl)⟩
set_option maxRecDepth 20000 in
theorem fl_11_388 : FL RX11 388 5 0 := ⟨RX5, TX5, 6, rfl, by decide, in_X5, tyX5_ok, nmX5, Or.inl (tblG_in (List.mem_append_right _ (List.mem_append_right _ (List.mem_append_left _ (List.mem_of_getElem? (l := tables_1_2) (i := 88) rfl)))) rfl)⟩
set_option maxRecDepth 20000 in
theorem fw_11_388 : FLw RX11 388 5 0 := ⟨fl_11_388, fun q h => by cases h; rfl⟩
set_option maxRecDepth 20000 in
theorem fl_11_395 : FL RX11 395 1 0 := ⟨RX1, TX1, 14, rfl, by decide, in_X1, tyX1_ok, nmX1, Or.inl (tblG_in (List.mem_append_right _ (List.mem_append_left _ (List.mem_of_getElem? (l := tables_1_1) (i := 165) rfl))) rfl)⟩
set_option maxRecDepth 20000 in
theorem fw_11_395 : FLw RX11 395 1 0 := ⟨fl_11_395, fun q h => by cases h; rfl⟩
set_option maxRecDepth 20000 in
theorem fl_11_398 : FL RX11 398 1 1 := ⟨RX1, TX1, 14, rfl, by decide, in_X1, tyX1_ok, nmX1, Or.inl (tblG_in (List.mem_append_right _ (List.mem_append_left _ (List.mem_of_getElem? (l := tables_1_1) (i := 169) rfl))) rfl)⟩
set_option maxRecDepth 20000 in
theorem fw_11_398 : FLw RX11 398 1 1 := ⟨fl_11_398, fun q h => by cases h; rfl⟩
set_option maxRecDepth 20000 in
theorem fl_11_401 : FL RX11 401 1 2 := ⟨RX1, TX1, 14, rfl, by decide, in_X1, tyX1_ok, nmX1, Or.inl (tblG_in (List.mem_append_right _ (List.mem_append_left _ (List.mem_of_getElem? (l := tables_1_1) (i := 176) rfl))) rfl)⟩
set_option maxRecDepth 20000 in
theorem fw_11_401 : FLw RX11 401 1 2 := ⟨fl_11_401, fun q h => by cases h; rfl⟩
set_option maxRecDepth 20000 in
theorem fl_11_404 : FL RX11 404 1 4 := ⟨RX1, TX1, 14, rfl, by decide, in_X1, tyX1_ok, nmX1, Or.inl (tblG_in (List.mem_append_right _ (List.mem_append_left _ (List.mem_of_getElem? (l := tables_1_1) (i := 185) rfl))) rfl)⟩
set_option maxRecDepth 20000 in
theorem fw_11_404 : FLw RX11 404 1 4 := ⟨fl_11_404, fun q h => by cases h; rfl⟩
set_option maxRecDepth 20000 in
theorem k_11_415 : Cond.constantLong RX11 415 (Int64.ofInt (32)) ∈ tblG := (tblG_in (List.mem_append_right _ (List.mem_append_left _ (List.mem_of_getElem? (l := tables_1_1) (i := 94) rfl))) rfl)
set_option maxRecDepth 20000 in
theorem fl_0_9 : FL RX0 9 0 0 := ⟨RX0, TX0, 12, rfl, by decide, in_X0, tyX0_ok, nmX0, Or.inl (tblG_in (List.mem_append_right _ (List.mem_append_right _ (List.mem_append_left _ (List.mem_of_getElem? (l := tables_1_2) (i := 160) rfl)))) rfl)⟩
set_option maxRecDepth 20000 in
theorem fw_0_9 : FLw RX0 9 0 0 := ⟨fl_0_9, fun q h => by cases h; rfl⟩
set_option maxRecDepth 20000 in
theorem fl_0_15 : FL RX0 15 0 1 := ⟨RX0, TX0, 12, rfl, by decide, in_X0, tyX0_ok, nmX0, Or.inl (tblG_in (List.mem_append_right _ (List.mem_append_right _ (List.mem_append_left _ (List.mem_of_getElem? (l := tables_1_2) (i := 162) rfl)))) rfl)⟩
set_option maxRecDepth 20000 in
theorem fw_0_15 : FLw RX0 15 0 1 := ⟨fl_0_15, fun q h => by cases h; rfl⟩
set_option maxRecDepth 20000 in
theorem fl_0_19 : FL RX0 19 0 2 := ⟨RX0, TX0, 12, rfl, by decide, in_X0, tyX0_ok, nmX0, Or.inl (tblG_in (List.mem_append_right _ (List.mem_append_right _ (List.mem_append_left _ (List.mem_of_getElem? (l := tables_1_2) (i := 164) rfl)))) rfl)⟩
set_option maxRecDepth 20000 in
theorem fw_0_19 : FLw RX0 19 0 2 := ⟨fl_0_19, fun q h => by cases h; rfl⟩
set_option maxRecDepth 20000 in
theorem fl_0_22 : FL RX0 22 0 3 := ⟨RX0, TX0, 12, rfl, by decide, in_X0, tyX0_ok, nmX0, Or.inl (tblG_in (List.mem_append_right _ (List.mem_append_right _ (List.mem_append_left _ (List.mem_of_getElem? (l := tables_1_2) (i := 166) rfl)))) rfl)⟩
set_option maxRecDepth 20000 in
theorem fw_0_22 : FLw RX0 22 0 3 := ⟨fl_0_22, fun q h => by cases h; rfl⟩
set_option maxRecDepth 20000 in
theorem fl_0_25 : FL RX0 25 0 4 := ⟨RX0, TX0, 12, rfl, by decide, in_X0, tyX0_ok, nmX0, Or.inl (tblG_in (List.mem_append_right _ (List.mem_append_right _ (List.mem_append_left _ (List.mem_of_getElem? (l := tables_1_2) (i := 168) rfl)))) rfl)⟩
set_option maxRecDepth 20000 in
theorem fw_0_25 : FLw RX0 25 0 4 := ⟨fl_0_25, fun q h => by cases h; rfl⟩
set_option maxRecDepth 20000 in
theorem fl_0_28 : FL RX0 28 0 6 := ⟨RX0, TX0, 12, rfl, by decide, in_X0, tyX0_ok, nmX0, Or.inl (tblG_in (List.mem_append_right _ (List.mem_append_right _ (List.mem_append_left _ (List.mem_of_getElem? (l := tables_1_2) (i := 171) rfl)))) rfl)⟩
set_option maxRecDepth 20000 in
theorem fl_0_32 : FL RX0 32 0 7 := ⟨RX0, TX0, 12, rfl, by decide, in_X0, tyX0_ok, nmX0, Or.inl (tblG_in (List.mem_append_right _ (List.mem_append_right _ (List.mem_append_left _ (List.mem_of_getElem? (l := tables_1_2) (i := 172) rfl)))) rfl)⟩
set_option maxRecDepth 20000 in
theorem fl_0_35 : FL RX0 35 0 8 := ⟨RX0, TX0, 12, rfl, by decide, in_X0, tyX0_ok, nmX0, Or.inl (tblG_in (List.mem_append_right _ (List.mem_append_right _ (List.mem_append_left _ (List.mem_of_getElem? (l := tables_1_2) (i := 173) rfl)))) rfl)⟩
set_option maxRecDepth 20000 in
theorem fl_0_38 : FL RX0 38 0 9 := ⟨RX0, TX0, 12, rfl, by decide, in_X0, tyX0_ok, nmX0, Or.inl (tblG_in (List.mem_append_right _ (List.mem_append_right _ (List.mem_append_left _ (List.mem_of_getElem? (l := tables_1_2) (i := 174) rfl)))) rfl)⟩
set_option maxRecDepth 20000 in
theorem fl_0_41 : FL RX0 41 0 10 := ⟨RX0, TX0, 12, rfl, by decide, in_X0, tyX0_ok, nmX0, Or.inl (tblG_in (List.mem_append_right _ (List.mem_append_right _ (List.mem_append_left _ (List.mem_of_getElem? (l := tables_1_2) (i := 175) rfl)))) rfl)⟩
set_option maxRecDepth 20000 in
theorem fl_0_44 : FL RX0 44 0 11 := ⟨RX0, TX0, 12, rfl, by decide, in_X0, tyX0_ok, nmX0, Or.inl (tblG_in (List.mem_append_right _ (List.mem_append_right _ (List.mem_append_left _ (List.mem_of_getElem? (l := tables_1_2) (i := 176) rfl)))) rfl)⟩
set_option maxRecDepth 20000 in
theorem fw_0_44 : FLw RX0 44 0 11 := ⟨fl_0_44, fun q h => by cases h; rfl⟩
set_option maxRecDepth 20000 in
theorem fl_0_47 : FL RX0 47 0 5 := ⟨RX0, TX0, 12, rfl, by decide, in_X0, tyX0_ok, nmX0, Or.inl (tblG_in (List.mem_append_right _ (List.mem_append_right _ (List.mem_append_left _ (List.mem_of_getElem? (l := tables_1_2) (i := 170) rfl)))) rfl)⟩
set_option maxRecDepth 20000 in
theorem fl_0_60 : FL RX0 60 7 2 := ⟨RX7, TX7, 14, rfl, by decide, in_X7, tyX7_ok, nmX7, Or.inl (tblG_in (List.mem_append_right _ (List.mem_append_left _ (List.mem_of_getElem? (l := tables_1_1) (i := 100) rfl))) rfl)⟩
set_option maxRecDepth 20000 in
theorem fw_0_60 : FLw RX0 60 7 2 := ⟨fl_0_60, fun q h => by cases h; rfl⟩
set_option maxRecDepth 20000 in
theorem fl_0_74 : FL RX0 74 7 5 := ⟨RX7, TX7, 14, rfl, by decide, in_X7, tyX7_ok, nmX7, Or.inl (tblG_in (List.mem_append_right _ (List.mem_append_left _ (List.mem_of_getElem? (l := tables_1_1) (i := 110) rfl))) rfl)⟩
set_option maxRecDepth 20000 in
theorem fw_0_74 : FLw RX0 74 7 5 := ⟨fl_0_74, fun q h => by cases h; rfl⟩
set_option maxRecDepth 20000 in
theorem fl_0_95 : FL RX0 95 7 4 := ⟨RX7, TX7, 14, rfl, by decide, in_X7, tyX7_ok, nmX7, Or.inl (tblG_in (List.mem_append_right _ (List.mem_append_left _ (List.mem_of_getElem? (l := tables_1_1) (i := 106) rfl))) rfl)⟩
set_option maxRecDepth 20000 in
theorem fw_0_95 : FLw RX0 95 7 4 := ⟨fl_0_95, fun q h => by cases h; rfl⟩
set_option maxRecDepth 20000 in
theorem fl_0_114 : FL RX0 114 10 1 := ⟨RX10, TX10, 4, rfl, by decide, in_X10, tyX10_ok, nmX10, Or.inl (tblG_in (List.mem_append_right _ (List.mem_append_right _ (List.mem_append_left _ (List.mem_of_getElem? (l := tables_1_2) (i := 116) rfl)))) rfl)⟩
set_option maxRecDepth 20000 in
theorem fl_0_120 : FL RX0 120 6 0 := ⟨RX6, TX6, 9, rfl, by decide, in_X6, tyX6_ok, nmX6, Or.inl (tblG_in (List.mem_append_right _ (List.mem_append_right _ (List.mem_append_left _ (List.mem_of_getElem? (l := tables_1_2) (i := 22) rfl)))) rfl)⟩
set_option maxRecDepth 20000 in
theorem fw_0_120 : FLw RX0 120 6 0 := ⟨fl_0_120, fun q h => by cases h; rfl⟩
set_option maxRecDepth 20000 in
theorem fl_1_9 : FL RX1 9 1 0 := ⟨RX1, TX1, 14, rfl, by decide, in_X1, tyX1_ok, nmX1, Or.inl (tblG_in (List.mem_append_right _ (List.mem_append_left _ (List.mem_of_getElem? (l := tables_1_1) (i := 162) rfl))) rfl)⟩
set_option maxRecDepth 20000 in
theorem fw_1_9 : FLw RX1 9 1 0 := ⟨fl_1_9, fun q h => by cases h; rfl⟩
set_option maxRecDepth 20000 in
theorem fl_1_15 : FL RX1 15 1 1 := ⟨RX1, TX1, 14, rfl, by decide, in_X1, tyX1_ok, nmX1, Or.inl (tblG_in (List.mem_append_right _ (List.mem_append_left _ (List.mem_of_getElem? (l := tables_1_1) (i := 166) rfl))) rfl)⟩
set_option maxRecDepth 20000 in
theorem fw_1_15 : FLw RX1 15 1 1 := ⟨fl_1_15, fun q h => by cases h; rfl⟩
set_option maxRecDepth 20000 in
theorem fl_1_18 : FL RX1 18 1 2 := ⟨RX1, TX1, 14, rfl, by decide, in_X1, tyX1_ok, nmX1, Or.inl (tblG_in (List.mem_append_right _ (List.mem_append_left _ (List.mem_of_getElem? (l := tables_1_1) (i := 170) rfl))) rfl)⟩
set_option maxRecDepth 20000 in
theorem fw_1_18 : FLw RX1 18 1 2 := ⟨fl_1_18, fun q h => by cases h; rfl⟩
set_option maxRecDepth 20000 in
theorem fl_1_21 : FL RX1 21 1 3 := ⟨RX1, TX1, 14, rfl, by decide, in_X1, tyX1_ok, nmX1, Or.inl (tblG_in (List.mem_append_right _ (List.mem_append_left _ (List.mem_of_getElem? (l := tables_1_1) (i := 177) rfl))) rfl)⟩
set_option maxRecDepth 20000 in
theorem fw_1_21 : FLw RX1 21 1 3 := ⟨fl_1_21, fun q h => by cases h; rfl⟩
set_option maxRecDepth 20000 in
theorem fl_1_24 : FL RX1 24 1 4 := ⟨RX1, TX1, 14, rfl, by decide, in_X1, tyX1_ok, nmX1, Or.inl (tblG_in (List.mem_append_right _ (List.mem_append_left _ (List.mem_of_getElem? (l := tables_1_1) (i := 182) rfl))) rfl)⟩
set_option maxRecDepth 20000 in
theorem fw_1_24 : FLw RX1 24 1 4 := ⟨fl_1_24, fun q h => by cases h; rfl⟩
set_option maxRecDepth 20000 in
theorem fl_1_27 : FL RX1 27 1 5 := ⟨RX1, TX1, 14, rfl, by decide, in_X1, tyX1_ok, nmX1, Or.inl (tblG_in (List.mem_append_right _ (List.mem_append_left _ (List.mem_of_getElem? (l := tables_1_1) (i := 186) rfl))) rfl)⟩
set_option maxRecDepth 20000 in
theorem fl_1_31 : FL RX1 31 1 6 := ⟨RX1, TX1, 14, rfl, by decide, in_X1, tyX1_ok, nmX1, Or.inl (tblG_in (List.mem_append_right _ (List.mem_append_left _ (List.mem_of_getElem? (l := tables_1_1) (i := 188) rfl))) rfl)⟩
set_option maxRecDepth 20000 in
theorem fl_1_35 : FL RX1 35 1 7 := ⟨RX1, TX1, 14, rfl, by decide, in_X1, tyX1_ok, nmX1, Or.inl (tblG_in (List.mem_append_right _ (List.mem_append_left _ (List.mem_of_getElem? (l := tables_1_1) (i := 194) rfl))) rfl)⟩
set_option maxRecDepth 20000 in
theorem fl_1_38 : FL RX1 38 1 8 := ⟨RX1, TX1, 14, rfl, by decide, in_X1, tyX1_ok, nmX1, Or.inl (tblG_in (List.mem_append_right _ (List.mem_append_left _ (List.mem_of_getElem? (l := tables_1_1) (i := 201) rfl))) rfl)⟩
set_option maxRecDepth 20000 in
theorem fl_1_41 : FL RX1 41 1 9 := ⟨RX1, TX1, 14, rfl, by decide, in_X1, tyX1_ok, nmX1, Or.inl (tblG_in (List.mem_append_right _ (List.mem_append_left _ (List.mem_of_getElem? (l := tables_1_1) (i := 204) rfl))) rfl)⟩
set_option maxRecDepth 20000 in
theorem fl_1_44 : FL RX1 44 1 10 := ⟨RX1, TX1, 14, rfl, by decide, in_X1, tyX1_ok, nmX1, Or.inl (tblG_in (List.mem_append_right _ (List.mem_append_left _ (List.mem_of_getElem? (l := tables_1_1) (i := 208) rfl))) rfl)⟩
set_option maxRecDepth 20000 in
theorem fl_1_47 : FL RX1 47 1 11 := ⟨RX1, TX1, 14, rfl, by decide, in_X1, tyX1_ok, nmX1, Or.inl (tblG_in (List.mem_append_right _ (List.mem_append_left _ (List.mem_of_getElem? (l := tables_1_1) (i := 210) rfl))) rfl)⟩
set_option maxRecDepth 20000 in
theorem fl_1_50 : FL RX1 50 1 12 := ⟨RX1, TX1, 14, rfl, by decide, in_X1, tyX1_ok, nmX1, Or.inl (tblG_in (List.mem_append_right _ (List.mem_append_left _ (List.mem_of_getElem? (l := tables_1_1) (i := 214) rfl))) rfl)⟩
set_option maxRecDepth 20000 in
theorem fl_1_53 : FL RX1 53 1 13 := ⟨RX1, TX1, 14, rfl, by decide, in_X1, tyX1_ok, nmX1, Or.inl (tblG_in (List.mem_append_right _ (List.mem_append_left _ (List.mem_of_getElem? (l := tables_1_1) (i := 218) rfl))) rfl)⟩
set_option maxRecDepth 20000 in
theorem fl_2_17 : FL RX2 17 2 0 := ⟨RX2, TX2, 4, rfl, by decide, in_X2, tyX2_ok, nmX2, Or.inl (tblG_in (List.mem_append_right _ (List.mem_append_right _ (List.mem_append_left _ (List.mem_of_getElem? (l := tables_1_2) (i := 140) rfl)))) rfl)⟩
set_option maxRecDepth 20000 in
theorem fl_2_23 : FL RX2 23 2 2 := ⟨RX2, TX2, 4, rfl, by decide, in_X2, tyX2_ok, nmX2, Or.inl (tblG_in (List.mem_append_right _ (List.mem_append_right _ (List.mem_append_left _ (List.mem_of_getElem? (l := tables_1_2) (i := 143) rfl)))) rfl)⟩
set_option maxRecDepth 20000 in
theorem fw_2_23 : FLw RX2 23 2 2 := ⟨fl_2_23, fun q h => by cases h; rfl⟩
set_option maxRecDepth 20000 in
theorem fl_2_27 : FL RX2 27 2 3 := ⟨RX2, TX2, 4, rfl, by decide, in_X2, tyX2_ok, nmX2, Or.inl (tblG_in (List.mem_append_right _ (List.mem_append_right _ (List.mem_append_left _ (List.mem_of_getElem? (l := tables_1_2) (i := 144) rfl)))) rfl)⟩
set_option maxRecDepth 20000 in
theorem fw_2_27 : FLw RX2 27 2 3 := ⟨fl_2_27, fun q h => by cases h; rfl⟩
set_option maxRecDepth 20000 in
theorem fl_2_30 : FL RX2 30 2 1 := ⟨RX2, TX2, 4, rfl, by decide, in_X2, tyX2_ok, nmX2, Or.inl (tblG_in (List.mem_append_right _ (List.mem_append_right _ (List.mem_append_left _ (List.mem_of_getElem? (l := tables_1_2) (i := 142) rfl)))) rfl)⟩
set_option maxRecDepth 20000 in
theorem fl_2_46 : FL RX2 46 7 2 := ⟨RX7, TX7, 14, rfl, by decide, in_X7, tyX7_ok, nmX7, Or.inl (tblG_in (List.mem_append_right _ (List.mem_append_left _ (List.mem_of_getElem? (l := tables_1_1) (i := 101) rfl))) rfl)⟩
set_option maxRecDepth 20000 in
theorem fw_2_46 : FLw RX2 46 7 2 := ⟨fl_2_46, fun q h => by cases h; rfl⟩
set_option maxRecDepth 20000 in
theorem fl_2_58 : FL RX2 58 10 0 := ⟨RX10, TX10, 4, rfl, by decide, in_X10, tyX10_ok, nmX10, Or.inl (tblG_in (List.mem_append_right _ (List.mem_append_right _ (List.mem_append_left _ (List.mem_of_getElem? (l := tables_1_2) (i := 111) rfl)))) rfl)⟩
set_option maxRecDepth 20000 in
theorem fl_2_62 : FL RX2 62 1 3 := ⟨RX1, TX1, 14, rfl, by decide, in_X1, tyX1_ok, nmX1, Or.inl (tblG_in (List.mem_append_right _ (List.mem_append_left _ (List.mem_of_getElem? (l := tables_1_1) (i := 178) rfl))) rfl)⟩
set_option maxRecDepth 20000 in
theorem fw_2_62 : FLw RX2 62 1 3 := ⟨fl_2_62, fun q h => by cases h; rfl⟩
set_option maxRecDepth 20000 in
theorem fl_2_90 : FL RX2 90 7 4 := ⟨RX7, TX7, 14, rfl, by decide, in_X7, tyX7_ok, nmX7, Or.inl (tblG_in (List.mem_append_right _ (List.mem_append_left _ (List.mem_of_getElem? (l := tables_1_1) (i := 107) rfl))) rfl)⟩
set_option maxRecDepth 20000 in
theorem fw_2_90 : FLw RX2 90 7 4 := ⟨fl_2_90, fun q h => by cases h; rfl⟩
set_option maxRecDepth 20000 in
theorem fl_2_93 : FL RX2 93 1 0 := ⟨RX1, TX1, 14, rfl, by decide, in_X1, tyX1_ok, nmX1, Or.inl (tblG_in (List.mem_append_right _ (List.mem_append_left _ (List.mem_of_getElem? (l := tables_1_1) (i := 164) rfl))) rfl)⟩
set_option maxRecDepth 20000 in
theorem fw_2_93 : FLw RX2 93 1 0 := ⟨fl_2_93, fun q h => by cases h; rfl⟩
set_option maxRecDepth 20000 in
theorem fl_2_96 : FL RX2 96 1 1 := ⟨RX1, TX1, 14, rfl, by decide, in_X1, tyX1_ok, nmX1, Or.inl (tblG_in (List.mem_append_right _ (List.mem_append_left _ (List.mem_of_getElem? (l := tables_1_1) (i := 168) rfl))) rfl)⟩
set_option maxRecDepth 20000 in
theorem fw_2_96 : FLw RX2 96 1 1 := ⟨fl_2_96, fun q h => by cases h; rfl⟩
set_option maxRecDepth 20000 in
theorem fl_2_102 : FL RX2 102 10 1 := ⟨RX10, TX10, 4, rfl, by decide, in_X10, tyX10_ok, nmX10, Or.inl (tblG_in (List.mem_append_right _ (List.mem_append_right _ (List.mem_append_left _ (List.mem_of_getElem? (l := tables_1_2) (i := 114) rfl)))) rfl)⟩
set_option maxRecDepth 20000 in
theorem fl_2_106 : FL RX2 106 6 2 := ⟨RX6, TX6, 9, rfl, by decide, in_X6, tyX6_ok, nmX6, Or.inl (tblG_in (List.mem_append_right _ (List.mem_append_right _ (List.mem_append_left _ (List.mem_of_getElem? (l := tables_1_2) (i := 30) rfl)))) rfl)⟩
set_option maxRecDepth 20000 in
theorem fl_2_116 : FL RX2 116 1 2 := ⟨RX1, TX1, 14, rfl, by decide, in_X1, tyX1_ok, nmX1, Or.inl (tblG_in (List.mem_append_right _ (List.mem_append_left _ (List.mem_of_getElem? (l := tables_1_1) (i := 174) rfl))) rfl)⟩
set_option maxRecDepth 20000 in
theorem fw_2_116 : FLw RX2 116 1 2 := ⟨fl_2_116, fun q h => by cases h; rfl⟩
set_option maxRecDepth 20000 in
theorem fl_2_122 : FL RX2 122 1 5 := ⟨RX1, TX1, 14, rfl, by decide, in_X1, tyX1_ok, nmX1, Or.inl (tblG_in (List.mem_append_right _ (List.mem_append_left _ (List.mem_of_getElem? (l := tables_1_1) (i := 187) rfl))) rfl)⟩
set_option maxRecDepth 20000 in
theorem fl_2_126 : FL RX2 126 7 5 := ⟨RX7, TX7, 14, rfl, by decide, in_X7, tyX7_ok, nmX7, Or.inl (tblG_in (List.mem_append_right _ (List.mem_append_left _ (List.mem_of_getElem? (l := tables_1_1) (i := 111) rfl))) rfl)⟩
set_option maxRecDepth 20000 in
theorem fw_2_126 : FLw RX2 126 7 5 := ⟨fl_2_126, fun q h => by cases h; rfl⟩
set_option maxRecDepth 20000 in
theorem fl_2_130 : FL RX2 130 1 6 := ⟨RX1, TX1, 14, rfl, by decide, in_X1, tyX1_ok, nmX1, Or.inl (tblG_in (List.mem_append_right _ (List.mem_append_left _ (List.mem_of_getElem? (l := tables_1_1) (i := 191) rfl))) rfl)⟩
set_option maxRecDepth 20000 in
theorem fl_2_133 : FL RX2 133 1 7 := ⟨RX1, TX1, 14, rfl, by decide, in_X1, tyX1_ok, nmX1, Or.inl (tblG_in (List.mem_append_right _ (List.mem_append_left _ (List.mem_of_getElem? (l := tables_1_1) (i := 198) rfl))) rfl)⟩
set_option maxRecDepth 20000 in
theorem fl_2_136 : FL RX2 136 1 8 := ⟨RX1, TX1, 14, rfl, by decide, in_X1, tyX1_ok, nmX1, Or.inl (tblG_in (List.mem_append_right _ (List.mem_append_left _ (List.mem_of_getElem? (l := tables_1_1) (i := 202) rfl))) rfl)⟩
set_option maxRecDepth 20000 in
theorem fl_2_139 : FL RX2 139 6 3 := ⟨RX6, TX6, 9, rfl, by decide, in_X6, tyX6_ok, nmX6, Or.inl (tblG_in (List.mem_append_right _ (List.mem_append_right _ (List.mem_append_left _ (List.mem_of_getElem? (l := tables_1_2) (i := 37) rfl)))) rfl)⟩
set_option maxRecDepth 20000 in
theorem fl_2_142 : FL RX2 142 6 4 := ⟨RX6, TX6, 9, rfl, by decide, in_X6, tyX6_ok, nmX6, Or.inl (tblG_in (List.mem_append_right _ (List.mem_append_right _ (List.mem_append_left _ (List.mem_of_getElem? (l := tables_1_2) (i := 42) rfl)))) rfl)⟩
set_option maxRecDepth 20000 in
theorem fl_2_145 : FL RX2 145 6 5 := ⟨RX6, TX6, 9, rfl, by decide, in_X6, tyX6_ok, nmX6, Or.inl (tblG_in (List.mem_append_right _ (List.mem_append_right _ (List.mem_append_left _ (List.mem_of_getElem? (l := tables_1_2) (i := 46) rfl)))) rfl)⟩
set_option maxRecDepth 20000 in
theorem fl_2_148 : FL RX2 148 6 6 := ⟨RX6, TX6, 9, rfl, by decide, in_X6, tyX6_ok, nmX6, Or.inl (tblG_in (List.mem_append_right _ (List.mem_append_right _ (List.mem_append_left _ (List.mem_of_getElem? (l := tables_1_2) (i := 51) rfl)))) rfl)⟩
set_option maxRecDepth 20000 in
theorem fl_2_151 : FL RX2 151 1 9 := ⟨RX1, TX1, 14, rfl, by decide, in_X1, tyX1_ok, nmX1, Or.inl (tblG_in (List.mem_append_right _ (List.mem_append_left _ (List.mem_of_getElem? (l := tables_1_1) (i := 206) rfl))) rfl)⟩
set_option maxRecDepth 20000 in
theorem fl_2_154 : FL RX2 154 1 4 := ⟨RX1, TX1, 14, rfl, by decide, in_X1, tyX1_ok, nmX1, Or.inl (tblG_in (List.mem_append_right _ (List.mem_append_left _ (List.mem_of_getElem? (l := tables_1_1) (i := 184) rfl))) rfl)⟩
set_option maxRecDepth 20000 in
theorem fw_2_154 : FLw RX2 154 1 4 := ⟨fl_2_154, fun q h => by cases h; rfl⟩
set_option maxRecDepth 20000 in
theorem fl_2_157 : FL RX2 157 1 10 := ⟨RX1, TX1, 14, rfl, by decide, in_X1, tyX1_ok, nmX1, Or.inl (tblG_in (List.mem_append_right _ (List.mem_append_left _ (List.mem_of_getElem? (l := tables_1_1) (i := 209) rfl))) rfl)⟩
set_option maxRecDepth 20000 in
theorem fl_2_160 : FL RX2 160 1 11 := ⟨RX1, TX1, 14, rfl, by decide, in_X1, tyX1_ok, nmX1, Or.inl (tblG_in (List.mem_append_right _ (List.mem_append_left _ (List.mem_of_getElem? (l := tables_1_1) (i := 212) rfl))) rfl)⟩
set_option maxRecDepth 20000 in
theorem fl_2_163 : FL RX2 163 1 12 := ⟨RX1, TX1, 14, rfl, by decide, in_X1, tyX1_ok, nmX1, Or.inl (tblG_in (List.mem_append_right _ (List.mem_append_left _ (List.mem_of_getElem? (l := tables_1_1) (i := 216) rfl))) rfl)⟩
set_option maxRecDepth 20000 in
theorem fl_2_166 : FL RX2 166 1 13 := ⟨RX1, TX1, 14, rfl, by decide, in_X1, tyX1_ok, nmX1, Or.inl (tblG_in (List.mem_append_right _ (List.mem_append_left _ (List.mem_of_getElem? (l := tables_1_1) (i := 220) rfl))) rfl)⟩
set_option maxRecDepth 20000 in
theorem fl_3_11 : FL RX3 11 3 0 := ⟨RX3, TX3, 3, rfl, by decide, in_X3, tyX3_ok, nmX3, Or.inl (tblG_in (List.mem_append_right _ (List.mem_append_right _ (List.mem_append_right _ (List.mem_append_left _ (List.mem_of_getElem? (l := tables_1_3) (i := 52) rfl))))) rfl)⟩
set_option maxRecDepth 20000 in
theorem fl_3_17 : FL RX3 17 3 1 := ⟨RX3, TX3, 3, rfl, by decide, in_X3, tyX3_ok, nmX3, Or.inl (tblG_in (List.mem_append_right _ (List.mem_append_right _ (List.mem_append_right _ (List.mem_append_left _ (List.mem_of_getElem? (l := tables_1_3) (i := 53) rfl))))) rfl)⟩
set_option maxRecDepth 20000 in
theorem fw_3_17 : FLw RX3 17 3 1 := ⟨fl_3_17, fun q h => by cases h; rfl⟩
set_option maxRecDepth 20000 in
theorem fl_3_21 : FL RX3 21 3 2 := ⟨RX3, TX3, 3, rfl, by decide, in_X3, tyX3_ok, nmX3, Or.inl (tblG_in (List.mem_append_right _ (List.mem_append_right _ (List.mem_append_right _ (List.mem_append_left _ (List.mem_of_getElem? (l := tables_1_3) (i := 54) rfl))))) rfl)⟩
set_option maxRecDepth 20000 in
theorem fw_3_21 : FLw RX3 21 3 2 := ⟨fl_3_21, fun q h => by cases h; rfl⟩
set_option maxRecDepth 20000 in
theorem fl_4_9 : FL RX4 9 4 0 := ⟨RX4, TX4, 9, rfl, by decide, in_X4, tyX4_ok, nmX4, Or.inl (tblG_in (List.mem_append_right _ (List.mem_append_right _ (List.mem_append_left _ (List.mem_of_getElem? (l := tables_1_2) (i := 210) rfl)))) rfl)⟩
set_option maxRecDepth 20000 in
theorem fl_4_15 : FL RX4 15 4 1 := ⟨RX4, TX4, 9, rfl, by decide, in_X4, tyX4_ok, nmX4, Or.inl (tblG_in (List.mem_append_right _ (List.mem_append_right _ (List.mem_append_left _ (List.mem_of_getElem? (l := tables_1_2) (i := 212) rfl)))) rfl)⟩
set_option maxRecDepth 20000 in
theorem fl_4_18 : FL RX4 18 4 2 := ⟨RX4, TX4, 9, rfl, by decide, in_X4, tyX4_ok, nmX4, Or.inl (tblG_in (List.mem_append_right _ (List.mem_append_right _ (List.mem_append_left _ (List.mem_of_getElem? (l := tables_1_2) (i := 214) rfl)))) rfl)⟩
set_option maxRecDepth 20000 in
theorem fw_4_18 : FLw RX4 18 4 2 := ⟨fl_4_18, fun q h => by cases h; rfl⟩
set_option maxRecDepth 20000 in
theorem fl_4_22 : FL RX4 22 4 3 := ⟨RX4, TX4, 9, rfl, by decide, in_X4, tyX4_ok, nmX4, Or.inl (tblG_in (List.mem_append_right _ (List.mem_append_right _ (List.mem_append_left _ (List.mem_of_getElem? (l := tables_1_2) (i := 216) rfl)))) rfl)⟩
set_option maxRecDepth 20000 in
theorem fl_4_26 : FL RX4 26 4 4 := ⟨RX4, TX4, 9, rfl, by decide, in_X4, tyX4_ok, nmX4, Or.inl (tblG_in (List.mem_append_right _ (List.mem_append_right _ (List.mem_append_left _ (List.mem_of_getElem? (l := tables_1_2) (i := 217) rfl)))) rfl)⟩
set_option maxRecDepth 20000 in
theorem fl_4_29 : FL RX4 29 4 5 := ⟨RX4, TX4, 9, rfl, by decide, in_X4, tyX4_ok, nmX4, Or.inl (tblG_in (List.mem_append_right _ (List.mem_append_right _ (List.mem_append_left _ (List.mem_of_getElem? (l := tables_1_2) (i := 218) rfl)))) rfl)⟩
set_option maxRecDepth 20000 in
theorem fl_4_32 : FL RX4 32 4 6 := ⟨RX4, TX4, 9, rfl, by decide, in_X4, tyX4_ok, nmX4, Or.inl (tblG_in (List.mem_append_right _ (List.mem_append_right _ (List.mem_append_left _ (List.mem_of_getElem? (l := tables_1_2) (i := 219) rfl)))) rfl)⟩
set_option maxRecDepth 20000 in
theorem fl_4_35 : FL RX4 35 4 7 := ⟨RX4, TX4, 9, rfl, by decide, in_X4, tyX4_ok, nmX4, Or.inl (tblG_in (List.mem_append_right _ (List.mem_append_right _ (List.mem_append_left _ (List.mem_of_getElem? (l := tables_1_2) (i := 220) rfl)))) rfl)⟩
set_option maxRecDepth 20000 in
theorem fl_4_38 : FL RX4 38 4 8 := ⟨RX4, TX4, 9, rfl, by decide, in_X4, tyX4_ok, nmX4, Or.inl (tblG_in (List.mem_append_right _ (List.mem_append_right _ (List.mem_append_left _ (List.mem_of_getElem? (l := tables_1_2) (i := 221) rfl)))) rfl)⟩
set_option maxRecDepth 20000 in
theorem fw_4_38 : FLw RX4 38 4 8 := ⟨fl_4_38, fun q h => by cases h; rfl⟩
set_option maxRecDepth 20000 in
theorem fl_4_45 : FL RX4 45 10 0 := ⟨RX10, TX10, 4, rfl, by decide, in_X10, tyX10_ok, nmX10, Or.inl (tblG_in (List.mem_append_right _ (List.mem_append_right _ (List.mem_append_left _ (List.mem_of_getElem? (l := tables_1_2) (i := 110) rfl)))) rfl)⟩
set_option maxRecDepth 20000 in
theorem fl_4_61 : FL RX4 61 10 1 := ⟨RX10, TX10, 4, rfl, by decide, in_X10, tyX10_ok, nmX10, Or.inl (tblG_in (List.mem_append_right _ (List.mem_append_right _ (List.mem_append_left _ (List.mem_of_getElem? (l := tables_1_2) (i := 113) rfl)))) rfl)⟩
set_option maxRecDepth 20000 in
theorem fl_4_65 : FL RX4 65 6 3 := ⟨RX6, TX6, 9, rfl, by decide, in_X6, tyX6_ok, nmX6, Or.inl (tblG_in (List.mem_append_right _ (List.mem_append_right _ (List.mem_append_left _ (List.mem_of_getElem? (l := tables_1_2) (i := 34) rfl)))) rfl)⟩
set_option maxRecDepth 20000 in
theorem fl_4_70 : FL RX4 70 6 4 := ⟨RX6, TX6, 9, rfl, by decide, in_X6, tyX6_ok, nmX6, Or.inl (tblG_in (List.mem_append_right _ (List.mem_append_right _ (List.mem_append_left _ (List.mem_of_getElem? (l := tables_1_2) (i := 39) rfl)))) rfl)⟩
set_option maxRecDepth 20000 in
theorem fl_4_77 : FL RX4 77 6 5 := ⟨RX6, TX6, 9, rfl, by decide, in_X6, tyX6_ok, nmX6, Or.inl (tblG_in (List.mem_append_right _ (List.mem_append_right _ (List.mem_append_left _ (List.mem_of_getElem? (l := tables_1_2) (i := 44) rfl)))) rfl)⟩
set_option maxRecDepth 20000 in
theorem fl_4_84 : FL RX4 84 6 2 := ⟨RX6, TX6, 9, rfl, by decide, in_X6, tyX6_ok, nmX6, Or.inl (tblG_in (List.mem_append_right _ (List.mem_append_right _ (List.mem_append_left _ (List.mem_of_getElem? (l := tables_1_2) (i := 29) rfl)))) rfl)⟩
set_option maxRecDepth 20000 in
theorem fl_4_87 : FL RX4 87 1 3 := ⟨RX1, TX1, 14, rfl, by decide, in_X1, tyX1_ok, nmX1, Or.inl (tblG_in (List.mem_append_right _ (List.mem_append_left _ (List.mem_of_getElem? (l := tables_1_1) (i := 179) rfl))) rfl)⟩
set_option maxRecDepth 20000 in
theorem fw_4_87 : FLw RX4 87 1 3 := ⟨fl_4_87, fun q h => by cases h; rfl⟩
set_option maxRecDepth 20000 in
theorem fl_4_92 : FL RX4 92 1 1 := ⟨RX1, TX1, 14, rfl, by decide, in_X1, tyX1_ok, nmX1, Or.inl (tblG_in (List.mem_append_right _ (List.mem_append_left _ (List.mem_of_getElem? (l := tables_1_1) (i := 167) rfl))) rfl)⟩
set_option maxRecDepth 20000 in
theorem fw_4_92 : FLw RX4 92 1 1 := ⟨fl_4_92, fun q h => by cases h; rfl⟩
set_option maxRecDepth 20000 in
theorem fl_4_95 : FL RX4 95 1 0 := ⟨RX1, TX1, 14, rfl, by decide, in_X1, tyX1_ok, nmX1, Or.inl (tblG_in (List.mem_append_right _ (List.mem_append_left _ (List.mem_of_getElem? (l := tables_1_1) (i := 163) rfl))) rfl)⟩
set_option maxRecDepth 20000 in
theorem fw_4_95 : FLw RX4 95 1 0 := ⟨fl_4_95, fun q h => by cases h; rfl⟩
set_option maxRecDepth 20000 in
theorem sl_4_102 : SL RX4 102 "STEP_X" "[I" := Or.inr ⟨"CartTurns", List.mem_of_getElem? (i := 17) (by decide +kernel)⟩
set_option maxRecDepth 20000 in
theorem sl_4_105 : SL RX4 105 "STEP_Y" "[I" := Or.inr ⟨"CartTurns", List.mem_of_getElem? (i := 18) (by decide +kernel)⟩
set_option maxRecDepth 20000 in
theorem fl_4_112 : FL RX4 112 1 2 := ⟨RX1, TX1, 14, rfl, by decide, in_X1, tyX1_ok, nmX1, Or.inl (tblG_in (List.mem_append_right _ (List.mem_append_left _ (List.mem_of_getElem? (l := tables_1_1) (i := 175) rfl))) rfl)⟩
set_option maxRecDepth 20000 in
theorem fw_4_112 : FLw RX4 112 1 2 := ⟨fl_4_112, fun q h => by cases h; rfl⟩
set_option maxRecDepth 20000 in
theorem fl_4_115 : FL RX4 115 1 6 := ⟨RX1, TX1, 14, rfl, by decide, in_X1, tyX1_ok, nmX1, Or.inl (tblG_in (List.mem_append_right _ (List.mem_append_left _ (List.mem_of_getElem? (l := tables_1_1) (i := 190) rfl))) rfl)⟩
set_option maxRecDepth 20000 in
theorem fl_4_118 : FL RX4 118 1 7 := ⟨RX1, TX1, 14, rfl, by decide, in_X1, tyX1_ok, nmX1, Or.inl (tblG_in (List.mem_append_right _ (List.mem_append_left _ (List.mem_of_getElem? (l := tables_1_1) (i := 197) rfl))) rfl)⟩
set_option maxRecDepth 20000 in
theorem fl_5_9 : FL RX5 9 5 0 := ⟨RX5, TX5, 6, rfl, by decide, in_X5, tyX5_ok, nmX5, Or.inl (tblG_in (List.mem_append_right _ (List.mem_append_right _ (List.mem_append_left _ (List.mem_of_getElem? (l := tables_1_2) (i := 87) rfl)))) rfl)⟩
set_option maxRecDepth 20000 in
theorem fw_5_9 : FLw RX5 9 5 0 := ⟨fl_5_9, fun q h => by cases h; rfl⟩
set_option maxRecDepth 20000 in
theorem fl_5_15 : FL RX5 15 5 1 := ⟨RX5, TX5, 6, rfl, by decide, in_X5, tyX5_ok, nmX5, Or.inl (tblG_in (List.mem_append_right _ (List.mem_append_right _ (List.mem_append_left _ (List.mem_of_getElem? (l := tables_1_2) (i := 89) rfl)))) rfl)⟩
set_option maxRecDepth 20000 in
theorem fw_5_15 : FLw RX5 15 5 1 := ⟨fl_5_15, fun q h => by cases h; rfl⟩
set_option maxRecDepth 20000 in
theorem fl_5_18 : FL RX5 18 5 2 := ⟨RX5, TX5, 6, rfl, by decide, in_X5, tyX5_ok, nmX5, Or.inl (tblG_in (List.mem_append_right _ (List.mem_append_right _ (List.mem_append_left _ (List.mem_of_getElem? (l := tables_1_2) (i := 90) rfl)))) rfl)⟩
set_option maxRecDepth 20000 in
theorem fl_5_22 : FL RX5 22 5 3 := ⟨RX5, TX5, 6, rfl, by decide, in_X5, tyX5_ok, nmX5, Or.inl (tblG_in (List.mem_append_right _ (List.mem_append_right _ (List.mem_append_left _ (List.mem_of_getElem? (l := tables_1_2) (i := 91) rfl)))) rfl)⟩
set_option maxRecDepth 20000 in
theorem fl_5_25 : FL RX5 25 5 4 := ⟨RX5, TX5, 6, rfl, by decide, in_X5, tyX5_ok, nmX5, Or.inl (tblG_in (List.mem_append_right _ (List.mem_append_right _ (List.mem_append_left _ (List.mem_of_getElem? (l := tables_1_2) (i := 92) rfl)))) rfl)⟩
set_option maxRecDepth 20000 in
theorem fl_5_28 : FL RX5 28 5 5 := ⟨RX5, TX5, 6, rfl, by decide, in_X5, tyX5_ok, nmX5, Or.inl (tblG_in (List.mem_append_right _ (List.mem_append_right _ (List.mem_append_left _ (List.mem_of_getElem? (l := tables_1_2) (i := 93) rfl)))) rfl)⟩
set_option maxRecDepth 20000 in
theorem fl_5_54 : FL RX5 54 7 2 := ⟨RX7, TX7, 14, rfl, by decide, in_X7, tyX7_ok, nmX7, Or.inl (tblG_in (List.mem_append_right _ (List.mem_append_left _ (List.mem_of_getElem? (l := tables_1_1) (i := 102) rfl))) rfl)⟩
set_option maxRecDepth 20000 in
theorem fw_5_54 : FLw RX5 54 7 2 := ⟨fl_5_54, fun q h => by cases h; rfl⟩
set_option maxRecDepth 20000 in
theorem fl_5_91 : FL RX5 91 7 5 := ⟨RX7, TX7, 14, rfl, by decide, in_X7, tyX7_ok, nmX7, Or.inl (tblG_in (List.mem_append_right _ (List.mem_append_left _ (List.mem_of_getElem? (l := tables_1_1) (i := 112) rfl))) rfl)⟩
set_option maxRecDepth 20000 in
theorem fw_5_91 : FLw RX5 91 7 5 := ⟨fl_5_91, fun q h => by cases h; rfl⟩
set_option maxRecDepth 20000 in
theorem fl_5_104 : FL RX5 104 7 4 := ⟨RX7, TX7, 14, rfl, by decide, in_X7, tyX7_ok, nmX7, Or.inl (tblG_in (List.mem_append_right _ (List.mem_append_left _ (List.mem_of_getElem? (l := tables_1_1) (i := 108) rfl))) rfl)⟩
set_option maxRecDepth 20000 in
theorem fw_5_104 : FLw RX5 104 7 4 := ⟨fl_5_104, fun q h => by cases h; rfl⟩
set_option maxRecDepth 20000 in
theorem fl_5_115 : FL RX5 115 10 1 := ⟨RX10, TX10, 4, rfl, by decide, in_X10, tyX10_ok, nmX10, Or.inl (tblG_in (List.mem_append_right _ (List.mem_append_right _ (List.mem_append_left _ (List.mem_of_getElem? (l := tables_1_2) (i := 117) rfl)))) rfl)⟩
set_option maxRecDepth 20000 in
theorem fl_5_121 : FL RX5 121 6 5 := ⟨RX6, TX6, 9, rfl, by decide, in_X6, tyX6_ok, nmX6, Or.inl (tblG_in (List.mem_append_right _ (List.mem_append_right _ (List.mem_append_left _ (List.mem_of_getElem? (l := tables_1_2) (i := 48) rfl)))) rfl)⟩
set_option maxRecDepth 20000 in
theorem fl_5_126 : FL RX5 126 6 6 := ⟨RX6, TX6, 9, rfl, by decide, in_X6, tyX6_ok, nmX6, Or.inl (tblG_in (List.mem_append_right _ (List.mem_append_right _ (List.mem_append_left _ (List.mem_of_getElem? (l := tables_1_2) (i := 53) rfl)))) rfl)⟩
set_option maxRecDepth 20000 in
theorem fl_5_132 : FL RX5 132 6 7 := ⟨RX6, TX6, 9, rfl, by decide, in_X6, tyX6_ok, nmX6, Or.inl (tblG_in (List.mem_append_right _ (List.mem_append_right _ (List.mem_append_left _ (List.mem_of_getElem? (l := tables_1_2) (i := 57) rfl)))) rfl)⟩
set_option maxRecDepth 20000 in
theorem fl_5_142 : FL RX5 142 6 8 := ⟨RX6, TX6, 9, rfl, by decide, in_X6, tyX6_ok, nmX6, Or.inl (tblG_in (List.mem_append_right _ (List.mem_append_right _ (List.mem_append_left _ (List.mem_of_getElem? (l := tables_1_2) (i := 61) rfl)))) rfl)⟩
set_option maxRecDepth 20000 in
theorem fl_6_9 : FL RX6 9 6 0 := ⟨RX6, TX6, 9, rfl, by decide, in_X6, tyX6_ok, nmX6, Or.inl (tblG_in (List.mem_append_right _ (List.mem_append_right _ (List.mem_append_left _ (List.mem_of_getElem? (l := tables_1_2) (i := 21) rfl)))) rfl)⟩
set_option maxRecDepth 20000 in
theorem fw_6_9 : FLw RX6 9 6 0 := ⟨fl_6_9, fun q h => by cases h; rfl⟩
set_option maxRecDepth 20000 in
theorem fl_6_15 : FL RX6 15 6 1 := ⟨RX6, TX6, 9, rfl, by decide, in_X6, tyX6_ok, nmX6, Or.inl (tblG_in (List.mem_append_right _ (List.mem_append_right _ (List.mem_append_left _ (List.mem_of_getElem? (l := tables_1_2) (i := 25) rfl)))) rfl)⟩
set_option maxRecDepth 20000 in
theorem fw_6_15 : FLw RX6 15 6 1 := ⟨fl_6_15, fun q h => by cases h; rfl⟩
set_option maxRecDepth 20000 in
theorem fl_6_18 : FL RX6 18 6 2 := ⟨RX6, TX6, 9, rfl, by decide, in_X6, tyX6_ok, nmX6, Or.inl (tblG_in (List.mem_append_right _ (List.mem_append_right _ (List.mem_append_left _ (List.mem_of_getElem? (l := tables_1_2) (i := 28) rfl)))) rfl)⟩
set_option maxRecDepth 20000 in
theorem fl_6_22 : FL RX6 22 6 3 := ⟨RX6, TX6, 9, rfl, by decide, in_X6, tyX6_ok, nmX6, Or.inl (tblG_in (List.mem_append_right _ (List.mem_append_right _ (List.mem_append_left _ (List.mem_of_getElem? (l := tables_1_2) (i := 33) rfl)))) rfl)⟩
set_option maxRecDepth 20000 in
theorem fl_6_25 : FL RX6 25 6 4 := ⟨RX6, TX6, 9, rfl, by decide, in_X6, tyX6_ok, nmX6, Or.inl (tblG_in (List.mem_append_right _ (List.mem_append_right _ (List.mem_append_left _ (List.mem_of_getElem? (l := tables_1_2) (i := 38) rfl)))) rfl)⟩
set_option maxRecDepth 20000 in
theorem fl_6_28 : FL RX6 28 6 5 := ⟨RX6, TX6, 9, rfl, by decide, in_X6, tyX6_ok, nmX6, Or.inl (tblG_in (List.mem_append_right _ (List.mem_append_right _ (List.mem_append_left _ (List.mem_of_getElem? (l := tables_1_2) (i := 43) rfl)))) rfl)⟩
set_option maxRecDepth 20000 in
theorem fl_6_31 : FL RX6 31 6 6 := ⟨RX6, TX6, 9, rfl, by decide, in_X6, tyX6_ok, nmX6, Or.inl (tblG_in (List.mem_append_right _ (List.mem_append_right _ (List.mem_append_left _ (List.mem_of_getElem? (l := tables_1_2) (i := 49) rfl)))) rfl)⟩
set_option maxRecDepth 20000 in
theorem fl_6_34 : FL RX6 34 6 7 := ⟨RX6, TX6, 9, rfl, by decide, in_X6, tyX6_ok, nmX6, Or.inl (tblG_in (List.mem_append_right _ (List.mem_append_right _ (List.mem_append_left _ (List.mem_of_getElem? (l := tables_1_2) (i := 54) rfl)))) rfl)⟩
set_option maxRecDepth 20000 in
theorem fl_6_37 : FL RX6 37 6 8 := ⟨RX6, TX6, 9, rfl, by decide, in_X6, tyX6_ok, nmX6, Or.inl (tblG_in (List.mem_append_right _ (List.mem_append_right _ (List.mem_append_left _ (List.mem_of_getElem? (l := tables_1_2) (i := 58) rfl)))) rfl)⟩
set_option maxRecDepth 20000 in
theorem fl_7_9 : FL RX7 9 7 0 := ⟨RX7, TX7, 14, rfl, by decide, in_X7, tyX7_ok, nmX7, Or.inl (tblG_in (List.mem_append_right _ (List.mem_append_left _ (List.mem_of_getElem? (l := tables_1_1) (i := 95) rfl))) rfl)⟩
set_option maxRecDepth 20000 in
theorem fl_7_15 : FL RX7 15 7 1 := ⟨RX7, TX7, 14, rfl, by decide, in_X7, tyX7_ok, nmX7, Or.inl (tblG_in (List.mem_append_right _ (List.mem_append_left _ (List.mem_of_getElem? (l := tables_1_1) (i := 96) rfl))) rfl)⟩
set_option maxRecDepth 20000 in
theorem fw_7_15 : FLw RX7 15 7 1 := ⟨fl_7_15, fun q h => by cases h; rfl⟩
set_option maxRecDepth 20000 in
theorem fl_7_19 : FL RX7 19 7 2 := ⟨RX7, TX7, 14, rfl, by decide, in_X7, tyX7_ok, nmX7, Or.inl (tblG_in (List.mem_append_right _ (List.mem_append_left _ (List.mem_of_getElem? (l := tables_1_1) (i := 99) rfl))) rfl)⟩
set_option maxRecDepth 20000 in
theorem fw_7_19 : FLw RX7 19 7 2 := ⟨fl_7_19, fun q h => by cases h; rfl⟩
set_option maxRecDepth 20000 in
theorem fl_7_22 : FL RX7 22 7 3 := ⟨RX7, TX7, 14, rfl, by decide, in_X7, tyX7_ok, nmX7, Or.inl (tblG_in (List.mem_append_right _ (List.mem_append_left _ (List.mem_of_getElem? (l := tables_1_1) (i := 103) rfl))) rfl)⟩
set_option maxRecDepth 20000 in
theorem fw_7_22 : FLw RX7 22 7 3 := ⟨fl_7_22, fun q h => by cases h; rfl⟩
set_option maxRecDepth 20000 in
theorem fl_7_25 : FL RX7 25 7 4 := ⟨RX7, TX7, 14, rfl, by decide, in_X7, tyX7_ok, nmX7, Or.inl (tblG_in (List.mem_append_right _ (List.mem_append_left _ (List.mem_of_getElem? (l := tables_1_1) (i := 105) rfl))) rfl)⟩
set_option maxRecDepth 20000 in
theorem fw_7_25 : FLw RX7 25 7 4 := ⟨fl_7_25, fun q h => by cases h; rfl⟩
set_option maxRecDepth 20000 in
theorem fl_7_28 : FL RX7 28 7 5 := ⟨RX7, TX7, 14, rfl, by decide, in_X7, tyX7_ok, nmX7, Or.inl (tblG_in (List.mem_append_right _ (List.mem_append_left _ (List.mem_of_getElem? (l := tables_1_1) (i := 109) rfl))) rfl)⟩
set_option maxRecDepth 20000 in
theorem fw_7_28 : FLw RX7 28 7 5 := ⟨fl_7_28, fun q h => by cases h; rfl⟩
set_option maxRecDepth 20000 in
theorem fl_7_32 : FL RX7 32 7 6 := ⟨RX7, TX7, 14, rfl, by decide, in_X7, tyX7_ok, nmX7, Or.inl (tblG_in (List.mem_append_right _ (List.mem_append_left _ (List.mem_of_getElem? (l := tables_1_1) (i := 113) rfl))) rfl)⟩
set_option maxRecDepth 20000 in
theorem fw_7_32 : FLw RX7 32 7 6 := ⟨fl_7_32, fun q h => by cases h; rfl⟩
set_option maxRecDepth 20000 in
theorem fl_7_39 : FL RX7 39 7 7 := ⟨RX7, TX7, 14, rfl, by decide, in_X7, tyX7_ok, nmX7, Or.inl (tblG_in (List.mem_append_right _ (List.mem_append_left _ (List.mem_of_getElem? (l := tables_1_1) (i := 115) rfl))) rfl)⟩
set_option maxRecDepth 20000 in
theorem fl_7_43 : FL RX7 43 7 8 := ⟨RX7, TX7, 14, rfl, by decide, in_X7, tyX7_ok, nmX7, Or.inl (tblG_in (List.mem_append_right _ (List.mem_append_left _ (List.mem_of_getElem? (l := tables_1_1) (i := 116) rfl))) rfl)⟩
set_option maxRecDepth 20000 in
theorem fl_7_47 : FL RX7 47 7 9 := ⟨RX7, TX7, 14, rfl, by decide, in_X7, tyX7_ok, nmX7, Or.inl (tblG_in (List.mem_append_right _ (List.mem_append_left _ (List.mem_of_getElem? (l := tables_1_1) (i := 117) rfl))) rfl)⟩
set_option maxRecDepth 20000 in
theorem fl_7_50 : FL RX7 50 7 10 := ⟨RX7, TX7, 14, rfl, by decide, in_X7, tyX7_ok, nmX7, Or.inl (tblG_in (List.mem_append_right _ (List.mem_append_left _ (List.mem_of_getElem? (l := tables_1_1) (i := 118) rfl))) rfl)⟩
set_option maxRecDepth 20000 in
theorem fl_7_53 : FL RX7 53 7 11 := ⟨RX7, TX7, 14, rfl, by decide, in_X7, tyX7_ok, nmX7, Or.inl (tblG_in (List.mem_append_right _ (List.mem_append_left _ (List.mem_of_getElem? (l := tables_1_1) (i := 119) rfl))) rfl)⟩
set_option maxRecDepth 20000 in
theorem fw_7_53 : FLw RX7 53 7 11 := ⟨fl_7_53, fun q h => by cases h; rfl⟩
set_option maxRecDepth 20000 in
theorem fl_7_56 : FL RX7 56 7 12 := ⟨RX7, TX7, 14, rfl, by decide, in_X7, tyX7_ok, nmX7, Or.inl (tblG_in (List.mem_append_right _ (List.mem_append_left _ (List.mem_of_getElem? (l := tables_1_1) (i := 120) rfl))) rfl)⟩
set_option maxRecDepth 20000 in
theorem fw_7_56 : FLw RX7 56 7 12 := ⟨fl_7_56, fun q h => by cases h; rfl⟩
set_option maxRecDepth 20000 in
theorem fl_7_59 : FL RX7 59 7 13 := ⟨RX7, TX7, 14, rfl, by decide, in_X7, tyX7_ok, nmX7, Or.inl (tblG_in (List.mem_append_right _ (List.mem_append_left _ (List.mem_of_getElem? (l := tables_1_1) (i := 121) rfl))) rfl)⟩
set_option maxRecDepth 20000 in
theorem fw_7_59 : FLw RX7 59 7 13 := ⟨fl_7_59, fun q h => by cases h; rfl⟩
set_option maxRecDepth 20000 in
theorem fl_8_9 : FL RX8 9 8 0 := ⟨RX8, TX8, 5, rfl, by decide, in_X8, tyX8_ok, nmX8, Or.inl (tblG_in (List.mem_append_right _ (List.mem_append_right _ (List.mem_append_right _ (List.mem_append_left _ (List.mem_of_getElem? (l := tables_1_3) (i := 25) rfl))))) rfl)⟩
set_option maxRecDepth 20000 in
theorem fl_8_15 : FL RX8 15 8 1 := ⟨RX8, TX8, 5, rfl, by decide, in_X8, tyX8_ok, nmX8, Or.inl (tblG_in (List.mem_append_right _ (List.mem_append_right _ (List.mem_append_right _ (List.mem_append_left _ (List.mem_of_getElem? (l := tables_1_3) (i := 27) rfl))))) rfl)⟩
set_option maxRecDepth 20000 in
theorem fw_8_15 : FLw RX8 15 8 1 := ⟨fl_8_15, fun q h => by cases h; rfl⟩
set_option maxRecDepth 20000 in
theorem fl_8_19 : FL RX8 19 8 2 := ⟨RX8, TX8, 5, rfl, by decide, in_X8, tyX8_ok, nmX8, Or.inl (tblG_in (List.mem_append_right _ (List.mem_append_right _ (List.mem_append_right _ (List.mem_append_left _ (List.mem_of_getElem? (l := tables_1_3) (i := 29) rfl))))) rfl)⟩
set_option maxRecDepth 20000 in
theorem fl_8_22 : FL RX8 22 8 3 := ⟨RX8, TX8, 5, rfl, by decide, in_X8, tyX8_ok, nmX8, Or.inl (tblG_in (List.mem_append_right _ (List.mem_append_right _ (List.mem_append_right _ (List.mem_append_left _ (List.mem_of_getElem? (l := tables_1_3) (i := 30) rfl))))) rfl)⟩
set_option maxRecDepth 20000 in
theorem fl_8_25 : FL RX8 25 8 4 := ⟨RX8, TX8, 5, rfl, by decide, in_X8, tyX8_ok, nmX8, Or.inl (tblG_in (List.mem_append_right _ (List.mem_append_right _ (List.mem_append_right _ (List.mem_append_left _ (List.mem_of_getElem? (l := tables_1_3) (i := 31) rfl))))) rfl)⟩
set_option maxRecDepth 20000 in
theorem fl_8_28 : FL RX8 28 7 1 := ⟨RX7, TX7, 14, rfl, by decide, in_X7, tyX7_ok, nmX7, Or.inl (tblG_in (List.mem_append_right _ (List.mem_append_left _ (List.mem_of_getElem? (l := tables_1_1) (i := 97) rfl))) rfl)⟩
set_option maxRecDepth 20000 in
theorem fw_8_28 : FLw RX8 28 7 1 := ⟨fl_8_28, fun q h => by cases h; rfl⟩
set_option maxRecDepth 20000 in
theorem fl_8_55 : FL RX8 55 1 2 := ⟨RX1, TX1, 14, rfl, by decide, in_X1, tyX1_ok, nmX1, Or.inl (tblG_in (List.mem_append_right _ (List.mem_append_left _ (List.mem_of_getElem? (l := tables_1_1) (i := 171) rfl))) rfl)⟩
set_option maxRecDepth 20000 in
theorem fw_8_55 : FLw RX8 55 1 2 := ⟨fl_8_55, fun q h => by cases h; rfl⟩
set_option maxRecDepth 20000 in
theorem fl_8_58 : FL RX8 58 1 7 := ⟨RX1, TX1, 14, rfl, by decide, in_X1, tyX1_ok, nmX1, Or.inl (tblG_in (List.mem_append_right _ (List.mem_append_left _ (List.mem_of_getElem? (l := tables_1_1) (i := 196) rfl))) rfl)⟩
set_option maxRecDepth 20000 in
theorem sl_8_61 : SL RX8 61 "STEP_X" "[I" := Or.inr ⟨"CartTurns", List.mem_of_getElem? (i := 23) (by decide +kernel)⟩
set_option maxRecDepth 20000 in
theorem sl_8_64 : SL RX8 64 "STEP_Y" "[I" := Or.inr ⟨"CartTurns", List.mem_of_getElem? (i := 24) (by decide +kernel)⟩
set_option maxRecDepth 20000 in
theorem fl_9_9 : FL RX9 9 9 0 := ⟨RX9, TX9, 3, rfl, by decide, in_X9, tyX9_ok, nmX9, Or.inl (tblG_in (List.mem_append_right _ (List.mem_append_right _ (List.mem_append_right _ (List.mem_append_left _ (List.mem_of_getElem? (l := tables_1_3) (i := 7) rfl))))) rfl)⟩
set_option maxRecDepth 20000 in
theorem fl_9_15 : FL RX9 15 9 1 := ⟨RX9, TX9, 3, rfl, by decide, in_X9, tyX9_ok, nmX9, Or.inl (tblG_in (List.mem_append_right _ (List.mem_append_right _ (List.mem_append_right _ (List.mem_append_left _ (List.mem_of_getElem? (l := tables_1_3) (i := 9) rfl))))) rfl)⟩
set_option maxRecDepth 20000 in
theorem fw_9_15 : FLw RX9 15 9 1 := ⟨fl_9_15, fun q h => by cases h; rfl⟩
set_option maxRecDepth 20000 in
theorem fl_9_19 : FL RX9 19 9 2 := ⟨RX9, TX9, 3, rfl, by decide, in_X9, tyX9_ok, nmX9, Or.inl (tblG_in (List.mem_append_right _ (List.mem_append_right _ (List.mem_append_right _ (List.mem_append_left _ (List.mem_of_getElem? (l := tables_1_3) (i := 11) rfl))))) rfl)⟩
set_option maxRecDepth 20000 in
theorem fl_9_22 : FL RX9 22 1 7 := ⟨RX1, TX1, 14, rfl, by decide, in_X1, tyX1_ok, nmX1, Or.inl (tblG_in (List.mem_append_right _ (List.mem_append_left _ (List.mem_of_getElem? (l := tables_1_1) (i := 195) rfl))) rfl)⟩
set_option maxRecDepth 20000 in
theorem fl_9_27 : FL RX9 27 1 6 := ⟨RX1, TX1, 14, rfl, by decide, in_X1, tyX1_ok, nmX1, Or.inl (tblG_in (List.mem_append_right _ (List.mem_append_left _ (List.mem_of_getElem? (l := tables_1_1) (i := 189) rfl))) rfl)⟩
set_option maxRecDepth 20000 in
theorem fl_9_46 : FL RX9 46 1 2 := ⟨RX1, TX1, 14, rfl, by decide, in_X1, tyX1_ok, nmX1, Or.inl (tblG_in (List.mem_append_right _ (List.mem_append_left _ (List.mem_of_getElem? (l := tables_1_1) (i := 172) rfl))) rfl)⟩
set_option maxRecDepth 20000 in
theorem fw_9_46 : FLw RX9 46 1 2 := ⟨fl_9_46, fun q h => by cases h; rfl⟩
set_option maxRecDepth 20000 in
theorem sl_9_49 : SL RX9 49 "STEP_X" "[I" := Or.inr ⟨"CartTurns", List.mem_of_getElem? (i := 20) (by decide +kernel)⟩
set_option maxRecDepth 20000 in
theorem sl_9_52 : SL RX9 52 "STEP_Y" "[I" := Or.inr ⟨"CartTurns", List.mem_of_getElem? (i := 21) (by decide +kernel)⟩
set_option maxRecDepth 20000 in
theorem fl_10_12 : FL RX10 12 10 1 := ⟨RX10, TX10, 4, rfl, by decide, in_X10, tyX10_ok, nmX10, Or.inl (tblG_in (List.mem_append_right _ (List.mem_append_right _ (List.mem_append_left _ (List.mem_of_getElem? (l := tables_1_2) (i := 112) rfl)))) rfl)⟩
set_option maxRecDepth 20000 in
theorem fl_10_21 : FL RX10 21 10 2 := ⟨RX10, TX10, 4, rfl, by decide, in_X10, tyX10_ok, nmX10, Or.inl (tblG_in (List.mem_append_right _ (List.mem_append_right _ (List.mem_append_left _ (List.mem_of_getElem? (l := tables_1_2) (i := 118) rfl)))) rfl)⟩
set_option maxRecDepth 20000 in
theorem fl_10_25 : FL RX10 25 10 3 := ⟨RX10, TX10, 4, rfl, by decide, in_X10, tyX10_ok, nmX10, Or.inl (tblG_in (List.mem_append_right _ (List.mem_append_right _ (List.mem_append_left _ (List.mem_of_getElem? (l := tables_1_2) (i := 120) rfl)))) rfl)⟩
set_option maxRecDepth 20000 in
theorem fw_10_25 : FLw RX10 25 10 3 := ⟨fl_10_25, fun q h => by cases h; rfl⟩
set_option maxRecDepth 20000 in
theorem fl_10_29 : FL RX10 29 10 0 := ⟨RX10, TX10, 4, rfl, by decide, in_X10, tyX10_ok, nmX10, Or.inl (tblG_in (List.mem_append_right _ (List.mem_append_right _ (List.mem_append_left _ (List.mem_of_getElem? (l := tables_1_2) (i := 108) rfl)))) rfl)⟩
set_option maxRecDepth 20000 in
theorem fl_10_50 : FL RX10 50 1 2 := ⟨RX1, TX1, 14, rfl, by decide, in_X1, tyX1_ok, nmX1, Or.inl (tblG_in (List.mem_append_right _ (List.mem_append_left _ (List.mem_of_getElem? (l := tables_1_1) (i := 173) rfl))) rfl)⟩
set_option maxRecDepth 20000 in
theorem fw_10_50 : FLw RX10 50 1 2 := ⟨fl_10_50, fun q h => by cases h; rfl⟩
set_option maxRecDepth 20000 in
theorem fl_10_53 : FL RX10 53 1 3 := ⟨RX1, TX1, 14, rfl, by decide, in_X1, tyX1_ok, nmX1, Or.inl (tblG_in (List.mem_append_right _ (List.mem_append_left _ (List.mem_of_getElem? (l := tables_1_1) (i := 180) rfl))) rfl)⟩
set_option maxRecDepth 20000 in
theorem fw_10_53 : FLw RX10 53 1 3 := ⟨fl_10_53, fun q h => by cases h; rfl⟩
set_option maxRecDepth 20000 in
theorem fl_10_56 : FL RX10 56 1 4 := ⟨RX1, TX1, 14, rfl, by decide, in_X1, tyX1_ok, nmX1, Or.inl (tblG_in (List.mem_append_right _ (List.mem_append_left _ (List.mem_of_getElem? (l := tables_1_1) (i := 183) rfl))) rfl)⟩
set_option maxRecDepth 20000 in
theorem fw_10_56 : FLw RX10 56 1 4 := ⟨fl_10_56, fun q h => by cases h; rfl⟩
set_option maxRecDepth 20000 in
theorem fl_10_59 : FL RX10 59 6 3 := ⟨RX6, TX6, 9, rfl, by decide, in_X6, tyX6_ok, nmX6, Or.inl (tblG_in (List.mem_append_right _ (List.mem_append_right _ (List.mem_append_left _ (List.mem_of_getElem? (l := tables_1_2) (i := 36) rfl)))) rfl)⟩
set_option maxRecDepth 20000 in
theorem fl_10_63 : FL RX10 63 6 4 := ⟨RX6, TX6, 9, rfl, by decide, in_X6, tyX6_ok, nmX6, Or.inl (tblG_in (List.mem_append_right _ (List.mem_append_right _ (List.mem_append_left _ (List.mem_of_getElem? (l := tables_1_2) (i := 41) rfl)))) rfl)⟩
set_option maxRecDepth 20000 in
theorem fl_10_70 : FL RX10 70 6 2 := ⟨RX6, TX6, 9, rfl, by decide, in_X6, tyX6_ok, nmX6, Or.inl (tblG_in (List.mem_append_right _ (List.mem_append_right _ (List.mem_append_left _ (List.mem_of_getElem? (l := tables_1_2) (i := 31) rfl)))) rfl)⟩
set_option maxRecDepth 20000 in
theorem fl_10_77 : FL RX10 77 6 6 := ⟨RX6, TX6, 9, rfl, by decide, in_X6, tyX6_ok, nmX6, Or.inl (tblG_in (List.mem_append_right _ (List.mem_append_right _ (List.mem_append_left _ (List.mem_of_getElem? (l := tables_1_2) (i := 52) rfl)))) rfl)⟩
set_option maxRecDepth 20000 in
theorem fl_10_84 : FL RX10 84 1 7 := ⟨RX1, TX1, 14, rfl, by decide, in_X1, tyX1_ok, nmX1, Or.inl (tblG_in (List.mem_append_right _ (List.mem_append_left _ (List.mem_of_getElem? (l := tables_1_1) (i := 200) rfl))) rfl)⟩
set_option maxRecDepth 20000 in
theorem sl_10_87 : SL RX10 87 "STEP_X" "[I" := Or.inr ⟨"CartTurns", List.mem_of_getElem? (i := 14) (by decide +kernel)⟩
set_option maxRecDepth 20000 in
theorem sl_10_90 : SL RX10 90 "STEP_Y" "[I" := Or.inr ⟨"CartTurns", List.mem_of_getElem? (i := 15) (by decide +kernel)⟩
set_option maxRecDepth 20000 in
theorem fl_10_99 : FL RX10 99 6 5 := ⟨RX6, TX6, 9, rfl, by decide, in_X6, tyX6_ok, nmX6, Or.inl (tblG_in (List.mem_append_right _ (List.mem_append_right _ (List.mem_append_left _ (List.mem_of_getElem? (l := tables_1_2) (i := 47) rfl)))) rfl)⟩
set_option maxRecDepth 20000 in
theorem fl_10_102 : FL RX10 102 1 6 := ⟨RX1, TX1, 14, rfl, by decide, in_X1, tyX1_ok, nmX1, Or.inl (tblG_in (List.mem_append_right _ (List.mem_append_left _ (List.mem_of_getElem? (l := tables_1_1) (i := 193) rfl))) rfl)⟩
set_option maxRecDepth 20000 in
theorem fl_10_105 : FL RX10 105 6 8 := ⟨RX6, TX6, 9, rfl, by decide, in_X6, tyX6_ok, nmX6, Or.inl (tblG_in (List.mem_append_right _ (List.mem_append_right _ (List.mem_append_left _ (List.mem_of_getElem? (l := tables_1_2) (i := 60) rfl)))) rfl)⟩
set_option maxRecDepth 20000 in
theorem fl_10_112 : FL RX10 112 1 11 := ⟨RX1, TX1, 14, rfl, by decide, in_X1, tyX1_ok, nmX1, Or.inl (tblG_in (List.mem_append_right _ (List.mem_append_left _ (List.mem_of_getElem? (l := tables_1_1) (i := 213) rfl))) rfl)⟩
set_option maxRecDepth 20000 in
theorem fl_10_115 : FL RX10 115 1 12 := ⟨RX1, TX1, 14, rfl, by decide, in_X1, tyX1_ok, nmX1, Or.inl (tblG_in (List.mem_append_right _ (List.mem_append_left _ (List.mem_of_getElem? (l := tables_1_1) (i := 217) rfl))) rfl)⟩
set_option maxRecDepth 20000 in
theorem fl_10_118 : FL RX10 118 1 13 := ⟨RX1, TX1, 14, rfl, by decide, in_X1, tyX1_ok, nmX1, Or.inl (tblG_in (List.mem_append_right _ (List.mem_append_left _ (List.mem_of_getElem? (l := tables_1_1) (i := 221) rfl))) rfl)⟩
set_option maxRecDepth 20000 in
theorem fl_10_121 : FL RX10 121 6 7 := ⟨RX6, TX6, 9, rfl, by decide, in_X6, tyX6_ok, nmX6, Or.inl (tblG_in (List.mem_append_right _ (List.mem_append_right _ (List.mem_append_left _ (List.mem_of_getElem? (l := tables_1_2) (i := 56) rfl)))) rfl)⟩
set_option maxRecDepth 20000 in
theorem fl_10_127 : FL RX10 127 6 1 := ⟨RX6, TX6, 9, rfl, by decide, in_X6, tyX6_ok, nmX6, Or.inl (tblG_in (List.mem_append_right _ (List.mem_append_right _ (List.mem_append_left _ (List.mem_of_getElem? (l := tables_1_2) (i := 27) rfl)))) rfl)⟩
set_option maxRecDepth 20000 in
theorem fw_10_127 : FLw RX10 127 6 1 := ⟨fl_10_127, fun q h => by cases h; rfl⟩
set_option maxRecDepth 20000 in
theorem fl_10_130 : FL RX10 130 1 9 := ⟨RX1, TX1, 14, rfl, by decide, in_X1, tyX1_ok, nmX1, Or.inl (tblG_in (List.mem_append_right _ (List.mem_append_left _ (List.mem_of_getElem? (l := tables_1_1) (i := 207) rfl))) rfl)⟩
set_option maxRecDepth 20000 in
theorem fl_10_133 : FL RX10 133 6 0 := ⟨RX6, TX6, 9, rfl, by decide, in_X6, tyX6_ok, nmX6, Or.inl (tblG_in (List.mem_append_right _ (List.mem_append_right _ (List.mem_append_left _ (List.mem_of_getElem? (l := tables_1_2) (i := 24) rfl)))) rfl)⟩
set_option maxRecDepth 20000 in
theorem fw_10_133 : FLw RX10 133 6 0 := ⟨fl_10_133, fun q h => by cases h; rfl⟩
set_option maxRecDepth 20000 in
theorem k_10_180 : Cond.constant RX10 180 (Int32.ofInt (1103515245)) ∈ tblG := (tblG_in (List.mem_append_right _ (List.mem_append_right _ (List.mem_append_right _ (List.mem_append_right _ (List.mem_append_right _ (List.mem_append_left _ (List.mem_of_getElem? (l := tables_1_5) (i := 147) rfl))))))) rfl)
set_option maxRecDepth 20000 in
theorem fl_12_1 : FL RX12 1 12 0 := ⟨RX12, TX12, 48, rfl, by decide, in_X12, tyX12_ok, nmX12, Or.inl (tblG_in (List.mem_append_right _ (List.mem_append_right _ (List.mem_append_right _ (List.mem_append_right _ (List.mem_append_right _ (List.mem_append_right _ (List.mem_append_left _ (List.mem_of_getElem? (l := tables_1_6) (i := 190) rfl)))))))) rfl)⟩
set_option maxRecDepth 20000 in
theorem fw_12_1 : FLw RX12 1 12 0 := ⟨fl_12_1, fun q h => by cases h; rfl⟩
set_option maxRecDepth 20000 in
theorem fl_12_7 : FL RX12 7 12 1 := ⟨RX12, TX12, 48, rfl, by decide, in_X12, tyX12_ok, nmX12, Or.inl (tblG_in (List.mem_append_right _ (List.mem_append_right _ (List.mem_append_right _ (List.mem_append_right _ (List.mem_append_right _ (List.mem_append_right _ (List.mem_append_left _ (List.mem_of_getElem? (l := tables_1_6) (i := 191) rfl)))))))) rfl)⟩
set_option maxRecDepth 20000 in
theorem fl_12_11 : FL RX12 11 12 2 := ⟨RX12, TX12, 48, rfl, by decide, in_X12, tyX12_ok, nmX12, Or.inl (tblG_in (List.mem_append_right _ (List.mem_append_right _ (List.mem_append_right _ (List.mem_append_right _ (List.mem_append_right _ (List.mem_append_right _ (List.mem_append_left _ (List.mem_of_getElem? (l := tables_1_6) (i := 192) rfl)))))))) rfl)⟩
set_option maxRecDepth 20000 in
theorem fw_12_11 : FLw RX12 11 12 2 := ⟨fl_12_11, fun q h => by cases h; rfl⟩
set_option maxRecDepth 20000 in
theorem fl_12_18 : FL RX12 18 12 3 := ⟨RX12, TX12, 48, rfl, by decide, in_X12, tyX12_ok, nmX12, Or.inl (tblG_in (List.mem_append_right _ (List.mem_append_right _ (List.mem_append_right _ (List.mem_append_right _ (List.mem_append_right _ (List.mem_append_right _ (List.mem_append_left _ (List.mem_of_getElem? (l := tables_1_6) (i := 193) rfl)))))))) rfl)⟩
set_option maxRecDepth 20000 in
theorem fw_12_18 : FLw RX12 18 12 3 := ⟨fl_12_18, fun q h => by cases h; rfl⟩
set_option maxRecDepth 20000 in
theorem fl_12_21 : FL RX12 21 12 5 := ⟨RX12, TX12, 48, rfl, by decide, in_X12, tyX12_ok, nmX12, Or.inl (tblG_in (List.mem_append_right _ (List.mem_append_right _ (List.mem_append_right _ (List.mem_append_right _ (List.mem_append_right _ (List.mem_append_right _ (List.mem_append_left _ (List.mem_of_getElem? (l := tables_1_6) (i := 195) rfl)))))))) rfl)⟩
set_option maxRecDepth 20000 in
theorem fw_12_21 : FLw RX12 21 12 5 := ⟨fl_12_21, fun q h => by cases h; rfl⟩
set_option maxRecDepth 20000 in
theorem fl_12_24 : FL RX12 24 12 6 := ⟨RX12, TX12, 48, rfl, by decide, in_X12, tyX12_ok, nmX12, Or.inl (tblG_in (List.mem_append_right _ (List.mem_append_right _ (List.mem_append_right _ (List.mem_append_right _ (List.mem_append_right _ (List.mem_append_right _ (List.mem_append_left _ (List.mem_of_getElem? (l := tables_1_6) (i := 196) rfl)))))))) rfl)⟩
set_option maxRecDepth 20000 in
theorem fw_12_24 : FLw RX12 24 12 6 := ⟨fl_12_24, fun q h => by cases h; rfl⟩
set_option maxRecDepth 20000 in
theorem fl_12_27 : FL RX12 27 12 4 := ⟨RX12, TX12, 48, rfl, by decide, in_X12, tyX12_ok, nmX12, Or.inl (tblG_in (List.mem_append_right _ (List.mem_append_right _ (List.mem_append_right _ (List.mem_append_right _ (List.mem_append_right _ (List.mem_append_right _ (List.mem_append_left _ (List.mem_of_getElem? (l := tables_1_6) (i := 194) rfl)))))))) rfl)⟩
set_option maxRecDepth 20000 in
theorem fw_12_27 : FLw RX12 27 12 4 := ⟨fl_12_27, fun q h => by cases h; rfl⟩
set_option maxRecDepth 20000 in
theorem fl_12_30 : FL RX12 30 12 7 := ⟨RX12, TX12, 48, rfl, by decide, in_X12, tyX12_ok, nmX12, Or.inl (tblG_in (List.mem_append_right _ (List.mem_append_right _ (List.mem_append_right _ (List.mem_append_right _ (List.mem_append_right _ (List.mem_append_right _ (List.mem_append_left _ (List.mem_of_getElem? (l := tables_1_6) (i := 197) rfl)))))))) rfl)⟩
set_option maxRecDepth 20000 in
theorem fw_12_30 : FLw RX12 30 12 7 := ⟨fl_12_30, fun q h => by cases h; rfl⟩
set_option maxRecDepth 20000 in
theorem fl_12_40 : FL RX12 40 12 9 := ⟨RX12, TX12, 48, rfl, by decide, in_X12, tyX12_ok, nmX12, Or.inl (tblG_in (List.mem_append_right _ (List.mem_append_right _ (List.mem_append_right _ (List.mem_append_right _ (List.mem_append_right _ (List.mem_append_right _ (List.mem_append_left _ (List.mem_of_getElem? (l := tables_1_6) (i := 199) rfl)))))))) rfl)⟩
set_option maxRecDepth 20000 in
theorem fw_12_40 : FLw RX12 40 12 9 := ⟨fl_12_40, fun q h => by cases h; rfl⟩
set_option maxRecDepth 20000 in
theorem fl_12_43 : FL RX12 43 12 12 := ⟨RX12, TX12, 48, rfl, by decide, in_X12, tyX12_ok, nmX12, Or.inl (tblG_in (List.mem_append_right _ (List.mem_append_right _ (List.mem_append_right _ (List.mem_append_right _ (List.mem_append_right _ (List.mem_append_right _ (List.mem_append_left _ (List.mem_of_getElem? (l := tables_1_6) (i := 202) rfl)))))))) rfl)⟩
set_option maxRecDepth 20000 in
theorem fw_12_43 : FLw RX12 43 12 12 := ⟨fl_12_43, fun q h => by cases h; rfl⟩
set_option maxRecDepth 20000 in
theorem fl_12_47 : FL RX12 47 12 8 := ⟨RX12, TX12, 48, rfl, by decide, in_X12, tyX12_ok, nmX12, Or.inl (tblG_in (List.mem_append_right _ (List.mem_append_right _ (List.mem_append_right _ (List.mem_append_right _ (List.mem_append_right _ (List.mem_append_right _ (List.mem_append_left _ (List.mem_of_getElem? (l := tables_1_6) (i := 198) rfl)))))))) rfl)⟩
set_option maxRecDepth 20000 in
theorem fw_12_47 : FLw RX12 47 12 8 := ⟨fl_12_47, fun q h => by cases h; rfl⟩
set_option maxRecDepth 20000 in
theorem k_12_54 : Cond.constantLong RX12 54 (Int64.ofInt (27)) ∈ tblG := (tblG_in (List.mem_append_right _ (List.mem_append_right _ (List.mem_append_right _ (List.mem_append_right _ (List.mem_append_right _ (List.mem_append_right _ (List.mem_append_right _ (List.mem_append_left _ (List.mem_of_getElem? (l := tables_1_7) (i := 121) rfl))))))))) rfl)
set_option maxRecDepth 20000 in
theorem k_12_56 : Cond.constantLong RX12 56 (Int64.ofInt (96)) ∈ tblG := (tblG_in (List.mem_append_right _ (List.mem_append_right _ (List.mem_append_right _ (List.mem_append_right _ (List.mem_append_right _ (List.mem_append_right _ (List.mem_append_right _ (List.mem_append_left _ (List.mem_of_getElem? (l := tables_1_7) (i := 122) rfl))))))))) rfl)
set_option maxRecDepth 20000 in
theorem fl_12_66 : FL RX12 66 12 10 := ⟨RX12, TX12, 48, rfl, by decide, in_X12, tyX12_ok, nmX12, Or.inl (tblG_in (List.mem_append_right _ (List.mem_append_right _ (List.mem_append_right _ (List.mem_append_right _ (List.mem_append_right _ (List.mem_append_right _ (List.mem_append_left _ (List.mem_of_getElem? (l := tables_1_6) (i := 200) rfl)))))))) rfl)⟩
set_option maxRecDepth 20000 in
theorem fw_12_66 : FLw RX12 66 12 10 := ⟨fl_12_66, fun q h => by cases h; rfl⟩
set_option maxRecDepth 20000 in
theorem fl_12_69 : FL RX12 69 12 11 := ⟨RX12, TX12, 48, rfl, by decide, in_X12, tyX12_ok, nmX12, Or.inl (tblG_in (List.mem_append_right _ (List.mem_append_right _ (List.mem_append_right _ (List.mem_append_right _ (List.mem_append_right _ (List.mem_append_right _ (List.mem_append_left _ (List.mem_of_getElem? (l := tables_1_6) (i := 201) rfl)))))))) rfl)⟩
set_option maxRecDepth 20000 in
theorem fw_12_69 : FLw RX12 69 12 11 := ⟨fl_12_69, fun q h => by cases h; rfl⟩
set_option maxRecDepth 20000 in
theorem fl_12_79 : FL RX12 79 12 13 := ⟨RX12, TX12, 48, rfl, by decide, in_X12, tyX12_ok, nmX12, Or.inl (tblG_in (List.mem_append_right _ (List.mem_append_right _ (List.mem_append_right _ (List.mem_append_right _ (List.mem_append_right _ (List.mem_append_right _ (List.mem_append_left _ (List.mem_of_getElem? (l := tables_1_6) (i := 203) rfl)))))))) rfl)⟩
set_option maxRecDepth 20000 in
theorem fw_12_79 : FLw RX12 79 12 13 := ⟨fl_12_79, fun q h => by cases h; rfl⟩
set_option maxRecDepth 20000 in
theorem fl_12_98 : FL RX12 98 12 14 := ⟨RX12, TX12, 48, rfl, by decide, in_X12, tyX12_ok, nmX12, Or.inl (tblG_in (List.mem_append_right _ (List.mem_append_right _ (List.mem_append_right _ (List.mem_append_right _ (List.mem_append_right _ (List.mem_append_right _ (List.mem_append_left _ (List.mem_of_getElem? (l := tables_1_6) (i := 204) rfl)))))))) rfl)⟩
set_option maxRecDepth 20000 in
theorem fl_12_101 : FL RX12 101 12 15 := ⟨RX12, TX12, 48, rfl, by decide, in_X12, tyX12_ok, nmX12, Or.inl (tblG_in (List.mem_append_right _ (List.mem_append_right _ (List.mem_append_right _ (List.mem_append_right _ (List.mem_append_right _ (List.mem_append_right _ (List.mem_append_left _ (List.mem_of_getElem? (l := tables_1_6) (i := 205) rfl)))))))) rfl)⟩
set_option maxRecDepth 20000 in
theorem fl_12_104 : FL RX12 104 12 16 := ⟨RX12, TX12, 48, rfl, by decide, in_X12, tyX12_ok, nmX12, Or.inl (tblG_in (List.mem_append_right _ (List.mem_append_right _ (List.mem_append_right _ (List.mem_append_right _ (List.mem_append_right _ (List.mem_append_right _ (List.mem_append_left _ (List.mem_of_getElem? (l := tables_1_6) (i := 206) rfl)))))))) rfl)⟩
set_option maxRecDepth 20000 in
theorem fl_12_107 : FL RX12 107 12 17 := ⟨RX12, TX12, 48, rfl, by decide, in_X12, tyX12_ok, nmX12, Or.inl (tblG_in (List.mem_append_right _ (List.mem_append_right _ (List.mem_append_right _ (List.mem_append_right _ (List.mem_append_right _ (List.mem_append_right _ (List.mem_append_left _ (List.mem_of_getElem? (l := tables_1_6) (i := 207) rfl)))))))) rfl)⟩
set_option maxRecDepth 20000 in
theorem fl_12_110 : FL RX12 110 12 18 := ⟨RX12, TX12, 48, rfl, by decide, in_X12, tyX12_ok, nmX12, Or.inl (tblG_in (List.mem_append_right _ (List.mem_append_right _ (List.mem_append_right _ (List.mem_append_right _ (List.mem_append_right _ (List.mem_append_right _ (List.mem_append_left _ (List.mem_of_getElem? (l := tables_1_6) (i := 208) rfl)))))))) rfl)⟩
set_option maxRecDepth 20000 in
theorem fl_12_113 : FL RX12 113 12 19 := ⟨RX12, TX12, 48, rfl, by decide, in_X12, tyX12_ok, nmX12, Or.inl (tblG_in (List.mem_append_right _ (List.mem_append_right _ (List.mem_append_right _ (List.mem_append_right _ (List.mem_append_right _ (List.mem_append_right _ (List.mem_append_left _ (List.mem_of_getElem? (l := tables_1_6) (i := 209) rfl)))))))) rfl)⟩
set_option maxRecDepth 20000 in
theorem fl_12_117 : FL RX12 117 12 20 := ⟨RX12, TX12, 48, rfl, by decide, in_X12, tyX12_ok, nmX12, Or.inl (tblG_in (List.mem_append_right _ (List.mem_append_right _ (List.mem_append_right _ (List.mem_append_right _ (List.mem_append_right _ (List.mem_append_right _ (List.mem_append_left _ (List.mem_of_getElem? (l := tables_1_6) (i := 210) rfl)))))))) rfl)⟩
set_option maxRecDepth 20000 in
theorem fl_12_120 : FL RX12 120 12 21 := ⟨RX12, TX12, 48, rfl, by decide, in_X12, tyX12_ok, nmX12, Or.inl (tblG_in (List.mem_append_right _ (List.mem_append_right _ (List.mem_append_right _ (List.mem_append_right _ (List.mem_append_right _ (List.mem_append_right _ (List.mem_append_left _ (List.mem_of_getElem? (l := tables_1_6) (i := 211) rfl)))))))) rfl)⟩
set_option maxRecDepth 20000 in
theorem fl_12_123 : FL RX12 123 12 22 := ⟨RX12, TX12, 48, rfl, by decide, in_X12, tyX12_ok, nmX12, Or.inl (tblG_in (List.mem_append_right _ (List.mem_append_right _ (List.mem_append_right _ (List.mem_append_right _ (List.mem_append_right _ (List.mem_append_right _ (List.mem_append_left _ (List.mem_of_getElem? (l := tables_1_6) (i := 212) rfl)))))))) rfl)⟩
set_option maxRecDepth 20000 in
theorem fl_12_127 : FL RX12 127 12 26 := ⟨RX12, TX12, 48, rfl, by decide, in_X12, tyX12_ok, nmX12, Or.inl (tblG_in (List.mem_append_right _ (List.mem_append_right _ (List.mem_append_right _ (List.mem_append_right _ (List.mem_append_right _ (List.mem_append_right _ (List.mem_append_left _ (List.mem_of_getElem? (l := tables_1_6) (i := 216) rfl)))))))) rfl)⟩
set_option maxRecDepth 20000 in
theorem fl_12_130 : FL RX12 130 12 27 := ⟨RX12, TX12, 48, rfl, by decide, in_X12, tyX12_ok, nmX12, Or.inl (tblG_in (List.mem_append_right _ (List.mem_append_right _ (List.mem_append_right _ (List.mem_append_right _ (List.mem_append_right _ (List.mem_append_right _ (List.mem_append_left _ (List.mem_of_getElem? (l := tables_1_6) (i := 217) rfl)))))))) rfl)⟩
set_option maxRecDepth 20000 in
theorem fl_12_133 : FL RX12 133 12 28 := ⟨RX12, TX12, 48, rfl, by decide, in_X12, tyX12_ok, nmX12, Or.inl (tblG_in (List.mem_append_right _ (List.mem_append_right _ (List.mem_append_right _ (List.mem_append_right _ (List.mem_append_right _ (List.mem_append_right _ (List.mem_append_left _ (List.mem_of_getElem? (l := tables_1_6) (i := 218) rfl)))))))) rfl)⟩
set_option maxRecDepth 20000 in
theorem fl_12_136 : FL RX12 136 12 30 := ⟨RX12, TX12, 48, rfl, by decide, in_X12, tyX12_ok, nmX12, Or.inl (tblG_in (List.mem_append_right _ (List.mem_append_right _ (List.mem_append_right _ (List.mem_append_right _ (List.mem_append_right _ (List.mem_append_right _ (List.mem_append_left _ (List.mem_of_getElem? (l := tables_1_6) (i := 220) rfl)))))))) rfl)⟩
set_option maxRecDepth 20000 in
theorem fl_12_139 : FL RX12 139 12 32 := ⟨RX12, TX12, 48, rfl, by decide, in_X12, tyX12_ok, nmX12, Or.inl (tblG_in (List.mem_append_right _ (List.mem_append_right _ (List.mem_append_right _ (List.mem_append_right _ (List.mem_append_right _ (List.mem_append_right _ (List.mem_append_left _ (List.mem_of_getElem? (l := tables_1_6) (i := 222) rfl)))))))) rfl)⟩
set_option maxRecDepth 20000 in
theorem fl_12_142 : FL RX12 142 12 33 := ⟨RX12, TX12, 48, rfl, by decide, in_X12, tyX12_ok, nmX12, Or.inl (tblG_in (List.mem_append_right _ (List.mem_append_right _ (List.mem_append_right _ (List.mem_append_right _ (List.mem_append_right _ (List.mem_append_right _ (List.mem_append_left _ (List.mem_of_getElem? (l := tables_1_6) (i := 223) rfl)))))))) rfl)⟩
set_option maxRecDepth 20000 in
theorem fl_12_145 : FL RX12 145 12 35 := ⟨RX12, TX12, 48, rfl, by decide, in_X12, tyX12_ok, nmX12, Or.inl (tblG_in (List.mem_append_right _ (List.mem_append_right _ (List.mem_append_right _ (List.mem_append_right _ (List.mem_append_right _ (List.mem_append_right _ (List.mem_append_left _ (List.mem_of_getElem? (l := tables_1_6) (i := 225) rfl)))))))) rfl)⟩
set_option maxRecDepth 20000 in
theorem fw_12_145 : FLw RX12 145 12 35 := ⟨fl_12_145, fun q h => by cases h; rfl⟩
set_option maxRecDepth 20000 in
theorem fl_12_148 : FL RX12 148 12 36 := ⟨RX12, TX12, 48, rfl, by decide, in_X12, tyX12_ok, nmX12, Or.inl (tblG_in (List.mem_append_right _ (List.mem_append_right _ (List.mem_append_right _ (List.mem_append_right _ (List.mem_append_right _ (List.mem_append_right _ (List.mem_append_left _ (List.mem_of_getElem? (l := tables_1_6) (i := 226) rfl)))))))) rfl)⟩
set_option maxRecDepth 20000 in
theorem fl_12_151 : FL RX12 151 12 39 := ⟨RX12, TX12, 48, rfl, by decide, in_X12, tyX12_ok, nmX12, Or.inl (tblG_in (List.mem_append_right _ (List.mem_append_right _ (List.mem_append_right _ (List.mem_append_right _ (List.mem_append_right _ (List.mem_append_right _ (List.mem_append_left _ (List.mem_of_getElem? (l := tables_1_6) (i := 229) rfl)))))))) rfl)⟩
set_option maxRecDepth 20000 in
theorem fl_12_154 : FL RX12 154 12 40 := ⟨RX12, TX12, 48, rfl, by decide, in_X12, tyX12_ok, nmX12, Or.inl (tblG_in (List.mem_append_right _ (List.mem_append_right _ (List.mem_append_right _ (List.mem_append_right _ (List.mem_append_right _ (List.mem_append_right _ (List.mem_append_left _ (List.mem_of_getElem? (l := tables_1_6) (i := 230) rfl)))))))) rfl)⟩
set_option maxRecDepth 20000 in
theorem fl_12_157 : FL RX12 157 12 43 := ⟨RX12, TX12, 48, rfl, by decide, in_X12, tyX12_ok, nmX12, Or.inl (tblG_in (List.mem_append_right _ (List.mem_append_right _ (List.mem_append_right _ (List.mem_append_right _ (List.mem_append_right _ (List.mem_append_right _ (List.mem_append_left _ (List.mem_of_getElem? (l := tables_1_6) (i := 233) rfl)))))))) rfl)⟩
set_option maxRecDepth 20000 in
theorem fl_12_174 : FL RX12 174 12 23 := ⟨RX12, TX12, 48, rfl, by decide, in_X12, tyX12_ok, nmX12, Or.inl (tblG_in (List.mem_append_right _ (List.mem_append_right _ (List.mem_append_right _ (List.mem_append_right _ (List.mem_append_right _ (List.mem_append_right _ (List.mem_append_left _ (List.mem_of_getElem? (l := tables_1_6) (i := 213) rfl)))))))) rfl)⟩
set_option maxRecDepth 20000 in
theorem fw_12_174 : FLw RX12 174 12 23 := ⟨fl_12_174, fun q h => by cases h; rfl⟩
set_option maxRecDepth 20000 in
theorem fl_12_178 : FL RX12 178 12 24 := ⟨RX12, TX12, 48, rfl, by decide, in_X12, tyX12_ok, nmX12, Or.inl (tblG_in (List.mem_append_right _ (List.mem_append_right _ (List.mem_append_right _ (List.mem_append_right _ (List.mem_append_right _ (List.mem_append_right _ (List.mem_append_left _ (List.mem_of_getElem? (l := tables_1_6) (i := 214) rfl)))))))) rfl)⟩
set_option maxRecDepth 20000 in
theorem fw_12_178 : FLw RX12 178 12 24 := ⟨fl_12_178, fun q h => by cases h; rfl⟩
set_option maxRecDepth 20000 in
theorem fl_12_229 : FL RX12 229 12 25 := ⟨RX12, TX12, 48, rfl, by decide, in_X12, tyX12_ok, nmX12, Or.inl (tblG_in (List.mem_append_right _ (List.mem_append_right _ (List.mem_append_right _ (List.mem_append_right _ (List.mem_append_right _ (List.mem_append_right _ (List.mem_append_left _ (List.mem_of_getElem? (l := tables_1_6) (i := 215) rfl)))))))) rfl)⟩
set_option maxRecDepth 20000 in
theorem fw_12_229 : FLw RX12 229 12 25 := ⟨fl_12_229, fun q h => by cases h; rfl⟩
set_option maxRecDepth 20000 in
theorem k_12_303 : Cond.constant RX12 303 (Int32.ofInt (100000)) ∈ tblG := (tblG_in (List.mem_append_right _ (List.mem_append_right _ (List.mem_append_right _ (List.mem_append_right _ (List.mem_append_right _ (List.mem_append_right _ (List.mem_append_right _ (List.mem_append_right _ (List.mem_append_left _ (List.mem_of_getElem? (l := tables_1_8) (i := 109) rfl)))))))))) rfl)
set_option maxRecDepth 20000 in
theorem fl_12_328 : FL RX12 328 12 29 := ⟨RX12, TX12, 48, rfl, by decide, in_X12, tyX12_ok, nmX12, Or.inl (tblG_in (List.mem_append_right _ (List.mem_append_right _ (List.mem_append_right _ (List.mem_append_right _ (List.mem_append_right _ (List.mem_append_right _ (List.mem_append_left _ (List.mem_of_getElem? (l := tables_1_6) (i := 219) rfl)))))))) rfl)⟩
set_option maxRecDepth 20000 in
theorem fw_12_328 : FLw RX12 328 12 29 := ⟨fl_12_328, fun q h => by cases h; rfl⟩
set_option maxRecDepth 20000 in
theorem fl_12_343 : FL RX12 343 12 31 := ⟨RX12, TX12, 48, rfl, by decide, in_X12, tyX12_ok, nmX12, Or.inl (tblG_in (List.mem_append_right _ (List.mem_append_right _ (List.mem_append_right _ (List.mem_append_right _ (List.mem_append_right _ (List.mem_append_right _ (List.mem_append_left _ (List.mem_of_getElem? (l := tables_1_6) (i := 221) rfl)))))))) rfl)⟩
set_option maxRecDepth 20000 in
theorem fw_12_343 : FLw RX12 343 12 31 := ⟨fl_12_343, fun q h => by cases h; rfl⟩
set_option maxRecDepth 20000 in
theorem fl_12_352 : FL RX12 352 12 34 := ⟨RX12, TX12, 48, rfl, by decide, in_X12, tyX12_ok, nmX12, Or.inl (tblG_in (List.mem_append_right _ (List.mem_append_right _ (List.mem_append_right _ (List.mem_append_right _ (List.mem_append_right _ (List.mem_append_right _ (List.mem_append_left _ (List.mem_of_getElem? (l := tables_1_6) (i := 224) rfl)))))))) rfl)⟩
set_option maxRecDepth 20000 in
theorem fw_12_352 : FLw RX12 352 12 34 := ⟨fl_12_352, fun q h => by cases h; rfl⟩
set_option maxRecDepth 20000 in
theorem fl_12_358 : FL RX12 358 12 37 := ⟨RX12, TX12, 48, rfl, by decide, in_X12, tyX12_ok, nmX12, Or.inl (tblG_in (List.mem_append_right _ (List.mem_append_right _ (List.mem_append_right _ (List.mem_append_right _ (List.mem_append_right _ (List.mem_append_right _ (List.mem_append_left _ (List.mem_of_getElem? (l := tables_1_6) (i := 227) rfl)))))))) rfl)⟩
set_option maxRecDepth 20000 in
theorem fw_12_358 : FLw RX12 358 12 37 := ⟨fl_12_358, fun q h => by cases h; rfl⟩
set_option maxRecDepth 20000 in
theorem fl_12_374 : FL RX12 374 12 38 := ⟨RX12, TX12, 48, rfl, by decide, in_X12, tyX12_ok, nmX12, Or.inl (tblG_in (List.mem_append_right _ (List.mem_append_right _ (List.mem_append_right _ (List.mem_append_right _ (List.mem_append_right _ (List.mem_append_right _ (List.mem_append_left _ (List.mem_of_getElem? (l := tables_1_6) (i := 228) rfl)))))))) rfl)⟩
set_option maxRecDepth 20000 in
theorem fw_12_374 : FLw RX12 374 12 38 := ⟨fl_12_374, fun q h => by cases h; rfl⟩
set_option maxRecDepth 20000 in
theorem k_12_377 : Cond.constant RX12 377 (Int32.ofInt (1103515245)) ∈ tblG := (tblG_in (List.mem_append_right _ (List.mem_append_right _ (List.mem_append_right _ (List.mem_append_right _ (List.mem_append_right _ (List.mem_append_right _ (List.mem_append_right _ (List.mem_append_right _ (List.mem_append_left _ (List.mem_of_getElem? (l := tables_1_8) (i := 237) rfl)))))))))) rfl)
set_option maxRecDepth 20000 in
theorem fl_12_405 : FL RX12 405 12 41 := ⟨RX12, TX12, 48, rfl, by decide, in_X12, tyX12_ok, nmX12, Or.inl (tblG_in (List.mem_append_right _ (List.mem_append_right _ (List.mem_append_right _ (List.mem_append_right _ (List.mem_append_right _ (List.mem_append_right _ (List.mem_append_left _ (List.mem_of_getElem? (l := tables_1_6) (i := 231) rfl)))))))) rfl)⟩
set_option maxRecDepth 20000 in
theorem fw_12_405 : FLw RX12 405 12 41 := ⟨fl_12_405, fun q h => by cases h; rfl⟩
set_option maxRecDepth 20000 in
theorem fl_12_417 : FL RX12 417 12 42 := ⟨RX12, TX12, 48, rfl, by decide, in_X12, tyX12_ok, nmX12, Or.inl (tblG_in (List.mem_append_right _ (List.mem_append_right _ (List.mem_append_right _ (List.mem_append_right _ (List.mem_append_right _ (List.mem_append_right _ (List.mem_append_left _ (List.mem_of_getElem? (l := tables_1_6) (i := 232) rfl)))))))) rfl)⟩
set_option maxRecDepth 20000 in
theorem fw_12_417 : FLw RX12 417 12 42 := ⟨fl_12_417, fun q h => by cases h; rfl⟩
set_option maxRecDepth 20000 in
theorem fl_12_424 : FL RX12 424 12 44 := ⟨RX12, TX12, 48, rfl, by decide, in_X12, tyX12_ok, nmX12, Or.inl (tblG_in (List.mem_append_right _ (List.mem_append_right _ (List.mem_append_right _ (List.mem_append_right _ (List.mem_append_right _ (List.mem_append_right _ (List.mem_append_left _ (List.mem_of_getElem? (l := tables_1_6) (i := 234) rfl)))))))) rfl)⟩
set_option maxRecDepth 20000 in
theorem fw_12_424 : FLw RX12 424 12 44 := ⟨fl_12_424, fun q h => by cases h; rfl⟩
set_option maxRecDepth 20000 in
theorem fl_12_430 : FL RX12 430 12 47 := ⟨RX12, TX12, 48, rfl, by decide, in_X12, tyX12_ok, nmX12, Or.inl (tblG_in (List.mem_append_right _ (List.mem_append_right _ (List.mem_append_right _ (List.mem_append_right _ (List.mem_append_right _ (List.mem_append_right _ (List.mem_append_left _ (List.mem_of_getElem? (l := tables_1_6) (i := 237) rfl)))))))) rfl)⟩
set_option maxRecDepth 20000 in
theorem fw_12_430 : FLw RX12 430 12 47 := ⟨fl_12_430, fun q h => by cases h; rfl⟩
set_option maxRecDepth 20000 in
theorem fl_12_439 : FL RX12 439 12 45 := ⟨RX12, TX12, 48, rfl, by decide, in_X12, tyX12_ok, nmX12, Or.inl (tblG_in (List.mem_append_right _ (List.mem_append_right _ (List.mem_append_right _ (List.mem_append_right _ (List.mem_append_right _ (List.mem_append_right _ (List.mem_append_left _ (List.mem_of_getElem? (l := tables_1_6) (i := 235) rfl)))))))) rfl)⟩
set_option maxRecDepth 20000 in
theorem fw_12_439 : FLw RX12 439 12 45 := ⟨fl_12_439, fun q h => by cases h; rfl⟩
set_option maxRecDepth 20000 in
theorem fl_12_442 : FL RX12 442 12 46 := ⟨RX12, TX12, 48, rfl, by decide, in_X12, tyX12_ok, nmX12, Or.inl (tblG_in (List.mem_append_right _ (List.mem_append_right _ (List.mem_append_right _ (List.mem_append_right _ (List.mem_append_right _ (List.mem_append_right _ (List.mem_append_left _ (List.mem_of_getElem? (l := tables_1_6) (i := 236) rfl)))))))) rfl)⟩
set_option maxRecDepth 20000 in
theorem fw_12_442 : FLw RX12 442 12 46 := ⟨fl_12_442, fun q h => by cases h; rfl⟩
