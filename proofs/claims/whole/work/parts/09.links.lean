set_option maxRecDepth 20000 in
theorem in_X0 : ∀ w ∈ u_ws RX0 TX0 12, w ∈ tblG := u_in (fun k hk => match k, hk with
  | 0, _ => (tblG_in (List.mem_append_right _ (List.mem_of_getElem? (i := 417) (by decide +kernel))) (by decide +kernel))
  | 1, _ => (tblG_in (List.mem_append_right _ (List.mem_of_getElem? (i := 419) (by decide +kernel))) (by decide +kernel))
  | 2, _ => (tblG_in (List.mem_append_right _ (List.mem_of_getElem? (i := 421) (by decide +kernel))) (by decide +kernel))
  | 3, _ => (tblG_in (List.mem_append_right _ (List.mem_of_getElem? (i := 423) (by decide +kernel))) (by decide +kernel))
  | 4, _ => (tblG_in (List.mem_append_right _ (List.mem_of_getElem? (i := 425) (by decide +kernel))) (by decide +kernel))
  | 5, _ => (tblG_in (List.mem_append_right _ (List.mem_of_getElem? (i := 427) (by decide +kernel))) (by decide +kernel))
  | 6, _ => (tblG_in (List.mem_append_right _ (List.mem_of_getElem? (i := 429) (by decide +kernel))) (by decide +kernel))
  | 7, _ => (tblG_in (List.mem_append_right _ (List.mem_of_getElem? (i := 431) (by decide +kernel))) (by decide +kernel))
  | 8, _ => (tblG_in (List.mem_append_right _ (List.mem_of_getElem? (i := 433) (by decide +kernel))) (by decide +kernel))
  | 9, _ => (tblG_in (List.mem_append_right _ (List.mem_of_getElem? (i := 435) (by decide +kernel))) (by decide +kernel))
  | 10, _ => (tblG_in (List.mem_append_right _ (List.mem_of_getElem? (i := 437) (by decide +kernel))) (by decide +kernel))
  | 11, _ => (tblG_in (List.mem_append_right _ (List.mem_of_getElem? (i := 439) (by decide +kernel))) (by decide +kernel))
  | k + 12, h => absurd h (by omega))
set_option maxRecDepth 20000 in
theorem in_X1 : ∀ w ∈ u_ws RX1 TX1 14, w ∈ tblG := u_in (fun k hk => match k, hk with
  | 0, _ => (tblG_in (List.mem_append_right _ (List.mem_of_getElem? (i := 222) (by decide +kernel))) (by decide +kernel))
  | 1, _ => (tblG_in (List.mem_append_right _ (List.mem_of_getElem? (i := 224) (by decide +kernel))) (by decide +kernel))
  | 2, _ => (tblG_in (List.mem_append_right _ (List.mem_of_getElem? (i := 226) (by decide +kernel))) (by decide +kernel))
  | 3, _ => (tblG_in (List.mem_append_right _ (List.mem_of_getElem? (i := 228) (by decide +kernel))) (by decide +kernel))
  | 4, _ => (tblG_in (List.mem_append_right _ (List.mem_of_getElem? (i := 230) (by decide +kernel))) (by decide +kernel))
  | 5, _ => (tblG_in (List.mem_append_right _ (List.mem_of_getElem? (i := 232) (by decide +kernel))) (by decide +kernel))
  | 6, _ => (tblG_in (List.mem_append_right _ (List.mem_of_getElem? (i := 234) (by decide +kernel))) (by decide +kernel))
  | 7, _ => (tblG_in (List.mem_append_right _ (List.mem_of_getElem? (i := 236) (by decide +kernel))) (by decide +kernel))
  | 8, _ => (tblG_in (List.mem_append_right _ (List.mem_of_getElem? (i := 238) (by decide +kernel))) (by decide +kernel))
  | 9, _ => (tblG_in (List.mem_append_right _ (List.mem_of_getElem? (i := 240) (by decide +kernel))) (by decide +kernel))
  | 10, _ => (tblG_in (List.mem_append_right _ (List.mem_of_getElem? (i := 242) (by decide +kernel))) (by decide +kernel))
  | 11, _ => (tblG_in (List.mem_append_right _ (List.mem_of_getElem? (i := 244) (by decide +kernel))) (by decide +kernel))
  | 12, _ => (tblG_in (List.mem_append_right _ (List.mem_of_getElem? (i := 246) (by decide +kernel))) (by decide +kernel))
  | 13, _ => (tblG_in (List.mem_append_right _ (List.mem_of_getElem? (i := 248) (by decide +kernel))) (by decide +kernel))
  | k + 14, h => absurd h (by omega))
set_option maxRecDepth 20000 in
theorem in_X2 : ∀ w ∈ u_ws RX2 TX2 4, w ∈ tblG := u_in (fun k hk => match k, hk with
  | 0, _ => (tblG_in (List.mem_append_right _ (List.mem_of_getElem? (i := 385) (by decide +kernel))) (by decide +kernel))
  | 1, _ => (tblG_in (List.mem_append_right _ (List.mem_of_getElem? (i := 387) (by decide +kernel))) (by decide +kernel))
  | 2, _ => (tblG_in (List.mem_append_right _ (List.mem_of_getElem? (i := 389) (by decide +kernel))) (by decide +kernel))
  | 3, _ => (tblG_in (List.mem_append_right _ (List.mem_of_getElem? (i := 391) (by decide +kernel))) (by decide +kernel))
  | k + 4, h => absurd h (by omega))
set_option maxRecDepth 20000 in
theorem in_X3 : ∀ w ∈ u_ws RX3 TX3 3, w ∈ tblG := u_in (fun k hk => match k, hk with
  | 0, _ => (tblG_in (List.mem_append_right _ (List.mem_of_getElem? (i := 535) (by decide +kernel))) (by decide +kernel))
  | 1, _ => (tblG_in (List.mem_append_right _ (List.mem_of_getElem? (i := 537) (by decide +kernel))) (by decide +kernel))
  | 2, _ => (tblG_in (List.mem_append_right _ (List.mem_of_getElem? (i := 539) (by decide +kernel))) (by decide +kernel))
  | k + 3, h => absurd h (by omega))
set_option maxRecDepth 20000 in
theorem in_X4 : ∀ w ∈ u_ws RX4 TX4 9, w ∈ tblG := u_in (fun k hk => match k, hk with
  | 0, _ => (tblG_in (List.mem_append_right _ (List.mem_of_getElem? (i := 462) (by decide +kernel))) (by decide +kernel))
  | 1, _ => (tblG_in (List.mem_append_right _ (List.mem_of_getElem? (i := 464) (by decide +kernel))) (by decide +kernel))
  | 2, _ => (tblG_in (List.mem_append_right _ (List.mem_of_getElem? (i := 466) (by decide +kernel))) (by decide +kernel))
  | 3, _ => (tblG_in (List.mem_append_right _ (List.mem_of_getElem? (i := 468) (by decide +kernel))) (by decide +kernel))
  | 4, _ => (tblG_in (List.mem_append_right _ (List.mem_of_getElem? (i := 470) (by decide +kernel))) (by decide +kernel))
  | 5, _ => (tblG_in (List.mem_append_right _ (List.mem_of_getElem? (i := 472) (by decide +kernel))) (by decide +kernel))
  | 6, _ => (tblG_in (List.mem_append_right _ (List.mem_of_getElem? (i := 474) (by decide +kernel))) (by decide +kernel))
  | 7, _ => (tblG_in (List.mem_append_right _ (List.mem_of_getElem? (i := 476) (by decide +kernel))) (by decide +kernel))
  | 8, _ => (tblG_in (List.mem_append_right _ (List.mem_of_getElem? (i := 478) (by decide +kernel))) (by decide +kernel))
  | k + 9, h => absurd h (by omega))
set_option maxRecDepth 20000 in
theorem in_X5 : ∀ w ∈ u_ws RX5 TX5 6, w ∈ tblG := u_in (fun k hk => match k, hk with
  | 0, _ => (tblG_in (List.mem_append_right _ (List.mem_of_getElem? (i := 334) (by decide +kernel))) (by decide +kernel))
  | 1, _ => (tblG_in (List.mem_append_right _ (List.mem_of_getElem? (i := 336) (by decide +kernel))) (by decide +kernel))
  | 2, _ => (tblG_in (List.mem_append_right _ (List.mem_of_getElem? (i := 338) (by decide +kernel))) (by decide +kernel))
  | 3, _ => (tblG_in (List.mem_append_right _ (List.mem_of_getElem? (i := 340) (by decide +kernel))) (by decide +kernel))
  | 4, _ => (tblG_in (List.mem_append_right _ (List.mem_of_getElem? (i := 342) (by decide +kernel))) (by decide +kernel))
  | 5, _ => (tblG_in (List.mem_append_right _ (List.mem_of_getElem? (i := 344) (by decide +kernel))) (by decide +kernel))
  | k + 6, h => absurd h (by omega))
set_option maxRecDepth 20000 in
theorem in_X6 : ∀ w ∈ u_ws RX6 TX6 9, w ∈ tblG := u_in (fun k hk => match k, hk with
  | 0, _ => (tblG_in (List.mem_append_right _ (List.mem_of_getElem? (i := 302) (by decide +kernel))) (by decide +kernel))
  | 1, _ => (tblG_in (List.mem_append_right _ (List.mem_of_getElem? (i := 304) (by decide +kernel))) (by decide +kernel))
  | 2, _ => (tblG_in (List.mem_append_right _ (List.mem_of_getElem? (i := 306) (by decide +kernel))) (by decide +kernel))
  | 3, _ => (tblG_in (List.mem_append_right _ (List.mem_of_getElem? (i := 308) (by decide +kernel))) (by decide +kernel))
  | 4, _ => (tblG_in (List.mem_append_right _ (List.mem_of_getElem? (i := 310) (by decide +kernel))) (by decide +kernel))
  | 5, _ => (tblG_in (List.mem_append_right _ (List.mem_of_getElem? (i := 312) (by decide +kernel))) (by decide +kernel))
  | 6, _ => (tblG_in (List.mem_append_right _ (List.mem_of_getElem? (i := 314) (by decide +kernel))) (by decide +kernel))
  | 7, _ => (tblG_in (List.mem_append_right _ (List.mem_of_getElem? (i := 316) (by decide +kernel))) (by decide +kernel))
  | 8, _ => (tblG_in (List.mem_append_right _ (List.mem_of_getElem? (i := 318) (by decide +kernel))) (by decide +kernel))
  | k + 9, h => absurd h (by omega))
set_option maxRecDepth 20000 in
theorem in_X7 : ∀ w ∈ u_ws RX7 TX7 14, w ∈ tblG := u_in (fun k hk => match k, hk with
  | 0, _ => (tblG_in (List.mem_append_right _ (List.mem_of_getElem? (i := 122) (by decide +kernel))) (by decide +kernel))
  | 1, _ => (tblG_in (List.mem_append_right _ (List.mem_of_getElem? (i := 124) (by decide +kernel))) (by decide +kernel))
  | 2, _ => (tblG_in (List.mem_append_right _ (List.mem_of_getElem? (i := 126) (by decide +kernel))) (by decide +kernel))
  | 3, _ => (tblG_in (List.mem_append_right _ (List.mem_of_getElem? (i := 128) (by decide +kernel))) (by decide +kernel))
  | 4, _ => (tblG_in (List.mem_append_right _ (List.mem_of_getElem? (i := 130) (by decide +kernel))) (by decide +kernel))
  | 5, _ => (tblG_in (List.mem_append_right _ (List.mem_of_getElem? (i := 132) (by decide +kernel))) (by decide +kernel))
  | 6, _ => (tblG_in (List.mem_append_right _ (List.mem_of_getElem? (i := 134) (by decide +kernel))) (by decide +kernel))
  | 7, _ => (tblG_in (List.mem_append_right _ (List.mem_of_getElem? (i := 136) (by decide +kernel))) (by decide +kernel))
  | 8, _ => (tblG_in (List.mem_append_right _ (List.mem_of_getElem? (i := 138) (by decide +kernel))) (by decide +kernel))
  | 9, _ => (tblG_in (List.mem_append_right _ (List.mem_of_getElem? (i := 140) (by decide +kernel))) (by decide +kernel))
  | 10, _ => (tblG_in (List.mem_append_right _ (List.mem_of_getElem? (i := 142) (by decide +kernel))) (by decide +kernel))
  | 11, _ => (tblG_in (List.mem_append_right _ (List.mem_of_getElem? (i := 144) (by decide +kernel))) (by decide +kernel))
  | 12, _ => (tblG_in (List.mem_append_right _ (List.mem_of_getElem? (i := 146) (by decide +kernel))) (by decide +kernel))
  | 13, _ => (tblG_in (List.mem_append_right _ (List.mem_of_getElem? (i := 148) (by decide +kernel))) (by decide +kernel))
  | k + 14, h => absurd h (by omega))
set_option maxRecDepth 20000 in
theorem in_X8 : ∀ w ∈ u_ws RX8 TX8 5, w ∈ tblG := u_in (fun k hk => match k, hk with
  | 0, _ => (tblG_in (List.mem_append_right _ (List.mem_of_getElem? (i := 512) (by decide +kernel))) (by decide +kernel))
  | 1, _ => (tblG_in (List.mem_append_right _ (List.mem_of_getElem? (i := 514) (by decide +kernel))) (by decide +kernel))
  | 2, _ => (tblG_in (List.mem_append_right _ (List.mem_of_getElem? (i := 516) (by decide +kernel))) (by decide +kernel))
  | 3, _ => (tblG_in (List.mem_append_right _ (List.mem_of_getElem? (i := 518) (by decide +kernel))) (by decide +kernel))
  | 4, _ => (tblG_in (List.mem_append_right _ (List.mem_of_getElem? (i := 520) (by decide +kernel))) (by decide +kernel))
  | k + 5, h => absurd h (by omega))
set_option maxRecDepth 20000 in
theorem in_X9 : ∀ w ∈ u_ws RX9 TX9 3, w ∈ tblG := u_in (fun k hk => match k, hk with
  | 0, _ => (tblG_in (List.mem_append_right _ (List.mem_of_getElem? (i := 492) (by decide +kernel))) (by decide +kernel))
  | 1, _ => (tblG_in (List.mem_append_right _ (List.mem_of_getElem? (i := 494) (by decide +kernel))) (by decide +kernel))
  | 2, _ => (tblG_in (List.mem_append_right _ (List.mem_of_getElem? (i := 496) (by decide +kernel))) (by decide +kernel))
  | k + 3, h => absurd h (by omega))
set_option maxRecDepth 20000 in
theorem in_X10 : ∀ w ∈ u_ws RX10 TX10 4, w ∈ tblG := u_in (fun k hk => match k, hk with
  | 0, _ => (tblG_in (List.mem_append_right _ (List.mem_of_getElem? (i := 361) (by decide +kernel))) (by decide +kernel))
  | 1, _ => (tblG_in (List.mem_append_right _ (List.mem_of_getElem? (i := 363) (by decide +kernel))) (by decide +kernel))
  | 2, _ => (tblG_in (List.mem_append_right _ (List.mem_of_getElem? (i := 365) (by decide +kernel))) (by decide +kernel))
  | 3, _ => (tblG_in (List.mem_append_right _ (List.mem_of_getElem? (i := 367) (by decide +kernel))) (by decide +kernel))
  | k + 4, h => absurd h (by omega))
set_option maxRecDepth 20000 in
theorem in_X11 : ∀ w ∈ u_ws RX11 TX11 14, w ∈ tblG := u_in (fun k hk => match k, hk with
  | 0, _ => (tblG_in (List.mem_append_right _ (List.mem_of_getElem? (i := 557) (by decide +kernel))) (by decide +kernel))
  | 1, _ => (tblG_in (List.mem_append_right _ (List.mem_of_getElem? (i := 559) (by decide +kernel))) (by decide +kernel))
  | 2, _ => (tblG_in (List.mem_append_right _ (List.mem_of_getElem? (i := 561) (by decide +kernel))) (by decide +kernel))
  | 3, _ => (tblG_in (List.mem_append_right _ (List.mem_of_getElem? (i := 563) (by decide +kernel))) (by decide +kernel))
  | 4, _ => (tblG_in (List.mem_append_right _ (List.mem_of_getElem? (i := 565) (by decide +kernel))) (by decide +kernel))
  | 5, _ => (tblG_in (List.mem_append_right _ (List.mem_of_getElem? (i := 567) (by decide +kernel))) (by decide +kernel))
  | 6, _ => (tblG_in (List.mem_append_right _ (List.mem_of_getElem? (i := 569) (by decide +kernel))) (by decide +kernel))
  | 7, _ => (tblG_in (List.mem_append_right _ (List.mem_of_getElem? (i := 571) (by decide +kernel))) (by decide +kernel))
  | 8, _ => (tblG_in (List.mem_append_right _ (List.mem_of_getElem? (i := 573) (by decide +kernel))) (by decide +kernel))
  | 9, _ => (tblG_in (List.mem_append_right _ (List.mem_of_getElem? (i := 575) (by decide +kernel))) (by decide +kernel))
  | 10, _ => (tblG_in (List.mem_append_right _ (List.mem_of_getElem? (i := 577) (by decide +kernel))) (by decide +kernel))
  | 11, _ => (tblG_in (List.mem_append_right _ (List.mem_of_getElem? (i := 579) (by decide +kernel))) (by decide +kernel))
  | 12, _ => (tblG_in (List.mem_append_right _ (List.mem_of_getElem? (i := 581) (by decide +kernel))) (by decide +kernel))
  | 13, _ => (tblG_in (List.mem_append_right _ (List.mem_of_getElem? (i := 583) (by decide +kernel))) (by decide +kernel))
  | k + 14, h => absurd h (by omega))
set_option maxRecDepth 20000 in
theorem in_X12 : ∀ w ∈ u_ws RX12 TX12 48, w ∈ tblG := u_in (fun k hk => match k, hk with
  | 0, _ => (tblG_in (List.mem_append_right _ (List.mem_of_getElem? (i := 1438) (by decide +kernel))) (by decide +kernel))
  | 1, _ => (tblG_in (List.mem_append_right _ (List.mem_of_getElem? (i := 1440) (by decide +kernel))) (by decide +kernel))
  | 2, _ => (tblG_in (List.mem_append_right _ (List.mem_of_getElem? (i := 1442) (by decide +kernel))) (by decide +kernel))
  | 3, _ => (tblG_in (List.mem_append_right _ (List.mem_of_getElem? (i := 1444) (by decide +kernel))) (by decide +kernel))
  | 4, _ => (tblG_in (List.mem_append_right _ (List.mem_of_getElem? (i := 1446) (by decide +kernel))) (by decide +kernel))
  | 5, _ => (tblG_in (List.mem_append_right _ (List.mem_of_getElem? (i := 1448) (by decide +kernel))) (by decide +kernel))
  | 6, _ => (tblG_in (List.mem_append_right _ (List.mem_of_getElem? (i := 1450) (by decide +kernel))) (by decide +kernel))
  | 7, _ => (tblG_in (List.mem_append_right _ (List.mem_of_getElem? (i := 1452) (by decide +kernel))) (by decide +kernel))
  | 8, _ => (tblG_in (List.mem_append_right _ (List.mem_of_getElem? (i := 1454) (by decide +kernel))) (by decide +kernel))
  | 9, _ => (tblG_in (List.mem_append_right _ (List.mem_of_getElem? (i := 1456) (by decide +kernel))) (by decide +kernel))
  | 10, _ => (tblG_in (List.mem_append_right _ (List.mem_of_getElem? (i := 1458) (by decide +kernel))) (by decide +kernel))
  | 11, _ => (tblG_in (List.mem_append_right _ (List.mem_of_getElem? (i := 1460) (by decide +kernel))) (by decide +kernel))
  | 12, _ => (tblG_in (List.mem_append_right _ (List.mem_of_getElem? (i := 1462) (by decide +kernel))) (by decide +kernel))
  | 13, _ => (tblG_in (List.mem_append_right _ (List.mem_of_getElem? (i := 1464) (by decide +kernel))) (by decide +kernel))
  | 14, _ => (tblG_in (List.mem_append_right _ (List.mem_of_getElem? (i := 1466) (by decide +kernel))) (by decide +kernel))
  | 15, _ => (tblG_in (List.mem_append_right _ (List.mem_of_getElem? (i := 1468) (by decide +kernel))) (by decide +kernel))
  | 16, _ => (tblG_in (List.mem_append_right _ (List.mem_of_getElem? (i := 1470) (by decide +kernel))) (by decide +kernel))
  | 17, _ => (tblG_in (List.mem_append_right _ (List.mem_of_getElem? (i := 1472) (by decide +kernel))) (by decide +kernel))
  | 18, _ => (tblG_in (List.mem_append_right _ (List.mem_of_getElem? (i := 1474) (by decide +kernel))) (by decide +kernel))
  | 19, _ => (tblG_in (List.mem_append_right _ (List.mem_of_getElem? (i := 1476) (by decide +kernel))) (by decide +kernel))
  | 20, _ => (tblG_in (List.mem_append_right _ (List.mem_of_getElem? (i := 1478) (by decide +kernel))) (by decide +kernel))
  | 21, _ => (tblG_in (List.mem_append_right _ (List.mem_of_getElem? (i := 1480) (by decide +kernel))) (by decide +kernel))
  | 22, _ => (tblG_in (List.mem_append_right _ (List.mem_of_getElem? (i := 1482) (by decide +kernel))) (by decide +kernel))
  | 23, _ => (tblG_in (List.mem_append_right _ (List.mem_of_getElem? (i := 1484) (by decide +kernel))) (by decide +kernel))
  | 24, _ => (tblG_in (List.mem_append_right _ (List.mem_of_getElem? (i := 1486) (by decide +kernel))) (by decide +kernel))
  | 25, _ => (tblG_in (List.mem_append_right _ (List.mem_of_getElem? (i := 1488) (by decide +kernel))) (by decide +kernel))
  | 26, _ => (tblG_in (List.mem_append_right _ (List.mem_of_getElem? (i := 1490) (by decide +kernel))) (by decide +kernel))
  | 27, _ => (tblG_in (List.mem_append_right _ (List.mem_of_getElem? (i := 1492) (by decide +kernel))) (by decide +kernel))
  | 28, _ => (tblG_in (List.mem_append_right _ (List.mem_of_getElem? (i := 1494) (by decide +kernel))) (by decide +kernel))
  | 29, _ => (tblG_in (List.mem_append_right _ (List.mem_of_getElem? (i := 1496) (by decide +kernel))) (by decide +kernel))
  | 30, _ => (tblG_in (List.mem_append_right _ (List.mem_of_getElem? (i := 1498) (by decide +kernel))) (by decide +kernel))
  | 31, _ => (tblG_in (List.mem_append_right _ (List.mem_of_getElem? (i := 1500) (by decide +kernel))) (by decide +kernel))
  | 32, _ => (tblG_in (List.mem_append_right _ (List.mem_of_getElem? (i := 1502) (by decide +kernel))) (by decide +kernel))
  | 33, _ => (tblG_in (List.mem_append_right _ (List.mem_of_getElem? (i := 1504) (by decide +kernel))) (by decide +kernel))
  | 34, _ => (tblG_in (List.mem_append_right _ (List.mem_of_getElem? (i := 1506) (by decide +kernel))) (by decide +kernel))
  | 35, _ => (tblG_in (List.mem_append_right _ (List.mem_of_getElem? (i := 1508) (by decide +kernel))) (by decide +kernel))
  | 36, _ => (tblG_in (List.mem_append_right _ (List.mem_of_getElem? (i := 1510) (by decide +kernel))) (by decide +kernel))
  | 37, _ => (tblG_in (List.mem_append_right _ (List.mem_of_getElem? (i := 1512) (by decide +kernel))) (by decide +kernel))
  | 38, _ => (tblG_in (List.mem_append_right _ (List.mem_of_getElem? (i := 1514) (by decide +kernel))) (by decide +kernel))
  | 39, _ => (tblG_in (List.mem_append_right _ (List.mem_of_getElem? (i := 1516) (by decide +kernel))) (by decide +kernel))
  | 40, _ => (tblG_in (List.mem_append_right _ (List.mem_of_getElem? (i := 1518) (by decide +kernel))) (by decide +kernel))
  | 41, _ => (tblG_in (List.mem_append_right _ (List.mem_of_getElem? (i := 1520) (by decide +kernel))) (by decide +kernel))
  | 42, _ => (tblG_in (List.mem_append_right _ (List.mem_of_getElem? (i := 1522) (by decide +kernel))) (by decide +kernel))
  | 43, _ => (tblG_in (List.mem_append_right _ (List.mem_of_getElem? (i := 1524) (by decide +kernel))) (by decide +kernel))
  | 44, _ => (tblG_in (List.mem_append_right _ (List.mem_of_getElem? (i := 1526) (by decide +kernel))) (by decide +kernel))
  | 45, _ => (tblG_in (List.mem_append_right _ (List.mem_of_getElem? (i := 1528) (by decide +kernel))) (by decide +kernel))
  | 46, _ => (tblG_in (List.mem_append_right _ (List.mem_of_getElem? (i := 1530) (by decide +kernel))) (by decide +kernel))
  | 47, _ => (tblG_in (List.mem_append_right _ (List.mem_of_getElem? (i := 1532) (by decide +kernel))) (by decide +kernel))
  | k + 48, h => absurd h (by omega))
theorem fl_11_12 : FL RX11 12 11 0 := ⟨RX11, TX11, 14, rfl, by decide, in_X11, tyX11_ok, nmX11, Or.inl (tblG_in (List.mem_append_right _ (List.mem_of_getElem? (i := 543) (by decide +kernel))) (by decide +kernel))⟩
theorem fl_11_24 : FL RX11 24 11 1 := ⟨RX11, TX11, 14, rfl, by decide, in_X11, tyX11_ok, nmX11, Or.inl (tblG_in (List.mem_append_right _ (List.mem_of_getElem? (i := 544) (by decide +kernel))) (by decide +kernel))⟩
theorem fl_11_28 : FL RX11 28 10 0 := ⟨RX10, TX10, 4, rfl, by decide, in_X10, tyX10_ok, nmX10, Or.inl (tblG_in (List.mem_append_right _ (List.mem_of_getElem? (i := 349) (by decide +kernel))) (by decide +kernel))⟩
theorem fl_11_32 : FL RX11 32 11 2 := ⟨RX11, TX11, 14, rfl, by decide, in_X11, tyX11_ok, nmX11, Or.inl (tblG_in (List.mem_append_right _ (List.mem_of_getElem? (i := 545) (by decide +kernel))) (by decide +kernel))⟩
theorem fl_11_40 : FL RX11 40 11 3 := ⟨RX11, TX11, 14, rfl, by decide, in_X11, tyX11_ok, nmX11, Or.inl (tblG_in (List.mem_append_right _ (List.mem_of_getElem? (i := 546) (by decide +kernel))) (by decide +kernel))⟩
theorem fl_11_47 : FL RX11 47 11 4 := ⟨RX11, TX11, 14, rfl, by decide, in_X11, tyX11_ok, nmX11, Or.inl (tblG_in (List.mem_append_right _ (List.mem_of_getElem? (i := 547) (by decide +kernel))) (by decide +kernel))⟩
theorem fl_11_54 : FL RX11 54 11 5 := ⟨RX11, TX11, 14, rfl, by decide, in_X11, tyX11_ok, nmX11, Or.inl (tblG_in (List.mem_append_right _ (List.mem_of_getElem? (i := 548) (by decide +kernel))) (by decide +kernel))⟩
theorem fl_11_61 : FL RX11 61 11 6 := ⟨RX11, TX11, 14, rfl, by decide, in_X11, tyX11_ok, nmX11, Or.inl (tblG_in (List.mem_append_right _ (List.mem_of_getElem? (i := 549) (by decide +kernel))) (by decide +kernel))⟩
theorem fl_11_68 : FL RX11 68 11 7 := ⟨RX11, TX11, 14, rfl, by decide, in_X11, tyX11_ok, nmX11, Or.inl (tblG_in (List.mem_append_right _ (List.mem_of_getElem? (i := 550) (by decide +kernel))) (by decide +kernel))⟩
theorem fl_11_75 : FL RX11 75 11 8 := ⟨RX11, TX11, 14, rfl, by decide, in_X11, tyX11_ok, nmX11, Or.inl (tblG_in (List.mem_append_right _ (List.mem_of_getElem? (i := 551) (by decide +kernel))) (by decide +kernel))⟩
theorem fl_11_82 : FL RX11 82 11 9 := ⟨RX11, TX11, 14, rfl, by decide, in_X11, tyX11_ok, nmX11, Or.inl (tblG_in (List.mem_append_right _ (List.mem_of_getElem? (i := 552) (by decide +kernel))) (by decide +kernel))⟩
theorem fl_11_86 : FL RX11 86 11 10 := ⟨RX11, TX11, 14, rfl, by decide, in_X11, tyX11_ok, nmX11, Or.inl (tblG_in (List.mem_append_right _ (List.mem_of_getElem? (i := 553) (by decide +kernel))) (by decide +kernel))⟩
theorem fl_11_90 : FL RX11 90 11 11 := ⟨RX11, TX11, 14, rfl, by decide, in_X11, tyX11_ok, nmX11, Or.inl (tblG_in (List.mem_append_right _ (List.mem_of_getElem? (i := 554) (by decide +kernel))) (by decide +kernel))⟩
theorem fl_11_94 : FL RX11 94 11 12 := ⟨RX11, TX11, 14, rfl, by decide, in_X11, tyX11_ok, nmX11, Or.inl (tblG_in (List.mem_append_right _ (List.mem_of_getElem? (i := 555) (by decide +kernel))) (by decide +kernel))⟩
theorem fl_11_98 : FL RX11 98 11 13 := ⟨RX11, TX11, 14, rfl, by decide, in_X11, tyX11_ok, nmX11, Or.inl (tblG_in (List.mem_append_right _ (List.mem_of_getElem? (i := 556) (by decide +kernel))) (by decide +kernel))⟩
theorem fw_11_98 : FLw RX11 98 11 13 := ⟨fl_11_98, fun q h => by cases h; rfl⟩
theorem fl_11_102 : FL RX11 102 7 1 := ⟨RX7, TX7, 14, rfl, by decide, in_X7, tyX7_ok, nmX7, Or.inl (tblG_in (List.mem_append_right _ (List.mem_of_getElem? (i := 98) (by decide +kernel))) (by decide +kernel))⟩
theorem fw_11_102 : FLw RX11 102 7 1 := ⟨fl_11_102, fun q h => by cases h; rfl⟩
theorem fl_11_113 : FL RX11 113 7 3 := ⟨RX7, TX7, 14, rfl, by decide, in_X7, tyX7_ok, nmX7, Or.inl (tblG_in (List.mem_append_right _ (List.mem_of_getElem? (i := 104) (by decide +kernel))) (by decide +kernel))⟩
theorem fw_11_113 : FLw RX11 113 7 3 := ⟨fl_11_113, fun q h => by cases h; rfl⟩
theorem fl_11_116 : FL RX11 116 2 0 := ⟨RX2, TX2, 4, rfl, by decide, in_X2, tyX2_ok, nmX2, Or.inl (tblG_in (List.mem_append_right _ (List.mem_of_getElem? (i := 381) (by decide +kernel))) (by decide +kernel))⟩
theorem fl_11_126 : FL RX11 126 7 6 := ⟨RX7, TX7, 14, rfl, by decide, in_X7, tyX7_ok, nmX7, Or.inl (tblG_in (List.mem_append_right _ (List.mem_of_getElem? (i := 114) (by decide +kernel))) (by decide +kernel))⟩
theorem fw_11_126 : FLw RX11 126 7 6 := ⟨fl_11_126, fun q h => by cases h; rfl⟩
theorem fl_11_136 : FL RX11 136 10 1 := ⟨RX10, TX10, 4, rfl, by decide, in_X10, tyX10_ok, nmX10, Or.inl (tblG_in (List.mem_append_right _ (List.mem_of_getElem? (i := 355) (by decide +kernel))) (by decide +kernel))⟩
theorem fl_11_140 : FL RX11 140 6 3 := ⟨RX6, TX6, 9, rfl, by decide, in_X6, tyX6_ok, nmX6, Or.inl (tblG_in (List.mem_append_right _ (List.mem_of_getElem? (i := 275) (by decide +kernel))) (by decide +kernel))⟩
theorem fl_11_146 : FL RX11 146 6 4 := ⟨RX6, TX6, 9, rfl, by decide, in_X6, tyX6_ok, nmX6, Or.inl (tblG_in (List.mem_append_right _ (List.mem_of_getElem? (i := 280) (by decide +kernel))) (by decide +kernel))⟩
theorem fl_11_149 : FL RX11 149 6 5 := ⟨RX6, TX6, 9, rfl, by decide, in_X6, tyX6_ok, nmX6, Or.inl (tblG_in (List.mem_append_right _ (List.mem_of_getElem? (i := 285) (by decide +kernel))) (by decide +kernel))⟩
theorem fl_11_152 : FL RX11 152 6 6 := ⟨RX6, TX6, 9, rfl, by decide, in_X6, tyX6_ok, nmX6, Or.inl (tblG_in (List.mem_append_right _ (List.mem_of_getElem? (i := 290) (by decide +kernel))) (by decide +kernel))⟩
theorem fl_11_155 : FL RX11 155 1 9 := ⟨RX1, TX1, 14, rfl, by decide, in_X1, tyX1_ok, nmX1, Or.inl (tblG_in (List.mem_append_right _ (List.mem_of_getElem? (i := 205) (by decide +kernel))) (by decide +kernel))⟩
theorem fl_11_158 : FL RX11 158 6 7 := ⟨RX6, TX6, 9, rfl, by decide, in_X6, tyX6_ok, nmX6, Or.inl (tblG_in (List.mem_append_right _ (List.mem_of_getElem? (i := 295) (by decide +kernel))) (by decide +kernel))⟩
theorem fl_11_161 : FL RX11 161 6 8 := ⟨RX6, TX6, 9, rfl, by decide, in_X6, tyX6_ok, nmX6, Or.inl (tblG_in (List.mem_append_right _ (List.mem_of_getElem? (i := 299) (by decide +kernel))) (by decide +kernel))⟩
theorem fl_11_167 : FL RX11 167 1 6 := ⟨RX1, TX1, 14, rfl, by decide, in_X1, tyX1_ok, nmX1, Or.inl (tblG_in (List.mem_append_right _ (List.mem_of_getElem? (i := 192) (by decide +kernel))) (by decide +kernel))⟩
theorem fl_11_170 : FL RX11 170 1 7 := ⟨RX1, TX1, 14, rfl, by decide, in_X1, tyX1_ok, nmX1, Or.inl (tblG_in (List.mem_append_right _ (List.mem_of_getElem? (i := 199) (by decide +kernel))) (by decide +kernel))⟩
theorem fl_11_180 : FL RX11 180 1 11 := ⟨RX1, TX1, 14, rfl, by decide, in_X1, tyX1_ok, nmX1, Or.inl (tblG_in (List.mem_append_right _ (List.mem_of_getElem? (i := 211) (by decide +kernel))) (by decide +kernel))⟩
theorem fl_11_183 : FL RX11 183 1 12 := ⟨RX1, TX1, 14, rfl, by decide, in_X1, tyX1_ok, nmX1, Or.inl (tblG_in (List.mem_append_right _ (List.mem_of_getElem? (i := 215) (by decide +kernel))) (by decide +kernel))⟩
theorem fl_11_186 : FL RX11 186 1 13 := ⟨RX1, TX1, 14, rfl, by decide, in_X1, tyX1_ok, nmX1, Or.inl (tblG_in (List.mem_append_right _ (List.mem_of_getElem? (i := 219) (by decide +kernel))) (by decide +kernel))⟩
theorem fl_11_196 : FL RX11 196 6 2 := ⟨RX6, TX6, 9, rfl, by decide, in_X6, tyX6_ok, nmX6, Or.inl (tblG_in (List.mem_append_right _ (List.mem_of_getElem? (i := 272) (by decide +kernel))) (by decide +kernel))⟩
theorem fl_11_209 : FL RX11 209 6 0 := ⟨RX6, TX6, 9, rfl, by decide, in_X6, tyX6_ok, nmX6, Or.inl (tblG_in (List.mem_append_right _ (List.mem_of_getElem? (i := 263) (by decide +kernel))) (by decide +kernel))⟩
theorem fw_11_209 : FLw RX11 209 6 0 := ⟨fl_11_209, fun q h => by cases h; rfl⟩
theorem fl_11_218 : FL RX11 218 6 1 := ⟨RX6, TX6, 9, rfl, by decide, in_X6, tyX6_ok, nmX6, Or.inl (tblG_in (List.mem_append_right _ (List.mem_of_getElem? (i := 266) (by decide +kernel))) (by decide +kernel))⟩
theorem fw_11_218 : FLw RX11 218 6 1 := ⟨fl_11_218, fun q h => by cases h; rfl⟩
theorem fl_11_290 : FL RX11 290 4 2 := ⟨RX4, TX4, 9, rfl, by decide, in_X4, tyX4_ok, nmX4, Or.inl (tblG_in (List.mem_append_right _ (List.mem_of_getElem? (i := 455) (by decide +kernel))) (by decide +kernel))⟩
theorem fw_11_290 : FLw RX11 290 4 2 := ⟨fl_11_290, fun q h => by cases h; rfl⟩
theorem fl_11_293 : FL RX11 293 4 1 := ⟨RX4, TX4, 9, rfl, by decide, in_X4, tyX4_ok, nmX4, Or.inl (tblG_in (List.mem_append_right _ (List.mem_of_getElem? (i := 453) (by decide +kernel))) (by decide +kernel))⟩
theorem fl_11_296 : FL RX11 296 4 0 := ⟨RX4, TX4, 9, rfl, by decide, in_X4, tyX4_ok, nmX4, Or.inl (tblG_in (List.mem_append_right _ (List.mem_of_getElem? (i := 451) (by decide +kernel))) (by decide +kernel))⟩
theorem fl_11_309 : FL RX11 309 9 1 := ⟨RX9, TX9, 3, rfl, by decide, in_X9, tyX9_ok, nmX9, Or.inl (tblG_in (List.mem_append_right _ (List.mem_of_getElem? (i := 490) (by decide +kernel))) (by decide +kernel))⟩
theorem fw_11_309 : FLw RX11 309 9 1 := ⟨fl_11_309, fun q h => by cases h; rfl⟩
theorem fl_11_310 : FL RX11 310 9 0 := ⟨RX9, TX9, 3, rfl, by decide, in_X9, tyX9_ok, nmX9, Or.inl (tblG_in (List.mem_append_right _ (List.mem_of_getElem? (i := 488) (by decide +kernel))) (by decide +kernel))⟩
theorem fl_11_315 : FL RX11 315 8 1 := ⟨RX8, TX8, 5, rfl, by decide, in_X8, tyX8_ok, nmX8, Or.inl (tblG_in (List.mem_append_right _ (List.mem_of_getElem? (i := 508) (by decide +kernel))) (by decide +kernel))⟩
theorem fw_11_315 : FLw RX11 315 8 1 := ⟨fl_11_315, fun q h => by cases h; rfl⟩
theorem fl_11_318 : FL RX11 318 8 0 := ⟨RX8, TX8, 5, rfl, by decide, in_X8, tyX8_ok, nmX8, Or.inl (tblG_in (List.mem_append_right _ (List.mem_of_getElem? (i := 506) (by decide +kernel))) (by decide +kernel))⟩
theorem fl_11_327 : FL RX11 327 1 3 := ⟨RX1, TX1, 14, rfl, by decide, in_X1, tyX1_ok, nmX1, Or.inl (tblG_in (List.mem_append_right _ (List.mem_of_getElem? (i := 181) (by decide +kernel))) (by decide +kernel))⟩
theorem fw_11_327 : FLw RX11 327 1 3 := ⟨fl_11_327, fun q h => by cases h; rfl⟩
theorem fl_11_333 : FL RX11 333 1 8 := ⟨RX1, TX1, 14, rfl, by decide, in_X1, tyX1_ok, nmX1, Or.inl (tblG_in (List.mem_append_right _ (List.mem_of_getElem? (i := 203) (by decide +kernel))) (by decide +kernel))⟩
theorem fl_11_365 : FL RX11 365 0 2 := ⟨RX0, TX0, 12, rfl, by decide, in_X0, tyX0_ok, nmX0, Or.inl (tblG_in (List.mem_append_right _ (List.mem_of_getElem? (i := 405) (by decide +kernel))) (by decide +kernel))⟩
theorem fw_11_365 : FLw RX11 365 0 2 := ⟨fl_11_365, fun q h => by cases h; rfl⟩
theorem fl_11_368 : FL RX11 368 0 1 := ⟨RX0, TX0, 12, rfl, by decide, in_X0, tyX0_ok, nmX0, Or.inl (tblG_in (List.mem_append_right _ (List.mem_of_getElem? (i := 403) (by decide +kernel))) (by decide +kernel))⟩
theorem fw_11_368 : FLw RX11 368 0 1 := ⟨fl_11_368, fun q h => by cases h; rfl⟩
theorem fl_11_371 : FL RX11 371 0 0 := ⟨RX0, TX0, 12, rfl, by decide, in_X0, tyX0_ok, nmX0, Or.inl (tblG_in (List.mem_append_right _ (List.mem_of_getElem? (i := 401) (by decide +kernel))) (by decide +kernel))⟩
theorem fw_11_371 : FLw RX11 371 0 0 := ⟨fl_11_371, fun q h => by cases h; rfl⟩
theorem fl_11_375 : FL RX11 375 0 3 := ⟨RX0, TX0, 12, rfl, by decide, in_X0, tyX0_ok, nmX0, Or.inl (tblG_in (List.mem_append_right _ (List.mem_of_getElem? (i := 407) (by decide +kernel))) (by decide +kernel))⟩
theorem fw_11_375 : FLw RX11 375 0 3 := ⟨fl_11_375, fun q h => by cases h; rfl⟩
theorem fl_11_376 : FL RX11 376 0 4 := ⟨RX0, TX0, 12, rfl, by decide, in_X0, tyX0_ok, nmX0, Or.inl (tblG_in (List.mem_append_right _ (List.mem_of_getElem? (i := 409) (by decide +kernel))) (by decide +kernel))⟩
theorem fw_11_376 : FLw RX11 376 0 4 := ⟨fl_11_376, fun q h => by cases h; rfl⟩
theorem fl_11_382 : FL RX11 382 10 2 := ⟨RX10, TX10, 4, rfl, by decide, in_X10, tyX10_ok, nmX10, Or.inl (tblG_in (List.mem_append_right _ (List.mem_of_getElem? (i := 359) (by decide +kernel))) (by decide +kernel))⟩
theorem fl_11_388 : FL RX11 388 5 0 := ⟨RX5, TX5, 6, rfl, by decide, in_X5, tyX5_ok, nmX5, Or.inl (tblG_in (List.mem_append_right _ (List.mem_of_getElem? (i := 328) (by decide +kernel))) (by decide +kernel))⟩
theorem fw_11_388 : FLw RX11 388 5 0 := ⟨fl_11_388, fun q h => by cases h; rfl⟩
theorem fl_11_395 : FL RX11 395 1 0 := ⟨RX1, TX1, 14, rfl, by decide, in_X1, tyX1_ok, nmX1, Or.inl (tblG_in (List.mem_append_right _ (List.mem_of_getElem? (i := 165) (by decide +kernel))) (by decide +kernel))⟩
theorem fw_11_395 : FLw RX11 395 1 0 := ⟨fl_11_395, fun q h => by cases h; rfl⟩
theorem fl_11_398 : FL RX11 398 1 1 := ⟨RX1, TX1, 14, rfl, by decide, in_X1, tyX1_ok, nmX1, Or.inl (tblG_in (List.mem_append_right _ (List.mem_of_getElem? (i := 169) (by decide +kernel))) (by decide +kernel))⟩
theorem fw_11_398 : FLw RX11 398 1 1 := ⟨fl_11_398, fun q h => by cases h; rfl⟩
theorem fl_11_401 : FL RX11 401 1 2 := ⟨RX1, TX1, 14, rfl, by decide, in_X1, tyX1_ok, nmX1, Or.inl (tblG_in (List.mem_append_right _ (List.mem_of_getElem? (i := 176) (by decide +kernel))) (by decide +kernel))⟩
theorem fw_11_401 : FLw RX11 401 1 2 := ⟨fl_11_401, fun q h => by cases h; rfl⟩
theorem fl_11_404 : FL RX11 404 1 4 := ⟨RX1, TX1, 14, rfl, by decide, in_X1, tyX1_ok, nmX1, Or.inl (tblG_in (List.mem_append_right _ (List.mem_of_getElem? (i := 185) (by decide +kernel))) (by decide +kernel))⟩
theorem fw_11_404 : FLw RX11 404 1 4 := ⟨fl_11_404, fun q h => by cases h; rfl⟩
theorem k_11_415 : Cond.constantLong RX11 415 (Int64.ofInt (32)) ∈ tblG := (tblG_in (List.mem_append_right _ (List.mem_of_getElem? (i := 94) (by decide +kernel))) (by decide +kernel))
theorem fl_0_9 : FL RX0 9 0 0 := ⟨RX0, TX0, 12, rfl, by decide, in_X0, tyX0_ok, nmX0, Or.inl (tblG_in (List.mem_append_right _ (List.mem_of_getElem? (i := 400) (by decide +kernel))) (by decide +kernel))⟩
theorem fw_0_9 : FLw RX0 9 0 0 := ⟨fl_0_9, fun q h => by cases h; rfl⟩
theorem fl_0_15 : FL RX0 15 0 1 := ⟨RX0, TX0, 12, rfl, by decide, in_X0, tyX0_ok, nmX0, Or.inl (tblG_in (List.mem_append_right _ (List.mem_of_getElem? (i := 402) (by decide +kernel))) (by decide +kernel))⟩
theorem fw_0_15 : FLw RX0 15 0 1 := ⟨fl_0_15, fun q h => by cases h; rfl⟩
theorem fl_0_19 : FL RX0 19 0 2 := ⟨RX0, TX0, 12, rfl, by decide, in_X0, tyX0_ok, nmX0, Or.inl (tblG_in (List.mem_append_right _ (List.mem_of_getElem? (i := 404) (by decide +kernel))) (by decide +kernel))⟩
theorem fw_0_19 : FLw RX0 19 0 2 := ⟨fl_0_19, fun q h => by cases h; rfl⟩
theorem fl_0_22 : FL RX0 22 0 3 := ⟨RX0, TX0, 12, rfl, by decide, in_X0, tyX0_ok, nmX0, Or.inl (tblG_in (List.mem_append_right _ (List.mem_of_getElem? (i := 406) (by decide +kernel))) (by decide +kernel))⟩
theorem fw_0_22 : FLw RX0 22 0 3 := ⟨fl_0_22, fun q h => by cases h; rfl⟩
theorem fl_0_25 : FL RX0 25 0 4 := ⟨RX0, TX0, 12, rfl, by decide, in_X0, tyX0_ok, nmX0, Or.inl (tblG_in (List.mem_append_right _ (List.mem_of_getElem? (i := 408) (by decide +kernel))) (by decide +kernel))⟩
theorem fw_0_25 : FLw RX0 25 0 4 := ⟨fl_0_25, fun q h => by cases h; rfl⟩
theorem fl_0_28 : FL RX0 28 0 6 := ⟨RX0, TX0, 12, rfl, by decide, in_X0, tyX0_ok, nmX0, Or.inl (tblG_in (List.mem_append_right _ (List.mem_of_getElem? (i := 411) (by decide +kernel))) (by decide +kernel))⟩
theorem fl_0_32 : FL RX0 32 0 7 := ⟨RX0, TX0, 12, rfl, by decide, in_X0, tyX0_ok, nmX0, Or.inl (tblG_in (List.mem_append_right _ (List.mem_of_getElem? (i := 412) (by decide +kernel))) (by decide +kernel))⟩
theorem fl_0_35 : FL RX0 35 0 8 := ⟨RX0, TX0, 12, rfl, by decide, in_X0, tyX0_ok, nmX0, Or.inl (tblG_in (List.mem_append_right _ (List.mem_of_getElem? (i := 413) (by decide +kernel))) (by decide +kernel))⟩
theorem fl_0_38 : FL RX0 38 0 9 := ⟨RX0, TX0, 12, rfl, by decide, in_X0, tyX0_ok, nmX0, Or.inl (tblG_in (List.mem_append_right _ (List.mem_of_getElem? (i := 414) (by decide +kernel))) (by decide +kernel))⟩
theorem fl_0_41 : FL RX0 41 0 10 := ⟨RX0, TX0, 12, rfl, by decide, in_X0, tyX0_ok, nmX0, Or.inl (tblG_in (List.mem_append_right _ (List.mem_of_getElem? (i := 415) (by decide +kernel))) (by decide +kernel))⟩
theorem fl_0_44 : FL RX0 44 0 11 := ⟨RX0, TX0, 12, rfl, by decide, in_X0, tyX0_ok, nmX0, Or.inl (tblG_in (List.mem_append_right _ (List.mem_of_getElem? (i := 416) (by decide +kernel))) (by decide +kernel))⟩
theorem fw_0_44 : FLw RX0 44 0 11 := ⟨fl_0_44, fun q h => by cases h; rfl⟩
theorem fl_0_47 : FL RX0 47 0 5 := ⟨RX0, TX0, 12, rfl, by decide, in_X0, tyX0_ok, nmX0, Or.inl (tblG_in (List.mem_append_right _ (List.mem_of_getElem? (i := 410) (by decide +kernel))) (by decide +kernel))⟩
theorem fl_0_60 : FL RX0 60 7 2 := ⟨RX7, TX7, 14, rfl, by decide, in_X7, tyX7_ok, nmX7, Or.inl (tblG_in (List.mem_append_right _ (List.mem_of_getElem? (i := 100) (by decide +kernel))) (by decide +kernel))⟩
theorem fw_0_60 : FLw RX0 60 7 2 := ⟨fl_0_60, fun q h => by cases h; rfl⟩
theorem fl_0_74 : FL RX0 74 7 5 := ⟨RX7, TX7, 14, rfl, by decide, in_X7, tyX7_ok, nmX7, Or.inl (tblG_in (List.mem_append_right _ (List.mem_of_getElem? (i := 110) (by decide +kernel))) (by decide +kernel))⟩
theorem fw_0_74 : FLw RX0 74 7 5 := ⟨fl_0_74, fun q h => by cases h; rfl⟩
theorem fl_0_95 : FL RX0 95 7 4 := ⟨RX7, TX7, 14, rfl, by decide, in_X7, tyX7_ok, nmX7, Or.inl (tblG_in (List.mem_append_right _ (List.mem_of_getElem? (i := 106) (by decide +kernel))) (by decide +kernel))⟩
theorem fw_0_95 : FLw RX0 95 7 4 := ⟨fl_0_95, fun q h => by cases h; rfl⟩
theorem fl_0_114 : FL RX0 114 10 1 := ⟨RX10, TX10, 4, rfl, by decide, in_X10, tyX10_ok, nmX10, Or.inl (tblG_in (List.mem_append_right _ (List.mem_of_getElem? (i := 356) (by decide +kernel))) (by decide +kernel))⟩
theorem fl_0_120 : FL RX0 120 6 0 := ⟨RX6, TX6, 9, rfl, by decide, in_X6, tyX6_ok, nmX6, Or.inl (tblG_in (List.mem_append_right _ (List.mem_of_getElem? (i := 262) (by decide +kernel))) (by decide +kernel))⟩
theorem fw_0_120 : FLw RX0 120 6 0 := ⟨fl_0_120, fun q h => by cases h; rfl⟩
theorem fl_1_9 : FL RX1 9 1 0 := ⟨RX1, TX1, 14, rfl, by decide, in_X1, tyX1_ok, nmX1, Or.inl (tblG_in (List.mem_append_right _ (List.mem_of_getElem? (i := 162) (by decide +kernel))) (by decide +kernel))⟩
theorem fw_1_9 : FLw RX1 9 1 0 := ⟨fl_1_9, fun q h => by cases h; rfl⟩
theorem fl_1_15 : FL RX1 15 1 1 := ⟨RX1, TX1, 14, rfl, by decide, in_X1, tyX1_ok, nmX1, Or.inl (tblG_in (List.mem_append_right _ (List.mem_of_getElem? (i := 166) (by decide +kernel))) (by decide +kernel))⟩
theorem fw_1_15 : FLw RX1 15 1 1 := ⟨fl_1_15, fun q h => by cases h; rfl⟩
theorem fl_1_18 : FL RX1 18 1 2 := ⟨RX1, TX1, 14, rfl, by decide, in_X1, tyX1_ok, nmX1, Or.inl (tblG_in (List.mem_append_right _ (List.mem_of_getElem? (i := 170) (by decide +kernel))) (by decide +kernel))⟩
theorem fw_1_18 : FLw RX1 18 1 2 := ⟨fl_1_18, fun q h => by cases h; rfl⟩
theorem fl_1_21 : FL RX1 21 1 3 := ⟨RX1, TX1, 14, rfl, by decide, in_X1, tyX1_ok, nmX1, Or.inl (tblG_in (List.mem_append_right _ (List.mem_of_getElem? (i := 177) (by decide +kernel))) (by decide +kernel))⟩
theorem fw_1_21 : FLw RX1 21 1 3 := ⟨fl_1_21, fun q h => by cases h; rfl⟩
theorem fl_1_24 : FL RX1 24 1 4 := ⟨RX1, TX1, 14, rfl, by decide, in_X1, tyX1_ok, nmX1, Or.inl (tblG_in (List.mem_append_right _ (List.mem_of_getElem? (i := 182) (by decide +kernel))) (by decide +kernel))⟩
theorem fw_1_24 : FLw RX1 24 1 4 := ⟨fl_1_24, fun q h => by cases h; rfl⟩
theorem fl_1_27 : FL RX1 27 1 5 := ⟨RX1, TX1, 14, rfl, by decide, in_X1, tyX1_ok, nmX1, Or.inl (tblG_in (List.mem_append_right _ (List.mem_of_getElem? (i := 186) (by decide +kernel))) (by decide +kernel))⟩
theorem fl_1_31 : FL RX1 31 1 6 := ⟨RX1, TX1, 14, rfl, by decide, in_X1, tyX1_ok, nmX1, Or.inl (tblG_in (List.mem_append_right _ (List.mem_of_getElem? (i := 188) (by decide +kernel))) (by decide +kernel))⟩
theorem fl_1_35 : FL RX1 35 1 7 := ⟨RX1, TX1, 14, rfl, by decide, in_X1, tyX1_ok, nmX1, Or.inl (tblG_in (List.mem_append_right _ (List.mem_of_getElem? (i := 194) (by decide +kernel))) (by decide +kernel))⟩
theorem fl_1_38 : FL RX1 38 1 8 := ⟨RX1, TX1, 14, rfl, by decide, in_X1, tyX1_ok, nmX1, Or.inl (tblG_in (List.mem_append_right _ (List.mem_of_getElem? (i := 201) (by decide +kernel))) (by decide +kernel))⟩
theorem fl_1_41 : FL RX1 41 1 9 := ⟨RX1, TX1, 14, rfl, by decide, in_X1, tyX1_ok, nmX1, Or.inl (tblG_in (List.mem_append_right _ (List.mem_of_getElem? (i := 204) (by decide +kernel))) (by decide +kernel))⟩
theorem fl_1_44 : FL RX1 44 1 10 := ⟨RX1, TX1, 14, rfl, by decide, in_X1, tyX1_ok, nmX1, Or.inl (tblG_in (List.mem_append_right _ (List.mem_of_getElem? (i := 208) (by decide +kernel))) (by decide +kernel))⟩
theorem fl_1_47 : FL RX1 47 1 11 := ⟨RX1, TX1, 14, rfl, by decide, in_X1, tyX1_ok, nmX1, Or.inl (tblG_in (List.mem_append_right _ (List.mem_of_getElem? (i := 210) (by decide +kernel))) (by decide +kernel))⟩
theorem fl_1_50 : FL RX1 50 1 12 := ⟨RX1, TX1, 14, rfl, by decide, in_X1, tyX1_ok, nmX1, Or.inl (tblG_in (List.mem_append_right _ (List.mem_of_getElem? (i := 214) (by decide +kernel))) (by decide +kernel))⟩
theorem fl_1_53 : FL RX1 53 1 13 := ⟨RX1, TX1, 14, rfl, by decide, in_X1, tyX1_ok, nmX1, Or.inl (tblG_in (List.mem_append_right _ (List.mem_of_getElem? (i := 218) (by decide +kernel))) (by decide +kernel))⟩
theorem fl_2_17 : FL RX2 17 2 0 := ⟨RX2, TX2, 4, rfl, by decide, in_X2, tyX2_ok, nmX2, Or.inl (tblG_in (List.mem_append_right _ (List.mem_of_getElem? (i := 380) (by decide +kernel))) (by decide +kernel))⟩
theorem fl_2_23 : FL RX2 23 2 2 := ⟨RX2, TX2, 4, rfl, by decide, in_X2, tyX2_ok, nmX2, Or.inl (tblG_in (List.mem_append_right _ (List.mem_of_getElem? (i := 383) (by decide +kernel))) (by decide +kernel))⟩
theorem fw_2_23 : FLw RX2 23 2 2 := ⟨fl_2_23, fun q h => by cases h; rfl⟩
theorem fl_2_27 : FL RX2 27 2 3 := ⟨RX2, TX2, 4, rfl, by decide, in_X2, tyX2_ok, nmX2, Or.inl (tblG_in (List.mem_append_right _ (List.mem_of_getElem? (i := 384) (by decide +kernel))) (by decide +kernel))⟩
theorem fw_2_27 : FLw RX2 27 2 3 := ⟨fl_2_27, fun q h => by cases h; rfl⟩
theorem fl_2_30 : FL RX2 30 2 1 := ⟨RX2, TX2, 4, rfl, by decide, in_X2, tyX2_ok, nmX2, Or.inl (tblG_in (List.mem_append_right _ (List.mem_of_getElem? (i := 382) (by decide +kernel))) (by decide +kernel))⟩
theorem fl_2_46 : FL RX2 46 7 2 := ⟨RX7, TX7, 14, rfl, by decide, in_X7, tyX7_ok, nmX7, Or.inl (tblG_in (List.mem_append_right _ (List.mem_of_getElem? (i := 101) (by decide +kernel))) (by decide +kernel))⟩
theorem fw_2_46 : FLw RX2 46 7 2 := ⟨fl_2_46, fun q h => by cases h; rfl⟩
theorem fl_2_58 : FL RX2 58 10 0 := ⟨RX10, TX10, 4, rfl, by decide, in_X10, tyX10_ok, nmX10, Or.inl (tblG_in (List.mem_append_right _ (List.mem_of_getElem? (i := 351) (by decide +kernel))) (by decide +kernel))⟩
theorem fl_2_62 : FL RX2 62 1 3 := ⟨RX1, TX1, 14, rfl, by decide, in_X1, tyX1_ok, nmX1, Or.inl (tblG_in (List.mem_append_right _ (List.mem_of_getElem? (i := 178) (by decide +kernel))) (by decide +kernel))⟩
theorem fw_2_62 : FLw RX2 62 1 3 := ⟨fl_2_62, fun q h => by cases h; rfl⟩
theorem fl_2_90 : FL RX2 90 7 4 := ⟨RX7, TX7, 14, rfl, by decide, in_X7, tyX7_ok, nmX7, Or.inl (tblG_in (List.mem_append_right _ (List.mem_of_getElem? (i := 107) (by decide +kernel))) (by decide +kernel))⟩
theorem fw_2_90 : FLw RX2 90 7 4 := ⟨fl_2_90, fun q h => by cases h; rfl⟩
theorem fl_2_93 : FL RX2 93 1 0 := ⟨RX1, TX1, 14, rfl, by decide, in_X1, tyX1_ok, nmX1, Or.inl (tblG_in (List.mem_append_right _ (List.mem_of_getElem? (i := 164) (by decide +kernel))) (by decide +kernel))⟩
theorem fw_2_93 : FLw RX2 93 1 0 := ⟨fl_2_93, fun q h => by cases h; rfl⟩
theorem fl_2_96 : FL RX2 96 1 1 := ⟨RX1, TX1, 14, rfl, by decide, in_X1, tyX1_ok, nmX1, Or.inl (tblG_in (List.mem_append_right _ (List.mem_of_getElem? (i := 168) (by decide +kernel))) (by decide +kernel))⟩
theorem fw_2_96 : FLw RX2 96 1 1 := ⟨fl_2_96, fun q h => by cases h; rfl⟩
theorem fl_2_102 : FL RX2 102 10 1 := ⟨RX10, TX10, 4, rfl, by decide, in_X10, tyX10_ok, nmX10, Or.inl (tblG_in (List.mem_append_right _ (List.mem_of_getElem? (i := 354) (by decide +kernel))) (by decide +kernel))⟩
theorem fl_2_106 : FL RX2 106 6 2 := ⟨RX6, TX6, 9, rfl, by decide, in_X6, tyX6_ok, nmX6, Or.inl (tblG_in (List.mem_append_right _ (List.mem_of_getElem? (i := 270) (by decide +kernel))) (by decide +kernel))⟩
theorem fl_2_116 : FL RX2 116 1 2 := ⟨RX1, TX1, 14, rfl, by decide, in_X1, tyX1_ok, nmX1, Or.inl (tblG_in (List.mem_append_right _ (List.mem_of_getElem? (i := 174) (by decide +kernel))) (by decide +kernel))⟩
theorem fw_2_116 : FLw RX2 116 1 2 := ⟨fl_2_116, fun q h => by cases h; rfl⟩
theorem fl_2_122 : FL RX2 122 1 5 := ⟨RX1, TX1, 14, rfl, by decide, in_X1, tyX1_ok, nmX1, Or.inl (tblG_in (List.mem_append_right _ (List.mem_of_getElem? (i := 187) (by decide +kernel))) (by decide +kernel))⟩
theorem fl_2_126 : FL RX2 126 7 5 := ⟨RX7, TX7, 14, rfl, by decide, in_X7, tyX7_ok, nmX7, Or.inl (tblG_in (List.mem_append_right _ (List.mem_of_getElem? (i := 111) (by decide +kernel))) (by decide +kernel))⟩
theorem fw_2_126 : FLw RX2 126 7 5 := ⟨fl_2_126, fun q h => by cases h; rfl⟩
theorem fl_2_130 : FL RX2 130 1 6 := ⟨RX1, TX1, 14, rfl, by decide, in_X1, tyX1_ok, nmX1, Or.inl (tblG_in (List.mem_append_right _ (List.mem_of_getElem? (i := 191) (by decide +kernel))) (by decide +kernel))⟩
theorem fl_2_133 : FL RX2 133 1 7 := ⟨RX1, TX1, 14, rfl, by decide, in_X1, tyX1_ok, nmX1, Or.inl (tblG_in (List.mem_append_right _ (List.mem_of_getElem? (i := 198) (by decide +kernel))) (by decide +kernel))⟩
theorem fl_2_136 : FL RX2 136 1 8 := ⟨RX1, TX1, 14, rfl, by decide, in_X1, tyX1_ok, nmX1, Or.inl (tblG_in (List.mem_append_right _ (List.mem_of_getElem? (i := 202) (by decide +kernel))) (by decide +kernel))⟩
theorem fl_2_139 : FL RX2 139 6 3 := ⟨RX6, TX6, 9, rfl, by decide, in_X6, tyX6_ok, nmX6, Or.inl (tblG_in (List.mem_append_right _ (List.mem_of_getElem? (i := 277) (by decide +kernel))) (by decide +kernel))⟩
theorem fl_2_142 : FL RX2 142 6 4 := ⟨RX6, TX6, 9, rfl, by decide, in_X6, tyX6_ok, nmX6, Or.inl (tblG_in (List.mem_append_right _ (List.mem_of_getElem? (i := 282) (by decide +kernel))) (by decide +kernel))⟩
theorem fl_2_145 : FL RX2 145 6 5 := ⟨RX6, TX6, 9, rfl, by decide, in_X6, tyX6_ok, nmX6, Or.inl (tblG_in (List.mem_append_right _ (List.mem_of_getElem? (i := 286) (by decide +kernel))) (by decide +kernel))⟩
theorem fl_2_148 : FL RX2 148 6 6 := ⟨RX6, TX6, 9, rfl, by decide, in_X6, tyX6_ok, nmX6, Or.inl (tblG_in (List.mem_append_right _ (List.mem_of_getElem? (i := 291) (by decide +kernel))) (by decide +kernel))⟩
theorem fl_2_151 : FL RX2 151 1 9 := ⟨RX1, TX1, 14, rfl, by decide, in_X1, tyX1_ok, nmX1, Or.inl (tblG_in (List.mem_append_right _ (List.mem_of_getElem? (i := 206) (by decide +kernel))) (by decide +kernel))⟩
theorem fl_2_154 : FL RX2 154 1 4 := ⟨RX1, TX1, 14, rfl, by decide, in_X1, tyX1_ok, nmX1, Or.inl (tblG_in (List.mem_append_right _ (List.mem_of_getElem? (i := 184) (by decide +kernel))) (by decide +kernel))⟩
theorem fw_2_154 : FLw RX2 154 1 4 := ⟨fl_2_154, fun q h => by cases h; rfl⟩
theorem fl_2_157 : FL RX2 157 1 10 := ⟨RX1, TX1, 14, rfl, by decide, in_X1, tyX1_ok, nmX1, Or.inl (tblG_in (List.mem_append_right _ (List.mem_of_getElem? (i := 209) (by decide +kernel))) (by decide +kernel))⟩
theorem fl_2_160 : FL RX2 160 1 11 := ⟨RX1, TX1, 14, rfl, by decide, in_X1, tyX1_ok, nmX1, Or.inl (tblG_in (List.mem_append_right _ (List.mem_of_getElem? (i := 212) (by decide +kernel))) (by decide +kernel))⟩
theorem fl_2_163 : FL RX2 163 1 12 := ⟨RX1, TX1, 14, rfl, by decide, in_X1, tyX1_ok, nmX1, Or.inl (tblG_in (List.mem_append_right _ (List.mem_of_getElem? (i := 216) (by decide +kernel))) (by decide +kernel))⟩
theorem fl_2_166 : FL RX2 166 1 13 := ⟨RX1, TX1, 14, rfl, by decide, in_X1, tyX1_ok, nmX1, Or.inl (tblG_in (List.mem_append_right _ (List.mem_of_getElem? (i := 220) (by decide +kernel))) (by decide +kernel))⟩
theorem fl_3_11 : FL RX3 11 3 0 := ⟨RX3, TX3, 3, rfl, by decide, in_X3, tyX3_ok, nmX3, Or.inl (tblG_in (List.mem_append_right _ (List.mem_of_getElem? (i := 532) (by decide +kernel))) (by decide +kernel))⟩
theorem fl_3_17 : FL RX3 17 3 1 := ⟨RX3, TX3, 3, rfl, by decide, in_X3, tyX3_ok, nmX3, Or.inl (tblG_in (List.mem_append_right _ (List.mem_of_getElem? (i := 533) (by decide +kernel))) (by decide +kernel))⟩
theorem fw_3_17 : FLw RX3 17 3 1 := ⟨fl_3_17, fun q h => by cases h; rfl⟩
theorem fl_3_21 : FL RX3 21 3 2 := ⟨RX3, TX3, 3, rfl, by decide, in_X3, tyX3_ok, nmX3, Or.inl (tblG_in (List.mem_append_right _ (List.mem_of_getElem? (i := 534) (by decide +kernel))) (by decide +kernel))⟩
theorem fw_3_21 : FLw RX3 21 3 2 := ⟨fl_3_21, fun q h => by cases h; rfl⟩
theorem fl_4_9 : FL RX4 9 4 0 := ⟨RX4, TX4, 9, rfl, by decide, in_X4, tyX4_ok, nmX4, Or.inl (tblG_in (List.mem_append_right _ (List.mem_of_getElem? (i := 450) (by decide +kernel))) (by decide +kernel))⟩
theorem fl_4_15 : FL RX4 15 4 1 := ⟨RX4, TX4, 9, rfl, by decide, in_X4, tyX4_ok, nmX4, Or.inl (tblG_in (List.mem_append_right _ (List.mem_of_getElem? (i := 452) (by decide +kernel))) (by decide +kernel))⟩
theorem fl_4_18 : FL RX4 18 4 2 := ⟨RX4, TX4, 9, rfl, by decide, in_X4, tyX4_ok, nmX4, Or.inl (tblG_in (List.mem_append_right _ (List.mem_of_getElem? (i := 454) (by decide +kernel))) (by decide +kernel))⟩
theorem fw_4_18 : FLw RX4 18 4 2 := ⟨fl_4_18, fun q h => by cases h; rfl⟩
theorem fl_4_22 : FL RX4 22 4 3 := ⟨RX4, TX4, 9, rfl, by decide, in_X4, tyX4_ok, nmX4, Or.inl (tblG_in (List.mem_append_right _ (List.mem_of_getElem? (i := 456) (by decide +kernel))) (by decide +kernel))⟩
theorem fl_4_26 : FL RX4 26 4 4 := ⟨RX4, TX4, 9, rfl, by decide, in_X4, tyX4_ok, nmX4, Or.inl (tblG_in (List.mem_append_right _ (List.mem_of_getElem? (i := 457) (by decide +kernel))) (by decide +kernel))⟩
theorem fl_4_29 : FL RX4 29 4 5 := ⟨RX4, TX4, 9, rfl, by decide, in_X4, tyX4_ok, nmX4, Or.inl (tblG_in (List.mem_append_right _ (List.mem_of_getElem? (i := 458) (by decide +kernel))) (by decide +kernel))⟩
theorem fl_4_32 : FL RX4 32 4 6 := ⟨RX4, TX4, 9, rfl, by decide, in_X4, tyX4_ok, nmX4, Or.inl (tblG_in (List.mem_append_right _ (List.mem_of_getElem? (i := 459) (by decide +kernel))) (by decide +kernel))⟩
theorem fl_4_35 : FL RX4 35 4 7 := ⟨RX4, TX4, 9, rfl, by decide, in_X4, tyX4_ok, nmX4, Or.inl (tblG_in (List.mem_append_right _ (List.mem_of_getElem? (i := 460) (by decide +kernel))) (by decide +kernel))⟩
theorem fl_4_38 : FL RX4 38 4 8 := ⟨RX4, TX4, 9, rfl, by decide, in_X4, tyX4_ok, nmX4, Or.inl (tblG_in (List.mem_append_right _ (List.mem_of_getElem? (i := 461) (by decide +kernel))) (by decide +kernel))⟩
theorem fw_4_38 : FLw RX4 38 4 8 := ⟨fl_4_38, fun q h => by cases h; rfl⟩
theorem fl_4_45 : FL RX4 45 10 0 := ⟨RX10, TX10, 4, rfl, by decide, in_X10, tyX10_ok, nmX10, Or.inl (tblG_in (List.mem_append_right _ (List.mem_of_getElem? (i := 350) (by decide +kernel))) (by decide +kernel))⟩
theorem fl_4_61 : FL RX4 61 10 1 := ⟨RX10, TX10, 4, rfl, by decide, in_X10, tyX10_ok, nmX10, Or.inl (tblG_in (List.mem_append_right _ (List.mem_of_getElem? (i := 353) (by decide +kernel))) (by decide +kernel))⟩
theorem fl_4_65 : FL RX4 65 6 3 := ⟨RX6, TX6, 9, rfl, by decide, in_X6, tyX6_ok, nmX6, Or.inl (tblG_in (List.mem_append_right _ (List.mem_of_getElem? (i := 274) (by decide +kernel))) (by decide +kernel))⟩
theorem fl_4_70 : FL RX4 70 6 4 := ⟨RX6, TX6, 9, rfl, by decide, in_X6, tyX6_ok, nmX6, Or.inl (tblG_in (List.mem_append_right _ (List.mem_of_getElem? (i := 279) (by decide +kernel))) (by decide +kernel))⟩
theorem fl_4_77 : FL RX4 77 6 5 := ⟨RX6, TX6, 9, rfl, by decide, in_X6, tyX6_ok, nmX6, Or.inl (tblG_in (List.mem_append_right _ (List.mem_of_getElem? (i := 284) (by decide +kernel))) (by decide +kernel))⟩
theorem fl_4_84 : FL RX4 84 6 2 := ⟨RX6, TX6, 9, rfl, by decide, in_X6, tyX6_ok, nmX6, Or.inl (tblG_in (List.mem_append_right _ (List.mem_of_getElem? (i := 269) (by decide +kernel))) (by decide +kernel))⟩
theorem fl_4_87 : FL RX4 87 1 3 := ⟨RX1, TX1, 14, rfl, by decide, in_X1, tyX1_ok, nmX1, Or.inl (tblG_in (List.mem_append_right _ (List.mem_of_getElem? (i := 179) (by decide +kernel))) (by decide +kernel))⟩
theorem fw_4_87 : FLw RX4 87 1 3 := ⟨fl_4_87, fun q h => by cases h; rfl⟩
theorem fl_4_92 : FL RX4 92 1 1 := ⟨RX1, TX1, 14, rfl, by decide, in_X1, tyX1_ok, nmX1, Or.inl (tblG_in (List.mem_append_right _ (List.mem_of_getElem? (i := 167) (by decide +kernel))) (by decide +kernel))⟩
theorem fw_4_92 : FLw RX4 92 1 1 := ⟨fl_4_92, fun q h => by cases h; rfl⟩
theorem fl_4_95 : FL RX4 95 1 0 := ⟨RX1, TX1, 14, rfl, by decide, in_X1, tyX1_ok, nmX1, Or.inl (tblG_in (List.mem_append_right _ (List.mem_of_getElem? (i := 163) (by decide +kernel))) (by decide +kernel))⟩
theorem fw_4_95 : FLw RX4 95 1 0 := ⟨fl_4_95, fun q h => by cases h; rfl⟩
theorem sl_4_102 : SL RX4 102 "STEP_X" "[I" := Or.inr ⟨"CartTurns", List.mem_of_getElem? (i := 17) (by decide +kernel)⟩
theorem sl_4_105 : SL RX4 105 "STEP_Y" "[I" := Or.inr ⟨"CartTurns", List.mem_of_getElem? (i := 18) (by decide +kernel)⟩
theorem fl_4_112 : FL RX4 112 1 2 := ⟨RX1, TX1, 14, rfl, by decide, in_X1, tyX1_ok, nmX1, Or.inl (tblG_in (List.mem_append_right _ (List.mem_of_getElem? (i := 175) (by decide +kernel))) (by decide +kernel))⟩
theorem fw_4_112 : FLw RX4 112 1 2 := ⟨fl_4_112, fun q h => by cases h; rfl⟩
theorem fl_4_115 : FL RX4 115 1 6 := ⟨RX1, TX1, 14, rfl, by decide, in_X1, tyX1_ok, nmX1, Or.inl (tblG_in (List.mem_append_right _ (List.mem_of_getElem? (i := 190) (by decide +kernel))) (by decide +kernel))⟩
theorem fl_4_118 : FL RX4 118 1 7 := ⟨RX1, TX1, 14, rfl, by decide, in_X1, tyX1_ok, nmX1, Or.inl (tblG_in (List.mem_append_right _ (List.mem_of_getElem? (i := 197) (by decide +kernel))) (by decide +kernel))⟩
theorem fl_5_9 : FL RX5 9 5 0 := ⟨RX5, TX5, 6, rfl, by decide, in_X5, tyX5_ok, nmX5, Or.inl (tblG_in (List.mem_append_right _ (List.mem_of_getElem? (i := 327) (by decide +kernel))) (by decide +kernel))⟩
theorem fw_5_9 : FLw RX5 9 5 0 := ⟨fl_5_9, fun q h => by cases h; rfl⟩
theorem fl_5_15 : FL RX5 15 5 1 := ⟨RX5, TX5, 6, rfl, by decide, in_X5, tyX5_ok, nmX5, Or.inl (tblG_in (List.mem_append_right _ (List.mem_of_getElem? (i := 329) (by decide +kernel))) (by decide +kernel))⟩
theorem fw_5_15 : FLw RX5 15 5 1 := ⟨fl_5_15, fun q h => by cases h; rfl⟩
theorem fl_5_18 : FL RX5 18 5 2 := ⟨RX5, TX5, 6, rfl, by decide, in_X5, tyX5_ok, nmX5, Or.inl (tblG_in (List.mem_append_right _ (List.mem_of_getElem? (i := 330) (by decide +kernel))) (by decide +kernel))⟩
theorem fl_5_22 : FL RX5 22 5 3 := ⟨RX5, TX5, 6, rfl, by decide, in_X5, tyX5_ok, nmX5, Or.inl (tblG_in (List.mem_append_right _ (List.mem_of_getElem? (i := 331) (by decide +kernel))) (by decide +kernel))⟩
theorem fl_5_25 : FL RX5 25 5 4 := ⟨RX5, TX5, 6, rfl, by decide, in_X5, tyX5_ok, nmX5, Or.inl (tblG_in (List.mem_append_right _ (List.mem_of_getElem? (i := 332) (by decide +kernel))) (by decide +kernel))⟩
theorem fl_5_28 : FL RX5 28 5 5 := ⟨RX5, TX5, 6, rfl, by decide, in_X5, tyX5_ok, nmX5, Or.inl (tblG_in (List.mem_append_right _ (List.mem_of_getElem? (i := 333) (by decide +kernel))) (by decide +kernel))⟩
theorem fl_5_54 : FL RX5 54 7 2 := ⟨RX7, TX7, 14, rfl, by decide, in_X7, tyX7_ok, nmX7, Or.inl (tblG_in (List.mem_append_right _ (List.mem_of_getElem? (i := 102) (by decide +kernel))) (by decide +kernel))⟩
theorem fw_5_54 : FLw RX5 54 7 2 := ⟨fl_5_54, fun q h => by cases h; rfl⟩
theorem fl_5_91 : FL RX5 91 7 5 := ⟨RX7, TX7, 14, rfl, by decide, in_X7, tyX7_ok, nmX7, Or.inl (tblG_in (List.mem_append_right _ (List.mem_of_getElem? (i := 112) (by decide +kernel))) (by decide +kernel))⟩
theorem fw_5_91 : FLw RX5 91 7 5 := ⟨fl_5_91, fun q h => by cases h; rfl⟩
theorem fl_5_104 : FL RX5 104 7 4 := ⟨RX7, TX7, 14, rfl, by decide, in_X7, tyX7_ok, nmX7, Or.inl (tblG_in (List.mem_append_right _ (List.mem_of_getElem? (i := 108) (by decide +kernel))) (by decide +kernel))⟩
theorem fw_5_104 : FLw RX5 104 7 4 := ⟨fl_5_104, fun q h => by cases h; rfl⟩
theorem fl_5_115 : FL RX5 115 10 1 := ⟨RX10, TX10, 4, rfl, by decide, in_X10, tyX10_ok, nmX10, Or.inl (tblG_in (List.mem_append_right _ (List.mem_of_getElem? (i := 357) (by decide +kernel))) (by decide +kernel))⟩
theorem fl_5_121 : FL RX5 121 6 5 := ⟨RX6, TX6, 9, rfl, by decide, in_X6, tyX6_ok, nmX6, Or.inl (tblG_in (List.mem_append_right _ (List.mem_of_getElem? (i := 288) (by decide +kernel))) (by decide +kernel))⟩
theorem fl_5_126 : FL RX5 126 6 6 := ⟨RX6, TX6, 9, rfl, by decide, in_X6, tyX6_ok, nmX6, Or.inl (tblG_in (List.mem_append_right _ (List.mem_of_getElem? (i := 293) (by decide +kernel))) (by decide +kernel))⟩
theorem fl_5_132 : FL RX5 132 6 7 := ⟨RX6, TX6, 9, rfl, by decide, in_X6, tyX6_ok, nmX6, Or.inl (tblG_in (List.mem_append_right _ (List.mem_of_getElem? (i := 297) (by decide +kernel))) (by decide +kernel))⟩
theorem fl_5_142 : FL RX5 142 6 8 := ⟨RX6, TX6, 9, rfl, by decide, in_X6, tyX6_ok, nmX6, Or.inl (tblG_in (List.mem_append_right _ (List.mem_of_getElem? (i := 301) (by decide +kernel))) (by decide +kernel))⟩
theorem fl_6_9 : FL RX6 9 6 0 := ⟨RX6, TX6, 9, rfl, by decide, in_X6, tyX6_ok, nmX6, Or.inl (tblG_in (List.mem_append_right _ (List.mem_of_getElem? (i := 261) (by decide +kernel))) (by decide +kernel))⟩
theorem fw_6_9 : FLw RX6 9 6 0 := ⟨fl_6_9, fun q h => by cases h; rfl⟩
theorem fl_6_15 : FL RX6 15 6 1 := ⟨RX6, TX6, 9, rfl, by decide, in_X6, tyX6_ok, nmX6, Or.inl (tblG_in (List.mem_append_right _ (List.mem_of_getElem? (i := 265) (by decide +kernel))) (by decide +kernel))⟩
theorem fw_6_15 : FLw RX6 15 6 1 := ⟨fl_6_15, fun q h => by cases h; rfl⟩
theorem fl_6_18 : FL RX6 18 6 2 := ⟨RX6, TX6, 9, rfl, by decide, in_X6, tyX6_ok, nmX6, Or.inl (tblG_in (List.mem_append_right _ (List.mem_of_getElem? (i := 268) (by decide +kernel))) (by decide +kernel))⟩
theorem fl_6_22 : FL RX6 22 6 3 := ⟨RX6, TX6, 9, rfl, by decide, in_X6, tyX6_ok, nmX6, Or.inl (tblG_in (List.mem_append_right _ (List.mem_of_getElem? (i := 273) (by decide +kernel))) (by decide +kernel))⟩
theorem fl_6_25 : FL RX6 25 6 4 := ⟨RX6, TX6, 9, rfl, by decide, in_X6, tyX6_ok, nmX6, Or.inl (tblG_in (List.mem_append_right _ (List.mem_of_getElem? (i := 278) (by decide +kernel))) (by decide +kernel))⟩
theorem fl_6_28 : FL RX6 28 6 5 := ⟨RX6, TX6, 9, rfl, by decide, in_X6, tyX6_ok, nmX6, Or.inl (tblG_in (List.mem_append_right _ (List.mem_of_getElem? (i := 283) (by decide +kernel))) (by decide +kernel))⟩
theorem fl_6_31 : FL RX6 31 6 6 := ⟨RX6, TX6, 9, rfl, by decide, in_X6, tyX6_ok, nmX6, Or.inl (tblG_in (List.mem_append_right _ (List.mem_of_getElem? (i := 289) (by decide +kernel))) (by decide +kernel))⟩
theorem fl_6_34 : FL RX6 34 6 7 := ⟨RX6, TX6, 9, rfl, by decide, in_X6, tyX6_ok, nmX6, Or.inl (tblG_in (List.mem_append_right _ (List.mem_of_getElem? (i := 294) (by decide +kernel))) (by decide +kernel))⟩
theorem fl_6_37 : FL RX6 37 6 8 := ⟨RX6, TX6, 9, rfl, by decide, in_X6, tyX6_ok, nmX6, Or.inl (tblG_in (List.mem_append_right _ (List.mem_of_getElem? (i := 298) (by decide +kernel))) (by decide +kernel))⟩
theorem fl_7_9 : FL RX7 9 7 0 := ⟨RX7, TX7, 14, rfl, by decide, in_X7, tyX7_ok, nmX7, Or.inl (tblG_in (List.mem_append_right _ (List.mem_of_getElem? (i := 95) (by decide +kernel))) (by decide +kernel))⟩
theorem fl_7_15 : FL RX7 15 7 1 := ⟨RX7, TX7, 14, rfl, by decide, in_X7, tyX7_ok, nmX7, Or.inl (tblG_in (List.mem_append_right _ (List.mem_of_getElem? (i := 96) (by decide +kernel))) (by decide +kernel))⟩
theorem fw_7_15 : FLw RX7 15 7 1 := ⟨fl_7_15, fun q h => by cases h; rfl⟩
theorem fl_7_19 : FL RX7 19 7 2 := ⟨RX7, TX7, 14, rfl, by decide, in_X7, tyX7_ok, nmX7, Or.inl (tblG_in (List.mem_append_right _ (List.mem_of_getElem? (i := 99) (by decide +kernel))) (by decide +kernel))⟩
theorem fw_7_19 : FLw RX7 19 7 2 := ⟨fl_7_19, fun q h => by cases h; rfl⟩
theorem fl_7_22 : FL RX7 22 7 3 := ⟨RX7, TX7, 14, rfl, by decide, in_X7, tyX7_ok, nmX7, Or.inl (tblG_in (List.mem_append_right _ (List.mem_of_getElem? (i := 103) (by decide +kernel))) (by decide +kernel))⟩
theorem fw_7_22 : FLw RX7 22 7 3 := ⟨fl_7_22, fun q h => by cases h; rfl⟩
theorem fl_7_25 : FL RX7 25 7 4 := ⟨RX7, TX7, 14, rfl, by decide, in_X7, tyX7_ok, nmX7, Or.inl (tblG_in (List.mem_append_right _ (List.mem_of_getElem? (i := 105) (by decide +kernel))) (by decide +kernel))⟩
theorem fw_7_25 : FLw RX7 25 7 4 := ⟨fl_7_25, fun q h => by cases h; rfl⟩
theorem fl_7_28 : FL RX7 28 7 5 := ⟨RX7, TX7, 14, rfl, by decide, in_X7, tyX7_ok, nmX7, Or.inl (tblG_in (List.mem_append_right _ (List.mem_of_getElem? (i := 109) (by decide +kernel))) (by decide +kernel))⟩
theorem fw_7_28 : FLw RX7 28 7 5 := ⟨fl_7_28, fun q h => by cases h; rfl⟩
theorem fl_7_32 : FL RX7 32 7 6 := ⟨RX7, TX7, 14, rfl, by decide, in_X7, tyX7_ok, nmX7, Or.inl (tblG_in (List.mem_append_right _ (List.mem_of_getElem? (i := 113) (by decide +kernel))) (by decide +kernel))⟩
theorem fw_7_32 : FLw RX7 32 7 6 := ⟨fl_7_32, fun q h => by cases h; rfl⟩
theorem fl_7_39 : FL RX7 39 7 7 := ⟨RX7, TX7, 14, rfl, by decide, in_X7, tyX7_ok, nmX7, Or.inl (tblG_in (List.mem_append_right _ (List.mem_of_getElem? (i := 115) (by decide +kernel))) (by decide +kernel))⟩
theorem fl_7_43 : FL RX7 43 7 8 := ⟨RX7, TX7, 14, rfl, by decide, in_X7, tyX7_ok, nmX7, Or.inl (tblG_in (List.mem_append_right _ (List.mem_of_getElem? (i := 116) (by decide +kernel))) (by decide +kernel))⟩
theorem fl_7_47 : FL RX7 47 7 9 := ⟨RX7, TX7, 14, rfl, by decide, in_X7, tyX7_ok, nmX7, Or.inl (tblG_in (List.mem_append_right _ (List.mem_of_getElem? (i := 117) (by decide +kernel))) (by decide +kernel))⟩
theorem fl_7_50 : FL RX7 50 7 10 := ⟨RX7, TX7, 14, rfl, by decide, in_X7, tyX7_ok, nmX7, Or.inl (tblG_in (List.mem_append_right _ (List.mem_of_getElem? (i := 118) (by decide +kernel))) (by decide +kernel))⟩
theorem fl_7_53 : FL RX7 53 7 11 := ⟨RX7, TX7, 14, rfl, by decide, in_X7, tyX7_ok, nmX7, Or.inl (tblG_in (List.mem_append_right _ (List.mem_of_getElem? (i := 119) (by decide +kernel))) (by decide +kernel))⟩
theorem fw_7_53 : FLw RX7 53 7 11 := ⟨fl_7_53, fun q h => by cases h; rfl⟩
theorem fl_7_56 : FL RX7 56 7 12 := ⟨RX7, TX7, 14, rfl, by decide, in_X7, tyX7_ok, nmX7, Or.inl (tblG_in (List.mem_append_right _ (List.mem_of_getElem? (i := 120) (by decide +kernel))) (by decide +kernel))⟩
theorem fw_7_56 : FLw RX7 56 7 12 := ⟨fl_7_56, fun q h => by cases h; rfl⟩
theorem fl_7_59 : FL RX7 59 7 13 := ⟨RX7, TX7, 14, rfl, by decide, in_X7, tyX7_ok, nmX7, Or.inl (tblG_in (List.mem_append_right _ (List.mem_of_getElem? (i := 121) (by decide +kernel))) (by decide +kernel))⟩
theorem fw_7_59 : FLw RX7 59 7 13 := ⟨fl_7_59, fun q h => by cases h; rfl⟩
theorem fl_8_9 : FL RX8 9 8 0 := ⟨RX8, TX8, 5, rfl, by decide, in_X8, tyX8_ok, nmX8, Or.inl (tblG_in (List.mem_append_right _ (List.mem_of_getElem? (i := 505) (by decide +kernel))) (by decide +kernel))⟩
theorem fl_8_15 : FL RX8 15 8 1 := ⟨RX8, TX8, 5, rfl, by decide, in_X8, tyX8_ok, nmX8, Or.inl (tblG_in (List.mem_append_right _ (List.mem_of_getElem? (i := 507) (by decide +kernel))) (by decide +kernel))⟩
theorem fw_8_15 : FLw RX8 15 8 1 := ⟨fl_8_15, fun q h => by cases h; rfl⟩
theorem fl_8_19 : FL RX8 19 8 2 := ⟨RX8, TX8, 5, rfl, by decide, in_X8, tyX8_ok, nmX8, Or.inl (tblG_in (List.mem_append_right _ (List.mem_of_getElem? (i := 509) (by decide +kernel))) (by decide +kernel))⟩
theorem fl_8_22 : FL RX8 22 8 3 := ⟨RX8, TX8, 5, rfl, by decide, in_X8, tyX8_ok, nmX8, Or.inl (tblG_in (List.mem_append_right _ (List.mem_of_getElem? (i := 510) (by decide +kernel))) (by decide +kernel))⟩
theorem fl_8_25 : FL RX8 25 8 4 := ⟨RX8, TX8, 5, rfl, by decide, in_X8, tyX8_ok, nmX8, Or.inl (tblG_in (List.mem_append_right _ (List.mem_of_getElem? (i := 511) (by decide +kernel))) (by decide +kernel))⟩
theorem fl_8_28 : FL RX8 28 7 1 := ⟨RX7, TX7, 14, rfl, by decide, in_X7, tyX7_ok, nmX7, Or.inl (tblG_in (List.mem_append_right _ (List.mem_of_getElem? (i := 97) (by decide +kernel))) (by decide +kernel))⟩
theorem fw_8_28 : FLw RX8 28 7 1 := ⟨fl_8_28, fun q h => by cases h; rfl⟩
theorem fl_8_55 : FL RX8 55 1 2 := ⟨RX1, TX1, 14, rfl, by decide, in_X1, tyX1_ok, nmX1, Or.inl (tblG_in (List.mem_append_right _ (List.mem_of_getElem? (i := 171) (by decide +kernel))) (by decide +kernel))⟩
theorem fw_8_55 : FLw RX8 55 1 2 := ⟨fl_8_55, fun q h => by cases h; rfl⟩
theorem fl_8_58 : FL RX8 58 1 7 := ⟨RX1, TX1, 14, rfl, by decide, in_X1, tyX1_ok, nmX1, Or.inl (tblG_in (List.mem_append_right _ (List.mem_of_getElem? (i := 196) (by decide +kernel))) (by decide +kernel))⟩
theorem sl_8_61 : SL RX8 61 "STEP_X" "[I" := Or.inr ⟨"CartTurns", List.mem_of_getElem? (i := 23) (by decide +kernel)⟩
theorem sl_8_64 : SL RX8 64 "STEP_Y" "[I" := Or.inr ⟨"CartTurns", List.mem_of_getElem? (i := 24) (by decide +kernel)⟩
theorem fl_9_9 : FL RX9 9 9 0 := ⟨RX9, TX9, 3, rfl, by decide, in_X9, tyX9_ok, nmX9, Or.inl (tblG_in (List.mem_append_right _ (List.mem_of_getElem? (i := 487) (by decide +kernel))) (by decide +kernel))⟩
theorem fl_9_15 : FL RX9 15 9 1 := ⟨RX9, TX9, 3, rfl, by decide, in_X9, tyX9_ok, nmX9, Or.inl (tblG_in (List.mem_append_right _ (List.mem_of_getElem? (i := 489) (by decide +kernel))) (by decide +kernel))⟩
theorem fw_9_15 : FLw RX9 15 9 1 := ⟨fl_9_15, fun q h => by cases h; rfl⟩
theorem fl_9_19 : FL RX9 19 9 2 := ⟨RX9, TX9, 3, rfl, by decide, in_X9, tyX9_ok, nmX9, Or.inl (tblG_in (List.mem_append_right _ (List.mem_of_getElem? (i := 491) (by decide +kernel))) (by decide +kernel))⟩
theorem fl_9_22 : FL RX9 22 1 7 := ⟨RX1, TX1, 14, rfl, by decide, in_X1, tyX1_ok, nmX1, Or.inl (tblG_in (List.mem_append_right _ (List.mem_of_getElem? (i := 195) (by decide +kernel))) (by decide +kernel))⟩
theorem fl_9_27 : FL RX9 27 1 6 := ⟨RX1, TX1, 14, rfl, by decide, in_X1, tyX1_ok, nmX1, Or.inl (tblG_in (List.mem_append_right _ (List.mem_of_getElem? (i := 189) (by decide +kernel))) (by decide +kernel))⟩
theorem fl_9_46 : FL RX9 46 1 2 := ⟨RX1, TX1, 14, rfl, by decide, in_X1, tyX1_ok, nmX1, Or.inl (tblG_in (List.mem_append_right _ (List.mem_of_getElem? (i := 172) (by decide +kernel))) (by decide +kernel))⟩
theorem fw_9_46 : FLw RX9 46 1 2 := ⟨fl_9_46, fun q h => by cases h; rfl⟩
theorem sl_9_49 : SL RX9 49 "STEP_X" "[I" := Or.inr ⟨"CartTurns", List.mem_of_getElem? (i := 20) (by decide +kernel)⟩
theorem sl_9_52 : SL RX9 52 "STEP_Y" "[I" := Or.inr ⟨"CartTurns", List.mem_of_getElem? (i := 21) (by decide +kernel)⟩
theorem fl_10_12 : FL RX10 12 10 1 := ⟨RX10, TX10, 4, rfl, by decide, in_X10, tyX10_ok, nmX10, Or.inl (tblG_in (List.mem_append_right _ (List.mem_of_getElem? (i := 352) (by decide +kernel))) (by decide +kernel))⟩
theorem fl_10_21 : FL RX10 21 10 2 := ⟨RX10, TX10, 4, rfl, by decide, in_X10, tyX10_ok, nmX10, Or.inl (tblG_in (List.mem_append_right _ (List.mem_of_getElem? (i := 358) (by decide +kernel))) (by decide +kernel))⟩
theorem fl_10_25 : FL RX10 25 10 3 := ⟨RX10, TX10, 4, rfl, by decide, in_X10, tyX10_ok, nmX10, Or.inl (tblG_in (List.mem_append_right _ (List.mem_of_getElem? (i := 360) (by decide +kernel))) (by decide +kernel))⟩
theorem fw_10_25 : FLw RX10 25 10 3 := ⟨fl_10_25, fun q h => by cases h; rfl⟩
theorem fl_10_29 : FL RX10 29 10 0 := ⟨RX10, TX10, 4, rfl, by decide, in_X10, tyX10_ok, nmX10, Or.inl (tblG_in (List.mem_append_right _ (List.mem_of_getElem? (i := 348) (by decide +kernel))) (by decide +kernel))⟩
theorem fl_10_50 : FL RX10 50 1 2 := ⟨RX1, TX1, 14, rfl, by decide, in_X1, tyX1_ok, nmX1, Or.inl (tblG_in (List.mem_append_right _ (List.mem_of_getElem? (i := 173) (by decide +kernel))) (by decide +kernel))⟩
theorem fw_10_50 : FLw RX10 50 1 2 := ⟨fl_10_50, fun q h => by cases h; rfl⟩
theorem fl_10_53 : FL RX10 53 1 3 := ⟨RX1, TX1, 14, rfl, by decide, in_X1, tyX1_ok, nmX1, Or.inl (tblG_in (List.mem_append_right _ (List.mem_of_getElem? (i := 180) (by decide +kernel))) (by decide +kernel))⟩
theorem fw_10_53 : FLw RX10 53 1 3 := ⟨fl_10_53, fun q h => by cases h; rfl⟩
theorem fl_10_56 : FL RX10 56 1 4 := ⟨RX1, TX1, 14, rfl, by decide, in_X1, tyX1_ok, nmX1, Or.inl (tblG_in (List.mem_append_right _ (List.mem_of_getElem? (i := 183) (by decide +kernel))) (by decide +kernel))⟩
theorem fw_10_56 : FLw RX10 56 1 4 := ⟨fl_10_56, fun q h => by cases h; rfl⟩
theorem fl_10_59 : FL RX10 59 6 3 := ⟨RX6, TX6, 9, rfl, by decide, in_X6, tyX6_ok, nmX6, Or.inl (tblG_in (List.mem_append_right _ (List.mem_of_getElem? (i := 276) (by decide +kernel))) (by decide +kernel))⟩
theorem fl_10_63 : FL RX10 63 6 4 := ⟨RX6, TX6, 9, rfl, by decide, in_X6, tyX6_ok, nmX6, Or.inl (tblG_in (List.mem_append_right _ (List.mem_of_getElem? (i := 281) (by decide +kernel))) (by decide +kernel))⟩
theorem fl_10_70 : FL RX10 70 6 2 := ⟨RX6, TX6, 9, rfl, by decide, in_X6, tyX6_ok, nmX6, Or.inl (tblG_in (List.mem_append_right _ (List.mem_of_getElem? (i := 271) (by decide +kernel))) (by decide +kernel))⟩
theorem fl_10_77 : FL RX10 77 6 6 := ⟨RX6, TX6, 9, rfl, by decide, in_X6, tyX6_ok, nmX6, Or.inl (tblG_in (List.mem_append_right _ (List.mem_of_getElem? (i := 292) (by decide +kernel))) (by decide +kernel))⟩
theorem fl_10_84 : FL RX10 84 1 7 := ⟨RX1, TX1, 14, rfl, by decide, in_X1, tyX1_ok, nmX1, Or.inl (tblG_in (List.mem_append_right _ (List.mem_of_getElem? (i := 200) (by decide +kernel))) (by decide +kernel))⟩
theorem sl_10_87 : SL RX10 87 "STEP_X" "[I" := Or.inr ⟨"CartTurns", List.mem_of_getElem? (i := 14) (by decide +kernel)⟩
theorem sl_10_90 : SL RX10 90 "STEP_Y" "[I" := Or.inr ⟨"CartTurns", List.mem_of_getElem? (i := 15) (by decide +kernel)⟩
theorem fl_10_99 : FL RX10 99 6 5 := ⟨RX6, TX6, 9, rfl, by decide, in_X6, tyX6_ok, nmX6, Or.inl (tblG_in (List.mem_append_right _ (List.mem_of_getElem? (i := 287) (by decide +kernel))) (by decide +kernel))⟩
theorem fl_10_102 : FL RX10 102 1 6 := ⟨RX1, TX1, 14, rfl, by decide, in_X1, tyX1_ok, nmX1, Or.inl (tblG_in (List.mem_append_right _ (List.mem_of_getElem? (i := 193) (by decide +kernel))) (by decide +kernel))⟩
theorem fl_10_105 : FL RX10 105 6 8 := ⟨RX6, TX6, 9, rfl, by decide, in_X6, tyX6_ok, nmX6, Or.inl (tblG_in (List.mem_append_right _ (List.mem_of_getElem? (i := 300) (by decide +kernel))) (by decide +kernel))⟩
theorem fl_10_112 : FL RX10 112 1 11 := ⟨RX1, TX1, 14, rfl, by decide, in_X1, tyX1_ok, nmX1, Or.inl (tblG_in (List.mem_append_right _ (List.mem_of_getElem? (i := 213) (by decide +kernel))) (by decide +kernel))⟩
theorem fl_10_115 : FL RX10 115 1 12 := ⟨RX1, TX1, 14, rfl, by decide, in_X1, tyX1_ok, nmX1, Or.inl (tblG_in (List.mem_append_right _ (List.mem_of_getElem? (i := 217) (by decide +kernel))) (by decide +kernel))⟩
theorem fl_10_118 : FL RX10 118 1 13 := ⟨RX1, TX1, 14, rfl, by decide, in_X1, tyX1_ok, nmX1, Or.inl (tblG_in (List.mem_append_right _ (List.mem_of_getElem? (i := 221) (by decide +kernel))) (by decide +kernel))⟩
theorem fl_10_121 : FL RX10 121 6 7 := ⟨RX6, TX6, 9, rfl, by decide, in_X6, tyX6_ok, nmX6, Or.inl (tblG_in (List.mem_append_right _ (List.mem_of_getElem? (i := 296) (by decide +kernel))) (by decide +kernel))⟩
theorem fl_10_127 : FL RX10 127 6 1 := ⟨RX6, TX6, 9, rfl, by decide, in_X6, tyX6_ok, nmX6, Or.inl (tblG_in (List.mem_append_right _ (List.mem_of_getElem? (i := 267) (by decide +kernel))) (by decide +kernel))⟩
theorem fw_10_127 : FLw RX10 127 6 1 := ⟨fl_10_127, fun q h => by cases h; rfl⟩
theorem fl_10_130 : FL RX10 130 1 9 := ⟨RX1, TX1, 14, rfl, by decide, in_X1, tyX1_ok, nmX1, Or.inl (tblG_in (List.mem_append_right _ (List.mem_of_getElem? (i := 207) (by decide +kernel))) (by decide +kernel))⟩
theorem fl_10_133 : FL RX10 133 6 0 := ⟨RX6, TX6, 9, rfl, by decide, in_X6, tyX6_ok, nmX6, Or.inl (tblG_in (List.mem_append_right _ (List.mem_of_getElem? (i := 264) (by decide +kernel))) (by decide +kernel))⟩
theorem fw_10_133 : FLw RX10 133 6 0 := ⟨fl_10_133, fun q h => by cases h; rfl⟩
theorem k_10_180 : Cond.constant RX10 180 (Int32.ofInt (1103515245)) ∈ tblG := (tblG_in (List.mem_append_right _ (List.mem_of_getElem? (i := 1107) (by decide +kernel))) (by decide +kernel))
theorem fl_12_1 : FL RX12 1 12 0 := ⟨RX12, TX12, 48, rfl, by decide, in_X12, tyX12_ok, nmX12, Or.inl (tblG_in (List.mem_append_right _ (List.mem_of_getElem? (i := 1390) (by decide +kernel))) (by decide +kernel))⟩
theorem fw_12_1 : FLw RX12 1 12 0 := ⟨fl_12_1, fun q h => by cases h; rfl⟩
theorem fl_12_7 : FL RX12 7 12 1 := ⟨RX12, TX12, 48, rfl, by decide, in_X12, tyX12_ok, nmX12, Or.inl (tblG_in (List.mem_append_right _ (List.mem_of_getElem? (i := 1391) (by decide +kernel))) (by decide +kernel))⟩
theorem fl_12_11 : FL RX12 11 12 2 := ⟨RX12, TX12, 48, rfl, by decide, in_X12, tyX12_ok, nmX12, Or.inl (tblG_in (List.mem_append_right _ (List.mem_of_getElem? (i := 1392) (by decide +kernel))) (by decide +kernel))⟩
theorem fw_12_11 : FLw RX12 11 12 2 := ⟨fl_12_11, fun q h => by cases h; rfl⟩
theorem fl_12_18 : FL RX12 18 12 3 := ⟨RX12, TX12, 48, rfl, by decide, in_X12, tyX12_ok, nmX12, Or.inl (tblG_in (List.mem_append_right _ (List.mem_of_getElem? (i := 1393) (by decide +kernel))) (by decide +kernel))⟩
theorem fw_12_18 : FLw RX12 18 12 3 := ⟨fl_12_18, fun q h => by cases h; rfl⟩
theorem fl_12_21 : FL RX12 21 12 5 := ⟨RX12, TX12, 48, rfl, by decide, in_X12, tyX12_ok, nmX12, Or.inl (tblG_in (List.mem_append_right _ (List.mem_of_getElem? (i := 1395) (by decide +kernel))) (by decide +kernel))⟩
theorem fw_12_21 : FLw RX12 21 12 5 := ⟨fl_12_21, fun q h => by cases h; rfl⟩
theorem fl_12_24 : FL RX12 24 12 6 := ⟨RX12, TX12, 48, rfl, by decide, in_X12, tyX12_ok, nmX12, Or.inl (tblG_in (List.mem_append_right _ (List.mem_of_getElem? (i := 1396) (by decide +kernel))) (by decide +kernel))⟩
theorem fw_12_24 : FLw RX12 24 12 6 := ⟨fl_12_24, fun q h => by cases h; rfl⟩
theorem fl_12_27 : FL RX12 27 12 4 := ⟨RX12, TX12, 48, rfl, by decide, in_X12, tyX12_ok, nmX12, Or.inl (tblG_in (List.mem_append_right _ (List.mem_of_getElem? (i := 1394) (by decide +kernel))) (by decide +kernel))⟩
theorem fw_12_27 : FLw RX12 27 12 4 := ⟨fl_12_27, fun q h => by cases h; rfl⟩
theorem fl_12_30 : FL RX12 30 12 7 := ⟨RX12, TX12, 48, rfl, by decide, in_X12, tyX12_ok, nmX12, Or.inl (tblG_in (List.mem_append_right _ (List.mem_of_getElem? (i := 1397) (by decide +kernel))) (by decide +kernel))⟩
theorem fw_12_30 : FLw RX12 30 12 7 := ⟨fl_12_30, fun q h => by cases h; rfl⟩
theorem fl_12_40 : FL RX12 40 12 9 := ⟨RX12, TX12, 48, rfl, by decide, in_X12, tyX12_ok, nmX12, Or.inl (tblG_in (List.mem_append_right _ (List.mem_of_getElem? (i := 1399) (by decide +kernel))) (by decide +kernel))⟩
theorem fw_12_40 : FLw RX12 40 12 9 := ⟨fl_12_40, fun q h => by cases h; rfl⟩
theorem fl_12_43 : FL RX12 43 12 12 := ⟨RX12, TX12, 48, rfl, by decide, in_X12, tyX12_ok, nmX12, Or.inl (tblG_in (List.mem_append_right _ (List.mem_of_getElem? (i := 1402) (by decide +kernel))) (by decide +kernel))⟩
theorem fw_12_43 : FLw RX12 43 12 12 := ⟨fl_12_43, fun q h => by cases h; rfl⟩
theorem fl_12_47 : FL RX12 47 12 8 := ⟨RX12, TX12, 48, rfl, by decide, in_X12, tyX12_ok, nmX12, Or.inl (tblG_in (List.mem_append_right _ (List.mem_of_getElem? (i := 1398) (by decide +kernel))) (by decide +kernel))⟩
theorem fw_12_47 : FLw RX12 47 12 8 := ⟨fl_12_47, fun q h => by cases h; rfl⟩
theorem k_12_54 : Cond.constantLong RX12 54 (Int64.ofInt (27)) ∈ tblG := (tblG_in (List.mem_append_right _ (List.mem_of_getElem? (i := 1561) (by decide +kernel))) (by decide +kernel))
theorem k_12_56 : Cond.constantLong RX12 56 (Int64.ofInt (96)) ∈ tblG := (tblG_in (List.mem_append_right _ (List.mem_of_getElem? (i := 1562) (by decide +kernel))) (by decide +kernel))
theorem fl_12_66 : FL RX12 66 12 10 := ⟨RX12, TX12, 48, rfl, by decide, in_X12, tyX12_ok, nmX12, Or.inl (tblG_in (List.mem_append_right _ (List.mem_of_getElem? (i := 1400) (by decide +kernel))) (by decide +kernel))⟩
theorem fw_12_66 : FLw RX12 66 12 10 := ⟨fl_12_66, fun q h => by cases h; rfl⟩
theorem fl_12_69 : FL RX12 69 12 11 := ⟨RX12, TX12, 48, rfl, by decide, in_X12, tyX12_ok, nmX12, Or.inl (tblG_in (List.mem_append_right _ (List.mem_of_getElem? (i := 1401) (by decide +kernel))) (by decide +kernel))⟩
theorem fw_12_69 : FLw RX12 69 12 11 := ⟨fl_12_69, fun q h => by cases h; rfl⟩
theorem fl_12_79 : FL RX12 79 12 13 := ⟨RX12, TX12, 48, rfl, by decide, in_X12, tyX12_ok, nmX12, Or.inl (tblG_in (List.mem_append_right _ (List.mem_of_getElem? (i := 1403) (by decide +kernel))) (by decide +kernel))⟩
theorem fw_12_79 : FLw RX12 79 12 13 := ⟨fl_12_79, fun q h => by cases h; rfl⟩
theorem fl_12_98 : FL RX12 98 12 14 := ⟨RX12, TX12, 48, rfl, by decide, in_X12, tyX12_ok, nmX12, Or.inl (tblG_in (List.mem_append_right _ (List.mem_of_getElem? (i := 1404) (by decide +kernel))) (by decide +kernel))⟩
theorem fl_12_101 : FL RX12 101 12 15 := ⟨RX12, TX12, 48, rfl, by decide, in_X12, tyX12_ok, nmX12, Or.inl (tblG_in (List.mem_append_right _ (List.mem_of_getElem? (i := 1405) (by decide +kernel))) (by decide +kernel))⟩
theorem fl_12_104 : FL RX12 104 12 16 := ⟨RX12, TX12, 48, rfl, by decide, in_X12, tyX12_ok, nmX12, Or.inl (tblG_in (List.mem_append_right _ (List.mem_of_getElem? (i := 1406) (by decide +kernel))) (by decide +kernel))⟩
theorem fl_12_107 : FL RX12 107 12 17 := ⟨RX12, TX12, 48, rfl, by decide, in_X12, tyX12_ok, nmX12, Or.inl (tblG_in (List.mem_append_right _ (List.mem_of_getElem? (i := 1407) (by decide +kernel))) (by decide +kernel))⟩
theorem fl_12_110 : FL RX12 110 12 18 := ⟨RX12, TX12, 48, rfl, by decide, in_X12, tyX12_ok, nmX12, Or.inl (tblG_in (List.mem_append_right _ (List.mem_of_getElem? (i := 1408) (by decide +kernel))) (by decide +kernel))⟩
theorem fl_12_113 : FL RX12 113 12 19 := ⟨RX12, TX12, 48, rfl, by decide, in_X12, tyX12_ok, nmX12, Or.inl (tblG_in (List.mem_append_right _ (List.mem_of_getElem? (i := 1409) (by decide +kernel))) (by decide +kernel))⟩
theorem fl_12_117 : FL RX12 117 12 20 := ⟨RX12, TX12, 48, rfl, by decide, in_X12, tyX12_ok, nmX12, Or.inl (tblG_in (List.mem_append_right _ (List.mem_of_getElem? (i := 1410) (by decide +kernel))) (by decide +kernel))⟩
theorem fl_12_120 : FL RX12 120 12 21 := ⟨RX12, TX12, 48, rfl, by decide, in_X12, tyX12_ok, nmX12, Or.inl (tblG_in (List.mem_append_right _ (List.mem_of_getElem? (i := 1411) (by decide +kernel))) (by decide +kernel))⟩
theorem fl_12_123 : FL RX12 123 12 22 := ⟨RX12, TX12, 48, rfl, by decide, in_X12, tyX12_ok, nmX12, Or.inl (tblG_in (List.mem_append_right _ (List.mem_of_getElem? (i := 1412) (by decide +kernel))) (by decide +kernel))⟩
theorem fl_12_127 : FL RX12 127 12 26 := ⟨RX12, TX12, 48, rfl, by decide, in_X12, tyX12_ok, nmX12, Or.inl (tblG_in (List.mem_append_right _ (List.mem_of_getElem? (i := 1416) (by decide +kernel))) (by decide +kernel))⟩
theorem fl_12_130 : FL RX12 130 12 27 := ⟨RX12, TX12, 48, rfl, by decide, in_X12, tyX12_ok, nmX12, Or.inl (tblG_in (List.mem_append_right _ (List.mem_of_getElem? (i := 1417) (by decide +kernel))) (by decide +kernel))⟩
theorem fl_12_133 : FL RX12 133 12 28 := ⟨RX12, TX12, 48, rfl, by decide, in_X12, tyX12_ok, nmX12, Or.inl (tblG_in (List.mem_append_right _ (List.mem_of_getElem? (i := 1418) (by decide +kernel))) (by decide +kernel))⟩
theorem fl_12_136 : FL RX12 136 12 30 := ⟨RX12, TX12, 48, rfl, by decide, in_X12, tyX12_ok, nmX12, Or.inl (tblG_in (List.mem_append_right _ (List.mem_of_getElem? (i := 1420) (by decide +kernel))) (by decide +kernel))⟩
theorem fl_12_139 : FL RX12 139 12 32 := ⟨RX12, TX12, 48, rfl, by decide, in_X12, tyX12_ok, nmX12, Or.inl (tblG_in (List.mem_append_right _ (List.mem_of_getElem? (i := 1422) (by decide +kernel))) (by decide +kernel))⟩
theorem fl_12_142 : FL RX12 142 12 33 := ⟨RX12, TX12, 48, rfl, by decide, in_X12, tyX12_ok, nmX12, Or.inl (tblG_in (List.mem_append_right _ (List.mem_of_getElem? (i := 1423) (by decide +kernel))) (by decide +kernel))⟩
theorem fl_12_145 : FL RX12 145 12 35 := ⟨RX12, TX12, 48, rfl, by decide, in_X12, tyX12_ok, nmX12, Or.inl (tblG_in (List.mem_append_right _ (List.mem_of_getElem? (i := 1425) (by decide +kernel))) (by decide +kernel))⟩
theorem fw_12_145 : FLw RX12 145 12 35 := ⟨fl_12_145, fun q h => by cases h; rfl⟩
theorem fl_12_148 : FL RX12 148 12 36 := ⟨RX12, TX12, 48, rfl, by decide, in_X12, tyX12_ok, nmX12, Or.inl (tblG_in (List.mem_append_right _ (List.mem_of_getElem? (i := 1426) (by decide +kernel))) (by decide +kernel))⟩
theorem fl_12_151 : FL RX12 151 12 39 := ⟨RX12, TX12, 48, rfl, by decide, in_X12, tyX12_ok, nmX12, Or.inl (tblG_in (List.mem_append_right _ (List.mem_of_getElem? (i := 1429) (by decide +kernel))) (by decide +kernel))⟩
theorem fl_12_154 : FL RX12 154 12 40 := ⟨RX12, TX12, 48, rfl, by decide, in_X12, tyX12_ok, nmX12, Or.inl (tblG_in (List.mem_append_right _ (List.mem_of_getElem? (i := 1430) (by decide +kernel))) (by decide +kernel))⟩
theorem fl_12_157 : FL RX12 157 12 43 := ⟨RX12, TX12, 48, rfl, by decide, in_X12, tyX12_ok, nmX12, Or.inl (tblG_in (List.mem_append_right _ (List.mem_of_getElem? (i := 1433) (by decide +kernel))) (by decide +kernel))⟩
theorem fl_12_174 : FL RX12 174 12 23 := ⟨RX12, TX12, 48, rfl, by decide, in_X12, tyX12_ok, nmX12, Or.inl (tblG_in (List.mem_append_right _ (List.mem_of_getElem? (i := 1413) (by decide +kernel))) (by decide +kernel))⟩
theorem fw_12_174 : FLw RX12 174 12 23 := ⟨fl_12_174, fun q h => by cases h; rfl⟩
theorem fl_12_178 : FL RX12 178 12 24 := ⟨RX12, TX12, 48, rfl, by decide, in_X12, tyX12_ok, nmX12, Or.inl (tblG_in (List.mem_append_right _ (List.mem_of_getElem? (i := 1414) (by decide +kernel))) (by decide +kernel))⟩
theorem fw_12_178 : FLw RX12 178 12 24 := ⟨fl_12_178, fun q h => by cases h; rfl⟩
theorem fl_12_229 : FL RX12 229 12 25 := ⟨RX12, TX12, 48, rfl, by decide, in_X12, tyX12_ok, nmX12, Or.inl (tblG_in (List.mem_append_right _ (List.mem_of_getElem? (i := 1415) (by decide +kernel))) (by decide +kernel))⟩
theorem fw_12_229 : FLw RX12 229 12 25 := ⟨fl_12_229, fun q h => by cases h; rfl⟩
theorem k_12_303 : Cond.constant RX12 303 (Int32.ofInt (100000)) ∈ tblG := (tblG_in (List.mem_append_right _ (List.mem_of_getElem? (i := 1789) (by decide +kernel))) (by decide +kernel))
theorem fl_12_328 : FL RX12 328 12 29 := ⟨RX12, TX12, 48, rfl, by decide, in_X12, tyX12_ok, nmX12, Or.inl (tblG_in (List.mem_append_right _ (List.mem_of_getElem? (i := 1419) (by decide +kernel))) (by decide +kernel))⟩
theorem fw_12_328 : FLw RX12 328 12 29 := ⟨fl_12_328, fun q h => by cases h; rfl⟩
theorem fl_12_343 : FL RX12 343 12 31 := ⟨RX12, TX12, 48, rfl, by decide, in_X12, tyX12_ok, nmX12, Or.inl (tblG_in (List.mem_append_right _ (List.mem_of_getElem? (i := 1421) (by decide +kernel))) (by decide +kernel))⟩
theorem fw_12_343 : FLw RX12 343 12 31 := ⟨fl_12_343, fun q h => by cases h; rfl⟩
theorem fl_12_352 : FL RX12 352 12 34 := ⟨RX12, TX12, 48, rfl, by decide, in_X12, tyX12_ok, nmX12, Or.inl (tblG_in (List.mem_append_right _ (List.mem_of_getElem? (i := 1424) (by decide +kernel))) (by decide +kernel))⟩
theorem fw_12_352 : FLw RX12 352 12 34 := ⟨fl_12_352, fun q h => by cases h; rfl⟩
theorem fl_12_358 : FL RX12 358 12 37 := ⟨RX12, TX12, 48, rfl, by decide, in_X12, tyX12_ok, nmX12, Or.inl (tblG_in (List.mem_append_right _ (List.mem_of_getElem? (i := 1427) (by decide +kernel))) (by decide +kernel))⟩
theorem fw_12_358 : FLw RX12 358 12 37 := ⟨fl_12_358, fun q h => by cases h; rfl⟩
theorem fl_12_374 : FL RX12 374 12 38 := ⟨RX12, TX12, 48, rfl, by decide, in_X12, tyX12_ok, nmX12, Or.inl (tblG_in (List.mem_append_right _ (List.mem_of_getElem? (i := 1428) (by decide +kernel))) (by decide +kernel))⟩
theorem fw_12_374 : FLw RX12 374 12 38 := ⟨fl_12_374, fun q h => by cases h; rfl⟩
theorem k_12_377 : Cond.constant RX12 377 (Int32.ofInt (1103515245)) ∈ tblG := (tblG_in (List.mem_append_right _ (List.mem_of_getElem? (i := 1917) (by decide +kernel))) (by decide +kernel))
theorem fl_12_405 : FL RX12 405 12 41 := ⟨RX12, TX12, 48, rfl, by decide, in_X12, tyX12_ok, nmX12, Or.inl (tblG_in (List.mem_append_right _ (List.mem_of_getElem? (i := 1431) (by decide +kernel))) (by decide +kernel))⟩
theorem fw_12_405 : FLw RX12 405 12 41 := ⟨fl_12_405, fun q h => by cases h; rfl⟩
theorem fl_12_417 : FL RX12 417 12 42 := ⟨RX12, TX12, 48, rfl, by decide, in_X12, tyX12_ok, nmX12, Or.inl (tblG_in (List.mem_append_right _ (List.mem_of_getElem? (i := 1432) (by decide +kernel))) (by decide +kernel))⟩
theorem fw_12_417 : FLw RX12 417 12 42 := ⟨fl_12_417, fun q h => by cases h; rfl⟩
theorem fl_12_424 : FL RX12 424 12 44 := ⟨RX12, TX12, 48, rfl, by decide, in_X12, tyX12_ok, nmX12, Or.inl (tblG_in (List.mem_append_right _ (List.mem_of_getElem? (i := 1434) (by decide +kernel))) (by decide +kernel))⟩
theorem fw_12_424 : FLw RX12 424 12 44 := ⟨fl_12_424, fun q h => by cases h; rfl⟩
theorem fl_12_430 : FL RX12 430 12 47 := ⟨RX12, TX12, 48, rfl, by decide, in_X12, tyX12_ok, nmX12, Or.inl (tblG_in (List.mem_append_right _ (List.mem_of_getElem? (i := 1437) (by decide +kernel))) (by decide +kernel))⟩
theorem fw_12_430 : FLw RX12 430 12 47 := ⟨fl_12_430, fun q h => by cases h; rfl⟩
theorem fl_12_439 : FL RX12 439 12 45 := ⟨RX12, TX12, 48, rfl, by decide, in_X12, tyX12_ok, nmX12, Or.inl (tblG_in (List.mem_append_right _ (List.mem_of_getElem? (i := 1435) (by decide +kernel))) (by decide +kernel))⟩
theorem fw_12_439 : FLw RX12 439 12 45 := ⟨fl_12_439, fun q h => by cases h; rfl⟩
theorem fl_12_442 : FL RX12 442 12 46 := ⟨RX12, TX12, 48, rfl, by decide, in_X12, tyX12_ok, nmX12, Or.inl (tblG_in (List.mem_append_right _ (List.mem_of_getElem? (i := 1436) (by decide +kernel))) (by decide +kernel))⟩
theorem fw_12_442 : FLw RX12 442 12 46 := ⟨fl_12_442, fun q h => by cases h; rfl⟩
