/-! the law: the calls, 4 -/
section ZLW
variable {p : Program} {l : Launch} {e : Env} {s : State} {m : MethodId} {below : List Frame} {meth : Method} {c : Code} {g : za_L → Nat} {D : va_G} {cy : Nat → ClassId} {b L : Nat} {xs : Nat → Int32} {Q : State → Prop}
set_option maxRecDepth 100000 in
set_option maxHeartbeats 4000000 in
theorem zL_33 (C : za_C p s m #[Value.ref b] c code 4 RL g D cy) (hX : va_X b L xs s s.heap) (hbl : b < s.heap.size) (hbA : ¬ za_A g b) (hL : L ≤ 3072) {M : za_M} {n : Nat} (hI : zI M) (hn : n + 6 ≤ L) (kk : ∀ M', zI M' → zt p l e room_1 s m #[Value.ref b] below meth c 133 2551 Q g D cy 4 M' 1545 (zl_lv b g n) []) : zt p l e room_1 s m #[Value.ref b] below meth c 133 2551 Q g D cy 4 M 1391 (zl_lv b g n) [] := by
  have h := zT_hedges (xs (n + 1)) M (fun r1 r2 M2 => r1 = r2 ∧ zI M2) hI (fun v M' h => ⟨rfl, h⟩)
  refine zt_aload_n C 1 dL_law_1391 rfl rfl ?_
  refine zl_arg C hX hbl hbA hL (k := 1) (by omega) dL_law_1392 dL_law_1393 dL_law_1394 dL_law_1395 dL_law_1396 ?_
  refine zt_cVi C [.int (xs (n + 1))] (m_X9_hedges C.2.2.2.2.2.2 h) (za_mem (j := 0) rfl (by decide) (by decide)) (za_E_0 g cy M 0 0) rfl vY_X9_hedges vV_X9_hedges (Nat.le_of_ble_eq_true rfl) (by exact ⟨(Nat.le_of_ble_eq_true rfl), (Nat.le_of_ble_eq_true rfl)⟩) (by exact ⟨(Nat.le_of_ble_eq_true rfl), (Nat.le_of_ble_eq_true rfl)⟩) dL_law_1397 rfl (fun r1 M1 h1 => ?_)
  refine zt_aload_n C 2 dL_law_1400 rfl rfl ?_
  refine zl_arg C hX hbl hbA hL (k := 1) (by omega) dL_law_1401 dL_law_1402 dL_law_1403 dL_law_1404 dL_law_1405 ?_
  refine zt_cVi C [.int (xs (n + 1))] (m_X10_hedges C.2.2.2.2.2.2 h1) (za_mem (j := 27) rfl (by decide) (by decide)) (za_E_27 g cy M1 0 0) rfl vY_X10_hedges vV_X10_hedges (Nat.le_of_ble_eq_true rfl) (by exact ⟨(Nat.le_of_ble_eq_true rfl), (Nat.le_of_ble_eq_true rfl)⟩) (by exact ⟨(Nat.le_of_ble_eq_true rfl), (Nat.le_of_ble_eq_true rfl)⟩) dL_law_1406 rfl (fun r2 M2 h2 => ?_)
  obtain ⟨rfl, hI2⟩ := h2
  exact zt_icmp_eq C 1545 dL_law_1409 (by decide) (fun _ => kk M2 hI2) (fun q => absurd rfl q)
set_option maxRecDepth 100000 in
set_option maxHeartbeats 4000000 in
theorem zL_34 (C : za_C p s m #[Value.ref b] c code 4 RL g D cy) (hX : va_X b L xs s s.heap) (hbl : b < s.heap.size) (hbA : ¬ za_A g b) (hL : L ≤ 3072) {M : za_M} {n : Nat} (hI : zI M) (hn : n + 6 ≤ L) (kk : ∀ M', zI M' → zt p l e room_1 s m #[Value.ref b] below meth c 133 2551 Q g D cy 4 M' 1545 (zl_lv b g n) []) : zt p l e room_1 s m #[Value.ref b] below meth c 133 2551 Q g D cy 4 M 1414 (zl_lv b g n) [] := by
  have h := zT_judge (xs (n + 1)) M (fun r1 r2 M2 => r1 = r2 ∧ zI M2) hI (fun v M' h => ⟨rfl, h⟩)
  refine zt_aload_n C 1 dL_law_1414 rfl rfl ?_
  refine zl_arg C hX hbl hbA hL (k := 1) (by omega) dL_law_1415 dL_law_1416 dL_law_1417 dL_law_1418 dL_law_1419 ?_
  refine zt_cVi C [.int (xs (n + 1))] (m_X9_judge C.2.2.2.2.2.2 h) (za_mem (j := 0) rfl (by decide) (by decide)) (za_E_0 g cy M 0 0) rfl vY_X9_judge vV_X9_judge (Nat.le_of_ble_eq_true rfl) (by exact ⟨(Nat.le_of_ble_eq_true rfl), (Nat.le_of_ble_eq_true rfl)⟩) (by exact ⟨(Nat.le_of_ble_eq_true rfl), (Nat.le_of_ble_eq_true rfl)⟩) dL_law_1420 rfl (fun r1 M1 h1 => ?_)
  refine zt_aload_n C 2 dL_law_1423 rfl rfl ?_
  refine zl_arg C hX hbl hbA hL (k := 1) (by omega) dL_law_1424 dL_law_1425 dL_law_1426 dL_law_1427 dL_law_1428 ?_
  refine zt_cVi C [.int (xs (n + 1))] (m_X10_judge C.2.2.2.2.2.2 h1) (za_mem (j := 27) rfl (by decide) (by decide)) (za_E_27 g cy M1 0 0) rfl vY_X10_judge vV_X10_judge (Nat.le_of_ble_eq_true rfl) (by exact ⟨(Nat.le_of_ble_eq_true rfl), (Nat.le_of_ble_eq_true rfl)⟩) (by exact ⟨(Nat.le_of_ble_eq_true rfl), (Nat.le_of_ble_eq_true rfl)⟩) dL_law_1429 rfl (fun r2 M2 h2 => ?_)
  obtain ⟨rfl, hI2⟩ := h2
  exact zt_icmp_eq C 1545 dL_law_1432 (by decide) (fun _ => kk M2 hI2) (fun q => absurd rfl q)
set_option maxRecDepth 100000 in
set_option maxHeartbeats 4000000 in
theorem zL_35 (C : za_C p s m #[Value.ref b] c code 4 RL g D cy) (hX : va_X b L xs s s.heap) (hbl : b < s.heap.size) (hbA : ¬ za_A g b) (hL : L ≤ 3072) {M : za_M} {n : Nat} (hI : zI M) (hn : n + 6 ≤ L) (kk : ∀ M', zI M' → zt p l e room_1 s m #[Value.ref b] below meth c 133 2551 Q g D cy 4 M' 1545 (zl_lv b g n) []) : zt p l e room_1 s m #[Value.ref b] below meth c 133 2551 Q g D cy 4 M 1437 (zl_lv b g n) [] := by
  have h := zT_image M (fun r1 r2 M2 => r1 = r2 ∧ zI M2) hI (fun v M' h => ⟨rfl, h⟩)
  refine zt_aload_n C 1 dL_law_1437 rfl rfl ?_
  refine zt_cVi C [] (m_X9_image C.2.2.2.2.2.2 h) (za_mem (j := 0) rfl (by decide) (by decide)) (za_E_0 g cy M 0 0) rfl vY_X9_image vV_X9_image (Nat.le_of_ble_eq_true rfl) (by exact ⟨(Nat.le_of_ble_eq_true rfl), (Nat.le_of_ble_eq_true rfl)⟩) (by exact ⟨(Nat.le_of_ble_eq_true rfl), (Nat.le_of_ble_eq_true rfl)⟩) dL_law_1438 rfl (fun r1 M1 h1 => ?_)
  refine zt_aload_n C 2 dL_law_1441 rfl rfl ?_
  refine zt_cVi C [] (m_X10_image C.2.2.2.2.2.2 h1) (za_mem (j := 27) rfl (by decide) (by decide)) (za_E_27 g cy M1 0 0) rfl vY_X10_image vV_X10_image (Nat.le_of_ble_eq_true rfl) (by exact ⟨(Nat.le_of_ble_eq_true rfl), (Nat.le_of_ble_eq_true rfl)⟩) (by exact ⟨(Nat.le_of_ble_eq_true rfl), (Nat.le_of_ble_eq_true rfl)⟩) dL_law_1442 rfl (fun r2 M2 h2 => ?_)
  obtain ⟨rfl, hI2⟩ := h2
  exact zt_icmp_eq C 1545 dL_law_1445 (by decide) (fun _ => kk M2 hI2) (fun q => absurd rfl q)
set_option maxRecDepth 100000 in
set_option maxHeartbeats 4000000 in
theorem zL_36 (C : za_C p s m #[Value.ref b] c code 4 RL g D cy) (hX : va_X b L xs s s.heap) (hbl : b < s.heap.size) (hbA : ¬ za_A g b) (hL : L ≤ 3072) {M : za_M} {n : Nat} (hI : zI M) (hn : n + 6 ≤ L) (kk : ∀ M', zI M' → zt p l e room_1 s m #[Value.ref b] below meth c 133 2551 Q g D cy 4 M' 1545 (zl_lv b g n) []) : zt p l e room_1 s m #[Value.ref b] below meth c 133 2551 Q g D cy 4 M 1450 (zl_lv b g n) [] := by
  have h := zT_restore M (fun r1 r2 M2 => r1 = r2 ∧ zI M2) hI (fun v M' h => ⟨rfl, h⟩)
  refine zt_aload_n C 1 dL_law_1450 rfl rfl ?_
  refine zt_cVi C [] (m_X9_restore C.2.2.2.2.2.2 h) (za_mem (j := 0) rfl (by decide) (by decide)) (za_E_0 g cy M 0 0) rfl vY_X9_restore vV_X9_restore (Nat.le_of_ble_eq_true rfl) (by exact ⟨(Nat.le_of_ble_eq_true rfl), (Nat.le_of_ble_eq_true rfl)⟩) (by exact ⟨(Nat.le_of_ble_eq_true rfl), (Nat.le_of_ble_eq_true rfl)⟩) dL_law_1451 rfl (fun r1 M1 h1 => ?_)
  refine zt_aload_n C 2 dL_law_1454 rfl rfl ?_
  refine zt_cVi C [] (m_X10_restore C.2.2.2.2.2.2 h1) (za_mem (j := 27) rfl (by decide) (by decide)) (za_E_27 g cy M1 0 0) rfl vY_X10_restore vV_X10_restore (Nat.le_of_ble_eq_true rfl) (by exact ⟨(Nat.le_of_ble_eq_true rfl), (Nat.le_of_ble_eq_true rfl)⟩) (by exact ⟨(Nat.le_of_ble_eq_true rfl), (Nat.le_of_ble_eq_true rfl)⟩) dL_law_1455 rfl (fun r2 M2 h2 => ?_)
  obtain ⟨rfl, hI2⟩ := h2
  exact zt_icmp_eq C 1545 dL_law_1458 (by decide) (fun _ => kk M2 hI2) (fun q => absurd rfl q)
set_option maxRecDepth 100000 in
set_option maxHeartbeats 4000000 in
theorem zL_37 (C : za_C p s m #[Value.ref b] c code 4 RL g D cy) (hX : va_X b L xs s s.heap) (hbl : b < s.heap.size) (hbA : ¬ za_A g b) (hL : L ≤ 3072) {M : za_M} {n : Nat} (hI : zI M) (hn : n + 6 ≤ L) (kk : ∀ M', zI M' → zt p l e room_1 s m #[Value.ref b] below meth c 133 2551 Q g D cy 4 M' 1545 (zl_lv b g n) []) : zt p l e room_1 s m #[Value.ref b] below meth c 133 2551 Q g D cy 4 M 1463 (zl_lv b g n) [] := by
  have h := zT_tell (xs (n + 1)) M (fun r1 r2 M2 => r1 = r2 ∧ zI M2) hI (fun v M' h => ⟨rfl, h⟩)
  refine zt_aload_n C 1 dL_law_1463 rfl rfl ?_
  refine zl_arg C hX hbl hbA hL (k := 1) (by omega) dL_law_1464 dL_law_1465 dL_law_1466 dL_law_1467 dL_law_1468 ?_
  refine zt_cVi C [.int (xs (n + 1))] (m_X9_tell C.2.2.2.2.2.2 h) (za_mem (j := 0) rfl (by decide) (by decide)) (za_E_0 g cy M 0 0) rfl vY_X9_tell vV_X9_tell (Nat.le_of_ble_eq_true rfl) (by exact ⟨(Nat.le_of_ble_eq_true rfl), (Nat.le_of_ble_eq_true rfl)⟩) (by exact ⟨(Nat.le_of_ble_eq_true rfl), (Nat.le_of_ble_eq_true rfl)⟩) dL_law_1469 rfl (fun r1 M1 h1 => ?_)
  refine zt_aload_n C 2 dL_law_1472 rfl rfl ?_
  refine zl_arg C hX hbl hbA hL (k := 1) (by omega) dL_law_1473 dL_law_1474 dL_law_1475 dL_law_1476 dL_law_1477 ?_
  refine zt_cVi C [.int (xs (n + 1))] (m_X10_tell C.2.2.2.2.2.2 h1) (za_mem (j := 27) rfl (by decide) (by decide)) (za_E_27 g cy M1 0 0) rfl vY_X10_tell vV_X10_tell (Nat.le_of_ble_eq_true rfl) (by exact ⟨(Nat.le_of_ble_eq_true rfl), (Nat.le_of_ble_eq_true rfl)⟩) (by exact ⟨(Nat.le_of_ble_eq_true rfl), (Nat.le_of_ble_eq_true rfl)⟩) dL_law_1478 rfl (fun r2 M2 h2 => ?_)
  obtain ⟨rfl, hI2⟩ := h2
  exact zt_icmp_eq C 1545 dL_law_1481 (by decide) (fun _ => kk M2 hI2) (fun q => absurd rfl q)
set_option maxRecDepth 100000 in
set_option maxHeartbeats 4000000 in
theorem zL_38 (C : za_C p s m #[Value.ref b] c code 4 RL g D cy) (hX : va_X b L xs s s.heap) (hbl : b < s.heap.size) (hbA : ¬ za_A g b) (hL : L ≤ 3072) {M : za_M} {n : Nat} (hI : zI M) (hn : n + 6 ≤ L) (kk : ∀ M', zI M' → zt p l e room_1 s m #[Value.ref b] below meth c 133 2551 Q g D cy 4 M' 1545 (zl_lv b g n) []) : zt p l e room_1 s m #[Value.ref b] below meth c 133 2551 Q g D cy 4 M 1486 (zl_lv b g n) [] := by
  have h := zT_check M (fun r1 r2 M2 => r1 = r2 ∧ zI M2) hI (fun v M' h => ⟨rfl, h⟩)
  refine zt_aload_n C 1 dL_law_1486 rfl rfl ?_
  refine zt_cVi C [] (m_X9_check C.2.2.2.2.2.2 h) (za_mem (j := 0) rfl (by decide) (by decide)) (za_E_0 g cy M 0 0) rfl vY_X9_check vV_X9_check (Nat.le_of_ble_eq_true rfl) (by exact ⟨(Nat.le_of_ble_eq_true rfl), (Nat.le_of_ble_eq_true rfl)⟩) (by exact ⟨(Nat.le_of_ble_eq_true rfl), (Nat.le_of_ble_eq_true rfl)⟩) dL_law_1487 rfl (fun r1 M1 h1 => ?_)
  refine zt_aload_n C 2 dL_law_1490 rfl rfl ?_
  refine zt_cVi C [] (m_X10_check C.2.2.2.2.2.2 h1) (za_mem (j := 27) rfl (by decide) (by decide)) (za_E_27 g cy M1 0 0) rfl vY_X10_check vV_X10_check (Nat.le_of_ble_eq_true rfl) (by exact ⟨(Nat.le_of_ble_eq_true rfl), (Nat.le_of_ble_eq_true rfl)⟩) (by exact ⟨(Nat.le_of_ble_eq_true rfl), (Nat.le_of_ble_eq_true rfl)⟩) dL_law_1491 rfl (fun r2 M2 h2 => ?_)
  obtain ⟨rfl, hI2⟩ := h2
  exact zt_icmp_eq C 1545 dL_law_1494 (by decide) (fun _ => kk M2 hI2) (fun q => absurd rfl q)
set_option maxRecDepth 100000 in
set_option maxHeartbeats 4000000 in
theorem zL_39 (C : za_C p s m #[Value.ref b] c code 4 RL g D cy) (hX : va_X b L xs s s.heap) (hbl : b < s.heap.size) (hbA : ¬ za_A g b) (hL : L ≤ 3072) {M : za_M} {n : Nat} (hI : zI M) (hn : n + 6 ≤ L) (kk : ∀ M', zI M' → zt p l e room_1 s m #[Value.ref b] below meth c 133 2551 Q g D cy 4 M' 1545 (zl_lv b g n) []) : zt p l e room_1 s m #[Value.ref b] below meth c 133 2551 Q g D cy 4 M 1499 (zl_lv b g n) [] := by
  have h := zT_count (xs (n + 1)) M (fun r1 r2 M2 => r1 = r2 ∧ zI M2) hI (fun v M' h => ⟨rfl, h⟩)
  refine zt_aload_n C 1 dL_law_1499 rfl rfl ?_
  refine zl_arg C hX hbl hbA hL (k := 1) (by omega) dL_law_1500 dL_law_1501 dL_law_1502 dL_law_1503 dL_law_1504 ?_
  refine zt_cVi C [.int (xs (n + 1))] (m_X9_count C.2.2.2.2.2.2 h) (za_mem (j := 0) rfl (by decide) (by decide)) (za_E_0 g cy M 0 0) rfl vY_X9_count vV_X9_count (Nat.le_of_ble_eq_true rfl) (by exact ⟨(Nat.le_of_ble_eq_true rfl), (Nat.le_of_ble_eq_true rfl)⟩) (by exact ⟨(Nat.le_of_ble_eq_true rfl), (Nat.le_of_ble_eq_true rfl)⟩) dL_law_1505 rfl (fun r1 M1 h1 => ?_)
  refine zt_aload_n C 2 dL_law_1508 rfl rfl ?_
  refine zl_arg C hX hbl hbA hL (k := 1) (by omega) dL_law_1509 dL_law_1510 dL_law_1511 dL_law_1512 dL_law_1513 ?_
  refine zt_cVi C [.int (xs (n + 1))] (m_X10_count C.2.2.2.2.2.2 h1) (za_mem (j := 27) rfl (by decide) (by decide)) (za_E_27 g cy M1 0 0) rfl vY_X10_count vV_X10_count (Nat.le_of_ble_eq_true rfl) (by exact ⟨(Nat.le_of_ble_eq_true rfl), (Nat.le_of_ble_eq_true rfl)⟩) (by exact ⟨(Nat.le_of_ble_eq_true rfl), (Nat.le_of_ble_eq_true rfl)⟩) dL_law_1514 rfl (fun r2 M2 h2 => ?_)
  obtain ⟨rfl, hI2⟩ := h2
  exact zt_icmp_eq C 1545 dL_law_1517 (by decide) (fun _ => kk M2 hI2) (fun q => absurd rfl q)
set_option maxRecDepth 100000 in
set_option maxHeartbeats 4000000 in
theorem zL_40 (C : za_C p s m #[Value.ref b] c code 4 RL g D cy) (hX : va_X b L xs s s.heap) (hbl : b < s.heap.size) (hbA : ¬ za_A g b) (hL : L ≤ 3072) {M : za_M} {n : Nat} (hI : zI M) (hn : n + 6 ≤ L) (kk : ∀ M', zI M' → zt p l e room_1 s m #[Value.ref b] below meth c 133 2551 Q g D cy 4 M' 1545 (zl_lv b g n) []) : zt p l e room_1 s m #[Value.ref b] below meth c 133 2551 Q g D cy 4 M 1522 (zl_lv b g n) [] := by
  have h := zT_told (xs (n + 1)) M (fun r1 r2 M2 => r1 = r2 ∧ zI M2) hI (fun v M' h => ⟨rfl, h⟩)
  refine zt_aload_n C 1 dL_law_1522 rfl rfl ?_
  refine zl_arg C hX hbl hbA hL (k := 1) (by omega) dL_law_1523 dL_law_1524 dL_law_1525 dL_law_1526 dL_law_1527 ?_
  refine zt_cVi C [.int (xs (n + 1))] (m_X9_told C.2.2.2.2.2.2 h) (za_mem (j := 0) rfl (by decide) (by decide)) (za_E_0 g cy M 0 0) rfl vY_X9_told vV_X9_told (Nat.le_of_ble_eq_true rfl) (by exact ⟨(Nat.le_of_ble_eq_true rfl), (Nat.le_of_ble_eq_true rfl)⟩) (by exact ⟨(Nat.le_of_ble_eq_true rfl), (Nat.le_of_ble_eq_true rfl)⟩) dL_law_1528 rfl (fun r1 M1 h1 => ?_)
  refine zt_aload_n C 2 dL_law_1531 rfl rfl ?_
  refine zl_arg C hX hbl hbA hL (k := 1) (by omega) dL_law_1532 dL_law_1533 dL_law_1534 dL_law_1535 dL_law_1536 ?_
  refine zt_cVi C [.int (xs (n + 1))] (m_X10_told C.2.2.2.2.2.2 h1) (za_mem (j := 27) rfl (by decide) (by decide)) (za_E_27 g cy M1 0 0) rfl vY_X10_told vV_X10_told (Nat.le_of_ble_eq_true rfl) (by exact ⟨(Nat.le_of_ble_eq_true rfl), (Nat.le_of_ble_eq_true rfl)⟩) (by exact ⟨(Nat.le_of_ble_eq_true rfl), (Nat.le_of_ble_eq_true rfl)⟩) dL_law_1537 rfl (fun r2 M2 h2 => ?_)
  obtain ⟨rfl, hI2⟩ := h2
  exact zt_icmp_eq C 1545 dL_law_1540 (by decide) (fun _ => kk M2 hI2) (fun q => absurd rfl q)
end ZLW
