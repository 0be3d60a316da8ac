section
variable {p : Program} {l : Launch} {e : Env} {kc ks : Nat} {s : State} {m : MethodId} {args : Array Value} {below : List Frame} {meth : Method} {c : Code} {D : va_G} {cA : Nat → ClassId} {ad : Nat → Nat → Nat} {A : Nat → Prop} {Q : State → Prop} {b L : Nat} {xs : Nat → Int32}
set_option maxHeartbeats 4000000 in
set_option maxRecDepth 100000 in
theorem lc_25 (C : Cx p s m args c cL_law 8 bbL.flatten RL D cA A) (hX : va_X b L xs s s.heap) (hbl : b < s.heap.size) (hbA : ¬ A b) (hE : EX A s s.heap) (hM : EM s) (hst : l.stackTraces = false) {S : Sg} (h : Rel S) {i : Nat} (h1 : vp_in (nI (6 * i) + 1) L) (h2 : vp_in (nI (6 * i) + 2) L) (h3 : vp_in (nI (6 * i) + 3) L) (h4 : vp_in (nI (6 * i) + 4) L) (h5 : vp_in (nI (6 * i) + 5) L) (hk : kc + 12 ≤ 601024) (hs : ks + 180 ≤ 7293034) (kend : ∀ (ad' : Nat → Nat → Nat) (S' : Sg), ad' 0 0 = ad 0 0 → ad' 39 0 = ad 39 0 → ad' 40 0 = ad 40 0 → Rel S' → KC (kc + 12) (ks + 180) p l e room_1 s m args below meth c 8 D cA ad' A Q 1703 [(4, .int (nI (6 * i))), (3, .ref (ad' 39 0)), (2, .ref (ad' 40 0)), (1, .ref (ad' 0 0)), (0, .ref b)] [] S') : KC kc ks p l e room_1 s m args below meth c 8 D cA ad A Q 1335 [(4, .int (nI (6 * i))), (3, .ref (ad 39 0)), (2, .ref (ad 40 0)), (1, .ref (ad 0 0)), (0, .ref b)] [] S := by
  refine c_aload_n (pc := 1335) C dL_law_1335 3 rfl rfl ?_
  refine c_aload_n (pc := 1336) C dL_law_1336 4 rfl rfl ?_
  refine c_iload (pc := 1337) C dL_law_1337 0 rfl ?_
  refine c_iconst (v := 1) (pc := 1339) C dL_law_1339 (by decide) ?_
  refine c_iadd (pc := 1340) C dL_law_1340 ?_
  refine c_sld (pc := 1341) C hX hbl hbA h1 dL_law_1341 ?_
  refine c_aload_n (pc := 1342) C dL_law_1342 1 rfl rfl ?_
  have hw := rl_height h (xs (nI (6 * i) + 1).toNatClampNeg)
  refine c_callWS (pc := 1343) C hE (ct_L_height l hst D cA ad (xs (nI (6 * i) + 1).toNatClampNeg) S _ hw) (vx_cwSW 3 C.2.2.2.2.1 gL_law_L_height rfl rfl rfl (by decide +kernel) ⟨Nat.le_of_ble_eq_true rfl, Nat.le_of_ble_eq_true rfl⟩) rfl rfl (Nat.le_of_ble_eq_true rfl) ⟨by show kc + 1 ≤ 601024; omega, by show ks + 6 ≤ 7293034; omega⟩ dL_law_1343 (fun r1 S1 hw => ?_)
  refine c_istore (pc := 1346) C dL_law_1346 (by decide) [(5, .int r1), (4, .int (nI (6 * i))), (3, .ref (ad 39 0)), (2, .ref (ad 40 0)), (1, .ref (ad 0 0)), (0, .ref b)] rfl ?_
  refine c_aload_n (pc := 1348) C dL_law_1348 3 rfl rfl ?_
  refine c_aload_n (pc := 1349) C dL_law_1349 5 rfl rfl ?_
  refine c_iload (pc := 1350) C dL_law_1350 1 rfl ?_
  refine c_iconst (v := 1) (pc := 1352) C dL_law_1352 (by decide) ?_
  refine c_iadd (pc := 1353) C dL_law_1353 ?_
  refine c_sld (pc := 1354) C hX hbl hbA h1 dL_law_1354 ?_
  refine c_afterL (pc := 1355) C (wp_X10_height (xs (nI (6 * i) + 1).toNatClampNeg) S1) hw (fun post hw => rc_V C (ct_X10_height l D cA ad (xs (nI (6 * i) + 1).toNatClampNeg) S1 post hw) (cwV 1 C.2.2.2.2.1 gL_law_X10_height rfl rfl rfl (by decide +kernel) ⟨Nat.le_of_ble_eq_true rfl, Nat.le_of_ble_eq_true rfl⟩) hm_40 (cel_40 cA ad S1 0) rfl rfl rfl rfl (Nat.le_of_ble_eq_true rfl) ⟨by show (kc + 1) + 0 ≤ 601024; omega, by show (ks + 6) + 0 ≤ 7293034; omega⟩ dL_law_1355) (fun r2 S2 hw => ?_)
  refine c_lstore (pc := 1358) C dL_law_1358 (by decide) [(6, .long r2), (5, .int r1), (4, .int (nI (6 * i))), (3, .ref (ad 39 0)), (2, .ref (ad 40 0)), (1, .ref (ad 0 0)), (0, .ref b)] rfl ?_
  refine c_aload_n (pc := 1360) C dL_law_1360 4 rfl rfl ?_
  refine c_afterI (pc := 1361) C (wp_X10_thrown S2) (post := fun r S9 => r = gI S2 40 0 0 ∧ S9 = S2) ⟨rfl, rfl⟩ (fun post hw => rc_V C (ct_X10_thrown l D cA ad S2 post hw) (cwV 0 C.2.2.2.2.1 gL_law_X10_thrown rfl rfl rfl (by decide +kernel) ⟨Nat.le_of_ble_eq_true rfl, Nat.le_of_ble_eq_true rfl⟩) hm_40 (cel_40 cA ad S2 0) rfl rfl rfl rfl (Nat.le_of_ble_eq_true rfl) ⟨by show (kc + 1) + 0 ≤ 601024; omega, by show (ks + 6) + 0 ≤ 7293034; omega⟩ dL_law_1361) (fun r9 S9 hr9 => ?_)
  obtain ⟨e9, rfl⟩ := hr9
  refine c_iload (pc := 1364) C dL_law_1364 1 rfl ?_
  obtain ⟨w1, w2, w3⟩ := hw
  refine c_icmp_eq (pc := 1366) C 1371 dL_law_1366 (by decide) (fun _ => ?_) (fun z => absurd (e9.trans w1) z)
  refine c_iload (pc := 1371) C dL_law_1371 1 rfl ?_
  refine c_if_ne (pc := 1373) C 1387 dL_law_1373 (by decide) (fun z => ?_) (fun z => ?_)
  · refine c_goto (pc := 1387) C 1703 dL_law_1387 (by decide) ?_
    exact c_sub [2, 3, 4, 5, 6] [(4, .int (nI (6 * i))), (3, .ref (ad 39 0)), (2, .ref (ad 40 0)), (1, .ref (ad 0 0)), (0, .ref b)] rfl (c_widen (k := kc + 12) (n := ks + 180) (by omega) (by omega) (kend ad S9 rfl rfl rfl w3))
  · refine c_aload_n (pc := 1376) C dL_law_1376 3 rfl rfl ?_
    refine c_iconst (v := 0) (pc := 1377) C dL_law_1377 (by decide) ?_
    refine c_lald (pc := 1378) C hm_39 (cel_39 cA ad S9 0) vp_01 dL_law_1378 ?_
    refine c_lload (pc := 1379) C dL_law_1379 0 rfl ?_
    refine c_lif_eq (pc := 1381) C 1387 dL_law_1381 dL_law_1382 (by decide) (fun _ => ?_) (fun z2 => absurd (w2 z) z2)
    refine c_goto (pc := 1387) C 1703 dL_law_1387 (by decide) ?_
    exact c_sub [2, 3, 4, 5, 6] [(4, .int (nI (6 * i))), (3, .ref (ad 39 0)), (2, .ref (ad 40 0)), (1, .ref (ad 0 0)), (0, .ref b)] rfl (c_widen (k := kc + 12) (n := ks + 180) (by omega) (by omega) (kend ad S9 rfl rfl rfl w3))
set_option maxHeartbeats 4000000 in
set_option maxRecDepth 100000 in
theorem lc_26 (C : Cx p s m args c cL_law 8 bbL.flatten RL D cA A) (hX : va_X b L xs s s.heap) (hbl : b < s.heap.size) (hbA : ¬ A b) (hE : EX A s s.heap) (hM : EM s) (hst : l.stackTraces = false) {S : Sg} (h : Rel S) {i : Nat} (h1 : vp_in (nI (6 * i) + 1) L) (h2 : vp_in (nI (6 * i) + 2) L) (h3 : vp_in (nI (6 * i) + 3) L) (h4 : vp_in (nI (6 * i) + 4) L) (h5 : vp_in (nI (6 * i) + 5) L) (hk : kc + 12 ≤ 601024) (hs : ks + 180 ≤ 7293034) (kend : ∀ (ad' : Nat → Nat → Nat) (S' : Sg), ad' 0 0 = ad 0 0 → ad' 39 0 = ad 39 0 → ad' 40 0 = ad 40 0 → Rel S' → KC (kc + 12) (ks + 180) p l e room_1 s m args below meth c 8 D cA ad' A Q 1703 [(4, .int (nI (6 * i))), (3, .ref (ad' 39 0)), (2, .ref (ad' 40 0)), (1, .ref (ad' 0 0)), (0, .ref b)] [] S') : KC kc ks p l e room_1 s m args below meth c 8 D cA ad A Q 1390 [(4, .int (nI (6 * i))), (3, .ref (ad 39 0)), (2, .ref (ad 40 0)), (1, .ref (ad 0 0)), (0, .ref b)] [] S := by
  refine c_aload_n (pc := 1390) C dL_law_1390 3 rfl rfl ?_
  refine c_aload_n (pc := 1391) C dL_law_1391 4 rfl rfl ?_
  refine c_iload (pc := 1392) C dL_law_1392 0 rfl ?_
  refine c_iconst (v := 1) (pc := 1394) C dL_law_1394 (by decide) ?_
  refine c_iadd (pc := 1395) C dL_law_1395 ?_
  refine c_sld (pc := 1396) C hX hbl hbA h1 dL_law_1396 ?_
  have hw := rl_count h (xs (nI (6 * i) + 1).toNatClampNeg)
  refine c_afterI (pc := 1397) C (wp_X9_count (xs (nI (6 * i) + 1).toNatClampNeg) S) hw (fun post hw => rc_V C (ct_X9_count l D cA ad (xs (nI (6 * i) + 1).toNatClampNeg) S post hw) (cwV 1 C.2.2.2.2.1 gL_law_X9_count rfl rfl rfl (by decide +kernel) ⟨Nat.le_of_ble_eq_true rfl, Nat.le_of_ble_eq_true rfl⟩) hm_0 (cel_0 cA ad S 0) rfl rfl rfl rfl (Nat.le_of_ble_eq_true rfl) ⟨by show kc + 0 ≤ 601024; omega, by show ks + 0 ≤ 7293034; omega⟩ dL_law_1397) (fun r1 S1 hw => ?_)
  refine c_aload_n (pc := 1400) C dL_law_1400 2 rfl rfl ?_
  refine c_aload_n (pc := 1401) C dL_law_1401 4 rfl rfl ?_
  refine c_iload (pc := 1402) C dL_law_1402 0 rfl ?_
  refine c_iconst (v := 1) (pc := 1404) C dL_law_1404 (by decide) ?_
  refine c_iadd (pc := 1405) C dL_law_1405 ?_
  refine c_sld (pc := 1406) C hX hbl hbA h1 dL_law_1406 ?_
  refine c_afterI (pc := 1407) C (wp_X10_count (xs (nI (6 * i) + 1).toNatClampNeg) S1) hw (fun post hw => rc_V C (ct_X10_count l D cA ad (xs (nI (6 * i) + 1).toNatClampNeg) S1 post hw) (cwV 1 C.2.2.2.2.1 gL_law_X10_count rfl rfl rfl (by decide +kernel) ⟨Nat.le_of_ble_eq_true rfl, Nat.le_of_ble_eq_true rfl⟩) hm_40 (cel_40 cA ad S1 0) rfl rfl rfl rfl (Nat.le_of_ble_eq_true rfl) ⟨by show kc + 0 ≤ 601024; omega, by show ks + 0 ≤ 7293034; omega⟩ dL_law_1407) (fun r2 S2 hw => ?_)
  obtain ⟨w1, w2⟩ := hw
  refine c_icmp_eq (pc := 1410) C 1703 dL_law_1410 (by decide) (fun _ => ?_) (fun z => absurd w1 z)
  exact c_widen (k := kc + 12) (n := ks + 180) (by omega) (by omega) (kend ad S2 rfl rfl rfl w2)
set_option maxHeartbeats 4000000 in
set_option maxRecDepth 100000 in
theorem lc_27 (C : Cx p s m args c cL_law 8 bbL.flatten RL D cA A) (hX : va_X b L xs s s.heap) (hbl : b < s.heap.size) (hbA : ¬ A b) (hE : EX A s s.heap) (hM : EM s) (hst : l.stackTraces = false) {S : Sg} (h : Rel S) {i : Nat} (h1 : vp_in (nI (6 * i) + 1) L) (h2 : vp_in (nI (6 * i) + 2) L) (h3 : vp_in (nI (6 * i) + 3) L) (h4 : vp_in (nI (6 * i) + 4) L) (h5 : vp_in (nI (6 * i) + 5) L) (hk : kc + 12 ≤ 601024) (hs : ks + 180 ≤ 7293034) (kend : ∀ (ad' : Nat → Nat → Nat) (S' : Sg), ad' 0 0 = ad 0 0 → ad' 39 0 = ad 39 0 → ad' 40 0 = ad 40 0 → Rel S' → KC (kc + 12) (ks + 180) p l e room_1 s m args below meth c 8 D cA ad' A Q 1703 [(4, .int (nI (6 * i))), (3, .ref (ad' 39 0)), (2, .ref (ad' 40 0)), (1, .ref (ad' 0 0)), (0, .ref b)] [] S') : KC kc ks p l e room_1 s m args below meth c 8 D cA ad A Q 1415 [(4, .int (nI (6 * i))), (3, .ref (ad 39 0)), (2, .ref (ad 40 0)), (1, .ref (ad 0 0)), (0, .ref b)] [] S := by
  refine c_aload_n (pc := 1415) C dL_law_1415 3 rfl rfl ?_
  refine c_aload_n (pc := 1416) C dL_law_1416 4 rfl rfl ?_
  refine c_iload (pc := 1417) C dL_law_1417 0 rfl ?_
  refine c_iconst (v := 1) (pc := 1419) C dL_law_1419 (by decide) ?_
  refine c_iadd (pc := 1420) C dL_law_1420 ?_
  refine c_sld (pc := 1421) C hX hbl hbA h1 dL_law_1421 ?_
  refine c_aload_n (pc := 1422) C dL_law_1422 4 rfl rfl ?_
  refine c_iload (pc := 1423) C dL_law_1423 0 rfl ?_
  refine c_iconst (v := 2) (pc := 1425) C dL_law_1425 (by decide) ?_
  refine c_iadd (pc := 1426) C dL_law_1426 ?_
  refine c_sld (pc := 1427) C hX hbl hbA h2 dL_law_1427 ?_
  refine c_aload_n (pc := 1428) C dL_law_1428 4 rfl rfl ?_
  refine c_iload (pc := 1429) C dL_law_1429 0 rfl ?_
  refine c_iconst (v := 3) (pc := 1431) C dL_law_1431 (by decide) ?_
  refine c_iadd (pc := 1432) C dL_law_1432 ?_
  refine c_sld (pc := 1433) C hX hbl hbA h3 dL_law_1433 ?_
  have hw := rl_keep h (xs (nI (6 * i) + 1).toNatClampNeg) (xs (nI (6 * i) + 2).toNatClampNeg) (xs (nI (6 * i) + 3).toNatClampNeg)
  refine c_afterI (pc := 1434) C (wp_X9_keep (xs (nI (6 * i) + 1).toNatClampNeg) (xs (nI (6 * i) + 2).toNatClampNeg) (xs (nI (6 * i) + 3).toNatClampNeg) S) hw (fun post hw => rc_V C (ct_X9_keep l D cA ad (xs (nI (6 * i) + 1).toNatClampNeg) (xs (nI (6 * i) + 2).toNatClampNeg) (xs (nI (6 * i) + 3).toNatClampNeg) S post hw) (cwV 3 C.2.2.2.2.1 gL_law_X9_keep rfl rfl rfl (by decide +kernel) ⟨Nat.le_of_ble_eq_true rfl, Nat.le_of_ble_eq_true rfl⟩) hm_0 (cel_0 cA ad S 0) rfl rfl rfl rfl (Nat.le_of_ble_eq_true rfl) ⟨by show kc + 0 ≤ 601024; omega, by show ks + 0 ≤ 7293034; omega⟩ dL_law_1434) (fun r1 S1 hw => ?_)
  refine c_aload_n (pc := 1437) C dL_law_1437 2 rfl rfl ?_
  refine c_aload_n (pc := 1438) C dL_law_1438 4 rfl rfl ?_
  refine c_iload (pc := 1439) C dL_law_1439 0 rfl ?_
  refine c_iconst (v := 1) (pc := 1441) C dL_law_1441 (by decide) ?_
  refine c_iadd (pc := 1442) C dL_law_1442 ?_
  refine c_sld (pc := 1443) C hX hbl hbA h1 dL_law_1443 ?_
  refine c_aload_n (pc := 1444) C dL_law_1444 4 rfl rfl ?_
  refine c_iload (pc := 1445) C dL_law_1445 0 rfl ?_
  refine c_iconst (v := 2) (pc := 1447) C dL_law_1447 (by decide) ?_
  refine c_iadd (pc := 1448) C dL_law_1448 ?_
  refine c_sld (pc := 1449) C hX hbl hbA h2 dL_law_1449 ?_
  refine c_aload_n (pc := 1450) C dL_law_1450 4 rfl rfl ?_
  refine c_iload (pc := 1451) C dL_law_1451 0 rfl ?_
  refine c_iconst (v := 3) (pc := 1453) C dL_law_1453 (by decide) ?_
  refine c_iadd (pc := 1454) C dL_law_1454 ?_
  refine c_sld (pc := 1455) C hX hbl hbA h3 dL_law_1455 ?_
  refine c_afterI (pc := 1456) C (wp_X10_keep (xs (nI (6 * i) + 1).toNatClampNeg) (xs (nI (6 * i) + 2).toNatClampNeg) (xs (nI (6 * i) + 3).toNatClampNeg) S1) hw (fun post hw => rc_V C (ct_X10_keep l D cA ad (xs (nI (6 * i) + 1).toNatClampNeg) (xs (nI (6 * i) + 2).toNatClampNeg) (xs (nI (6 * i) + 3).toNatClampNeg) S1 post hw) (cwV 3 C.2.2.2.2.1 gL_law_X10_keep rfl rfl rfl (by decide +kernel) ⟨Nat.le_of_ble_eq_true rfl, Nat.le_of_ble_eq_true rfl⟩) hm_40 (cel_40 cA ad S1 0) rfl rfl rfl rfl (Nat.le_of_ble_eq_true rfl) ⟨by show kc + 0 ≤ 601024; omega, by show ks + 0 ≤ 7293034; omega⟩ dL_law_1456) (fun r2 S2 hw => ?_)
  obtain ⟨w1, w2⟩ := hw
  refine c_icmp_eq (pc := 1459) C 1703 dL_law_1459 (by decide) (fun _ => ?_) (fun z => absurd w1 z)
  exact c_widen (k := kc + 12) (n := ks + 180) (by omega) (by omega) (kend ad S2 rfl rfl rfl w2)
set_option maxHeartbeats 4000000 in
set_option maxRecDepth 100000 in
theorem lc_28 (C : Cx p s m args c cL_law 8 bbL.flatten RL D cA A) (hX : va_X b L xs s s.heap) (hbl : b < s.heap.size) (hbA : ¬ A b) (hE : EX A s s.heap) (hM : EM s) (hst : l.stackTraces = false) {S : Sg} (h : Rel S) {i : Nat} (h1 : vp_in (nI (6 * i) + 1) L) (h2 : vp_in (nI (6 * i) + 2) L) (h3 : vp_in (nI (6 * i) + 3) L) (h4 : vp_in (nI (6 * i) + 4) L) (h5 : vp_in (nI (6 * i) + 5) L) (hk : kc + 12 ≤ 601024) (hs : ks + 180 ≤ 7293034) (kend : ∀ (ad' : Nat → Nat → Nat) (S' : Sg), ad' 0 0 = ad 0 0 → ad' 39 0 = ad 39 0 → ad' 40 0 = ad 40 0 → Rel S' → KC (kc + 12) (ks + 180) p l e room_1 s m args below meth c 8 D cA ad' A Q 1703 [(4, .int (nI (6 * i))), (3, .ref (ad' 39 0)), (2, .ref (ad' 40 0)), (1, .ref (ad' 0 0)), (0, .ref b)] [] S') : KC kc ks p l e room_1 s m args below meth c 8 D cA ad A Q 1464 [(4, .int (nI (6 * i))), (3, .ref (ad 39 0)), (2, .ref (ad 40 0)), (1, .ref (ad 0 0)), (0, .ref b)] [] S := by
  refine c_aload_n (pc := 1464) C dL_law_1464 3 rfl rfl ?_
  refine c_aload_n (pc := 1465) C dL_law_1465 4 rfl rfl ?_
  refine c_iload (pc := 1466) C dL_law_1466 0 rfl ?_
  refine c_iconst (v := 1) (pc := 1468) C dL_law_1468 (by decide) ?_
  refine c_iadd (pc := 1469) C dL_law_1469 ?_
  refine c_sld (pc := 1470) C hX hbl hbA h1 dL_law_1470 ?_
  refine c_aload_n (pc := 1471) C dL_law_1471 4 rfl rfl ?_
  refine c_iload (pc := 1472) C dL_law_1472 0 rfl ?_
  refine c_iconst (v := 2) (pc := 1474) C dL_law_1474 (by decide) ?_
  refine c_iadd (pc := 1475) C dL_law_1475 ?_
  refine c_sld (pc := 1476) C hX hbl hbA h2 dL_law_1476 ?_
  refine c_aload_n (pc := 1477) C dL_law_1477 4 rfl rfl ?_
  refine c_iload (pc := 1478) C dL_law_1478 0 rfl ?_
  refine c_iconst (v := 3) (pc := 1480) C dL_law_1480 (by decide) ?_
  refine c_iadd (pc := 1481) C dL_law_1481 ?_
  refine c_sld (pc := 1482) C hX hbl hbA h3 dL_law_1482 ?_
  have hw := rl_make h (xs (nI (6 * i) + 1).toNatClampNeg) (xs (nI (6 * i) + 2).toNatClampNeg) (xs (nI (6 * i) + 3).toNatClampNeg)
  refine c_afterI (pc := 1483) C (wp_X9_make (xs (nI (6 * i) + 1).toNatClampNeg) (xs (nI (6 * i) + 2).toNatClampNeg) (xs (nI (6 * i) + 3).toNatClampNeg) S) hw (fun post hw => rc_V C (ct_X9_make l D cA ad (xs (nI (6 * i) + 1).toNatClampNeg) (xs (nI (6 * i) + 2).toNatClampNeg) (xs (nI (6 * i) + 3).toNatClampNeg) S post hw) (cwV 3 C.2.2.2.2.1 gL_law_X9_make rfl rfl rfl (by decide +kernel) ⟨Nat.le_of_ble_eq_true rfl, Nat.le_of_ble_eq_true rfl⟩) hm_0 (cel_0 cA ad S 0) rfl rfl rfl rfl (Nat.le_of_ble_eq_true rfl) ⟨by show kc + 0 ≤ 601024; omega, by show ks + 0 ≤ 7293034; omega⟩ dL_law_1483) (fun r1 S1 hw => ?_)
  refine c_aload_n (pc := 1486) C dL_law_1486 2 rfl rfl ?_
  refine c_aload_n (pc := 1487) C dL_law_1487 4 rfl rfl ?_
  refine c_iload (pc := 1488) C dL_law_1488 0 rfl ?_
  refine c_iconst (v := 1) (pc := 1490) C dL_law_1490 (by decide) ?_
  refine c_iadd (pc := 1491) C dL_law_1491 ?_
  refine c_sld (pc := 1492) C hX hbl hbA h1 dL_law_1492 ?_
  refine c_aload_n (pc := 1493) C dL_law_1493 4 rfl rfl ?_
  refine c_iload (pc := 1494) C dL_law_1494 0 rfl ?_
  refine c_iconst (v := 2) (pc := 1496) C dL_law_1496 (by decide) ?_
  refine c_iadd (pc := 1497) C dL_law_1497 ?_
  refine c_sld (pc := 1498) C hX hbl hbA h2 dL_law_1498 ?_
  refine c_aload_n (pc := 1499) C dL_law_1499 4 rfl rfl ?_
  refine c_iload (pc := 1500) C dL_law_1500 0 rfl ?_
  refine c_iconst (v := 3) (pc := 1502) C dL_law_1502 (by decide) ?_
  refine c_iadd (pc := 1503) C dL_law_1503 ?_
  refine c_sld (pc := 1504) C hX hbl hbA h3 dL_law_1504 ?_
  refine c_afterI (pc := 1505) C (wp_X10_make (xs (nI (6 * i) + 1).toNatClampNeg) (xs (nI (6 * i) + 2).toNatClampNeg) (xs (nI (6 * i) + 3).toNatClampNeg) S1) hw (fun post hw => rc_V C (ct_X10_make l D cA ad (xs (nI (6 * i) + 1).toNatClampNeg) (xs (nI (6 * i) + 2).toNatClampNeg) (xs (nI (6 * i) + 3).toNatClampNeg) S1 post hw) (cwV 3 C.2.2.2.2.1 gL_law_X10_make rfl rfl rfl (by decide +kernel) ⟨Nat.le_of_ble_eq_true rfl, Nat.le_of_ble_eq_true rfl⟩) hm_40 (cel_40 cA ad S1 0) rfl rfl rfl rfl (Nat.le_of_ble_eq_true rfl) ⟨by show kc + 0 ≤ 601024; omega, by show ks + 0 ≤ 7293034; omega⟩ dL_law_1505) (fun r2 S2 hw => ?_)
  obtain ⟨w1, w2⟩ := hw
  refine c_icmp_eq (pc := 1508) C 1703 dL_law_1508 (by decide) (fun _ => ?_) (fun z => absurd w1 z)
  exact c_widen (k := kc + 12) (n := ks + 180) (by omega) (by omega) (kend ad S2 rfl rfl rfl w2)
set_option maxHeartbeats 4000000 in
set_option maxRecDepth 100000 in
theorem lc_29 (C : Cx p s m args c cL_law 8 bbL.flatten RL D cA A) (hX : va_X b L xs s s.heap) (hbl : b < s.heap.size) (hbA : ¬ A b) (hE : EX A s s.heap) (hM : EM s) (hst : l.stackTraces = false) {S : Sg} (h : Rel S) {i : Nat} (h1 : vp_in (nI (6 * i) + 1) L) (h2 : vp_in (nI (6 * i) + 2) L) (h3 : vp_in (nI (6 * i) + 3) L) (h4 : vp_in (nI (6 * i) + 4) L) (h5 : vp_in (nI (6 * i) + 5) L) (hk : kc + 12 ≤ 601024) (hs : ks + 180 ≤ 7293034) (kend : ∀ (ad' : Nat → Nat → Nat) (S' : Sg), ad' 0 0 = ad 0 0 → ad' 39 0 = ad 39 0 → ad' 40 0 = ad 40 0 → Rel S' → KC (kc + 12) (ks + 180) p l e room_1 s m args below meth c 8 D cA ad' A Q 1703 [(4, .int (nI (6 * i))), (3, .ref (ad' 39 0)), (2, .ref (ad' 40 0)), (1, .ref (ad' 0 0)), (0, .ref b)] [] S') : KC kc ks p l e room_1 s m args below meth c 8 D cA ad A Q 1513 [(4, .int (nI (6 * i))), (3, .ref (ad 39 0)), (2, .ref (ad 40 0)), (1, .ref (ad 0 0)), (0, .ref b)] [] S := by
  refine c_aload_n (pc := 1513) C dL_law_1513 3 rfl rfl ?_
  refine c_aload_n (pc := 1514) C dL_law_1514 4 rfl rfl ?_
  refine c_iload (pc := 1515) C dL_law_1515 0 rfl ?_
  refine c_iconst (v := 1) (pc := 1517) C dL_law_1517 (by decide) ?_
  refine c_iadd (pc := 1518) C dL_law_1518 ?_
  refine c_sld (pc := 1519) C hX hbl hbA h1 dL_law_1519 ?_
  refine c_aload_n (pc := 1520) C dL_law_1520 4 rfl rfl ?_
  refine c_iload (pc := 1521) C dL_law_1521 0 rfl ?_
  refine c_iconst (v := 2) (pc := 1523) C dL_law_1523 (by decide) ?_
  refine c_iadd (pc := 1524) C dL_law_1524 ?_
  refine c_sld (pc := 1525) C hX hbl hbA h2 dL_law_1525 ?_
  refine c_aload_n (pc := 1526) C dL_law_1526 1 rfl rfl ?_
  have hw := rl_element h (xs (nI (6 * i) + 1).toNatClampNeg) (xs (nI (6 * i) + 2).toNatClampNeg)
  refine c_callWS (pc := 1527) C hE (ct_L_element l hst D cA ad (xs (nI (6 * i) + 1).toNatClampNeg) (xs (nI (6 * i) + 2).toNatClampNeg) S _ hw) (vx_cwSW 4 C.2.2.2.2.1 gL_law_L_element rfl rfl rfl (by decide +kernel) ⟨Nat.le_of_ble_eq_true rfl, Nat.le_of_ble_eq_true rfl⟩) rfl rfl (Nat.le_of_ble_eq_true rfl) ⟨by show kc + 1 ≤ 601024; omega, by show ks + 6 ≤ 7293034; omega⟩ dL_law_1527 (fun r1 S1 hw => ?_)
  refine c_istore (pc := 1530) C dL_law_1530 (by decide) [(5, .int r1), (4, .int (nI (6 * i))), (3, .ref (ad 39 0)), (2, .ref (ad 40 0)), (1, .ref (ad 0 0)), (0, .ref b)] rfl ?_
  refine c_aload_n (pc := 1532) C dL_law_1532 3 rfl rfl ?_
  refine c_aload_n (pc := 1533) C dL_law_1533 5 rfl rfl ?_
  refine c_iload (pc := 1534) C dL_law_1534 1 rfl ?_
  refine c_iconst (v := 1) (pc := 1536) C dL_law_1536 (by decide) ?_
  refine c_iadd (pc := 1537) C dL_law_1537 ?_
  refine c_sld (pc := 1538) C hX hbl hbA h1 dL_law_1538 ?_
  refine c_aload_n (pc := 1539) C dL_law_1539 5 rfl rfl ?_
  refine c_iload (pc := 1540) C dL_law_1540 1 rfl ?_
  refine c_iconst (v := 2) (pc := 1542) C dL_law_1542 (by decide) ?_
  refine c_iadd (pc := 1543) C dL_law_1543 ?_
  refine c_sld (pc := 1544) C hX hbl hbA h2 dL_law_1544 ?_
  refine c_afterL (pc := 1545) C (wp_X10_element (xs (nI (6 * i) + 1).toNatClampNeg) (xs (nI (6 * i) + 2).toNatClampNeg) S1) hw (fun post hw => rc_V C (ct_X10_element l D cA ad (xs (nI (6 * i) + 1).toNatClampNeg) (xs (nI (6 * i) + 2).toNatClampNeg) S1 post hw) (cwV 2 C.2.2.2.2.1 gL_law_X10_element rfl rfl rfl (by decide +kernel) ⟨Nat.le_of_ble_eq_true rfl, Nat.le_of_ble_eq_true rfl⟩) hm_40 (cel_40 cA ad S1 0) rfl rfl rfl rfl (Nat.le_of_ble_eq_true rfl) ⟨by show (kc + 1) + 0 ≤ 601024; omega, by show (ks + 6) + 0 ≤ 7293034; omega⟩ dL_law_1545) (fun r2 S2 hw => ?_)
  refine c_lstore (pc := 1548) C dL_law_1548 (by decide) [(6, .long r2), (5, .int r1), (4, .int (nI (6 * i))), (3, .ref (ad 39 0)), (2, .ref (ad 40 0)), (1, .ref (ad 0 0)), (0, .ref b)] rfl ?_
  refine c_aload_n (pc := 1550) C dL_law_1550 4 rfl rfl ?_
  refine c_afterI (pc := 1551) C (wp_X10_thrown S2) (post := fun r S9 => r = gI S2 40 0 0 ∧ S9 = S2) ⟨rfl, rfl⟩ (fun post hw => rc_V C (ct_X10_thrown l D cA ad S2 post hw) (cwV 0 C.2.2.2.2.1 gL_law_X10_thrown rfl rfl rfl (by decide +kernel) ⟨Nat.le_of_ble_eq_true rfl, Nat.le_of_ble_eq_true rfl⟩) hm_40 (cel_40 cA ad S2 0) rfl rfl rfl rfl (Nat.le_of_ble_eq_true rfl) ⟨by show (kc + 1) + 0 ≤ 601024; omega, by show (ks + 6) + 0 ≤ 7293034; omega⟩ dL_law_1551) (fun r9 S9 hr9 => ?_)
  obtain ⟨e9, rfl⟩ := hr9
  refine c_iload (pc := 1554) C dL_law_1554 1 rfl ?_
  obtain ⟨w1, w2, w3⟩ := hw
  refine c_icmp_eq (pc := 1556) C 1561 dL_law_1556 (by decide) (fun _ => ?_) (fun z => absurd (e9.trans w1) z)
  refine c_iload (pc := 1561) C dL_law_1561 1 rfl ?_
  refine c_if_ne (pc := 1563) C 1577 dL_law_1563 (by decide) (fun z => ?_) (fun z => ?_)
  · refine c_goto (pc := 1577) C 1703 dL_law_1577 (by decide) ?_
    exact c_sub [2, 3, 4, 5, 6] [(4, .int (nI (6 * i))), (3, .ref (ad 39 0)), (2, .ref (ad 40 0)), (1, .ref (ad 0 0)), (0, .ref b)] rfl (c_widen (k := kc + 12) (n := ks + 180) (by omega) (by omega) (kend ad S9 rfl rfl rfl w3))
  · refine c_aload_n (pc := 1566) C dL_law_1566 3 rfl rfl ?_
    refine c_iconst (v := 0) (pc := 1567) C dL_law_1567 (by decide) ?_
    refine c_lald (pc := 1568) C hm_39 (cel_39 cA ad S9 0) vp_01 dL_law_1568 ?_
    refine c_lload (pc := 1569) C dL_law_1569 0 rfl ?_
    refine c_lif_eq (pc := 1571) C 1577 dL_law_1571 dL_law_1572 (by decide) (fun _ => ?_) (fun z2 => absurd (w2 z) z2)
    refine c_goto (pc := 1577) C 1703 dL_law_1577 (by decide) ?_
    exact c_sub [2, 3, 4, 5, 6] [(4, .int (nI (6 * i))), (3, .ref (ad 39 0)), (2, .ref (ad 40 0)), (1, .ref (ad 0 0)), (0, .ref b)] rfl (c_widen (k := kc + 12) (n := ks + 180) (by omega) (by omega) (kend ad S9 rfl rfl rfl w3))
set_option maxHeartbeats 4000000 in
set_option maxRecDepth 100000 in
theorem lc_30 (C : Cx p s m args c cL_law 8 bbL.flatten RL D cA A) (hX : va_X b L xs s s.heap) (hbl : b < s.heap.size) (hbA : ¬ A b) (hE : EX A s s.heap) (hM : EM s) (hst : l.stackTraces = false) {S : Sg} (h : Rel S) {i : Nat} (h1 : vp_in (nI (6 * i) + 1) L) (h2 : vp_in (nI (6 * i) + 2) L) (h3 : vp_in (nI (6 * i) + 3) L) (h4 : vp_in (nI (6 * i) + 4) L) (h5 : vp_in (nI (6 * i) + 5) L) (hk : kc + 12 ≤ 601024) (hs : ks + 180 ≤ 7293034) (kend : ∀ (ad' : Nat → Nat → Nat) (S' : Sg), ad' 0 0 = ad 0 0 → ad' 39 0 = ad 39 0 → ad' 40 0 = ad 40 0 → Rel S' → KC (kc + 12) (ks + 180) p l e room_1 s m args below meth c 8 D cA ad' A Q 1703 [(4, .int (nI (6 * i))), (3, .ref (ad' 39 0)), (2, .ref (ad' 40 0)), (1, .ref (ad' 0 0)), (0, .ref b)] [] S') : KC kc ks p l e room_1 s m args below meth c 8 D cA ad A Q 1580 [(4, .int (nI (6 * i))), (3, .ref (ad 39 0)), (2, .ref (ad 40 0)), (1, .ref (ad 0 0)), (0, .ref b)] [] S := by
  refine c_aload_n (pc := 1580) C dL_law_1580 3 rfl rfl ?_
  refine c_aload_n (pc := 1581) C dL_law_1581 4 rfl rfl ?_
  refine c_iload (pc := 1582) C dL_law_1582 0 rfl ?_
  refine c_iconst (v := 1) (pc := 1584) C dL_law_1584 (by decide) ?_
  refine c_iadd (pc := 1585) C dL_law_1585 ?_
  refine c_sld (pc := 1586) C hX hbl hbA h1 dL_law_1586 ?_
  refine c_aload_n (pc := 1587) C dL_law_1587 4 rfl rfl ?_
  refine c_iload (pc := 1588) C dL_law_1588 0 rfl ?_
  refine c_iconst (v := 2) (pc := 1590) C dL_law_1590 (by decide) ?_
  refine c_iadd (pc := 1591) C dL_law_1591 ?_
  refine c_sld (pc := 1592) C hX hbl hbA h2 dL_law_1592 ?_
  refine c_aload_n (pc := 1593) C dL_law_1593 4 rfl rfl ?_
  refine c_iload (pc := 1594) C dL_law_1594 0 rfl ?_
  refine c_iconst (v := 3) (pc := 1596) C dL_law_1596 (by decide) ?_
  refine c_iadd (pc := 1597) C dL_law_1597 ?_
  refine c_sld (pc := 1598) C hX hbl hbA h3 dL_law_1598 ?_
  refine c_aload_n (pc := 1599) C dL_law_1599 4 rfl rfl ?_
  refine c_iload (pc := 1600) C dL_law_1600 0 rfl ?_
  refine c_iconst (v := 4) (pc := 1602) C dL_law_1602 (by decide) ?_
  refine c_iadd (pc := 1603) C dL_law_1603 ?_
  refine c_sld (pc := 1604) C hX hbl hbA h4 dL_law_1604 ?_
  refine c_aload_n (pc := 1605) C dL_law_1605 4 rfl rfl ?_
  refine c_iload (pc := 1606) C dL_law_1606 0 rfl ?_
  refine c_iconst (v := 5) (pc := 1608) C dL_law_1608 (by decide) ?_
  refine c_iadd (pc := 1609) C dL_law_1609 ?_
  refine c_sld (pc := 1610) C hX hbl hbA h5 dL_law_1610 ?_
  have hw := rl_copy h (xs (nI (6 * i) + 1).toNatClampNeg) (xs (nI (6 * i) + 2).toNatClampNeg) (xs (nI (6 * i) + 3).toNatClampNeg) (xs (nI (6 * i) + 4).toNatClampNeg) (xs (nI (6 * i) + 5).toNatClampNeg)
  refine c_afterI (pc := 1611) C (wp_X9_copy (xs (nI (6 * i) + 1).toNatClampNeg) (xs (nI (6 * i) + 2).toNatClampNeg) (xs (nI (6 * i) + 3).toNatClampNeg) (xs (nI (6 * i) + 4).toNatClampNeg) (xs (nI (6 * i) + 5).toNatClampNeg) S) hw (fun post hw => rc_V C (ct_X9_copy l D cA ad (xs (nI (6 * i) + 1).toNatClampNeg) (xs (nI (6 * i) + 2).toNatClampNeg) (xs (nI (6 * i) + 3).toNatClampNeg) (xs (nI (6 * i) + 4).toNatClampNeg) (xs (nI (6 * i) + 5).toNatClampNeg) S post hw) (cwV 5 C.2.2.2.2.1 gL_law_X9_copy rfl rfl rfl (by decide +kernel) ⟨Nat.le_of_ble_eq_true rfl, Nat.le_of_ble_eq_true rfl⟩) hm_0 (cel_0 cA ad S 0) rfl rfl rfl rfl (Nat.le_of_ble_eq_true rfl) ⟨by show kc + 0 ≤ 601024; omega, by show ks + 0 ≤ 7293034; omega⟩ dL_law_1611) (fun r1 S1 hw => ?_)
  refine c_aload_n (pc := 1614) C dL_law_1614 2 rfl rfl ?_
  refine c_aload_n (pc := 1615) C dL_law_1615 4 rfl rfl ?_
  refine c_iload (pc := 1616) C dL_law_1616 0 rfl ?_
  refine c_iconst (v := 1) (pc := 1618) C dL_law_1618 (by decide) ?_
  refine c_iadd (pc := 1619) C dL_law_1619 ?_
  refine c_sld (pc := 1620) C hX hbl hbA h1 dL_law_1620 ?_
  refine c_aload_n (pc := 1621) C dL_law_1621 4 rfl rfl ?_
  refine c_iload (pc := 1622) C dL_law_1622 0 rfl ?_
  refine c_iconst (v := 2) (pc := 1624) C dL_law_1624 (by decide) ?_
  refine c_iadd (pc := 1625) C dL_law_1625 ?_
  refine c_sld (pc := 1626) C hX hbl hbA h2 dL_law_1626 ?_
  refine c_aload_n (pc := 1627) C dL_law_1627 4 rfl rfl ?_
  refine c_iload (pc := 1628) C dL_law_1628 0 rfl ?_
  refine c_iconst (v := 3) (pc := 1630) C dL_law_1630 (by decide) ?_
  refine c_iadd (pc := 1631) C dL_law_1631 ?_
  refine c_sld (pc := 1632) C hX hbl hbA h3 dL_law_1632 ?_
  refine c_aload_n (pc := 1633) C dL_law_1633 4 rfl rfl ?_
  refine c_iload (pc := 1634) C dL_law_1634 0 rfl ?_
  refine c_iconst (v := 4) (pc := 1636) C dL_law_1636 (by decide) ?_
  refine c_iadd (pc := 1637) C dL_law_1637 ?_
  refine c_sld (pc := 1638) C hX hbl hbA h4 dL_law_1638 ?_
  refine c_aload_n (pc := 1639) C dL_law_1639 4 rfl rfl ?_
  refine c_iload (pc := 1640) C dL_law_1640 0 rfl ?_
  refine c_iconst (v := 5) (pc := 1642) C dL_law_1642 (by decide) ?_
  refine c_iadd (pc := 1643) C dL_law_1643 ?_
  refine c_sld (pc := 1644) C hX hbl hbA h5 dL_law_1644 ?_
  refine c_afterI (pc := 1645) C (wp_X10_copy (xs (nI (6 * i) + 1).toNatClampNeg) (xs (nI (6 * i) + 2).toNatClampNeg) (xs (nI (6 * i) + 3).toNatClampNeg) (xs (nI (6 * i) + 4).toNatClampNeg) (xs (nI (6 * i) + 5).toNatClampNeg) S1) hw (fun post hw => rc_V C (ct_X10_copy l D cA ad (xs (nI (6 * i) + 1).toNatClampNeg) (xs (nI (6 * i) + 2).toNatClampNeg) (xs (nI (6 * i) + 3).toNatClampNeg) (xs (nI (6 * i) + 4).toNatClampNeg) (xs (nI (6 * i) + 5).toNatClampNeg) S1 post hw) (cwV 5 C.2.2.2.2.1 gL_law_X10_copy rfl rfl rfl (by decide +kernel) ⟨Nat.le_of_ble_eq_true rfl, Nat.le_of_ble_eq_true rfl⟩) hm_40 (cel_40 cA ad S1 0) rfl rfl rfl rfl (Nat.le_of_ble_eq_true rfl) ⟨by show kc + 0 ≤ 601024; omega, by show ks + 0 ≤ 7293034; omega⟩ dL_law_1645) (fun r2 S2 hw => ?_)
  obtain ⟨w1, w2⟩ := hw
  refine c_icmp_eq (pc := 1648) C 1703 dL_law_1648 (by decide) (fun _ => ?_) (fun z => absurd w1 z)
  exact c_widen (k := kc + 12) (n := ks + 180) (by omega) (by omega) (kend ad S2 rfl rfl rfl w2)
set_option maxHeartbeats 4000000 in
set_option maxRecDepth 100000 in
theorem lc_31 (C : Cx p s m args c cL_law 8 bbL.flatten RL D cA A) (hX : va_X b L xs s s.heap) (hbl : b < s.heap.size) (hbA : ¬ A b) (hE : EX A s s.heap) (hM : EM s) (hst : l.stackTraces = false) {S : Sg} (h : Rel S) {i : Nat} (h1 : vp_in (nI (6 * i) + 1) L) (h2 : vp_in (nI (6 * i) + 2) L) (h3 : vp_in (nI (6 * i) + 3) L) (h4 : vp_in (nI (6 * i) + 4) L) (h5 : vp_in (nI (6 * i) + 5) L) (hk : kc + 12 ≤ 601024) (hs : ks + 180 ≤ 7293034) (kend : ∀ (ad' : Nat → Nat → Nat) (S' : Sg), ad' 0 0 = ad 0 0 → ad' 39 0 = ad 39 0 → ad' 40 0 = ad 40 0 → Rel S' → KC (kc + 12) (ks + 180) p l e room_1 s m args below meth c 8 D cA ad' A Q 1703 [(4, .int (nI (6 * i))), (3, .ref (ad' 39 0)), (2, .ref (ad' 40 0)), (1, .ref (ad' 0 0)), (0, .ref b)] [] S') : KC kc ks p l e room_1 s m args below meth c 8 D cA ad A Q 1653 [(4, .int (nI (6 * i))), (3, .ref (ad 39 0)), (2, .ref (ad 40 0)), (1, .ref (ad 0 0)), (0, .ref b)] [] S := by
  refine c_aload_n (pc := 1653) C dL_law_1653 3 rfl rfl ?_
  refine c_aload_n (pc := 1654) C dL_law_1654 4 rfl rfl ?_
  refine c_iload (pc := 1655) C dL_law_1655 0 rfl ?_
  refine c_iconst (v := 1) (pc := 1657) C dL_law_1657 (by decide) ?_
  refine c_iadd (pc := 1658) C dL_law_1658 ?_
  refine c_sld (pc := 1659) C hX hbl hbA h1 dL_law_1659 ?_
  have hw := rl_weight h (xs (nI (6 * i) + 1).toNatClampNeg)
  refine c_afterI (pc := 1660) C (wp_X9_weight (xs (nI (6 * i) + 1).toNatClampNeg) S) hw (fun post hw => rc_V C (ct_X9_weight l D cA ad (xs (nI (6 * i) + 1).toNatClampNeg) S post hw) (cwV 1 C.2.2.2.2.1 gL_law_X9_weight rfl rfl rfl (by decide +kernel) ⟨Nat.le_of_ble_eq_true rfl, Nat.le_of_ble_eq_true rfl⟩) hm_0 (cel_0 cA ad S 0) rfl rfl rfl rfl (Nat.le_of_ble_eq_true rfl) ⟨by show kc + 0 ≤ 601024; omega, by show ks + 0 ≤ 7293034; omega⟩ dL_law_1660) (fun r1 S1 hw => ?_)
  refine c_aload_n (pc := 1663) C dL_law_1663 2 rfl rfl ?_
  refine c_aload_n (pc := 1664) C dL_law_1664 4 rfl rfl ?_
  refine c_iload (pc := 1665) C dL_law_1665 0 rfl ?_
  refine c_iconst (v := 1) (pc := 1667) C dL_law_1667 (by decide) ?_
  refine c_iadd (pc := 1668) C dL_law_1668 ?_
  refine c_sld (pc := 1669) C hX hbl hbA h1 dL_law_1669 ?_
  refine c_afterI (pc := 1670) C (wp_X10_weight (xs (nI (6 * i) + 1).toNatClampNeg) S1) hw (fun post hw => rc_V C (ct_X10_weight l D cA ad (xs (nI (6 * i) + 1).toNatClampNeg) S1 post hw) (cwV 1 C.2.2.2.2.1 gL_law_X10_weight rfl rfl rfl (by decide +kernel) ⟨Nat.le_of_ble_eq_true rfl, Nat.le_of_ble_eq_true rfl⟩) hm_40 (cel_40 cA ad S1 0) rfl rfl rfl rfl (Nat.le_of_ble_eq_true rfl) ⟨by show kc + 0 ≤ 601024; omega, by show ks + 0 ≤ 7293034; omega⟩ dL_law_1670) (fun r2 S2 hw => ?_)
  obtain ⟨w1, w2⟩ := hw
  refine c_icmp_eq (pc := 1673) C 1703 dL_law_1673 (by decide) (fun _ => ?_) (fun z => absurd w1 z)
  exact c_widen (k := kc + 12) (n := ks + 180) (by omega) (by omega) (kend ad S2 rfl rfl rfl w2)
set_option maxHeartbeats 4000000 in
set_option maxRecDepth 100000 in
theorem lc_32 (C : Cx p s m args c cL_law 8 bbL.flatten RL D cA A) (hX : va_X b L xs s s.heap) (hbl : b < s.heap.size) (hbA : ¬ A b) (hE : EX A s s.heap) (hM : EM s) (hst : l.stackTraces = false) {S : Sg} (h : Rel S) {i : Nat} (h1 : vp_in (nI (6 * i) + 1) L) (h2 : vp_in (nI (6 * i) + 2) L) (h3 : vp_in (nI (6 * i) + 3) L) (h4 : vp_in (nI (6 * i) + 4) L) (h5 : vp_in (nI (6 * i) + 5) L) (hk : kc + 12 ≤ 601024) (hs : ks + 180 ≤ 7293034) (kend : ∀ (ad' : Nat → Nat → Nat) (S' : Sg), ad' 0 0 = ad 0 0 → ad' 39 0 = ad 39 0 → ad' 40 0 = ad 40 0 → Rel S' → KC (kc + 12) (ks + 180) p l e room_1 s m args below meth c 8 D cA ad' A Q 1703 [(4, .int (nI (6 * i))), (3, .ref (ad' 39 0)), (2, .ref (ad' 40 0)), (1, .ref (ad' 0 0)), (0, .ref b)] [] S') : KC kc ks p l e room_1 s m args below meth c 8 D cA ad A Q 1678 [(4, .int (nI (6 * i))), (3, .ref (ad 39 0)), (2, .ref (ad 40 0)), (1, .ref (ad 0 0)), (0, .ref b)] [] S := by
  refine c_aload_n (pc := 1678) C dL_law_1678 3 rfl rfl ?_
  refine c_aload_n (pc := 1679) C dL_law_1679 4 rfl rfl ?_
  refine c_iload (pc := 1680) C dL_law_1680 0 rfl ?_
  refine c_iconst (v := 1) (pc := 1682) C dL_law_1682 (by decide) ?_
  refine c_iadd (pc := 1683) C dL_law_1683 ?_
  refine c_sld (pc := 1684) C hX hbl hbA h1 dL_law_1684 ?_
  have hw := rl_toss h (xs (nI (6 * i) + 1).toNatClampNeg)
  refine c_callWV (pc := 1685) C hE (ct_X9_toss l hst D cA ad (xs (nI (6 * i) + 1).toNatClampNeg) S _ hw) (vx_cwVW 1 C.2.2.2.2.1 gL_law_X9_toss rfl rfl rfl (by decide +kernel) ⟨Nat.le_of_ble_eq_true rfl, Nat.le_of_ble_eq_true rfl⟩) hm_0 (cel_0 cA ad S 0) rfl rfl rfl rfl (Nat.le_of_ble_eq_true rfl) ⟨by show kc + 1 ≤ 601024; omega, by show ks + 6 ≤ 7293034; omega⟩ dL_law_1685 (fun r1 S1 hw => ?_)
  refine c_aload_n (pc := 1688) C dL_law_1688 2 rfl rfl ?_
  refine c_aload_n (pc := 1689) C dL_law_1689 4 rfl rfl ?_
  refine c_iload (pc := 1690) C dL_law_1690 0 rfl ?_
  refine c_iconst (v := 1) (pc := 1692) C dL_law_1692 (by decide) ?_
  refine c_iadd (pc := 1693) C dL_law_1693 ?_
  refine c_sld (pc := 1694) C hX hbl hbA h1 dL_law_1694 ?_
  refine c_afterI (pc := 1695) C (wp_X10_toss (xs (nI (6 * i) + 1).toNatClampNeg) S1) hw (fun post hw => rc_V C (ct_X10_toss l D cA ad (xs (nI (6 * i) + 1).toNatClampNeg) S1 post hw) (cwV 1 C.2.2.2.2.1 gL_law_X10_toss rfl rfl rfl (by decide +kernel) ⟨Nat.le_of_ble_eq_true rfl, Nat.le_of_ble_eq_true rfl⟩) hm_40 (cel_40 cA ad S1 0) rfl rfl rfl rfl (Nat.le_of_ble_eq_true rfl) ⟨by show (kc + 1) + 0 ≤ 601024; omega, by show (ks + 6) + 0 ≤ 7293034; omega⟩ dL_law_1695) (fun r2 S2 hw => ?_)
  obtain ⟨w1, w2⟩ := hw
  refine c_icmp_eq (pc := 1698) C 1703 dL_law_1698 (by decide) (fun _ => ?_) (fun z => absurd w1 z)
  exact c_widen (k := kc + 12) (n := ks + 180) (by omega) (by omega) (kend ad S2 rfl rfl rfl w2)
end
