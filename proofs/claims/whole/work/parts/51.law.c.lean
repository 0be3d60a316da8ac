section
variable {p : Program} {l : Launch} {e : Env} {kc ks : Nat} {s : State} {m : MethodId} {args : Array Value} {below : List Frame} {meth : Method} {c : Code} {D : va_G} {cA : Nat → ClassId} {ad : Nat → Nat → Nat} {A : Nat → Prop} {Q : State → Prop} {b L : Nat} {xs : Nat → Int32}
set_option maxHeartbeats 4000000 in
set_option maxRecDepth 100000 in
theorem lc_17 (C : Cx p s m args c cL_law 8 bbL.flatten RL D cA A) (hX : va_X b L xs s s.heap) (hbl : b < s.heap.size) (hbA : ¬ A b) (hE : EX A s s.heap) (hM : EM s) (hst : l.stackTraces = false) {S : Sg} (h : Rel S) {i : Nat} (h1 : vp_in (nI (6 * i) + 1) L) (h2 : vp_in (nI (6 * i) + 2) L) (h3 : vp_in (nI (6 * i) + 3) L) (h4 : vp_in (nI (6 * i) + 4) L) (h5 : vp_in (nI (6 * i) + 5) L) (hk : kc + 12 ≤ 601024) (hs : ks + 180 ≤ 7293034) (kend : ∀ (ad' : Nat → Nat → Nat) (S' : Sg), ad' 0 0 = ad 0 0 → ad' 39 0 = ad 39 0 → ad' 40 0 = ad 40 0 → Rel S' → KC (kc + 12) (ks + 180) p l e room_1 s m args below meth c 8 D cA ad' A Q 1703 [(4, .int (nI (6 * i))), (3, .ref (ad' 39 0)), (2, .ref (ad' 40 0)), (1, .ref (ad' 0 0)), (0, .ref b)] [] S') : KC kc ks p l e room_1 s m args below meth c 8 D cA ad A Q 1095 [(4, .int (nI (6 * i))), (3, .ref (ad 39 0)), (2, .ref (ad 40 0)), (1, .ref (ad 0 0)), (0, .ref b)] [] S := by
  refine c_aload_n (pc := 1095) C dL_law_1095 3 rfl rfl ?_
  refine c_aload_n (pc := 1096) C dL_law_1096 4 rfl rfl ?_
  refine c_iload (pc := 1097) C dL_law_1097 0 rfl ?_
  refine c_iconst (v := 1) (pc := 1099) C dL_law_1099 (by decide) ?_
  refine c_iadd (pc := 1100) C dL_law_1100 ?_
  refine c_sld (pc := 1101) C hX hbl hbA h1 dL_law_1101 ?_
  refine c_aload_n (pc := 1102) C dL_law_1102 4 rfl rfl ?_
  refine c_iload (pc := 1103) C dL_law_1103 0 rfl ?_
  refine c_iconst (v := 2) (pc := 1105) C dL_law_1105 (by decide) ?_
  refine c_iadd (pc := 1106) C dL_law_1106 ?_
  refine c_sld (pc := 1107) C hX hbl hbA h2 dL_law_1107 ?_
  refine c_aload_n (pc := 1108) C dL_law_1108 4 rfl rfl ?_
  refine c_iload (pc := 1109) C dL_law_1109 0 rfl ?_
  refine c_iconst (v := 3) (pc := 1111) C dL_law_1111 (by decide) ?_
  refine c_iadd (pc := 1112) C dL_law_1112 ?_
  refine c_sld (pc := 1113) C hX hbl hbA h3 dL_law_1113 ?_
  have hw := rl_green h (xs (nI (6 * i) + 1).toNatClampNeg) (xs (nI (6 * i) + 2).toNatClampNeg) (xs (nI (6 * i) + 3).toNatClampNeg)
  refine c_afterI (pc := 1114) C (wp_X9_green (xs (nI (6 * i) + 1).toNatClampNeg) (xs (nI (6 * i) + 2).toNatClampNeg) (xs (nI (6 * i) + 3).toNatClampNeg) S) hw (fun post hw => rc_V C (ct_X9_green l D cA ad (xs (nI (6 * i) + 1).toNatClampNeg) (xs (nI (6 * i) + 2).toNatClampNeg) (xs (nI (6 * i) + 3).toNatClampNeg) S post hw) (cwV 3 C.2.2.2.2.1 gL_law_X9_green rfl rfl rfl (by decide +kernel) ⟨Nat.le_of_ble_eq_true rfl, Nat.le_of_ble_eq_true rfl⟩) hm_0 (cel_0 cA ad S 0) rfl rfl rfl rfl (Nat.le_of_ble_eq_true rfl) ⟨by show kc + 0 ≤ 601024; omega, by show ks + 0 ≤ 7293034; omega⟩ dL_law_1114) (fun r1 S1 hw => ?_)
  refine c_aload_n (pc := 1117) C dL_law_1117 2 rfl rfl ?_
  refine c_aload_n (pc := 1118) C dL_law_1118 4 rfl rfl ?_
  refine c_iload (pc := 1119) C dL_law_1119 0 rfl ?_
  refine c_iconst (v := 1) (pc := 1121) C dL_law_1121 (by decide) ?_
  refine c_iadd (pc := 1122) C dL_law_1122 ?_
  refine c_sld (pc := 1123) C hX hbl hbA h1 dL_law_1123 ?_
  refine c_aload_n (pc := 1124) C dL_law_1124 4 rfl rfl ?_
  refine c_iload (pc := 1125) C dL_law_1125 0 rfl ?_
  refine c_iconst (v := 2) (pc := 1127) C dL_law_1127 (by decide) ?_
  refine c_iadd (pc := 1128) C dL_law_1128 ?_
  refine c_sld (pc := 1129) C hX hbl hbA h2 dL_law_1129 ?_
  refine c_aload_n (pc := 1130) C dL_law_1130 4 rfl rfl ?_
  refine c_iload (pc := 1131) C dL_law_1131 0 rfl ?_
  refine c_iconst (v := 3) (pc := 1133) C dL_law_1133 (by decide) ?_
  refine c_iadd (pc := 1134) C dL_law_1134 ?_
  refine c_sld (pc := 1135) C hX hbl hbA h3 dL_law_1135 ?_
  refine c_afterI (pc := 1136) C (wp_X10_green (xs (nI (6 * i) + 1).toNatClampNeg) (xs (nI (6 * i) + 2).toNatClampNeg) (xs (nI (6 * i) + 3).toNatClampNeg) S1) hw (fun post hw => rc_V C (ct_X10_green l D cA ad (xs (nI (6 * i) + 1).toNatClampNeg) (xs (nI (6 * i) + 2).toNatClampNeg) (xs (nI (6 * i) + 3).toNatClampNeg) S1 post hw) (cwV 3 C.2.2.2.2.1 gL_law_X10_green rfl rfl rfl (by decide +kernel) ⟨Nat.le_of_ble_eq_true rfl, Nat.le_of_ble_eq_true rfl⟩) hm_40 (cel_40 cA ad S1 0) rfl rfl rfl rfl (Nat.le_of_ble_eq_true rfl) ⟨by show kc + 0 ≤ 601024; omega, by show ks + 0 ≤ 7293034; omega⟩ dL_law_1136) (fun r2 S2 hw => ?_)
  obtain ⟨w1, w2⟩ := hw
  refine c_icmp_eq (pc := 1139) C 1703 dL_law_1139 (by decide) (fun _ => ?_) (fun z => absurd w1 z)
  exact c_widen (k := kc + 12) (n := ks + 180) (by omega) (by omega) (kend ad S2 rfl rfl rfl w2)
set_option maxHeartbeats 4000000 in
set_option maxRecDepth 100000 in
theorem lc_18 (C : Cx p s m args c cL_law 8 bbL.flatten RL D cA A) (hX : va_X b L xs s s.heap) (hbl : b < s.heap.size) (hbA : ¬ A b) (hE : EX A s s.heap) (hM : EM s) (hst : l.stackTraces = false) {S : Sg} (h : Rel S) {i : Nat} (h1 : vp_in (nI (6 * i) + 1) L) (h2 : vp_in (nI (6 * i) + 2) L) (h3 : vp_in (nI (6 * i) + 3) L) (h4 : vp_in (nI (6 * i) + 4) L) (h5 : vp_in (nI (6 * i) + 5) L) (hk : kc + 12 ≤ 601024) (hs : ks + 180 ≤ 7293034) (kend : ∀ (ad' : Nat → Nat → Nat) (S' : Sg), ad' 0 0 = ad 0 0 → ad' 39 0 = ad 39 0 → ad' 40 0 = ad 40 0 → Rel S' → KC (kc + 12) (ks + 180) p l e room_1 s m args below meth c 8 D cA ad' A Q 1703 [(4, .int (nI (6 * i))), (3, .ref (ad' 39 0)), (2, .ref (ad' 40 0)), (1, .ref (ad' 0 0)), (0, .ref b)] [] S') : KC kc ks p l e room_1 s m args below meth c 8 D cA ad A Q 1144 [(4, .int (nI (6 * i))), (3, .ref (ad 39 0)), (2, .ref (ad 40 0)), (1, .ref (ad 0 0)), (0, .ref b)] [] S := by
  refine c_aload_n (pc := 1144) C dL_law_1144 3 rfl rfl ?_
  refine c_aload_n (pc := 1145) C dL_law_1145 4 rfl rfl ?_
  refine c_iload (pc := 1146) C dL_law_1146 0 rfl ?_
  refine c_iconst (v := 1) (pc := 1148) C dL_law_1148 (by decide) ?_
  refine c_iadd (pc := 1149) C dL_law_1149 ?_
  refine c_sld (pc := 1150) C hX hbl hbA h1 dL_law_1150 ?_
  have hw := rl_tolerance h (xs (nI (6 * i) + 1).toNatClampNeg)
  refine c_afterI (pc := 1151) C (wp_X9_tolerance (xs (nI (6 * i) + 1).toNatClampNeg) S) hw (fun post hw => rc_V C (ct_X9_tolerance l D cA ad (xs (nI (6 * i) + 1).toNatClampNeg) S post hw) (cwV 1 C.2.2.2.2.1 gL_law_X9_tolerance rfl rfl rfl (by decide +kernel) ⟨Nat.le_of_ble_eq_true rfl, Nat.le_of_ble_eq_true rfl⟩) hm_0 (cel_0 cA ad S 0) rfl rfl rfl rfl (Nat.le_of_ble_eq_true rfl) ⟨by show kc + 0 ≤ 601024; omega, by show ks + 0 ≤ 7293034; omega⟩ dL_law_1151) (fun r1 S1 hw => ?_)
  refine c_aload_n (pc := 1154) C dL_law_1154 2 rfl rfl ?_
  refine c_aload_n (pc := 1155) C dL_law_1155 4 rfl rfl ?_
  refine c_iload (pc := 1156) C dL_law_1156 0 rfl ?_
  refine c_iconst (v := 1) (pc := 1158) C dL_law_1158 (by decide) ?_
  refine c_iadd (pc := 1159) C dL_law_1159 ?_
  refine c_sld (pc := 1160) C hX hbl hbA h1 dL_law_1160 ?_
  refine c_afterI (pc := 1161) C (wp_X10_tolerance (xs (nI (6 * i) + 1).toNatClampNeg) S1) hw (fun post hw => rc_V C (ct_X10_tolerance l D cA ad (xs (nI (6 * i) + 1).toNatClampNeg) S1 post hw) (cwV 1 C.2.2.2.2.1 gL_law_X10_tolerance rfl rfl rfl (by decide +kernel) ⟨Nat.le_of_ble_eq_true rfl, Nat.le_of_ble_eq_true rfl⟩) hm_40 (cel_40 cA ad S1 0) rfl rfl rfl rfl (Nat.le_of_ble_eq_true rfl) ⟨by show kc + 0 ≤ 601024; omega, by show ks + 0 ≤ 7293034; omega⟩ dL_law_1161) (fun r2 S2 hw => ?_)
  obtain ⟨w1, w2⟩ := hw
  refine c_icmp_eq (pc := 1164) C 1703 dL_law_1164 (by decide) (fun _ => ?_) (fun z => absurd w1 z)
  exact c_widen (k := kc + 12) (n := ks + 180) (by omega) (by omega) (kend ad S2 rfl rfl rfl w2)
set_option maxHeartbeats 4000000 in
set_option maxRecDepth 100000 in
theorem lc_19 (C : Cx p s m args c cL_law 8 bbL.flatten RL D cA A) (hX : va_X b L xs s s.heap) (hbl : b < s.heap.size) (hbA : ¬ A b) (hE : EX A s s.heap) (hM : EM s) (hst : l.stackTraces = false) {S : Sg} (h : Rel S) {i : Nat} (h1 : vp_in (nI (6 * i) + 1) L) (h2 : vp_in (nI (6 * i) + 2) L) (h3 : vp_in (nI (6 * i) + 3) L) (h4 : vp_in (nI (6 * i) + 4) L) (h5 : vp_in (nI (6 * i) + 5) L) (hk : kc + 12 ≤ 601024) (hs : ks + 180 ≤ 7293034) (kend : ∀ (ad' : Nat → Nat → Nat) (S' : Sg), ad' 0 0 = ad 0 0 → ad' 39 0 = ad 39 0 → ad' 40 0 = ad 40 0 → Rel S' → KC (kc + 12) (ks + 180) p l e room_1 s m args below meth c 8 D cA ad' A Q 1703 [(4, .int (nI (6 * i))), (3, .ref (ad' 39 0)), (2, .ref (ad' 40 0)), (1, .ref (ad' 0 0)), (0, .ref b)] [] S') : KC kc ks p l e room_1 s m args below meth c 8 D cA ad A Q 1169 [(4, .int (nI (6 * i))), (3, .ref (ad 39 0)), (2, .ref (ad 40 0)), (1, .ref (ad 0 0)), (0, .ref b)] [] S := by
  refine c_aload_n (pc := 1169) C dL_law_1169 3 rfl rfl ?_
  have hw := rl_fits h
  refine c_afterI (pc := 1170) C (wp_X9_fits S) hw (fun post hw => rc_V C (ct_X9_fits l D cA ad S post hw) (cwV 0 C.2.2.2.2.1 gL_law_X9_fits rfl rfl rfl (by decide +kernel) ⟨Nat.le_of_ble_eq_true rfl, Nat.le_of_ble_eq_true rfl⟩) hm_0 (cel_0 cA ad S 0) rfl rfl rfl rfl (Nat.le_of_ble_eq_true rfl) ⟨by show kc + 0 ≤ 601024; omega, by show ks + 0 ≤ 7293034; omega⟩ dL_law_1170) (fun r1 S1 hw => ?_)
  refine c_aload_n (pc := 1173) C dL_law_1173 2 rfl rfl ?_
  refine c_afterI (pc := 1174) C (wp_X10_fits S1) hw (fun post hw => rc_V C (ct_X10_fits l D cA ad S1 post hw) (cwV 0 C.2.2.2.2.1 gL_law_X10_fits rfl rfl rfl (by decide +kernel) ⟨Nat.le_of_ble_eq_true rfl, Nat.le_of_ble_eq_true rfl⟩) hm_40 (cel_40 cA ad S1 0) rfl rfl rfl rfl (Nat.le_of_ble_eq_true rfl) ⟨by show kc + 0 ≤ 601024; omega, by show ks + 0 ≤ 7293034; omega⟩ dL_law_1174) (fun r2 S2 hw => ?_)
  obtain ⟨w1, w2⟩ := hw
  refine c_icmp_eq (pc := 1177) C 1703 dL_law_1177 (by decide) (fun _ => ?_) (fun z => absurd w1 z)
  exact c_widen (k := kc + 12) (n := ks + 180) (by omega) (by omega) (kend ad S2 rfl rfl rfl w2)
set_option maxHeartbeats 4000000 in
set_option maxRecDepth 100000 in
theorem lc_20 (C : Cx p s m args c cL_law 8 bbL.flatten RL D cA A) (hX : va_X b L xs s s.heap) (hbl : b < s.heap.size) (hbA : ¬ A b) (hE : EX A s s.heap) (hM : EM s) (hst : l.stackTraces = false) {S : Sg} (h : Rel S) {i : Nat} (h1 : vp_in (nI (6 * i) + 1) L) (h2 : vp_in (nI (6 * i) + 2) L) (h3 : vp_in (nI (6 * i) + 3) L) (h4 : vp_in (nI (6 * i) + 4) L) (h5 : vp_in (nI (6 * i) + 5) L) (hk : kc + 12 ≤ 601024) (hs : ks + 180 ≤ 7293034) (kend : ∀ (ad' : Nat → Nat → Nat) (S' : Sg), ad' 0 0 = ad 0 0 → ad' 39 0 = ad 39 0 → ad' 40 0 = ad 40 0 → Rel S' → KC (kc + 12) (ks + 180) p l e room_1 s m args below meth c 8 D cA ad' A Q 1703 [(4, .int (nI (6 * i))), (3, .ref (ad' 39 0)), (2, .ref (ad' 40 0)), (1, .ref (ad' 0 0)), (0, .ref b)] [] S') : KC kc ks p l e room_1 s m args below meth c 8 D cA ad A Q 1182 [(4, .int (nI (6 * i))), (3, .ref (ad 39 0)), (2, .ref (ad 40 0)), (1, .ref (ad 0 0)), (0, .ref b)] [] S := by
  by_cases hz : xs (nI (6 * i) + 2).toNatClampNeg = 0
  · refine c_aload_n (pc := 1182) C dL_law_1182 3 rfl rfl ?_
    refine c_aload_n (pc := 1183) C dL_law_1183 4 rfl rfl ?_
    refine c_iload (pc := 1184) C dL_law_1184 0 rfl ?_
    refine c_iconst (v := 1) (pc := 1186) C dL_law_1186 (by decide) ?_
    refine c_iadd (pc := 1187) C dL_law_1187 ?_
    refine c_sld (pc := 1188) C hX hbl hbA h1 dL_law_1188 ?_
    refine c_aload_n (pc := 1189) C dL_law_1189 4 rfl rfl ?_
    refine c_iload (pc := 1190) C dL_law_1190 0 rfl ?_
    refine c_iconst (v := 2) (pc := 1192) C dL_law_1192 (by decide) ?_
    refine c_iadd (pc := 1193) C dL_law_1193 ?_
    refine c_sld (pc := 1194) C hX hbl hbA h2 dL_law_1194 ?_
    refine c_if_eq (pc := 1195) C 1202 dL_law_1195 (by decide) (fun _ => ?_) (fun z => absurd hz z)
    refine c_iconst (v := 0) (pc := 1202) C dL_law_1202 (by decide) ?_
    have hw := rl_slip h (xs (nI (6 * i) + 1).toNatClampNeg) 0
    refine c_afterI (pc := 1203) C (wp_X9_slip (xs (nI (6 * i) + 1).toNatClampNeg) 0 S) hw (fun post hw => rc_V C (ct_X9_slip l D cA ad (xs (nI (6 * i) + 1).toNatClampNeg) 0 S post hw) (cwV 2 C.2.2.2.2.1 gL_law_X9_slip rfl rfl rfl (by decide +kernel) ⟨Nat.le_of_ble_eq_true rfl, Nat.le_of_ble_eq_true rfl⟩) hm_0 (cel_0 cA ad S 0) rfl rfl rfl rfl (Nat.le_of_ble_eq_true rfl) ⟨by show kc + 0 ≤ 601024; omega, by show ks + 0 ≤ 7293034; omega⟩ dL_law_1203) (fun r1 S1 hw => ?_)
    refine c_aload_n (pc := 1206) C dL_law_1206 2 rfl rfl ?_
    refine c_aload_n (pc := 1207) C dL_law_1207 4 rfl rfl ?_
    refine c_iload (pc := 1208) C dL_law_1208 0 rfl ?_
    refine c_iconst (v := 1) (pc := 1210) C dL_law_1210 (by decide) ?_
    refine c_iadd (pc := 1211) C dL_law_1211 ?_
    refine c_sld (pc := 1212) C hX hbl hbA h1 dL_law_1212 ?_
    refine c_aload_n (pc := 1213) C dL_law_1213 4 rfl rfl ?_
    refine c_iload (pc := 1214) C dL_law_1214 0 rfl ?_
    refine c_iconst (v := 2) (pc := 1216) C dL_law_1216 (by decide) ?_
    refine c_iadd (pc := 1217) C dL_law_1217 ?_
    refine c_sld (pc := 1218) C hX hbl hbA h2 dL_law_1218 ?_
    refine c_if_eq (pc := 1219) C 1226 dL_law_1219 (by decide) (fun _ => ?_) (fun z => absurd hz z)
    refine c_iconst (v := 0) (pc := 1226) C dL_law_1226 (by decide) ?_
    refine c_afterI (pc := 1227) C (wp_X10_slip (xs (nI (6 * i) + 1).toNatClampNeg) 0 S1) hw (fun post hw => rc_V C (ct_X10_slip l D cA ad (xs (nI (6 * i) + 1).toNatClampNeg) 0 S1 post hw) (cwV 2 C.2.2.2.2.1 gL_law_X10_slip rfl rfl rfl (by decide +kernel) ⟨Nat.le_of_ble_eq_true rfl, Nat.le_of_ble_eq_true rfl⟩) hm_40 (cel_40 cA ad S1 0) rfl rfl rfl rfl (Nat.le_of_ble_eq_true rfl) ⟨by show kc + 0 ≤ 601024; omega, by show ks + 0 ≤ 7293034; omega⟩ dL_law_1227) (fun r2 S2 hw => ?_)
    obtain ⟨w1, w2⟩ := hw
    refine c_icmp_eq (pc := 1230) C 1703 dL_law_1230 (by decide) (fun _ => ?_) (fun z => absurd w1 z)
    exact c_widen (k := kc + 12) (n := ks + 180) (by omega) (by omega) (kend ad S2 rfl rfl rfl w2)
  · refine c_aload_n (pc := 1182) C dL_law_1182 3 rfl rfl ?_
    refine c_aload_n (pc := 1183) C dL_law_1183 4 rfl rfl ?_
    refine c_iload (pc := 1184) C dL_law_1184 0 rfl ?_
    refine c_iconst (v := 1) (pc := 1186) C dL_law_1186 (by decide) ?_
    refine c_iadd (pc := 1187) C dL_law_1187 ?_
    refine c_sld (pc := 1188) C hX hbl hbA h1 dL_law_1188 ?_
    refine c_aload_n (pc := 1189) C dL_law_1189 4 rfl rfl ?_
    refine c_iload (pc := 1190) C dL_law_1190 0 rfl ?_
    refine c_iconst (v := 2) (pc := 1192) C dL_law_1192 (by decide) ?_
    refine c_iadd (pc := 1193) C dL_law_1193 ?_
    refine c_sld (pc := 1194) C hX hbl hbA h2 dL_law_1194 ?_
    refine c_if_eq (pc := 1195) C 1202 dL_law_1195 (by decide) (fun z => absurd z hz) (fun _ => ?_)
    refine c_iconst (v := 1) (pc := 1198) C dL_law_1198 (by decide) ?_
    refine c_goto (pc := 1199) C 1203 dL_law_1199 (by decide) ?_
    have hw := rl_slip h (xs (nI (6 * i) + 1).toNatClampNeg) 1
    refine c_afterI (pc := 1203) C (wp_X9_slip (xs (nI (6 * i) + 1).toNatClampNeg) 1 S) hw (fun post hw => rc_V C (ct_X9_slip l D cA ad (xs (nI (6 * i) + 1).toNatClampNeg) 1 S post hw) (cwV 2 C.2.2.2.2.1 gL_law_X9_slip rfl rfl rfl (by decide +kernel) ⟨Nat.le_of_ble_eq_true rfl, Nat.le_of_ble_eq_true rfl⟩) hm_0 (cel_0 cA ad S 0) rfl rfl rfl rfl (Nat.le_of_ble_eq_true rfl) ⟨by show kc + 0 ≤ 601024; omega, by show ks + 0 ≤ 7293034; omega⟩ dL_law_1203) (fun r1 S1 hw => ?_)
    refine c_aload_n (pc := 1206) C dL_law_1206 2 rfl rfl ?_
    refine c_aload_n (pc := 1207) C dL_law_1207 4 rfl rfl ?_
    refine c_iload (pc := 1208) C dL_law_1208 0 rfl ?_
    refine c_iconst (v := 1) (pc := 1210) C dL_law_1210 (by decide) ?_
    refine c_iadd (pc := 1211) C dL_law_1211 ?_
    refine c_sld (pc := 1212) C hX hbl hbA h1 dL_law_1212 ?_
    refine c_aload_n (pc := 1213) C dL_law_1213 4 rfl rfl ?_
    refine c_iload (pc := 1214) C dL_law_1214 0 rfl ?_
    refine c_iconst (v := 2) (pc := 1216) C dL_law_1216 (by decide) ?_
    refine c_iadd (pc := 1217) C dL_law_1217 ?_
    refine c_sld (pc := 1218) C hX hbl hbA h2 dL_law_1218 ?_
    refine c_if_eq (pc := 1219) C 1226 dL_law_1219 (by decide) (fun z => absurd z hz) (fun _ => ?_)
    refine c_iconst (v := 1) (pc := 1222) C dL_law_1222 (by decide) ?_
    refine c_goto (pc := 1223) C 1227 dL_law_1223 (by decide) ?_
    refine c_afterI (pc := 1227) C (wp_X10_slip (xs (nI (6 * i) + 1).toNatClampNeg) 1 S1) hw (fun post hw => rc_V C (ct_X10_slip l D cA ad (xs (nI (6 * i) + 1).toNatClampNeg) 1 S1 post hw) (cwV 2 C.2.2.2.2.1 gL_law_X10_slip rfl rfl rfl (by decide +kernel) ⟨Nat.le_of_ble_eq_true rfl, Nat.le_of_ble_eq_true rfl⟩) hm_40 (cel_40 cA ad S1 0) rfl rfl rfl rfl (Nat.le_of_ble_eq_true rfl) ⟨by show kc + 0 ≤ 601024; omega, by show ks + 0 ≤ 7293034; omega⟩ dL_law_1227) (fun r2 S2 hw => ?_)
    obtain ⟨w1, w2⟩ := hw
    refine c_icmp_eq (pc := 1230) C 1703 dL_law_1230 (by decide) (fun _ => ?_) (fun z => absurd w1 z)
    exact c_widen (k := kc + 12) (n := ks + 180) (by omega) (by omega) (kend ad S2 rfl rfl rfl w2)
set_option maxHeartbeats 4000000 in
set_option maxRecDepth 100000 in
theorem lc_21 (C : Cx p s m args c cL_law 8 bbL.flatten RL D cA A) (hX : va_X b L xs s s.heap) (hbl : b < s.heap.size) (hbA : ¬ A b) (hE : EX A s s.heap) (hM : EM s) (hst : l.stackTraces = false) {S : Sg} (h : Rel S) {i : Nat} (h1 : vp_in (nI (6 * i) + 1) L) (h2 : vp_in (nI (6 * i) + 2) L) (h3 : vp_in (nI (6 * i) + 3) L) (h4 : vp_in (nI (6 * i) + 4) L) (h5 : vp_in (nI (6 * i) + 5) L) (hk : kc + 12 ≤ 601024) (hs : ks + 180 ≤ 7293034) (kend : ∀ (ad' : Nat → Nat → Nat) (S' : Sg), ad' 0 0 = ad 0 0 → ad' 39 0 = ad 39 0 → ad' 40 0 = ad 40 0 → Rel S' → KC (kc + 12) (ks + 180) p l e room_1 s m args below meth c 8 D cA ad' A Q 1703 [(4, .int (nI (6 * i))), (3, .ref (ad' 39 0)), (2, .ref (ad' 40 0)), (1, .ref (ad' 0 0)), (0, .ref b)] [] S') : KC kc ks p l e room_1 s m args below meth c 8 D cA ad A Q 1235 [(4, .int (nI (6 * i))), (3, .ref (ad 39 0)), (2, .ref (ad 40 0)), (1, .ref (ad 0 0)), (0, .ref b)] [] S := by
  refine c_aload_n (pc := 1235) C dL_law_1235 3 rfl rfl ?_
  have hw := rl_locked h
  refine c_afterI (pc := 1236) C (wp_X9_locked S) hw (fun post hw => rc_V C (ct_X9_locked l D cA ad S post hw) (cwV 0 C.2.2.2.2.1 gL_law_X9_locked rfl rfl rfl (by decide +kernel) ⟨Nat.le_of_ble_eq_true rfl, Nat.le_of_ble_eq_true rfl⟩) hm_0 (cel_0 cA ad S 0) rfl rfl rfl rfl (Nat.le_of_ble_eq_true rfl) ⟨by show kc + 0 ≤ 601024; omega, by show ks + 0 ≤ 7293034; omega⟩ dL_law_1236) (fun r1 S1 hw => ?_)
  refine c_aload_n (pc := 1239) C dL_law_1239 2 rfl rfl ?_
  refine c_afterI (pc := 1240) C (wp_X10_locked S1) hw (fun post hw => rc_V C (ct_X10_locked l D cA ad S1 post hw) (cwV 0 C.2.2.2.2.1 gL_law_X10_locked rfl rfl rfl (by decide +kernel) ⟨Nat.le_of_ble_eq_true rfl, Nat.le_of_ble_eq_true rfl⟩) hm_40 (cel_40 cA ad S1 0) rfl rfl rfl rfl (Nat.le_of_ble_eq_true rfl) ⟨by show kc + 0 ≤ 601024; omega, by show ks + 0 ≤ 7293034; omega⟩ dL_law_1240) (fun r2 S2 hw => ?_)
  obtain ⟨w1, w2⟩ := hw
  refine c_icmp_eq (pc := 1243) C 1703 dL_law_1243 (by decide) (fun _ => ?_) (fun z => absurd w1 z)
  exact c_widen (k := kc + 12) (n := ks + 180) (by omega) (by omega) (kend ad S2 rfl rfl rfl w2)
set_option maxHeartbeats 4000000 in
set_option maxRecDepth 100000 in
theorem lc_22 (C : Cx p s m args c cL_law 8 bbL.flatten RL D cA A) (hX : va_X b L xs s s.heap) (hbl : b < s.heap.size) (hbA : ¬ A b) (hE : EX A s s.heap) (hM : EM s) (hst : l.stackTraces = false) {S : Sg} (h : Rel S) {i : Nat} (h1 : vp_in (nI (6 * i) + 1) L) (h2 : vp_in (nI (6 * i) + 2) L) (h3 : vp_in (nI (6 * i) + 3) L) (h4 : vp_in (nI (6 * i) + 4) L) (h5 : vp_in (nI (6 * i) + 5) L) (hk : kc + 12 ≤ 601024) (hs : ks + 180 ≤ 7293034) (kend : ∀ (ad' : Nat → Nat → Nat) (S' : Sg), ad' 0 0 = ad 0 0 → ad' 39 0 = ad 39 0 → ad' 40 0 = ad 40 0 → Rel S' → KC (kc + 12) (ks + 180) p l e room_1 s m args below meth c 8 D cA ad' A Q 1703 [(4, .int (nI (6 * i))), (3, .ref (ad' 39 0)), (2, .ref (ad' 40 0)), (1, .ref (ad' 0 0)), (0, .ref b)] [] S') : KC kc ks p l e room_1 s m args below meth c 8 D cA ad A Q 1248 [(4, .int (nI (6 * i))), (3, .ref (ad 39 0)), (2, .ref (ad 40 0)), (1, .ref (ad 0 0)), (0, .ref b)] [] S := by
  refine c_aload_n (pc := 1248) C dL_law_1248 3 rfl rfl ?_
  refine c_aload_n (pc := 1249) C dL_law_1249 4 rfl rfl ?_
  refine c_iload (pc := 1250) C dL_law_1250 0 rfl ?_
  refine c_iconst (v := 1) (pc := 1252) C dL_law_1252 (by decide) ?_
  refine c_iadd (pc := 1253) C dL_law_1253 ?_
  refine c_sld (pc := 1254) C hX hbl hbA h1 dL_law_1254 ?_
  refine c_aload_n (pc := 1255) C dL_law_1255 4 rfl rfl ?_
  refine c_iload (pc := 1256) C dL_law_1256 0 rfl ?_
  refine c_iconst (v := 2) (pc := 1258) C dL_law_1258 (by decide) ?_
  refine c_iadd (pc := 1259) C dL_law_1259 ?_
  refine c_sld (pc := 1260) C hX hbl hbA h2 dL_law_1260 ?_
  refine c_aload_n (pc := 1261) C dL_law_1261 4 rfl rfl ?_
  refine c_iload (pc := 1262) C dL_law_1262 0 rfl ?_
  refine c_iconst (v := 3) (pc := 1264) C dL_law_1264 (by decide) ?_
  refine c_iadd (pc := 1265) C dL_law_1265 ?_
  refine c_sld (pc := 1266) C hX hbl hbA h3 dL_law_1266 ?_
  have hw := rl_line h (xs (nI (6 * i) + 1).toNatClampNeg) (xs (nI (6 * i) + 2).toNatClampNeg) (xs (nI (6 * i) + 3).toNatClampNeg)
  refine c_afterI (pc := 1267) C (wp_X9_line (xs (nI (6 * i) + 1).toNatClampNeg) (xs (nI (6 * i) + 2).toNatClampNeg) (xs (nI (6 * i) + 3).toNatClampNeg) S) hw (fun post hw => rc_V C (ct_X9_line l D cA ad (xs (nI (6 * i) + 1).toNatClampNeg) (xs (nI (6 * i) + 2).toNatClampNeg) (xs (nI (6 * i) + 3).toNatClampNeg) S post hw) (cwV 3 C.2.2.2.2.1 gL_law_X9_line rfl rfl rfl (by decide +kernel) ⟨Nat.le_of_ble_eq_true rfl, Nat.le_of_ble_eq_true rfl⟩) hm_0 (cel_0 cA ad S 0) rfl rfl rfl rfl (Nat.le_of_ble_eq_true rfl) ⟨by show kc + 0 ≤ 601024; omega, by show ks + 0 ≤ 7293034; omega⟩ dL_law_1267) (fun r1 S1 hw => ?_)
  refine c_aload_n (pc := 1270) C dL_law_1270 2 rfl rfl ?_
  refine c_aload_n (pc := 1271) C dL_law_1271 4 rfl rfl ?_
  refine c_iload (pc := 1272) C dL_law_1272 0 rfl ?_
  refine c_iconst (v := 1) (pc := 1274) C dL_law_1274 (by decide) ?_
  refine c_iadd (pc := 1275) C dL_law_1275 ?_
  refine c_sld (pc := 1276) C hX hbl hbA h1 dL_law_1276 ?_
  refine c_aload_n (pc := 1277) C dL_law_1277 4 rfl rfl ?_
  refine c_iload (pc := 1278) C dL_law_1278 0 rfl ?_
  refine c_iconst (v := 2) (pc := 1280) C dL_law_1280 (by decide) ?_
  refine c_iadd (pc := 1281) C dL_law_1281 ?_
  refine c_sld (pc := 1282) C hX hbl hbA h2 dL_law_1282 ?_
  refine c_aload_n (pc := 1283) C dL_law_1283 4 rfl rfl ?_
  refine c_iload (pc := 1284) C dL_law_1284 0 rfl ?_
  refine c_iconst (v := 3) (pc := 1286) C dL_law_1286 (by decide) ?_
  refine c_iadd (pc := 1287) C dL_law_1287 ?_
  refine c_sld (pc := 1288) C hX hbl hbA h3 dL_law_1288 ?_
  refine c_afterI (pc := 1289) C (wp_X10_line (xs (nI (6 * i) + 1).toNatClampNeg) (xs (nI (6 * i) + 2).toNatClampNeg) (xs (nI (6 * i) + 3).toNatClampNeg) S1) hw (fun post hw => rc_V C (ct_X10_line l D cA ad (xs (nI (6 * i) + 1).toNatClampNeg) (xs (nI (6 * i) + 2).toNatClampNeg) (xs (nI (6 * i) + 3).toNatClampNeg) S1 post hw) (cwV 3 C.2.2.2.2.1 gL_law_X10_line rfl rfl rfl (by decide +kernel) ⟨Nat.le_of_ble_eq_true rfl, Nat.le_of_ble_eq_true rfl⟩) hm_40 (cel_40 cA ad S1 0) rfl rfl rfl rfl (Nat.le_of_ble_eq_true rfl) ⟨by show kc + 0 ≤ 601024; omega, by show ks + 0 ≤ 7293034; omega⟩ dL_law_1289) (fun r2 S2 hw => ?_)
  obtain ⟨w1, w2⟩ := hw
  refine c_icmp_eq (pc := 1292) C 1703 dL_law_1292 (by decide) (fun _ => ?_) (fun z => absurd w1 z)
  exact c_widen (k := kc + 12) (n := ks + 180) (by omega) (by omega) (kend ad S2 rfl rfl rfl w2)
set_option maxHeartbeats 4000000 in
set_option maxRecDepth 100000 in
theorem lc_23 (C : Cx p s m args c cL_law 8 bbL.flatten RL D cA A) (hX : va_X b L xs s s.heap) (hbl : b < s.heap.size) (hbA : ¬ A b) (hE : EX A s s.heap) (hM : EM s) (hst : l.stackTraces = false) {S : Sg} (h : Rel S) {i : Nat} (h1 : vp_in (nI (6 * i) + 1) L) (h2 : vp_in (nI (6 * i) + 2) L) (h3 : vp_in (nI (6 * i) + 3) L) (h4 : vp_in (nI (6 * i) + 4) L) (h5 : vp_in (nI (6 * i) + 5) L) (hk : kc + 12 ≤ 601024) (hs : ks + 180 ≤ 7293034) (kend : ∀ (ad' : Nat → Nat → Nat) (S' : Sg), ad' 0 0 = ad 0 0 → ad' 39 0 = ad 39 0 → ad' 40 0 = ad 40 0 → Rel S' → KC (kc + 12) (ks + 180) p l e room_1 s m args below meth c 8 D cA ad' A Q 1703 [(4, .int (nI (6 * i))), (3, .ref (ad' 39 0)), (2, .ref (ad' 40 0)), (1, .ref (ad' 0 0)), (0, .ref b)] [] S') : KC kc ks p l e room_1 s m args below meth c 8 D cA ad A Q 1297 [(4, .int (nI (6 * i))), (3, .ref (ad 39 0)), (2, .ref (ad 40 0)), (1, .ref (ad 0 0)), (0, .ref b)] [] S := by
  refine c_aload_n (pc := 1297) C dL_law_1297 3 rfl rfl ?_
  have hw := rl_unline h
  refine c_afterI (pc := 1298) C (wp_X9_unline S) hw (fun post hw => rc_V C (ct_X9_unline l D cA ad S post hw) (cwV 0 C.2.2.2.2.1 gL_law_X9_unline rfl rfl rfl (by decide +kernel) ⟨Nat.le_of_ble_eq_true rfl, Nat.le_of_ble_eq_true rfl⟩) hm_0 (cel_0 cA ad S 0) rfl rfl rfl rfl (Nat.le_of_ble_eq_true rfl) ⟨by show kc + 0 ≤ 601024; omega, by show ks + 0 ≤ 7293034; omega⟩ dL_law_1298) (fun r1 S1 hw => ?_)
  refine c_aload_n (pc := 1301) C dL_law_1301 2 rfl rfl ?_
  refine c_afterI (pc := 1302) C (wp_X10_unline S1) hw (fun post hw => rc_V C (ct_X10_unline l D cA ad S1 post hw) (cwV 0 C.2.2.2.2.1 gL_law_X10_unline rfl rfl rfl (by decide +kernel) ⟨Nat.le_of_ble_eq_true rfl, Nat.le_of_ble_eq_true rfl⟩) hm_40 (cel_40 cA ad S1 0) rfl rfl rfl rfl (Nat.le_of_ble_eq_true rfl) ⟨by show kc + 0 ≤ 601024; omega, by show ks + 0 ≤ 7293034; omega⟩ dL_law_1302) (fun r2 S2 hw => ?_)
  obtain ⟨w1, w2⟩ := hw
  refine c_icmp_eq (pc := 1305) C 1703 dL_law_1305 (by decide) (fun _ => ?_) (fun z => absurd w1 z)
  exact c_widen (k := kc + 12) (n := ks + 180) (by omega) (by omega) (kend ad S2 rfl rfl rfl w2)
set_option maxHeartbeats 4000000 in
set_option maxRecDepth 100000 in
theorem lc_24 (C : Cx p s m args c cL_law 8 bbL.flatten RL D cA A) (hX : va_X b L xs s s.heap) (hbl : b < s.heap.size) (hbA : ¬ A b) (hE : EX A s s.heap) (hM : EM s) (hst : l.stackTraces = false) {S : Sg} (h : Rel S) {i : Nat} (h1 : vp_in (nI (6 * i) + 1) L) (h2 : vp_in (nI (6 * i) + 2) L) (h3 : vp_in (nI (6 * i) + 3) L) (h4 : vp_in (nI (6 * i) + 4) L) (h5 : vp_in (nI (6 * i) + 5) L) (hk : kc + 12 ≤ 601024) (hs : ks + 180 ≤ 7293034) (kend : ∀ (ad' : Nat → Nat → Nat) (S' : Sg), ad' 0 0 = ad 0 0 → ad' 39 0 = ad 39 0 → ad' 40 0 = ad 40 0 → Rel S' → KC (kc + 12) (ks + 180) p l e room_1 s m args below meth c 8 D cA ad' A Q 1703 [(4, .int (nI (6 * i))), (3, .ref (ad' 39 0)), (2, .ref (ad' 40 0)), (1, .ref (ad' 0 0)), (0, .ref b)] [] S') : KC kc ks p l e room_1 s m args below meth c 8 D cA ad A Q 1310 [(4, .int (nI (6 * i))), (3, .ref (ad 39 0)), (2, .ref (ad 40 0)), (1, .ref (ad 0 0)), (0, .ref b)] [] S := by
  refine c_aload_n (pc := 1310) C dL_law_1310 3 rfl rfl ?_
  refine c_aload_n (pc := 1311) C dL_law_1311 4 rfl rfl ?_
  refine c_iload (pc := 1312) C dL_law_1312 0 rfl ?_
  refine c_iconst (v := 1) (pc := 1314) C dL_law_1314 (by decide) ?_
  refine c_iadd (pc := 1315) C dL_law_1315 ?_
  refine c_sld (pc := 1316) C hX hbl hbA h1 dL_law_1316 ?_
  have hw := rl_wrong h (xs (nI (6 * i) + 1).toNatClampNeg)
  refine c_afterI (pc := 1317) C (wp_X9_wrong (xs (nI (6 * i) + 1).toNatClampNeg) S) hw (fun post hw => rc_V C (ct_X9_wrong l D cA ad (xs (nI (6 * i) + 1).toNatClampNeg) S post hw) (cwV 1 C.2.2.2.2.1 gL_law_X9_wrong rfl rfl rfl (by decide +kernel) ⟨Nat.le_of_ble_eq_true rfl, Nat.le_of_ble_eq_true rfl⟩) hm_0 (cel_0 cA ad S 0) rfl rfl rfl rfl (Nat.le_of_ble_eq_true rfl) ⟨by show kc + 0 ≤ 601024; omega, by show ks + 0 ≤ 7293034; omega⟩ dL_law_1317) (fun r1 S1 hw => ?_)
  refine c_aload_n (pc := 1320) C dL_law_1320 2 rfl rfl ?_
  refine c_aload_n (pc := 1321) C dL_law_1321 4 rfl rfl ?_
  refine c_iload (pc := 1322) C dL_law_1322 0 rfl ?_
  refine c_iconst (v := 1) (pc := 1324) C dL_law_1324 (by decide) ?_
  refine c_iadd (pc := 1325) C dL_law_1325 ?_
  refine c_sld (pc := 1326) C hX hbl hbA h1 dL_law_1326 ?_
  refine c_afterI (pc := 1327) C (wp_X10_wrong (xs (nI (6 * i) + 1).toNatClampNeg) S1) hw (fun post hw => rc_V C (ct_X10_wrong l D cA ad (xs (nI (6 * i) + 1).toNatClampNeg) S1 post hw) (cwV 1 C.2.2.2.2.1 gL_law_X10_wrong rfl rfl rfl (by decide +kernel) ⟨Nat.le_of_ble_eq_true rfl, Nat.le_of_ble_eq_true rfl⟩) hm_40 (cel_40 cA ad S1 0) rfl rfl rfl rfl (Nat.le_of_ble_eq_true rfl) ⟨by show kc + 0 ≤ 601024; omega, by show ks + 0 ≤ 7293034; omega⟩ dL_law_1327) (fun r2 S2 hw => ?_)
  obtain ⟨w1, w2⟩ := hw
  refine c_icmp_eq (pc := 1330) C 1703 dL_law_1330 (by decide) (fun _ => ?_) (fun z => absurd w1 z)
  exact c_widen (k := kc + 12) (n := ks + 180) (by omega) (by omega) (kend ad S2 rfl rfl rfl w2)
end
