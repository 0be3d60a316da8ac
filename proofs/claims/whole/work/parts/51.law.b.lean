section
variable {p : Program} {l : Launch} {e : Env} {kc ks : Nat} {s : State} {m : MethodId} {args : Array Value} {below : List Frame} {meth : Method} {c : Code} {D : va_G} {cA : Nat → ClassId} {ad : Nat → Nat → Nat} {A : Nat → Prop} {Q : State → Prop} {b L : Nat} {xs : Nat → Int32}
set_option maxHeartbeats 4000000 in
set_option maxRecDepth 100000 in
theorem lc_9 (C : Cx p s m args c cL_law 8 bbL.flatten RL D cA A) (hX : va_X b L xs s s.heap) (hbl : b < s.heap.size) (hbA : ¬ A b) (hE : EX A s s.heap) (hM : EM s) (hst : l.stackTraces = false) {S : Sg} (h : Rel S) {i : Nat} (h1 : vp_in (nI (6 * i) + 1) L) (h2 : vp_in (nI (6 * i) + 2) L) (h3 : vp_in (nI (6 * i) + 3) L) (h4 : vp_in (nI (6 * i) + 4) L) (h5 : vp_in (nI (6 * i) + 5) L) (hk : kc + 12 ≤ 601024) (hs : ks + 180 ≤ 7293034) (kend : ∀ (ad' : Nat → Nat → Nat) (S' : Sg), ad' 0 0 = ad 0 0 → ad' 39 0 = ad 39 0 → ad' 40 0 = ad 40 0 → Rel S' → KC (kc + 12) (ks + 180) p l e room_1 s m args below meth c 8 D cA ad' A Q 1703 [(4, .int (nI (6 * i))), (3, .ref (ad' 39 0)), (2, .ref (ad' 40 0)), (1, .ref (ad' 0 0)), (0, .ref b)] [] S') : KC kc ks p l e room_1 s m args below meth c 8 D cA ad A Q 681 [(4, .int (nI (6 * i))), (3, .ref (ad 39 0)), (2, .ref (ad 40 0)), (1, .ref (ad 0 0)), (0, .ref b)] [] S := by
  refine c_aload_n (pc := 681) C dL_law_681 3 rfl rfl ?_
  refine c_aload_n (pc := 682) C dL_law_682 4 rfl rfl ?_
  refine c_iload (pc := 683) C dL_law_683 0 rfl ?_
  refine c_iconst (v := 1) (pc := 685) C dL_law_685 (by decide) ?_
  refine c_iadd (pc := 686) C dL_law_686 ?_
  refine c_sld (pc := 687) C hX hbl hbA h1 dL_law_687 ?_
  refine c_aload_n (pc := 688) C dL_law_688 4 rfl rfl ?_
  refine c_iload (pc := 689) C dL_law_689 0 rfl ?_
  refine c_iconst (v := 2) (pc := 691) C dL_law_691 (by decide) ?_
  refine c_iadd (pc := 692) C dL_law_692 ?_
  refine c_sld (pc := 693) C hX hbl hbA h2 dL_law_693 ?_
  refine c_aload_n (pc := 694) C dL_law_694 1 rfl rfl ?_
  have hw := rl_common h (xs (nI (6 * i) + 1).toNatClampNeg) (xs (nI (6 * i) + 2).toNatClampNeg)
  refine c_callWS (pc := 695) C hE (ct_L_common l hst D cA ad (xs (nI (6 * i) + 1).toNatClampNeg) (xs (nI (6 * i) + 2).toNatClampNeg) S _ hw) (vx_cwSW 4 C.2.2.2.2.1 gL_law_L_common rfl rfl rfl (by decide +kernel) ⟨Nat.le_of_ble_eq_true rfl, Nat.le_of_ble_eq_true rfl⟩) rfl rfl (Nat.le_of_ble_eq_true rfl) ⟨by show kc + 1 ≤ 601024; omega, by show ks + 6 ≤ 7293034; omega⟩ dL_law_695 (fun r1 S1 hw => ?_)
  refine c_istore (pc := 698) C dL_law_698 (by decide) [(5, .int r1), (4, .int (nI (6 * i))), (3, .ref (ad 39 0)), (2, .ref (ad 40 0)), (1, .ref (ad 0 0)), (0, .ref b)] rfl ?_
  refine c_aload_n (pc := 700) C dL_law_700 3 rfl rfl ?_
  refine c_aload_n (pc := 701) C dL_law_701 5 rfl rfl ?_
  refine c_iload (pc := 702) C dL_law_702 1 rfl ?_
  refine c_iconst (v := 1) (pc := 704) C dL_law_704 (by decide) ?_
  refine c_iadd (pc := 705) C dL_law_705 ?_
  refine c_sld (pc := 706) C hX hbl hbA h1 dL_law_706 ?_
  refine c_aload_n (pc := 707) C dL_law_707 5 rfl rfl ?_
  refine c_iload (pc := 708) C dL_law_708 1 rfl ?_
  refine c_iconst (v := 2) (pc := 710) C dL_law_710 (by decide) ?_
  refine c_iadd (pc := 711) C dL_law_711 ?_
  refine c_sld (pc := 712) C hX hbl hbA h2 dL_law_712 ?_
  refine c_afterL (pc := 713) C (wp_X10_common (xs (nI (6 * i) + 1).toNatClampNeg) (xs (nI (6 * i) + 2).toNatClampNeg) S1) hw (fun post hw => rc_V C (ct_X10_common l D cA ad (xs (nI (6 * i) + 1).toNatClampNeg) (xs (nI (6 * i) + 2).toNatClampNeg) S1 post hw) (cwV 2 C.2.2.2.2.1 gL_law_X10_common rfl rfl rfl (by decide +kernel) ⟨Nat.le_of_ble_eq_true rfl, Nat.le_of_ble_eq_true rfl⟩) hm_40 (cel_40 cA ad S1 0) rfl rfl rfl rfl (Nat.le_of_ble_eq_true rfl) ⟨by show (kc + 1) + 0 ≤ 601024; omega, by show (ks + 6) + 0 ≤ 7293034; omega⟩ dL_law_713) (fun r2 S2 hw => ?_)
  refine c_lstore (pc := 716) C dL_law_716 (by decide) [(6, .long r2), (5, .int r1), (4, .int (nI (6 * i))), (3, .ref (ad 39 0)), (2, .ref (ad 40 0)), (1, .ref (ad 0 0)), (0, .ref b)] rfl ?_
  refine c_aload_n (pc := 718) C dL_law_718 4 rfl rfl ?_
  refine c_afterI (pc := 719) C (wp_X10_thrown S2) (post := fun r S9 => r = gI S2 40 0 0 ∧ S9 = S2) ⟨rfl, rfl⟩ (fun post hw => rc_V C (ct_X10_thrown l D cA ad S2 post hw) (cwV 0 C.2.2.2.2.1 gL_law_X10_thrown rfl rfl rfl (by decide +kernel) ⟨Nat.le_of_ble_eq_true rfl, Nat.le_of_ble_eq_true rfl⟩) hm_40 (cel_40 cA ad S2 0) rfl rfl rfl rfl (Nat.le_of_ble_eq_true rfl) ⟨by show (kc + 1) + 0 ≤ 601024; omega, by show (ks + 6) + 0 ≤ 7293034; omega⟩ dL_law_719) (fun r9 S9 hr9 => ?_)
  obtain ⟨e9, rfl⟩ := hr9
  refine c_iload (pc := 722) C dL_law_722 1 rfl ?_
  obtain ⟨w1, w2, w3⟩ := hw
  refine c_icmp_eq (pc := 724) C 729 dL_law_724 (by decide) (fun _ => ?_) (fun z => absurd (e9.trans w1) z)
  refine c_iload (pc := 729) C dL_law_729 1 rfl ?_
  refine c_if_ne (pc := 731) C 745 dL_law_731 (by decide) (fun z => ?_) (fun z => ?_)
  · refine c_goto (pc := 745) C 1703 dL_law_745 (by decide) ?_
    exact c_sub [2, 3, 4, 5, 6] [(4, .int (nI (6 * i))), (3, .ref (ad 39 0)), (2, .ref (ad 40 0)), (1, .ref (ad 0 0)), (0, .ref b)] rfl (c_widen (k := kc + 12) (n := ks + 180) (by omega) (by omega) (kend ad S9 rfl rfl rfl w3))
  · refine c_aload_n (pc := 734) C dL_law_734 3 rfl rfl ?_
    refine c_iconst (v := 0) (pc := 735) C dL_law_735 (by decide) ?_
    refine c_lald (pc := 736) C hm_39 (cel_39 cA ad S9 0) vp_01 dL_law_736 ?_
    refine c_lload (pc := 737) C dL_law_737 0 rfl ?_
    refine c_lif_eq (pc := 739) C 745 dL_law_739 dL_law_740 (by decide) (fun _ => ?_) (fun z2 => absurd (w2 z) z2)
    refine c_goto (pc := 745) C 1703 dL_law_745 (by decide) ?_
    exact c_sub [2, 3, 4, 5, 6] [(4, .int (nI (6 * i))), (3, .ref (ad 39 0)), (2, .ref (ad 40 0)), (1, .ref (ad 0 0)), (0, .ref b)] rfl (c_widen (k := kc + 12) (n := ks + 180) (by omega) (by omega) (kend ad S9 rfl rfl rfl w3))
set_option maxHeartbeats 4000000 in
set_option maxRecDepth 100000 in
theorem lc_10 (C : Cx p s m args c cL_law 8 bbL.flatten RL D cA A) (hX : va_X b L xs s s.heap) (hbl : b < s.heap.size) (hbA : ¬ A b) (hE : EX A s s.heap) (hM : EM s) (hst : l.stackTraces = false) {S : Sg} (h : Rel S) {i : Nat} (h1 : vp_in (nI (6 * i) + 1) L) (h2 : vp_in (nI (6 * i) + 2) L) (h3 : vp_in (nI (6 * i) + 3) L) (h4 : vp_in (nI (6 * i) + 4) L) (h5 : vp_in (nI (6 * i) + 5) L) (hk : kc + 12 ≤ 601024) (hs : ks + 180 ≤ 7293034) (kend : ∀ (ad' : Nat → Nat → Nat) (S' : Sg), ad' 0 0 = ad 0 0 → ad' 39 0 = ad 39 0 → ad' 40 0 = ad 40 0 → Rel S' → KC (kc + 12) (ks + 180) p l e room_1 s m args below meth c 8 D cA ad' A Q 1703 [(4, .int (nI (6 * i))), (3, .ref (ad' 39 0)), (2, .ref (ad' 40 0)), (1, .ref (ad' 0 0)), (0, .ref b)] [] S') : KC kc ks p l e room_1 s m args below meth c 8 D cA ad A Q 748 [(4, .int (nI (6 * i))), (3, .ref (ad 39 0)), (2, .ref (ad 40 0)), (1, .ref (ad 0 0)), (0, .ref b)] [] S := by
  refine c_aload_n (pc := 748) C dL_law_748 3 rfl rfl ?_
  refine c_aload_n (pc := 749) C dL_law_749 4 rfl rfl ?_
  refine c_iload (pc := 750) C dL_law_750 0 rfl ?_
  refine c_iconst (v := 1) (pc := 752) C dL_law_752 (by decide) ?_
  refine c_iadd (pc := 753) C dL_law_753 ?_
  refine c_sld (pc := 754) C hX hbl hbA h1 dL_law_754 ?_
  refine c_aload_n (pc := 755) C dL_law_755 4 rfl rfl ?_
  refine c_iload (pc := 756) C dL_law_756 0 rfl ?_
  refine c_iconst (v := 2) (pc := 758) C dL_law_758 (by decide) ?_
  refine c_iadd (pc := 759) C dL_law_759 ?_
  refine c_sld (pc := 760) C hX hbl hbA h2 dL_law_760 ?_
  refine c_aload_n (pc := 761) C dL_law_761 4 rfl rfl ?_
  refine c_iload (pc := 762) C dL_law_762 0 rfl ?_
  refine c_iconst (v := 3) (pc := 764) C dL_law_764 (by decide) ?_
  refine c_iadd (pc := 765) C dL_law_765 ?_
  refine c_sld (pc := 766) C hX hbl hbA h3 dL_law_766 ?_
  have hw := rl_velocity h (xs (nI (6 * i) + 1).toNatClampNeg) (xs (nI (6 * i) + 2).toNatClampNeg) (xs (nI (6 * i) + 3).toNatClampNeg)
  refine c_afterI (pc := 767) C (wp_X9_velocity (xs (nI (6 * i) + 1).toNatClampNeg) (xs (nI (6 * i) + 2).toNatClampNeg) (xs (nI (6 * i) + 3).toNatClampNeg) S) hw (fun post hw => rc_V C (ct_X9_velocity l D cA ad (xs (nI (6 * i) + 1).toNatClampNeg) (xs (nI (6 * i) + 2).toNatClampNeg) (xs (nI (6 * i) + 3).toNatClampNeg) S post hw) (cwV 3 C.2.2.2.2.1 gL_law_X9_velocity rfl rfl rfl (by decide +kernel) ⟨Nat.le_of_ble_eq_true rfl, Nat.le_of_ble_eq_true rfl⟩) hm_0 (cel_0 cA ad S 0) rfl rfl rfl rfl (Nat.le_of_ble_eq_true rfl) ⟨by show kc + 0 ≤ 601024; omega, by show ks + 0 ≤ 7293034; omega⟩ dL_law_767) (fun r1 S1 hw => ?_)
  refine c_aload_n (pc := 770) C dL_law_770 2 rfl rfl ?_
  refine c_aload_n (pc := 771) C dL_law_771 4 rfl rfl ?_
  refine c_iload (pc := 772) C dL_law_772 0 rfl ?_
  refine c_iconst (v := 1) (pc := 774) C dL_law_774 (by decide) ?_
  refine c_iadd (pc := 775) C dL_law_775 ?_
  refine c_sld (pc := 776) C hX hbl hbA h1 dL_law_776 ?_
  refine c_aload_n (pc := 777) C dL_law_777 4 rfl rfl ?_
  refine c_iload (pc := 778) C dL_law_778 0 rfl ?_
  refine c_iconst (v := 2) (pc := 780) C dL_law_780 (by decide) ?_
  refine c_iadd (pc := 781) C dL_law_781 ?_
  refine c_sld (pc := 782) C hX hbl hbA h2 dL_law_782 ?_
  refine c_aload_n (pc := 783) C dL_law_783 4 rfl rfl ?_
  refine c_iload (pc := 784) C dL_law_784 0 rfl ?_
  refine c_iconst (v := 3) (pc := 786) C dL_law_786 (by decide) ?_
  refine c_iadd (pc := 787) C dL_law_787 ?_
  refine c_sld (pc := 788) C hX hbl hbA h3 dL_law_788 ?_
  refine c_afterI (pc := 789) C (wp_X10_velocity (xs (nI (6 * i) + 1).toNatClampNeg) (xs (nI (6 * i) + 2).toNatClampNeg) (xs (nI (6 * i) + 3).toNatClampNeg) S1) hw (fun post hw => rc_V C (ct_X10_velocity l D cA ad (xs (nI (6 * i) + 1).toNatClampNeg) (xs (nI (6 * i) + 2).toNatClampNeg) (xs (nI (6 * i) + 3).toNatClampNeg) S1 post hw) (cwV 3 C.2.2.2.2.1 gL_law_X10_velocity rfl rfl rfl (by decide +kernel) ⟨Nat.le_of_ble_eq_true rfl, Nat.le_of_ble_eq_true rfl⟩) hm_40 (cel_40 cA ad S1 0) rfl rfl rfl rfl (Nat.le_of_ble_eq_true rfl) ⟨by show kc + 0 ≤ 601024; omega, by show ks + 0 ≤ 7293034; omega⟩ dL_law_789) (fun r2 S2 hw => ?_)
  obtain ⟨w1, w2⟩ := hw
  refine c_icmp_eq (pc := 792) C 1703 dL_law_792 (by decide) (fun _ => ?_) (fun z => absurd w1 z)
  exact c_widen (k := kc + 12) (n := ks + 180) (by omega) (by omega) (kend ad S2 rfl rfl rfl w2)
set_option maxHeartbeats 4000000 in
set_option maxRecDepth 100000 in
theorem lc_11 (C : Cx p s m args c cL_law 8 bbL.flatten RL D cA A) (hX : va_X b L xs s s.heap) (hbl : b < s.heap.size) (hbA : ¬ A b) (hE : EX A s s.heap) (hM : EM s) (hst : l.stackTraces = false) {S : Sg} (h : Rel S) {i : Nat} (h1 : vp_in (nI (6 * i) + 1) L) (h2 : vp_in (nI (6 * i) + 2) L) (h3 : vp_in (nI (6 * i) + 3) L) (h4 : vp_in (nI (6 * i) + 4) L) (h5 : vp_in (nI (6 * i) + 5) L) (hk : kc + 12 ≤ 601024) (hs : ks + 180 ≤ 7293034) (kend : ∀ (ad' : Nat → Nat → Nat) (S' : Sg), ad' 0 0 = ad 0 0 → ad' 39 0 = ad 39 0 → ad' 40 0 = ad 40 0 → Rel S' → KC (kc + 12) (ks + 180) p l e room_1 s m args below meth c 8 D cA ad' A Q 1703 [(4, .int (nI (6 * i))), (3, .ref (ad' 39 0)), (2, .ref (ad' 40 0)), (1, .ref (ad' 0 0)), (0, .ref b)] [] S') : KC kc ks p l e room_1 s m args below meth c 8 D cA ad A Q 797 [(4, .int (nI (6 * i))), (3, .ref (ad 39 0)), (2, .ref (ad 40 0)), (1, .ref (ad 0 0)), (0, .ref b)] [] S := by
  refine c_aload_n (pc := 797) C dL_law_797 3 rfl rfl ?_
  refine c_aload_n (pc := 798) C dL_law_798 4 rfl rfl ?_
  refine c_iload (pc := 799) C dL_law_799 0 rfl ?_
  refine c_iconst (v := 1) (pc := 801) C dL_law_801 (by decide) ?_
  refine c_iadd (pc := 802) C dL_law_802 ?_
  refine c_sld (pc := 803) C hX hbl hbA h1 dL_law_803 ?_
  refine c_aload_n (pc := 804) C dL_law_804 4 rfl rfl ?_
  refine c_iload (pc := 805) C dL_law_805 0 rfl ?_
  refine c_iconst (v := 2) (pc := 807) C dL_law_807 (by decide) ?_
  refine c_iadd (pc := 808) C dL_law_808 ?_
  refine c_sld (pc := 809) C hX hbl hbA h2 dL_law_809 ?_
  refine c_aload_n (pc := 810) C dL_law_810 1 rfl rfl ?_
  have hw := rl_moves h (xs (nI (6 * i) + 1).toNatClampNeg) (xs (nI (6 * i) + 2).toNatClampNeg)
  refine c_callWS (pc := 811) C hE (ct_L_moves l hst D cA ad (xs (nI (6 * i) + 1).toNatClampNeg) (xs (nI (6 * i) + 2).toNatClampNeg) S _ hw) (vx_cwSW 4 C.2.2.2.2.1 gL_law_L_moves rfl rfl rfl (by decide +kernel) ⟨Nat.le_of_ble_eq_true rfl, Nat.le_of_ble_eq_true rfl⟩) rfl rfl (Nat.le_of_ble_eq_true rfl) ⟨by show kc + 1 ≤ 601024; omega, by show ks + 6 ≤ 7293034; omega⟩ dL_law_811 (fun r1 S1 hw => ?_)
  refine c_istore (pc := 814) C dL_law_814 (by decide) [(5, .int r1), (4, .int (nI (6 * i))), (3, .ref (ad 39 0)), (2, .ref (ad 40 0)), (1, .ref (ad 0 0)), (0, .ref b)] rfl ?_
  refine c_aload_n (pc := 816) C dL_law_816 3 rfl rfl ?_
  refine c_aload_n (pc := 817) C dL_law_817 5 rfl rfl ?_
  refine c_iload (pc := 818) C dL_law_818 1 rfl ?_
  refine c_iconst (v := 1) (pc := 820) C dL_law_820 (by decide) ?_
  refine c_iadd (pc := 821) C dL_law_821 ?_
  refine c_sld (pc := 822) C hX hbl hbA h1 dL_law_822 ?_
  refine c_aload_n (pc := 823) C dL_law_823 5 rfl rfl ?_
  refine c_iload (pc := 824) C dL_law_824 1 rfl ?_
  refine c_iconst (v := 2) (pc := 826) C dL_law_826 (by decide) ?_
  refine c_iadd (pc := 827) C dL_law_827 ?_
  refine c_sld (pc := 828) C hX hbl hbA h2 dL_law_828 ?_
  refine c_afterL (pc := 829) C (wp_X10_moves (xs (nI (6 * i) + 1).toNatClampNeg) (xs (nI (6 * i) + 2).toNatClampNeg) S1) hw (fun post hw => rc_V C (ct_X10_moves l D cA ad (xs (nI (6 * i) + 1).toNatClampNeg) (xs (nI (6 * i) + 2).toNatClampNeg) S1 post hw) (cwV 2 C.2.2.2.2.1 gL_law_X10_moves rfl rfl rfl (by decide +kernel) ⟨Nat.le_of_ble_eq_true rfl, Nat.le_of_ble_eq_true rfl⟩) hm_40 (cel_40 cA ad S1 0) rfl rfl rfl rfl (Nat.le_of_ble_eq_true rfl) ⟨by show (kc + 1) + 0 ≤ 601024; omega, by show (ks + 6) + 0 ≤ 7293034; omega⟩ dL_law_829) (fun r2 S2 hw => ?_)
  refine c_lstore (pc := 832) C dL_law_832 (by decide) [(6, .long r2), (5, .int r1), (4, .int (nI (6 * i))), (3, .ref (ad 39 0)), (2, .ref (ad 40 0)), (1, .ref (ad 0 0)), (0, .ref b)] rfl ?_
  refine c_aload_n (pc := 834) C dL_law_834 4 rfl rfl ?_
  refine c_afterI (pc := 835) C (wp_X10_thrown S2) (post := fun r S9 => r = gI S2 40 0 0 ∧ S9 = S2) ⟨rfl, rfl⟩ (fun post hw => rc_V C (ct_X10_thrown l D cA ad S2 post hw) (cwV 0 C.2.2.2.2.1 gL_law_X10_thrown rfl rfl rfl (by decide +kernel) ⟨Nat.le_of_ble_eq_true rfl, Nat.le_of_ble_eq_true rfl⟩) hm_40 (cel_40 cA ad S2 0) rfl rfl rfl rfl (Nat.le_of_ble_eq_true rfl) ⟨by show (kc + 1) + 0 ≤ 601024; omega, by show (ks + 6) + 0 ≤ 7293034; omega⟩ dL_law_835) (fun r9 S9 hr9 => ?_)
  obtain ⟨e9, rfl⟩ := hr9
  refine c_iload (pc := 838) C dL_law_838 1 rfl ?_
  obtain ⟨w1, w2, w3⟩ := hw
  refine c_icmp_eq (pc := 840) C 845 dL_law_840 (by decide) (fun _ => ?_) (fun z => absurd (e9.trans w1) z)
  refine c_iload (pc := 845) C dL_law_845 1 rfl ?_
  refine c_if_ne (pc := 847) C 861 dL_law_847 (by decide) (fun z => ?_) (fun z => ?_)
  · refine c_goto (pc := 861) C 1703 dL_law_861 (by decide) ?_
    exact c_sub [2, 3, 4, 5, 6] [(4, .int (nI (6 * i))), (3, .ref (ad 39 0)), (2, .ref (ad 40 0)), (1, .ref (ad 0 0)), (0, .ref b)] rfl (c_widen (k := kc + 12) (n := ks + 180) (by omega) (by omega) (kend ad S9 rfl rfl rfl w3))
  · refine c_aload_n (pc := 850) C dL_law_850 3 rfl rfl ?_
    refine c_iconst (v := 0) (pc := 851) C dL_law_851 (by decide) ?_
    refine c_lald (pc := 852) C hm_39 (cel_39 cA ad S9 0) vp_01 dL_law_852 ?_
    refine c_lload (pc := 853) C dL_law_853 0 rfl ?_
    refine c_lif_eq (pc := 855) C 861 dL_law_855 dL_law_856 (by decide) (fun _ => ?_) (fun z2 => absurd (w2 z) z2)
    refine c_goto (pc := 861) C 1703 dL_law_861 (by decide) ?_
    exact c_sub [2, 3, 4, 5, 6] [(4, .int (nI (6 * i))), (3, .ref (ad 39 0)), (2, .ref (ad 40 0)), (1, .ref (ad 0 0)), (0, .ref b)] rfl (c_widen (k := kc + 12) (n := ks + 180) (by omega) (by omega) (kend ad S9 rfl rfl rfl w3))
set_option maxHeartbeats 4000000 in
set_option maxRecDepth 100000 in
theorem lc_12 (C : Cx p s m args c cL_law 8 bbL.flatten RL D cA A) (hX : va_X b L xs s s.heap) (hbl : b < s.heap.size) (hbA : ¬ A b) (hE : EX A s s.heap) (hM : EM s) (hst : l.stackTraces = false) {S : Sg} (h : Rel S) {i : Nat} (h1 : vp_in (nI (6 * i) + 1) L) (h2 : vp_in (nI (6 * i) + 2) L) (h3 : vp_in (nI (6 * i) + 3) L) (h4 : vp_in (nI (6 * i) + 4) L) (h5 : vp_in (nI (6 * i) + 5) L) (hk : kc + 12 ≤ 601024) (hs : ks + 180 ≤ 7293034) (kend : ∀ (ad' : Nat → Nat → Nat) (S' : Sg), ad' 0 0 = ad 0 0 → ad' 39 0 = ad 39 0 → ad' 40 0 = ad 40 0 → Rel S' → KC (kc + 12) (ks + 180) p l e room_1 s m args below meth c 8 D cA ad' A Q 1703 [(4, .int (nI (6 * i))), (3, .ref (ad' 39 0)), (2, .ref (ad' 40 0)), (1, .ref (ad' 0 0)), (0, .ref b)] [] S') : KC kc ks p l e room_1 s m args below meth c 8 D cA ad A Q 864 [(4, .int (nI (6 * i))), (3, .ref (ad 39 0)), (2, .ref (ad 40 0)), (1, .ref (ad 0 0)), (0, .ref b)] [] S := by
  refine c_aload_n (pc := 864) C dL_law_864 3 rfl rfl ?_
  refine c_aload_n (pc := 865) C dL_law_865 4 rfl rfl ?_
  refine c_iload (pc := 866) C dL_law_866 0 rfl ?_
  refine c_iconst (v := 1) (pc := 868) C dL_law_868 (by decide) ?_
  refine c_iadd (pc := 869) C dL_law_869 ?_
  refine c_sld (pc := 870) C hX hbl hbA h1 dL_law_870 ?_
  refine c_aload_n (pc := 871) C dL_law_871 4 rfl rfl ?_
  refine c_iload (pc := 872) C dL_law_872 0 rfl ?_
  refine c_iconst (v := 2) (pc := 874) C dL_law_874 (by decide) ?_
  refine c_iadd (pc := 875) C dL_law_875 ?_
  refine c_sld (pc := 876) C hX hbl hbA h2 dL_law_876 ?_
  refine c_aload_n (pc := 877) C dL_law_877 4 rfl rfl ?_
  refine c_iload (pc := 878) C dL_law_878 0 rfl ?_
  refine c_iconst (v := 3) (pc := 880) C dL_law_880 (by decide) ?_
  refine c_iadd (pc := 881) C dL_law_881 ?_
  refine c_sld (pc := 882) C hX hbl hbA h3 dL_law_882 ?_
  have hw := rl_frame h (xs (nI (6 * i) + 1).toNatClampNeg) (xs (nI (6 * i) + 2).toNatClampNeg) (xs (nI (6 * i) + 3).toNatClampNeg)
  refine c_afterI (pc := 883) C (wp_X9_frame (xs (nI (6 * i) + 1).toNatClampNeg) (xs (nI (6 * i) + 2).toNatClampNeg) (xs (nI (6 * i) + 3).toNatClampNeg) S) hw (fun post hw => rc_V C (ct_X9_frame l D cA ad (xs (nI (6 * i) + 1).toNatClampNeg) (xs (nI (6 * i) + 2).toNatClampNeg) (xs (nI (6 * i) + 3).toNatClampNeg) S post hw) (cwV 3 C.2.2.2.2.1 gL_law_X9_frame rfl rfl rfl (by decide +kernel) ⟨Nat.le_of_ble_eq_true rfl, Nat.le_of_ble_eq_true rfl⟩) hm_0 (cel_0 cA ad S 0) rfl rfl rfl rfl (Nat.le_of_ble_eq_true rfl) ⟨by show kc + 0 ≤ 601024; omega, by show ks + 0 ≤ 7293034; omega⟩ dL_law_883) (fun r1 S1 hw => ?_)
  refine c_aload_n (pc := 886) C dL_law_886 2 rfl rfl ?_
  refine c_aload_n (pc := 887) C dL_law_887 4 rfl rfl ?_
  refine c_iload (pc := 888) C dL_law_888 0 rfl ?_
  refine c_iconst (v := 1) (pc := 890) C dL_law_890 (by decide) ?_
  refine c_iadd (pc := 891) C dL_law_891 ?_
  refine c_sld (pc := 892) C hX hbl hbA h1 dL_law_892 ?_
  refine c_aload_n (pc := 893) C dL_law_893 4 rfl rfl ?_
  refine c_iload (pc := 894) C dL_law_894 0 rfl ?_
  refine c_iconst (v := 2) (pc := 896) C dL_law_896 (by decide) ?_
  refine c_iadd (pc := 897) C dL_law_897 ?_
  refine c_sld (pc := 898) C hX hbl hbA h2 dL_law_898 ?_
  refine c_aload_n (pc := 899) C dL_law_899 4 rfl rfl ?_
  refine c_iload (pc := 900) C dL_law_900 0 rfl ?_
  refine c_iconst (v := 3) (pc := 902) C dL_law_902 (by decide) ?_
  refine c_iadd (pc := 903) C dL_law_903 ?_
  refine c_sld (pc := 904) C hX hbl hbA h3 dL_law_904 ?_
  refine c_afterI (pc := 905) C (wp_X10_frame (xs (nI (6 * i) + 1).toNatClampNeg) (xs (nI (6 * i) + 2).toNatClampNeg) (xs (nI (6 * i) + 3).toNatClampNeg) S1) hw (fun post hw => rc_V C (ct_X10_frame l D cA ad (xs (nI (6 * i) + 1).toNatClampNeg) (xs (nI (6 * i) + 2).toNatClampNeg) (xs (nI (6 * i) + 3).toNatClampNeg) S1 post hw) (cwV 3 C.2.2.2.2.1 gL_law_X10_frame rfl rfl rfl (by decide +kernel) ⟨Nat.le_of_ble_eq_true rfl, Nat.le_of_ble_eq_true rfl⟩) hm_40 (cel_40 cA ad S1 0) rfl rfl rfl rfl (Nat.le_of_ble_eq_true rfl) ⟨by show kc + 0 ≤ 601024; omega, by show ks + 0 ≤ 7293034; omega⟩ dL_law_905) (fun r2 S2 hw => ?_)
  obtain ⟨w1, w2⟩ := hw
  refine c_icmp_eq (pc := 908) C 1703 dL_law_908 (by decide) (fun _ => ?_) (fun z => absurd w1 z)
  exact c_widen (k := kc + 12) (n := ks + 180) (by omega) (by omega) (kend ad S2 rfl rfl rfl w2)
set_option maxHeartbeats 4000000 in
set_option maxRecDepth 100000 in
theorem lc_13 (C : Cx p s m args c cL_law 8 bbL.flatten RL D cA A) (hX : va_X b L xs s s.heap) (hbl : b < s.heap.size) (hbA : ¬ A b) (hE : EX A s s.heap) (hM : EM s) (hst : l.stackTraces = false) {S : Sg} (h : Rel S) {i : Nat} (h1 : vp_in (nI (6 * i) + 1) L) (h2 : vp_in (nI (6 * i) + 2) L) (h3 : vp_in (nI (6 * i) + 3) L) (h4 : vp_in (nI (6 * i) + 4) L) (h5 : vp_in (nI (6 * i) + 5) L) (hk : kc + 12 ≤ 601024) (hs : ks + 180 ≤ 7293034) (kend : ∀ (ad' : Nat → Nat → Nat) (S' : Sg), ad' 0 0 = ad 0 0 → ad' 39 0 = ad 39 0 → ad' 40 0 = ad 40 0 → Rel S' → KC (kc + 12) (ks + 180) p l e room_1 s m args below meth c 8 D cA ad' A Q 1703 [(4, .int (nI (6 * i))), (3, .ref (ad' 39 0)), (2, .ref (ad' 40 0)), (1, .ref (ad' 0 0)), (0, .ref b)] [] S') : KC kc ks p l e room_1 s m args below meth c 8 D cA ad A Q 913 [(4, .int (nI (6 * i))), (3, .ref (ad 39 0)), (2, .ref (ad 40 0)), (1, .ref (ad 0 0)), (0, .ref b)] [] S := by
  by_cases hz : xs (nI (6 * i) + 5).toNatClampNeg = 0
  · refine c_aload_n (pc := 913) C dL_law_913 3 rfl rfl ?_
    refine c_aload_n (pc := 914) C dL_law_914 4 rfl rfl ?_
    refine c_iload (pc := 915) C dL_law_915 0 rfl ?_
    refine c_iconst (v := 1) (pc := 917) C dL_law_917 (by decide) ?_
    refine c_iadd (pc := 918) C dL_law_918 ?_
    refine c_sld (pc := 919) C hX hbl hbA h1 dL_law_919 ?_
    refine c_aload_n (pc := 920) C dL_law_920 4 rfl rfl ?_
    refine c_iload (pc := 921) C dL_law_921 0 rfl ?_
    refine c_iconst (v := 2) (pc := 923) C dL_law_923 (by decide) ?_
    refine c_iadd (pc := 924) C dL_law_924 ?_
    refine c_sld (pc := 925) C hX hbl hbA h2 dL_law_925 ?_
    refine c_aload_n (pc := 926) C dL_law_926 4 rfl rfl ?_
    refine c_iload (pc := 927) C dL_law_927 0 rfl ?_
    refine c_iconst (v := 3) (pc := 929) C dL_law_929 (by decide) ?_
    refine c_iadd (pc := 930) C dL_law_930 ?_
    refine c_sld (pc := 931) C hX hbl hbA h3 dL_law_931 ?_
    refine c_aload_n (pc := 932) C dL_law_932 4 rfl rfl ?_
    refine c_iload (pc := 933) C dL_law_933 0 rfl ?_
    refine c_iconst (v := 4) (pc := 935) C dL_law_935 (by decide) ?_
    refine c_iadd (pc := 936) C dL_law_936 ?_
    refine c_sld (pc := 937) C hX hbl hbA h4 dL_law_937 ?_
    refine c_aload_n (pc := 938) C dL_law_938 4 rfl rfl ?_
    refine c_iload (pc := 939) C dL_law_939 0 rfl ?_
    refine c_iconst (v := 5) (pc := 941) C dL_law_941 (by decide) ?_
    refine c_iadd (pc := 942) C dL_law_942 ?_
    refine c_sld (pc := 943) C hX hbl hbA h5 dL_law_943 ?_
    refine c_if_eq (pc := 944) C 951 dL_law_944 (by decide) (fun _ => ?_) (fun z => absurd hz z)
    refine c_iconst (v := 0) (pc := 951) C dL_law_951 (by decide) ?_
    refine c_aload_n (pc := 952) C dL_law_952 1 rfl rfl ?_
    have hw := rl_strain h (xs (nI (6 * i) + 1).toNatClampNeg) (xs (nI (6 * i) + 2).toNatClampNeg) (xs (nI (6 * i) + 3).toNatClampNeg) (xs (nI (6 * i) + 4).toNatClampNeg) 0
    refine c_callWS (pc := 953) C hE (ct_L_strain l hst D cA ad (xs (nI (6 * i) + 1).toNatClampNeg) (xs (nI (6 * i) + 2).toNatClampNeg) (xs (nI (6 * i) + 3).toNatClampNeg) (xs (nI (6 * i) + 4).toNatClampNeg) 0 S _ hw) (vx_cwSW 7 C.2.2.2.2.1 gL_law_L_strain rfl rfl rfl (by decide +kernel) ⟨Nat.le_of_ble_eq_true rfl, Nat.le_of_ble_eq_true rfl⟩) rfl rfl (Nat.le_of_ble_eq_true rfl) ⟨by show kc + 1 ≤ 601024; omega, by show ks + 6 ≤ 7293034; omega⟩ dL_law_953 (fun r1 S1 hw => ?_)
    refine c_istore (pc := 956) C dL_law_956 (by decide) [(5, .int r1), (4, .int (nI (6 * i))), (3, .ref (ad 39 0)), (2, .ref (ad 40 0)), (1, .ref (ad 0 0)), (0, .ref b)] rfl ?_
    refine c_aload_n (pc := 958) C dL_law_958 3 rfl rfl ?_
    refine c_aload_n (pc := 959) C dL_law_959 5 rfl rfl ?_
    refine c_iload (pc := 960) C dL_law_960 1 rfl ?_
    refine c_iconst (v := 1) (pc := 962) C dL_law_962 (by decide) ?_
    refine c_iadd (pc := 963) C dL_law_963 ?_
    refine c_sld (pc := 964) C hX hbl hbA h1 dL_law_964 ?_
    refine c_aload_n (pc := 965) C dL_law_965 5 rfl rfl ?_
    refine c_iload (pc := 966) C dL_law_966 1 rfl ?_
    refine c_iconst (v := 2) (pc := 968) C dL_law_968 (by decide) ?_
    refine c_iadd (pc := 969) C dL_law_969 ?_
    refine c_sld (pc := 970) C hX hbl hbA h2 dL_law_970 ?_
    refine c_aload_n (pc := 971) C dL_law_971 5 rfl rfl ?_
    refine c_iload (pc := 972) C dL_law_972 1 rfl ?_
    refine c_iconst (v := 3) (pc := 974) C dL_law_974 (by decide) ?_
    refine c_iadd (pc := 975) C dL_law_975 ?_
    refine c_sld (pc := 976) C hX hbl hbA h3 dL_law_976 ?_
    refine c_aload_n (pc := 977) C dL_law_977 5 rfl rfl ?_
    refine c_iload (pc := 978) C dL_law_978 1 rfl ?_
    refine c_iconst (v := 4) (pc := 980) C dL_law_980 (by decide) ?_
    refine c_iadd (pc := 981) C dL_law_981 ?_
    refine c_sld (pc := 982) C hX hbl hbA h4 dL_law_982 ?_
    refine c_aload_n (pc := 983) C dL_law_983 5 rfl rfl ?_
    refine c_iload (pc := 984) C dL_law_984 1 rfl ?_
    refine c_iconst (v := 5) (pc := 986) C dL_law_986 (by decide) ?_
    refine c_iadd (pc := 987) C dL_law_987 ?_
    refine c_sld (pc := 988) C hX hbl hbA h5 dL_law_988 ?_
    refine c_if_eq (pc := 989) C 996 dL_law_989 (by decide) (fun _ => ?_) (fun z => absurd hz z)
    refine c_iconst (v := 0) (pc := 996) C dL_law_996 (by decide) ?_
    refine c_afterL (pc := 997) C (wp_X10_strain (xs (nI (6 * i) + 1).toNatClampNeg) (xs (nI (6 * i) + 2).toNatClampNeg) (xs (nI (6 * i) + 3).toNatClampNeg) (xs (nI (6 * i) + 4).toNatClampNeg) 0 S1) hw (fun post hw => rc_V C (ct_X10_strain l D cA ad (xs (nI (6 * i) + 1).toNatClampNeg) (xs (nI (6 * i) + 2).toNatClampNeg) (xs (nI (6 * i) + 3).toNatClampNeg) (xs (nI (6 * i) + 4).toNatClampNeg) 0 S1 post hw) (cwV 5 C.2.2.2.2.1 gL_law_X10_strain rfl rfl rfl (by decide +kernel) ⟨Nat.le_of_ble_eq_true rfl, Nat.le_of_ble_eq_true rfl⟩) hm_40 (cel_40 cA ad S1 0) rfl rfl rfl rfl (Nat.le_of_ble_eq_true rfl) ⟨by show (kc + 1) + 0 ≤ 601024; omega, by show (ks + 6) + 0 ≤ 7293034; omega⟩ dL_law_997) (fun r2 S2 hw => ?_)
    refine c_lstore (pc := 1000) C dL_law_1000 (by decide) [(6, .long r2), (5, .int r1), (4, .int (nI (6 * i))), (3, .ref (ad 39 0)), (2, .ref (ad 40 0)), (1, .ref (ad 0 0)), (0, .ref b)] rfl ?_
    refine c_aload_n (pc := 1002) C dL_law_1002 4 rfl rfl ?_
    refine c_afterI (pc := 1003) C (wp_X10_thrown S2) (post := fun r S9 => r = gI S2 40 0 0 ∧ S9 = S2) ⟨rfl, rfl⟩ (fun post hw => rc_V C (ct_X10_thrown l D cA ad S2 post hw) (cwV 0 C.2.2.2.2.1 gL_law_X10_thrown rfl rfl rfl (by decide +kernel) ⟨Nat.le_of_ble_eq_true rfl, Nat.le_of_ble_eq_true rfl⟩) hm_40 (cel_40 cA ad S2 0) rfl rfl rfl rfl (Nat.le_of_ble_eq_true rfl) ⟨by show (kc + 1) + 0 ≤ 601024; omega, by show (ks + 6) + 0 ≤ 7293034; omega⟩ dL_law_1003) (fun r9 S9 hr9 => ?_)
    obtain ⟨e9, rfl⟩ := hr9
    refine c_iload (pc := 1006) C dL_law_1006 1 rfl ?_
    obtain ⟨w1, w2, w3⟩ := hw
    refine c_icmp_eq (pc := 1008) C 1013 dL_law_1008 (by decide) (fun _ => ?_) (fun z => absurd (e9.trans w1) z)
    refine c_iload (pc := 1013) C dL_law_1013 1 rfl ?_
    refine c_if_ne (pc := 1015) C 1029 dL_law_1015 (by decide) (fun z => ?_) (fun z => ?_)
    · refine c_goto (pc := 1029) C 1703 dL_law_1029 (by decide) ?_
      exact c_sub [2, 3, 4, 5, 6] [(4, .int (nI (6 * i))), (3, .ref (ad 39 0)), (2, .ref (ad 40 0)), (1, .ref (ad 0 0)), (0, .ref b)] rfl (c_widen (k := kc + 12) (n := ks + 180) (by omega) (by omega) (kend ad S9 rfl rfl rfl w3))
    · refine c_aload_n (pc := 1018) C dL_law_1018 3 rfl rfl ?_
      refine c_iconst (v := 0) (pc := 1019) C dL_law_1019 (by decide) ?_
      refine c_lald (pc := 1020) C hm_39 (cel_39 cA ad S9 0) vp_01 dL_law_1020 ?_
      refine c_lload (pc := 1021) C dL_law_1021 0 rfl ?_
      refine c_lif_eq (pc := 1023) C 1029 dL_law_1023 dL_law_1024 (by decide) (fun _ => ?_) (fun z2 => absurd (w2 z) z2)
      refine c_goto (pc := 1029) C 1703 dL_law_1029 (by decide) ?_
      exact c_sub [2, 3, 4, 5, 6] [(4, .int (nI (6 * i))), (3, .ref (ad 39 0)), (2, .ref (ad 40 0)), (1, .ref (ad 0 0)), (0, .ref b)] rfl (c_widen (k := kc + 12) (n := ks + 180) (by omega) (by omega) (kend ad S9 rfl rfl rfl w3))
  · refine c_aload_n (pc := 913) C dL_law_913 3 rfl rfl ?_
    refine c_aload_n (pc := 914) C dL_law_914 4 rfl rfl ?_
    refine c_iload (pc := 915) C dL_law_915 0 rfl ?_
    refine c_iconst (v := 1) (pc := 917) C dL_law_917 (by decide) ?_
    refine c_iadd (pc := 918) C dL_law_918 ?_
    refine c_sld (pc := 919) C hX hbl hbA h1 dL_law_919 ?_
    refine c_aload_n (pc := 920) C dL_law_920 4 rfl rfl ?_
    refine c_iload (pc := 921) C dL_law_921 0 rfl ?_
    refine c_iconst (v := 2) (pc := 923) C dL_law_923 (by decide) ?_
    refine c_iadd (pc := 924) C dL_law_924 ?_
    refine c_sld (pc := 925) C hX hbl hbA h2 dL_law_925 ?_
    refine c_aload_n (pc := 926) C dL_law_926 4 rfl rfl ?_
    refine c_iload (pc := 927) C dL_law_927 0 rfl ?_
    refine c_iconst (v := 3) (pc := 929) C dL_law_929 (by decide) ?_
    refine c_iadd (pc := 930) C dL_law_930 ?_
    refine c_sld (pc := 931) C hX hbl hbA h3 dL_law_931 ?_
    refine c_aload_n (pc := 932) C dL_law_932 4 rfl rfl ?_
    refine c_iload (pc := 933) C dL_law_933 0 rfl ?_
    refine c_iconst (v := 4) (pc := 935) C dL_law_935 (by decide) ?_
    refine c_iadd (pc := 936) C dL_law_936 ?_
    refine c_sld (pc := 937) C hX hbl hbA h4 dL_law_937 ?_
    refine c_aload_n (pc := 938) C dL_law_938 4 rfl rfl ?_
    refine c_iload (pc := 939) C dL_law_939 0 rfl ?_
    refine c_iconst (v := 5) (pc := 941) C dL_law_941 (by decide) ?_
    refine c_iadd (pc := 942) C dL_law_942 ?_
    refine c_sld (pc := 943) C hX hbl hbA h5 dL_law_943 ?_
    refine c_if_eq (pc := 944) C 951 dL_law_944 (by decide) (fun z => absurd z hz) (fun _ => ?_)
    refine c_iconst (v := 1) (pc := 947) C dL_law_947 (by decide) ?_
    refine c_goto (pc := 948) C 952 dL_law_948 (by decide) ?_
    refine c_aload_n (pc := 952) C dL_law_952 1 rfl rfl ?_
    have hw := rl_strain h (xs (nI (6 * i) + 1).toNatClampNeg) (xs (nI (6 * i) + 2).toNatClampNeg) (xs (nI (6 * i) + 3).toNatClampNeg) (xs (nI (6 * i) + 4).toNatClampNeg) 1
    refine c_callWS (pc := 953) C hE (ct_L_strain l hst D cA ad (xs (nI (6 * i) + 1).toNatClampNeg) (xs (nI (6 * i) + 2).toNatClampNeg) (xs (nI (6 * i) + 3).toNatClampNeg) (xs (nI (6 * i) + 4).toNatClampNeg) 1 S _ hw) (vx_cwSW 7 C.2.2.2.2.1 gL_law_L_strain rfl rfl rfl (by decide +kernel) ⟨Nat.le_of_ble_eq_true rfl, Nat.le_of_ble_eq_true rfl⟩) rfl rfl (Nat.le_of_ble_eq_true rfl) ⟨by show kc + 1 ≤ 601024; omega, by show ks + 6 ≤ 7293034; omega⟩ dL_law_953 (fun r1 S1 hw => ?_)
    refine c_istore (pc := 956) C dL_law_956 (by decide) [(5, .int r1), (4, .int (nI (6 * i))), (3, .ref (ad 39 0)), (2, .ref (ad 40 0)), (1, .ref (ad 0 0)), (0, .ref b)] rfl ?_
    refine c_aload_n (pc := 958) C dL_law_958 3 rfl rfl ?_
    refine c_aload_n (pc := 959) C dL_law_959 5 rfl rfl ?_
    refine c_iload (pc := 960) C dL_law_960 1 rfl ?_
    refine c_iconst (v := 1) (pc := 962) C dL_law_962 (by decide) ?_
    refine c_iadd (pc := 963) C dL_law_963 ?_
    refine c_sld (pc := 964) C hX hbl hbA h1 dL_law_964 ?_
    refine c_aload_n (pc := 965) C dL_law_965 5 rfl rfl ?_
    refine c_iload (pc := 966) C dL_law_966 1 rfl ?_
    refine c_iconst (v := 2) (pc := 968) C dL_law_968 (by decide) ?_
    refine c_iadd (pc := 969) C dL_law_969 ?_
    refine c_sld (pc := 970) C hX hbl hbA h2 dL_law_970 ?_
    refine c_aload_n (pc := 971) C dL_law_971 5 rfl rfl ?_
    refine c_iload (pc := 972) C dL_law_972 1 rfl ?_
    refine c_iconst (v := 3) (pc := 974) C dL_law_974 (by decide) ?_
    refine c_iadd (pc := 975) C dL_law_975 ?_
    refine c_sld (pc := 976) C hX hbl hbA h3 dL_law_976 ?_
    refine c_aload_n (pc := 977) C dL_law_977 5 rfl rfl ?_
    refine c_iload (pc := 978) C dL_law_978 1 rfl ?_
    refine c_iconst (v := 4) (pc := 980) C dL_law_980 (by decide) ?_
    refine c_iadd (pc := 981) C dL_law_981 ?_
    refine c_sld (pc := 982) C hX hbl hbA h4 dL_law_982 ?_
    refine c_aload_n (pc := 983) C dL_law_983 5 rfl rfl ?_
    refine c_iload (pc := 984) C dL_law_984 1 rfl ?_
    refine c_iconst (v := 5) (pc := 986) C dL_law_986 (by decide) ?_
    refine c_iadd (pc := 987) C dL_law_987 ?_
    refine c_sld (pc := 988) C hX hbl hbA h5 dL_law_988 ?_
    refine c_if_eq (pc := 989) C 996 dL_law_989 (by decide) (fun z => absurd z hz) (fun _ => ?_)
    refine c_iconst (v := 1) (pc := 992) C dL_law_992 (by decide) ?_
    refine c_goto (pc := 993) C 997 dL_law_993 (by decide) ?_
    refine c_afterL (pc := 997) C (wp_X10_strain (xs (nI (6 * i) + 1).toNatClampNeg) (xs (nI (6 * i) + 2).toNatClampNeg) (xs (nI (6 * i) + 3).toNatClampNeg) (xs (nI (6 * i) + 4).toNatClampNeg) 1 S1) hw (fun post hw => rc_V C (ct_X10_strain l D cA ad (xs (nI (6 * i) + 1).toNatClampNeg) (xs (nI (6 * i) + 2).toNatClampNeg) (xs (nI (6 * i) + 3).toNatClampNeg) (xs (nI (6 * i) + 4).toNatClampNeg) 1 S1 post hw) (cwV 5 C.2.2.2.2.1 gL_law_X10_strain rfl rfl rfl (by decide +kernel) ⟨Nat.le_of_ble_eq_true rfl, Nat.le_of_ble_eq_true rfl⟩) hm_40 (cel_40 cA ad S1 0) rfl rfl rfl rfl (Nat.le_of_ble_eq_true rfl) ⟨by show (kc + 1) + 0 ≤ 601024; omega, by show (ks + 6) + 0 ≤ 7293034; omega⟩ dL_law_997) (fun r2 S2 hw => ?_)
    refine c_lstore (pc := 1000) C dL_law_1000 (by decide) [(6, .long r2), (5, .int r1), (4, .int (nI (6 * i))), (3, .ref (ad 39 0)), (2, .ref (ad 40 0)), (1, .ref (ad 0 0)), (0, .ref b)] rfl ?_
    refine c_aload_n (pc := 1002) C dL_law_1002 4 rfl rfl ?_
    refine c_afterI (pc := 1003) C (wp_X10_thrown S2) (post := fun r S9 => r = gI S2 40 0 0 ∧ S9 = S2) ⟨rfl, rfl⟩ (fun post hw => rc_V C (ct_X10_thrown l D cA ad S2 post hw) (cwV 0 C.2.2.2.2.1 gL_law_X10_thrown rfl rfl rfl (by decide +kernel) ⟨Nat.le_of_ble_eq_true rfl, Nat.le_of_ble_eq_true rfl⟩) hm_40 (cel_40 cA ad S2 0) rfl rfl rfl rfl (Nat.le_of_ble_eq_true rfl) ⟨by show (kc + 1) + 0 ≤ 601024; omega, by show (ks + 6) + 0 ≤ 7293034; omega⟩ dL_law_1003) (fun r9 S9 hr9 => ?_)
    obtain ⟨e9, rfl⟩ := hr9
    refine c_iload (pc := 1006) C dL_law_1006 1 rfl ?_
    obtain ⟨w1, w2, w3⟩ := hw
    refine c_icmp_eq (pc := 1008) C 1013 dL_law_1008 (by decide) (fun _ => ?_) (fun z => absurd (e9.trans w1) z)
    refine c_iload (pc := 1013) C dL_law_1013 1 rfl ?_
    refine c_if_ne (pc := 1015) C 1029 dL_law_1015 (by decide) (fun z => ?_) (fun z => ?_)
    · refine c_goto (pc := 1029) C 1703 dL_law_1029 (by decide) ?_
      exact c_sub [2, 3, 4, 5, 6] [(4, .int (nI (6 * i))), (3, .ref (ad 39 0)), (2, .ref (ad 40 0)), (1, .ref (ad 0 0)), (0, .ref b)] rfl (c_widen (k := kc + 12) (n := ks + 180) (by omega) (by omega) (kend ad S9 rfl rfl rfl w3))
    · refine c_aload_n (pc := 1018) C dL_law_1018 3 rfl rfl ?_
      refine c_iconst (v := 0) (pc := 1019) C dL_law_1019 (by decide) ?_
      refine c_lald (pc := 1020) C hm_39 (cel_39 cA ad S9 0) vp_01 dL_law_1020 ?_
      refine c_lload (pc := 1021) C dL_law_1021 0 rfl ?_
      refine c_lif_eq (pc := 1023) C 1029 dL_law_1023 dL_law_1024 (by decide) (fun _ => ?_) (fun z2 => absurd (w2 z) z2)
      refine c_goto (pc := 1029) C 1703 dL_law_1029 (by decide) ?_
      exact c_sub [2, 3, 4, 5, 6] [(4, .int (nI (6 * i))), (3, .ref (ad 39 0)), (2, .ref (ad 40 0)), (1, .ref (ad 0 0)), (0, .ref b)] rfl (c_widen (k := kc + 12) (n := ks + 180) (by omega) (by omega) (kend ad S9 rfl rfl rfl w3))
set_option maxHeartbeats 4000000 in
set_option maxRecDepth 100000 in
theorem lc_14 (C : Cx p s m args c cL_law 8 bbL.flatten RL D cA A) (hX : va_X b L xs s s.heap) (hbl : b < s.heap.size) (hbA : ¬ A b) (hE : EX A s s.heap) (hM : EM s) (hst : l.stackTraces = false) {S : Sg} (h : Rel S) {i : Nat} (h1 : vp_in (nI (6 * i) + 1) L) (h2 : vp_in (nI (6 * i) + 2) L) (h3 : vp_in (nI (6 * i) + 3) L) (h4 : vp_in (nI (6 * i) + 4) L) (h5 : vp_in (nI (6 * i) + 5) L) (hk : kc + 12 ≤ 601024) (hs : ks + 180 ≤ 7293034) (kend : ∀ (ad' : Nat → Nat → Nat) (S' : Sg), ad' 0 0 = ad 0 0 → ad' 39 0 = ad 39 0 → ad' 40 0 = ad 40 0 → Rel S' → KC (kc + 12) (ks + 180) p l e room_1 s m args below meth c 8 D cA ad' A Q 1703 [(4, .int (nI (6 * i))), (3, .ref (ad' 39 0)), (2, .ref (ad' 40 0)), (1, .ref (ad' 0 0)), (0, .ref b)] [] S') : KC kc ks p l e room_1 s m args below meth c 8 D cA ad A Q 1032 [(4, .int (nI (6 * i))), (3, .ref (ad 39 0)), (2, .ref (ad 40 0)), (1, .ref (ad 0 0)), (0, .ref b)] [] S := by
  refine c_aload_n (pc := 1032) C dL_law_1032 3 rfl rfl ?_
  refine c_aload_n (pc := 1033) C dL_law_1033 4 rfl rfl ?_
  refine c_iload (pc := 1034) C dL_law_1034 0 rfl ?_
  refine c_iconst (v := 1) (pc := 1036) C dL_law_1036 (by decide) ?_
  refine c_iadd (pc := 1037) C dL_law_1037 ?_
  refine c_sld (pc := 1038) C hX hbl hbA h1 dL_law_1038 ?_
  have hw := rl_block h (xs (nI (6 * i) + 1).toNatClampNeg)
  refine c_afterI (pc := 1039) C (wp_X9_block (xs (nI (6 * i) + 1).toNatClampNeg) S) hw (fun post hw => rc_V C (ct_X9_block l D cA ad (xs (nI (6 * i) + 1).toNatClampNeg) S post hw) (cwV 1 C.2.2.2.2.1 gL_law_X9_block rfl rfl rfl (by decide +kernel) ⟨Nat.le_of_ble_eq_true rfl, Nat.le_of_ble_eq_true rfl⟩) hm_0 (cel_0 cA ad S 0) rfl rfl rfl rfl (Nat.le_of_ble_eq_true rfl) ⟨by show kc + 0 ≤ 601024; omega, by show ks + 0 ≤ 7293034; omega⟩ dL_law_1039) (fun r1 S1 hw => ?_)
  refine c_aload_n (pc := 1042) C dL_law_1042 2 rfl rfl ?_
  refine c_aload_n (pc := 1043) C dL_law_1043 4 rfl rfl ?_
  refine c_iload (pc := 1044) C dL_law_1044 0 rfl ?_
  refine c_iconst (v := 1) (pc := 1046) C dL_law_1046 (by decide) ?_
  refine c_iadd (pc := 1047) C dL_law_1047 ?_
  refine c_sld (pc := 1048) C hX hbl hbA h1 dL_law_1048 ?_
  refine c_afterI (pc := 1049) C (wp_X10_block (xs (nI (6 * i) + 1).toNatClampNeg) S1) hw (fun post hw => rc_V C (ct_X10_block l D cA ad (xs (nI (6 * i) + 1).toNatClampNeg) S1 post hw) (cwV 1 C.2.2.2.2.1 gL_law_X10_block rfl rfl rfl (by decide +kernel) ⟨Nat.le_of_ble_eq_true rfl, Nat.le_of_ble_eq_true rfl⟩) hm_40 (cel_40 cA ad S1 0) rfl rfl rfl rfl (Nat.le_of_ble_eq_true rfl) ⟨by show kc + 0 ≤ 601024; omega, by show ks + 0 ≤ 7293034; omega⟩ dL_law_1049) (fun r2 S2 hw => ?_)
  obtain ⟨w1, w2⟩ := hw
  refine c_icmp_eq (pc := 1052) C 1703 dL_law_1052 (by decide) (fun _ => ?_) (fun z => absurd w1 z)
  exact c_widen (k := kc + 12) (n := ks + 180) (by omega) (by omega) (kend ad S2 rfl rfl rfl w2)
set_option maxHeartbeats 4000000 in
set_option maxRecDepth 100000 in
theorem lc_15 (C : Cx p s m args c cL_law 8 bbL.flatten RL D cA A) (hX : va_X b L xs s s.heap) (hbl : b < s.heap.size) (hbA : ¬ A b) (hE : EX A s s.heap) (hM : EM s) (hst : l.stackTraces = false) {S : Sg} (h : Rel S) {i : Nat} (h1 : vp_in (nI (6 * i) + 1) L) (h2 : vp_in (nI (6 * i) + 2) L) (h3 : vp_in (nI (6 * i) + 3) L) (h4 : vp_in (nI (6 * i) + 4) L) (h5 : vp_in (nI (6 * i) + 5) L) (hk : kc + 12 ≤ 601024) (hs : ks + 180 ≤ 7293034) (kend : ∀ (ad' : Nat → Nat → Nat) (S' : Sg), ad' 0 0 = ad 0 0 → ad' 39 0 = ad 39 0 → ad' 40 0 = ad 40 0 → Rel S' → KC (kc + 12) (ks + 180) p l e room_1 s m args below meth c 8 D cA ad' A Q 1703 [(4, .int (nI (6 * i))), (3, .ref (ad' 39 0)), (2, .ref (ad' 40 0)), (1, .ref (ad' 0 0)), (0, .ref b)] [] S') : KC kc ks p l e room_1 s m args below meth c 8 D cA ad A Q 1057 [(4, .int (nI (6 * i))), (3, .ref (ad 39 0)), (2, .ref (ad 40 0)), (1, .ref (ad 0 0)), (0, .ref b)] [] S := by
  refine c_aload_n (pc := 1057) C dL_law_1057 3 rfl rfl ?_
  have hw := rl_blocks h
  refine c_afterI (pc := 1058) C (wp_X9_blocks S) hw (fun post hw => rc_V C (ct_X9_blocks l D cA ad S post hw) (cwV 0 C.2.2.2.2.1 gL_law_X9_blocks rfl rfl rfl (by decide +kernel) ⟨Nat.le_of_ble_eq_true rfl, Nat.le_of_ble_eq_true rfl⟩) hm_0 (cel_0 cA ad S 0) rfl rfl rfl rfl (Nat.le_of_ble_eq_true rfl) ⟨by show kc + 0 ≤ 601024; omega, by show ks + 0 ≤ 7293034; omega⟩ dL_law_1058) (fun r1 S1 hw => ?_)
  refine c_aload_n (pc := 1061) C dL_law_1061 2 rfl rfl ?_
  refine c_afterI (pc := 1062) C (wp_X10_blocks S1) hw (fun post hw => rc_V C (ct_X10_blocks l D cA ad S1 post hw) (cwV 0 C.2.2.2.2.1 gL_law_X10_blocks rfl rfl rfl (by decide +kernel) ⟨Nat.le_of_ble_eq_true rfl, Nat.le_of_ble_eq_true rfl⟩) hm_40 (cel_40 cA ad S1 0) rfl rfl rfl rfl (Nat.le_of_ble_eq_true rfl) ⟨by show kc + 0 ≤ 601024; omega, by show ks + 0 ≤ 7293034; omega⟩ dL_law_1062) (fun r2 S2 hw => ?_)
  obtain ⟨w1, w2⟩ := hw
  refine c_icmp_eq (pc := 1065) C 1703 dL_law_1065 (by decide) (fun _ => ?_) (fun z => absurd w1 z)
  exact c_widen (k := kc + 12) (n := ks + 180) (by omega) (by omega) (kend ad S2 rfl rfl rfl w2)
set_option maxHeartbeats 4000000 in
set_option maxRecDepth 100000 in
theorem lc_16 (C : Cx p s m args c cL_law 8 bbL.flatten RL D cA A) (hX : va_X b L xs s s.heap) (hbl : b < s.heap.size) (hbA : ¬ A b) (hE : EX A s s.heap) (hM : EM s) (hst : l.stackTraces = false) {S : Sg} (h : Rel S) {i : Nat} (h1 : vp_in (nI (6 * i) + 1) L) (h2 : vp_in (nI (6 * i) + 2) L) (h3 : vp_in (nI (6 * i) + 3) L) (h4 : vp_in (nI (6 * i) + 4) L) (h5 : vp_in (nI (6 * i) + 5) L) (hk : kc + 12 ≤ 601024) (hs : ks + 180 ≤ 7293034) (kend : ∀ (ad' : Nat → Nat → Nat) (S' : Sg), ad' 0 0 = ad 0 0 → ad' 39 0 = ad 39 0 → ad' 40 0 = ad 40 0 → Rel S' → KC (kc + 12) (ks + 180) p l e room_1 s m args below meth c 8 D cA ad' A Q 1703 [(4, .int (nI (6 * i))), (3, .ref (ad' 39 0)), (2, .ref (ad' 40 0)), (1, .ref (ad' 0 0)), (0, .ref b)] [] S') : KC kc ks p l e room_1 s m args below meth c 8 D cA ad A Q 1070 [(4, .int (nI (6 * i))), (3, .ref (ad 39 0)), (2, .ref (ad 40 0)), (1, .ref (ad 0 0)), (0, .ref b)] [] S := by
  refine c_aload_n (pc := 1070) C dL_law_1070 3 rfl rfl ?_
  refine c_aload_n (pc := 1071) C dL_law_1071 4 rfl rfl ?_
  refine c_iload (pc := 1072) C dL_law_1072 0 rfl ?_
  refine c_iconst (v := 1) (pc := 1074) C dL_law_1074 (by decide) ?_
  refine c_iadd (pc := 1075) C dL_law_1075 ?_
  refine c_sld (pc := 1076) C hX hbl hbA h1 dL_law_1076 ?_
  have hw := rl_of h (xs (nI (6 * i) + 1).toNatClampNeg)
  refine c_afterI (pc := 1077) C (wp_X9_of (xs (nI (6 * i) + 1).toNatClampNeg) S) hw (fun post hw => rc_V C (ct_X9_of l D cA ad (xs (nI (6 * i) + 1).toNatClampNeg) S post hw) (cwV 1 C.2.2.2.2.1 gL_law_X9_of rfl rfl rfl (by decide +kernel) ⟨Nat.le_of_ble_eq_true rfl, Nat.le_of_ble_eq_true rfl⟩) hm_0 (cel_0 cA ad S 0) rfl rfl rfl rfl (Nat.le_of_ble_eq_true rfl) ⟨by show kc + 0 ≤ 601024; omega, by show ks + 0 ≤ 7293034; omega⟩ dL_law_1077) (fun r1 S1 hw => ?_)
  refine c_aload_n (pc := 1080) C dL_law_1080 2 rfl rfl ?_
  refine c_aload_n (pc := 1081) C dL_law_1081 4 rfl rfl ?_
  refine c_iload (pc := 1082) C dL_law_1082 0 rfl ?_
  refine c_iconst (v := 1) (pc := 1084) C dL_law_1084 (by decide) ?_
  refine c_iadd (pc := 1085) C dL_law_1085 ?_
  refine c_sld (pc := 1086) C hX hbl hbA h1 dL_law_1086 ?_
  refine c_afterI (pc := 1087) C (wp_X10_of (xs (nI (6 * i) + 1).toNatClampNeg) S1) hw (fun post hw => rc_V C (ct_X10_of l D cA ad (xs (nI (6 * i) + 1).toNatClampNeg) S1 post hw) (cwV 1 C.2.2.2.2.1 gL_law_X10_of rfl rfl rfl (by decide +kernel) ⟨Nat.le_of_ble_eq_true rfl, Nat.le_of_ble_eq_true rfl⟩) hm_40 (cel_40 cA ad S1 0) rfl rfl rfl rfl (Nat.le_of_ble_eq_true rfl) ⟨by show kc + 0 ≤ 601024; omega, by show ks + 0 ≤ 7293034; omega⟩ dL_law_1087) (fun r2 S2 hw => ?_)
  obtain ⟨w1, w2⟩ := hw
  refine c_icmp_eq (pc := 1090) C 1703 dL_law_1090 (by decide) (fun _ => ?_) (fun z => absurd w1 z)
  exact c_widen (k := kc + 12) (n := ks + 180) (by omega) (by omega) (kend ad S2 rfl rfl rfl w2)
end
