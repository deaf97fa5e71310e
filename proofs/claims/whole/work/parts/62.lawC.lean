set_option maxHeartbeats 4000000 in
set_option maxRecDepth 100000 in
theorem lw_c11 {p : Program} {e : Env} {s : State} {m : MethodId} {below : List Frame} {meth : Method} {c : Code} {Q : State → Prop} {l : Launch} {b L : Nat} {xs : Nat → Int32} {G : ad_G} {x gA sA m0 oA : Nat} {bs : Nat → Nat} {i : Nat} {hp : ad_H} {H : Heap} {locs : List Loc} {cells slots : Nat} {A : AST} {th : Int32} {f : Nat → Int64} {ls : Array Slot} (S : CallFix p m c code 7 s #[Value.ref b] ad_T "AuditDrawsLaw") (hT : l.stackTraces = false) (hX : va_X b L xs s s.heap) (hbl : b < s.heap.size) (hne : ∀ i, i < 11 → bs i ≠ gA ∧ bs i ≠ sA) (hi : i + 5 ≤ L) (hL : L ≤ 2560) (hcl : cells + 128 ≤ 601024) (hsl : slots + 12800 ≤ 7293034) (I : ad_I G s.heap.size s hp H locs) (hC : CRA G hp x gA sA A) (hM : MRA G hp m0 bs th A) (ho : hp oA = some (.inl (G.2.1 2, 1, .inr (.inl f)))) (hW : WF A) (hl : lv_has ls 7 [(0, .ref b), (1, .ref x), (2, .ref m0), (3, .ref oA), (4, .int (nI i))]) (hk : ∀ (hp' : ad_H) (H' : Heap) (locs' : List Loc) (A' : AST) (th' : Int32) (f' : Nat → Int64), ad_I G s.heap.size s hp' H' locs' → CRA G hp' x gA sA A' → MRA G hp' m0 bs th' A' → hp' oA = some (.inl (G.2.1 2, 1, .inr (.inl f'))) → WF A' → ∀ ls' : Array Slot, lv_has ls' 7 [(0, .ref b), (1, .ref x), (2, .ref m0), (3, .ref oA), (4, .int (nI i))] → W p l e room_1 s m #[Value.ref b] below meth c H' locs' (cells + 128) (slots + 12800) Q (F0 m 1269 ls' [])) : W p l e room_1 s m #[Value.ref b] below meth c H locs cells slots Q (F0 m 929 ls []) := by
  obtain ⟨hx, hb, hml, hown, hts⟩ := id S
  have hbA : ¬ (fun q => s.heap.size ≤ q) b := Nat.not_le.mpr hbl
  obtain ⟨_, hm9⟩ := hM.self
  obtain ⟨_, hx9⟩ := hC.self
  refine lv_aload_n hx hb d_law_929 rfl (lv_at hl 1 rfl) ?_
  refine lv_aload_n hx hb d_law_930 rfl (lv_at hl 0 rfl) ?_
  refine lv_iload hx hb d_law_931 (lv_at hl 4 rfl) ?_
  refine lv_iconst (v := 1) hx hb d_law_933 (by decide) ?_
  refine lv_iadd hx hb d_law_934 ?_
  refine ad_top (y := .int (nI (i + 1))) (congrArg Value.int (nI_add i 1)) ?_
  refine va_sld hx hb hX hbl hbA I.S (vp_in_nI (show (i + 1) < L by omega) (by omega)) d_law_935 ?_
  refine ad_top (y := .int (xs (i + 1))) (congrArg (fun q => Value.int (xs q)) (show (nI (i + 1)).toNatClampNeg = (i + 1) from nI_clamp (by omega))) ?_
  refine lv_aload_n hx hb d_law_936 rfl (lv_at hl 0 rfl) ?_
  refine lv_iload hx hb d_law_937 (lv_at hl 4 rfl) ?_
  refine lv_iconst (v := 2) hx hb d_law_939 (by decide) ?_
  refine lv_iadd hx hb d_law_940 ?_
  refine ad_top (y := .int (nI (i + 2))) (congrArg Value.int (nI_add i 2)) ?_
  refine va_sld hx hb hX hbl hbA I.S (vp_in_nI (show (i + 2) < L by omega) (by omega)) d_law_941 ?_
  refine ad_top (y := .int (xs (i + 2))) (congrArg (fun q => Value.int (xs q)) (show (nI (i + 2)).toNatClampNeg = (i + 2) from nI_clamp (by omega))) ?_
  refine lv_aload_n hx hb d_law_942 rfl (lv_at hl 3 rfl) ?_
  obtain ⟨q, hq⟩ : ∃ q : (Nat × Int32) × AST, q = (q_fs f_first A.1 (xs (i + 1)) (xs (i + 2)), A) := ⟨_, rfl⟩
  have hK := HP_eq (h_first l G s.heap.size hp x gA sA oA A (xs (i + 1)) (xs (i + 2)) f hT hC hW ho)
  rw [← hq] at hK
  refine ad_cZi S I (ad_ivS (As := [.ref x, .int (xs (i + 1)), .int (xs (i + 2)), .ref oA]) (rest := []) S Y_L_first w_487 w_488 w_0 ⟨by decide, by decide, np_L_first⟩ rfl d_law_943) hK Y_L_first hl.1 ⟨Nat.le_of_ble_eq_true rfl, Nat.le_of_ble_eq_true rfl⟩ (by show _ ≤ 601024; omega) (by show _ ≤ 7293034; omega) d_law_943 (fun hp1 H1 locs1 hA I => ?_)
  obtain ⟨hC1, ⟨f1, ho1, hz1⟩, hF1⟩ := hA
  have hM1 := hM.keep ho hne hF1
  obtain ⟨_, hm1⟩ := hM1.self
  refine lv_istore (lv' := [(5, .int (nI q.1.1)), (0, .ref b), (1, .ref x), (2, .ref m0), (3, .ref oA), (4, .int (nI i))]) hx hb d_law_946 hl (by decide) rfl (fun ls hl => ?_)
  refine lv_aload_n hx hb d_law_948 rfl (lv_at hl 3 rfl) ?_
  refine lv_aload_n hx hb d_law_949 rfl (lv_at hl 1 rfl) ?_
  refine lv_iload hx hb d_law_950 (lv_at hl 5 rfl) ?_
  refine lv_iconst (v := 1) hx hb d_law_952 (by decide) ?_
  refine lv_iadd hx hb d_law_953 ?_
  refine ad_top (y := .int (nI (i + 1))) (congrArg Value.int (nI_add i 1)) ?_
  refine va_sld hx hb hX hbl hbA I.S (vp_in_nI (show (i + 1) < L by omega) (by omega)) d_law_954 ?_
  refine ad_top (y := .int (xs (i + 1))) (congrArg (fun q => Value.int (xs q)) (show (nI (i + 1)).toNatClampNeg = (i + 1) from nI_clamp (by omega))) ?_
  refine lv_aload_n hx hb d_law_955 rfl (lv_at hl 1 rfl) ?_
  refine lv_iload hx hb d_law_956 (lv_at hl 5 rfl) ?_
  refine lv_iconst (v := 2) hx hb d_law_958 (by decide) ?_
  refine lv_iadd hx hb d_law_959 ?_
  refine ad_top (y := .int (nI (i + 2))) (congrArg Value.int (nI_add i 2)) ?_
  refine va_sld hx hb hX hbl hbA I.S (vp_in_nI (show (i + 2) < L by omega) (by omega)) d_law_960 ?_
  refine ad_top (y := .int (xs (i + 2))) (congrArg (fun q => Value.int (xs q)) (show (nI (i + 2)).toNatClampNeg = (i + 2) from nI_clamp (by omega))) ?_
  have hK := MP_eq (r_first l G s.heap.size hp1 m0 bs th A (xs (i + 1)) (xs (i + 2)) hM1 hW)
  rw [← hq] at hK
  refine ad_cZi S I (ad_ivV (As := [.int (xs (i + 1)), .int (xs (i + 2))]) (rest := []) S (ad_recv I hm1 K_Mod) w_695 w_696 w_697 Y_M_first ⟨by decide, by decide, np_M_first⟩ rfl d_law_961) hK Y_M_first hl.1 ⟨Nat.le_of_ble_eq_true rfl, Nat.le_of_ble_eq_true rfl⟩ (by show _ ≤ 601024; omega) (by show _ ≤ 7293034; omega) d_law_961 (fun hp2 H1 locs1 hA I => ?_)
  obtain ⟨hM2, hF2⟩ := hA
  have hC2 := hC1.far (mf_far hM1 hne hF2) (ad_I.e I)
  have ho2 := mf_out hM1 ho1 hF2
  obtain ⟨_, hm2⟩ := hM2.self
  refine lv_istore (lv' := [(6, .int q.1.2), (5, .int (nI q.1.1)), (0, .ref b), (1, .ref x), (2, .ref m0), (3, .ref oA), (4, .int (nI i))]) hx hb d_law_964 hl (by decide) rfl (fun ls hl => ?_)
  refine lv_aload_n hx hb d_law_966 rfl (lv_at hl 4 rfl) ?_
  refine ad_cPi S I (ad_ivV (As := []) (rest := []) S (ad_recv I hm2 K_Mod) w_594 w_595 w_596 Y_M_thrown ⟨by decide, by decide, np_M_thrown⟩ rfl d_law_967) (r_thrown l G s.heap.size hp2 m0 bs (nI q.1.1) q.2 hM2) Y_M_thrown hl.1 ⟨Nat.le_of_ble_eq_true rfl, Nat.le_of_ble_eq_true rfl⟩ (by show _ ≤ 601024; omega) (by show _ ≤ 7293034; omega) d_law_967 ?_
  refine lv_iload hx hb d_law_970 (lv_at hl 1 rfl) ?_
  refine lv_icmp_eq (tgt := 977) hx hb d_law_972 (by decide) (fun _ => ?_) (fun cc => absurd rfl cc)
  refine lv_iload hx hb d_law_977 (lv_at hl 1 rfl) ?_
  refine lv_if_ne (tgt := 994) hx hb d_law_979 (by decide) (fun c0 => ?_) (fun c0 => ?_)
  · refine lv_goto (tgt := 1269) hx hb d_law_994 (by decide) ?_
    exact W.widen (k := cells + 128) (n := slots + 12800) (by omega) (by omega) (hk hp2 _ _ q.2 _ f1 I hC2 hM2 ho2 (by rw [hq]; exact hW) ls (lv_sub hl [2, 3, 4, 5, 6] rfl))
  · have hn9 := n_first A (xs (i + 1)) (xs (i + 2))
    rw [← hq] at hn9
    have hz2 := hz1 ((nI_eq (b := 0) (by omega) (by omega)).mp c0)
    refine lv_aload_n hx hb d_law_982 rfl (lv_at hl 5 rfl) ?_
    refine lv_iconst (v := 0) hx hb d_law_983 (by decide) ?_
    refine ad_lald S I ho2 (show vp_in 0 1 by unfold vp_in; decide) d_law_984 ?_
    refine ad_top (y := .long (f1 0)) rfl ?_
    refine lv_iload hx hb d_law_985 (lv_at hl 0 rfl) ?_
    refine lv_i2l (v := q.1.2.toInt64) hx hb d_law_987 rfl ?_
    refine W.lcmp hx hb d_law_988 ?_
    refine lv_if_eq (tgt := 994) hx hb d_law_989 (by decide) (fun _ => ?_) (fun cc => absurd (ad_lcEq.mpr hz2) cc)
    refine lv_goto (tgt := 1269) hx hb d_law_994 (by decide) ?_
    exact W.widen (k := cells + 128) (n := slots + 12800) (by omega) (by omega) (hk hp2 _ _ q.2 _ f1 I hC2 hM2 ho2 (by rw [hq]; exact hW) ls (lv_sub hl [2, 3, 4, 5, 6] rfl))
set_option maxHeartbeats 4000000 in
set_option maxRecDepth 100000 in
theorem lw_c12 {p : Program} {e : Env} {s : State} {m : MethodId} {below : List Frame} {meth : Method} {c : Code} {Q : State → Prop} {l : Launch} {b L : Nat} {xs : Nat → Int32} {G : ad_G} {x gA sA m0 oA : Nat} {bs : Nat → Nat} {i : Nat} {hp : ad_H} {H : Heap} {locs : List Loc} {cells slots : Nat} {A : AST} {th : Int32} {f : Nat → Int64} {ls : Array Slot} (S : CallFix p m c code 7 s #[Value.ref b] ad_T "AuditDrawsLaw") (hT : l.stackTraces = false) (hX : va_X b L xs s s.heap) (hbl : b < s.heap.size) (hne : ∀ i, i < 11 → bs i ≠ gA ∧ bs i ≠ sA) (hi : i + 5 ≤ L) (hL : L ≤ 2560) (hcl : cells + 128 ≤ 601024) (hsl : slots + 12800 ≤ 7293034) (I : ad_I G s.heap.size s hp H locs) (hC : CRA G hp x gA sA A) (hM : MRA G hp m0 bs th A) (ho : hp oA = some (.inl (G.2.1 2, 1, .inr (.inl f)))) (hW : WF A) (hl : lv_has ls 7 [(0, .ref b), (1, .ref x), (2, .ref m0), (3, .ref oA), (4, .int (nI i))]) (hk : ∀ (hp' : ad_H) (H' : Heap) (locs' : List Loc) (A' : AST) (th' : Int32) (f' : Nat → Int64), ad_I G s.heap.size s hp' H' locs' → CRA G hp' x gA sA A' → MRA G hp' m0 bs th' A' → hp' oA = some (.inl (G.2.1 2, 1, .inr (.inl f'))) → WF A' → ∀ ls' : Array Slot, lv_has ls' 7 [(0, .ref b), (1, .ref x), (2, .ref m0), (3, .ref oA), (4, .int (nI i))] → W p l e room_1 s m #[Value.ref b] below meth c H' locs' (cells + 128) (slots + 12800) Q (F0 m 1269 ls' [])) : W p l e room_1 s m #[Value.ref b] below meth c H locs cells slots Q (F0 m 997 ls []) := by
  obtain ⟨hx, hb, hml, hown, hts⟩ := id S
  have hbA : ¬ (fun q => s.heap.size ≤ q) b := Nat.not_le.mpr hbl
  obtain ⟨_, hm9⟩ := hM.self
  obtain ⟨_, hx9⟩ := hC.self
  refine lv_aload_n hx hb d_law_997 rfl (lv_at hl 1 rfl) ?_
  refine lv_aload_n hx hb d_law_998 rfl (lv_at hl 0 rfl) ?_
  refine lv_iload hx hb d_law_999 (lv_at hl 4 rfl) ?_
  refine lv_iconst (v := 1) hx hb d_law_1001 (by decide) ?_
  refine lv_iadd hx hb d_law_1002 ?_
  refine ad_top (y := .int (nI (i + 1))) (congrArg Value.int (nI_add i 1)) ?_
  refine va_sld hx hb hX hbl hbA I.S (vp_in_nI (show (i + 1) < L by omega) (by omega)) d_law_1003 ?_
  refine ad_top (y := .int (xs (i + 1))) (congrArg (fun q => Value.int (xs q)) (show (nI (i + 1)).toNatClampNeg = (i + 1) from nI_clamp (by omega))) ?_
  refine lv_aload_n hx hb d_law_1004 rfl (lv_at hl 0 rfl) ?_
  refine lv_iload hx hb d_law_1005 (lv_at hl 4 rfl) ?_
  refine lv_iconst (v := 2) hx hb d_law_1007 (by decide) ?_
  refine lv_iadd hx hb d_law_1008 ?_
  refine ad_top (y := .int (nI (i + 2))) (congrArg Value.int (nI_add i 2)) ?_
  refine va_sld hx hb hX hbl hbA I.S (vp_in_nI (show (i + 2) < L by omega) (by omega)) d_law_1009 ?_
  refine ad_top (y := .int (xs (i + 2))) (congrArg (fun q => Value.int (xs q)) (show (nI (i + 2)).toNatClampNeg = (i + 2) from nI_clamp (by omega))) ?_
  refine lv_aload_n hx hb d_law_1010 rfl (lv_at hl 3 rfl) ?_
  obtain ⟨q, hq⟩ : ∃ q : (Nat × Int32) × AST, q = (q_fs f_seen A.1 (xs (i + 1)) (xs (i + 2)), A) := ⟨_, rfl⟩
  have hK := HP_eq (h_seen l G s.heap.size hp x gA sA oA A (xs (i + 1)) (xs (i + 2)) f hT hC hW ho)
  rw [← hq] at hK
  refine ad_cZi S I (ad_ivS (As := [.ref x, .int (xs (i + 1)), .int (xs (i + 2)), .ref oA]) (rest := []) S Y_L_seen w_505 w_506 w_0 ⟨by decide, by decide, np_L_seen⟩ rfl d_law_1011) hK Y_L_seen hl.1 ⟨Nat.le_of_ble_eq_true rfl, Nat.le_of_ble_eq_true rfl⟩ (by show _ ≤ 601024; omega) (by show _ ≤ 7293034; omega) d_law_1011 (fun hp1 H1 locs1 hA I => ?_)
  obtain ⟨hC1, ⟨f1, ho1, hz1⟩, hF1⟩ := hA
  have hM1 := hM.keep ho hne hF1
  obtain ⟨_, hm1⟩ := hM1.self
  refine lv_istore (lv' := [(5, .int (nI q.1.1)), (0, .ref b), (1, .ref x), (2, .ref m0), (3, .ref oA), (4, .int (nI i))]) hx hb d_law_1014 hl (by decide) rfl (fun ls hl => ?_)
  refine lv_aload_n hx hb d_law_1016 rfl (lv_at hl 3 rfl) ?_
  refine lv_aload_n hx hb d_law_1017 rfl (lv_at hl 1 rfl) ?_
  refine lv_iload hx hb d_law_1018 (lv_at hl 5 rfl) ?_
  refine lv_iconst (v := 1) hx hb d_law_1020 (by decide) ?_
  refine lv_iadd hx hb d_law_1021 ?_
  refine ad_top (y := .int (nI (i + 1))) (congrArg Value.int (nI_add i 1)) ?_
  refine va_sld hx hb hX hbl hbA I.S (vp_in_nI (show (i + 1) < L by omega) (by omega)) d_law_1022 ?_
  refine ad_top (y := .int (xs (i + 1))) (congrArg (fun q => Value.int (xs q)) (show (nI (i + 1)).toNatClampNeg = (i + 1) from nI_clamp (by omega))) ?_
  refine lv_aload_n hx hb d_law_1023 rfl (lv_at hl 1 rfl) ?_
  refine lv_iload hx hb d_law_1024 (lv_at hl 5 rfl) ?_
  refine lv_iconst (v := 2) hx hb d_law_1026 (by decide) ?_
  refine lv_iadd hx hb d_law_1027 ?_
  refine ad_top (y := .int (nI (i + 2))) (congrArg Value.int (nI_add i 2)) ?_
  refine va_sld hx hb hX hbl hbA I.S (vp_in_nI (show (i + 2) < L by omega) (by omega)) d_law_1028 ?_
  refine ad_top (y := .int (xs (i + 2))) (congrArg (fun q => Value.int (xs q)) (show (nI (i + 2)).toNatClampNeg = (i + 2) from nI_clamp (by omega))) ?_
  have hK := MP_eq (r_seen l G s.heap.size hp1 m0 bs th A (xs (i + 1)) (xs (i + 2)) hM1 hW)
  rw [← hq] at hK
  refine ad_cZi S I (ad_ivV (As := [.int (xs (i + 1)), .int (xs (i + 2))]) (rest := []) S (ad_recv I hm1 K_Mod) w_703 w_704 w_705 Y_M_seen ⟨by decide, by decide, np_M_seen⟩ rfl d_law_1029) hK Y_M_seen hl.1 ⟨Nat.le_of_ble_eq_true rfl, Nat.le_of_ble_eq_true rfl⟩ (by show _ ≤ 601024; omega) (by show _ ≤ 7293034; omega) d_law_1029 (fun hp2 H1 locs1 hA I => ?_)
  obtain ⟨hM2, hF2⟩ := hA
  have hC2 := hC1.far (mf_far hM1 hne hF2) (ad_I.e I)
  have ho2 := mf_out hM1 ho1 hF2
  obtain ⟨_, hm2⟩ := hM2.self
  refine lv_istore (lv' := [(6, .int q.1.2), (5, .int (nI q.1.1)), (0, .ref b), (1, .ref x), (2, .ref m0), (3, .ref oA), (4, .int (nI i))]) hx hb d_law_1032 hl (by decide) rfl (fun ls hl => ?_)
  refine lv_aload_n hx hb d_law_1034 rfl (lv_at hl 4 rfl) ?_
  refine ad_cPi S I (ad_ivV (As := []) (rest := []) S (ad_recv I hm2 K_Mod) w_594 w_595 w_596 Y_M_thrown ⟨by decide, by decide, np_M_thrown⟩ rfl d_law_1035) (r_thrown l G s.heap.size hp2 m0 bs (nI q.1.1) q.2 hM2) Y_M_thrown hl.1 ⟨Nat.le_of_ble_eq_true rfl, Nat.le_of_ble_eq_true rfl⟩ (by show _ ≤ 601024; omega) (by show _ ≤ 7293034; omega) d_law_1035 ?_
  refine lv_iload hx hb d_law_1038 (lv_at hl 1 rfl) ?_
  refine lv_icmp_eq (tgt := 1045) hx hb d_law_1040 (by decide) (fun _ => ?_) (fun cc => absurd rfl cc)
  refine lv_iload hx hb d_law_1045 (lv_at hl 1 rfl) ?_
  refine lv_if_ne (tgt := 1062) hx hb d_law_1047 (by decide) (fun c0 => ?_) (fun c0 => ?_)
  · refine lv_goto (tgt := 1269) hx hb d_law_1062 (by decide) ?_
    exact W.widen (k := cells + 128) (n := slots + 12800) (by omega) (by omega) (hk hp2 _ _ q.2 _ f1 I hC2 hM2 ho2 (by rw [hq]; exact hW) ls (lv_sub hl [2, 3, 4, 5, 6] rfl))
  · have hn9 := n_seen A (xs (i + 1)) (xs (i + 2))
    rw [← hq] at hn9
    have hz2 := hz1 ((nI_eq (b := 0) (by omega) (by omega)).mp c0)
    refine lv_aload_n hx hb d_law_1050 rfl (lv_at hl 5 rfl) ?_
    refine lv_iconst (v := 0) hx hb d_law_1051 (by decide) ?_
    refine ad_lald S I ho2 (show vp_in 0 1 by unfold vp_in; decide) d_law_1052 ?_
    refine ad_top (y := .long (f1 0)) rfl ?_
    refine lv_iload hx hb d_law_1053 (lv_at hl 0 rfl) ?_
    refine lv_i2l (v := q.1.2.toInt64) hx hb d_law_1055 rfl ?_
    refine W.lcmp hx hb d_law_1056 ?_
    refine lv_if_eq (tgt := 1062) hx hb d_law_1057 (by decide) (fun _ => ?_) (fun cc => absurd (ad_lcEq.mpr hz2) cc)
    refine lv_goto (tgt := 1269) hx hb d_law_1062 (by decide) ?_
    exact W.widen (k := cells + 128) (n := slots + 12800) (by omega) (by omega) (hk hp2 _ _ q.2 _ f1 I hC2 hM2 ho2 (by rw [hq]; exact hW) ls (lv_sub hl [2, 3, 4, 5, 6] rfl))
set_option maxHeartbeats 4000000 in
set_option maxRecDepth 100000 in
theorem lw_c13 {p : Program} {e : Env} {s : State} {m : MethodId} {below : List Frame} {meth : Method} {c : Code} {Q : State → Prop} {l : Launch} {b L : Nat} {xs : Nat → Int32} {G : ad_G} {x gA sA m0 oA : Nat} {bs : Nat → Nat} {i : Nat} {hp : ad_H} {H : Heap} {locs : List Loc} {cells slots : Nat} {A : AST} {th : Int32} {f : Nat → Int64} {ls : Array Slot} (S : CallFix p m c code 7 s #[Value.ref b] ad_T "AuditDrawsLaw") (hT : l.stackTraces = false) (hX : va_X b L xs s s.heap) (hbl : b < s.heap.size) (hne : ∀ i, i < 11 → bs i ≠ gA ∧ bs i ≠ sA) (hi : i + 5 ≤ L) (hL : L ≤ 2560) (hcl : cells + 128 ≤ 601024) (hsl : slots + 12800 ≤ 7293034) (I : ad_I G s.heap.size s hp H locs) (hC : CRA G hp x gA sA A) (hM : MRA G hp m0 bs th A) (ho : hp oA = some (.inl (G.2.1 2, 1, .inr (.inl f)))) (hW : WF A) (hl : lv_has ls 7 [(0, .ref b), (1, .ref x), (2, .ref m0), (3, .ref oA), (4, .int (nI i))]) (hk : ∀ (hp' : ad_H) (H' : Heap) (locs' : List Loc) (A' : AST) (th' : Int32) (f' : Nat → Int64), ad_I G s.heap.size s hp' H' locs' → CRA G hp' x gA sA A' → MRA G hp' m0 bs th' A' → hp' oA = some (.inl (G.2.1 2, 1, .inr (.inl f'))) → WF A' → ∀ ls' : Array Slot, lv_has ls' 7 [(0, .ref b), (1, .ref x), (2, .ref m0), (3, .ref oA), (4, .int (nI i))] → W p l e room_1 s m #[Value.ref b] below meth c H' locs' (cells + 128) (slots + 12800) Q (F0 m 1269 ls' [])) : W p l e room_1 s m #[Value.ref b] below meth c H locs cells slots Q (F0 m 1065 ls []) := by
  obtain ⟨hx, hb, hml, hown, hts⟩ := id S
  have hbA : ¬ (fun q => s.heap.size ≤ q) b := Nat.not_le.mpr hbl
  obtain ⟨_, hm9⟩ := hM.self
  obtain ⟨_, hx9⟩ := hC.self
  refine lv_aload_n hx hb d_law_1065 rfl (lv_at hl 1 rfl) ?_
  refine lv_aload_n hx hb d_law_1066 rfl (lv_at hl 0 rfl) ?_
  refine lv_iload hx hb d_law_1067 (lv_at hl 4 rfl) ?_
  refine lv_iconst (v := 1) hx hb d_law_1069 (by decide) ?_
  refine lv_iadd hx hb d_law_1070 ?_
  refine ad_top (y := .int (nI (i + 1))) (congrArg Value.int (nI_add i 1)) ?_
  refine va_sld hx hb hX hbl hbA I.S (vp_in_nI (show (i + 1) < L by omega) (by omega)) d_law_1071 ?_
  refine ad_top (y := .int (xs (i + 1))) (congrArg (fun q => Value.int (xs q)) (show (nI (i + 1)).toNatClampNeg = (i + 1) from nI_clamp (by omega))) ?_
  refine lv_aload_n hx hb d_law_1072 rfl (lv_at hl 0 rfl) ?_
  refine lv_iload hx hb d_law_1073 (lv_at hl 4 rfl) ?_
  refine lv_iconst (v := 2) hx hb d_law_1075 (by decide) ?_
  refine lv_iadd hx hb d_law_1076 ?_
  refine ad_top (y := .int (nI (i + 2))) (congrArg Value.int (nI_add i 2)) ?_
  refine va_sld hx hb hX hbl hbA I.S (vp_in_nI (show (i + 2) < L by omega) (by omega)) d_law_1077 ?_
  refine ad_top (y := .int (xs (i + 2))) (congrArg (fun q => Value.int (xs q)) (show (nI (i + 2)).toNatClampNeg = (i + 2) from nI_clamp (by omega))) ?_
  refine lv_aload_n hx hb d_law_1078 rfl (lv_at hl 3 rfl) ?_
  obtain ⟨q, hq⟩ : ∃ q : (Nat × Int32) × AST, q = ((q_wt A.1 (xs (i + 1)) (xs (i + 2))).1, ((q_wt A.1 (xs (i + 1)) (xs (i + 2))).2, A.2.1, A.2.2)) := ⟨_, rfl⟩
  have hK := HP_eq (h_weight l G s.heap.size hp x gA sA oA A (xs (i + 1)) (xs (i + 2)) f hT hC hW ho)
  rw [← hq] at hK
  refine ad_cZi S I (ad_ivS (As := [.ref x, .int (xs (i + 1)), .int (xs (i + 2)), .ref oA]) (rest := []) S Y_L_weight w_512 w_513 w_0 ⟨by decide, by decide, np_L_weight⟩ rfl d_law_1079) hK Y_L_weight hl.1 ⟨Nat.le_of_ble_eq_true rfl, Nat.le_of_ble_eq_true rfl⟩ (by show _ ≤ 601024; omega) (by show _ ≤ 7293034; omega) d_law_1079 (fun hp1 H1 locs1 hA I => ?_)
  obtain ⟨hC1, ⟨f1, ho1, hz1⟩, hF1⟩ := hA
  have hM1 := hM.keep ho hne hF1
  obtain ⟨_, hm1⟩ := hM1.self
  refine lv_istore (lv' := [(5, .int (nI q.1.1)), (0, .ref b), (1, .ref x), (2, .ref m0), (3, .ref oA), (4, .int (nI i))]) hx hb d_law_1082 hl (by decide) rfl (fun ls hl => ?_)
  refine lv_aload_n hx hb d_law_1084 rfl (lv_at hl 3 rfl) ?_
  refine lv_aload_n hx hb d_law_1085 rfl (lv_at hl 1 rfl) ?_
  refine lv_iload hx hb d_law_1086 (lv_at hl 5 rfl) ?_
  refine lv_iconst (v := 1) hx hb d_law_1088 (by decide) ?_
  refine lv_iadd hx hb d_law_1089 ?_
  refine ad_top (y := .int (nI (i + 1))) (congrArg Value.int (nI_add i 1)) ?_
  refine va_sld hx hb hX hbl hbA I.S (vp_in_nI (show (i + 1) < L by omega) (by omega)) d_law_1090 ?_
  refine ad_top (y := .int (xs (i + 1))) (congrArg (fun q => Value.int (xs q)) (show (nI (i + 1)).toNatClampNeg = (i + 1) from nI_clamp (by omega))) ?_
  refine lv_aload_n hx hb d_law_1091 rfl (lv_at hl 1 rfl) ?_
  refine lv_iload hx hb d_law_1092 (lv_at hl 5 rfl) ?_
  refine lv_iconst (v := 2) hx hb d_law_1094 (by decide) ?_
  refine lv_iadd hx hb d_law_1095 ?_
  refine ad_top (y := .int (nI (i + 2))) (congrArg Value.int (nI_add i 2)) ?_
  refine va_sld hx hb hX hbl hbA I.S (vp_in_nI (show (i + 2) < L by omega) (by omega)) d_law_1096 ?_
  refine ad_top (y := .int (xs (i + 2))) (congrArg (fun q => Value.int (xs q)) (show (nI (i + 2)).toNatClampNeg = (i + 2) from nI_clamp (by omega))) ?_
  have hK := MP_eq (r_weight l G s.heap.size hp1 m0 bs th A (xs (i + 1)) (xs (i + 2)) hM1 hW)
  rw [← hq] at hK
  refine ad_cZi S I (ad_ivV (As := [.int (xs (i + 1)), .int (xs (i + 2))]) (rest := []) S (ad_recv I hm1 K_Mod) w_707 w_708 w_709 Y_M_weight ⟨by decide, by decide, np_M_weight⟩ rfl d_law_1097) hK Y_M_weight hl.1 ⟨Nat.le_of_ble_eq_true rfl, Nat.le_of_ble_eq_true rfl⟩ (by show _ ≤ 601024; omega) (by show _ ≤ 7293034; omega) d_law_1097 (fun hp2 H1 locs1 hA I => ?_)
  obtain ⟨hM2, hF2⟩ := hA
  have hC2 := hC1.far (mf_far hM1 hne hF2) (ad_I.e I)
  have ho2 := mf_out hM1 ho1 hF2
  obtain ⟨_, hm2⟩ := hM2.self
  refine lv_istore (lv' := [(6, .int q.1.2), (5, .int (nI q.1.1)), (0, .ref b), (1, .ref x), (2, .ref m0), (3, .ref oA), (4, .int (nI i))]) hx hb d_law_1100 hl (by decide) rfl (fun ls hl => ?_)
  refine lv_aload_n hx hb d_law_1102 rfl (lv_at hl 4 rfl) ?_
  refine ad_cPi S I (ad_ivV (As := []) (rest := []) S (ad_recv I hm2 K_Mod) w_594 w_595 w_596 Y_M_thrown ⟨by decide, by decide, np_M_thrown⟩ rfl d_law_1103) (r_thrown l G s.heap.size hp2 m0 bs (nI q.1.1) q.2 hM2) Y_M_thrown hl.1 ⟨Nat.le_of_ble_eq_true rfl, Nat.le_of_ble_eq_true rfl⟩ (by show _ ≤ 601024; omega) (by show _ ≤ 7293034; omega) d_law_1103 ?_
  refine lv_iload hx hb d_law_1106 (lv_at hl 1 rfl) ?_
  refine lv_icmp_eq (tgt := 1113) hx hb d_law_1108 (by decide) (fun _ => ?_) (fun cc => absurd rfl cc)
  refine lv_iload hx hb d_law_1113 (lv_at hl 1 rfl) ?_
  refine lv_if_ne (tgt := 1130) hx hb d_law_1115 (by decide) (fun c0 => ?_) (fun c0 => ?_)
  · refine lv_goto (tgt := 1269) hx hb d_law_1130 (by decide) ?_
    exact W.widen (k := cells + 128) (n := slots + 12800) (by omega) (by omega) (hk hp2 _ _ q.2 _ f1 I hC2 hM2 ho2 (by rw [hq]; exact hW.wt (xs (i + 1)) (xs (i + 2))) ls (lv_sub hl [2, 3, 4, 5, 6] rfl))
  · have hn9 := n_weight A (xs (i + 1)) (xs (i + 2))
    rw [← hq] at hn9
    have hz2 := hz1 ((nI_eq (b := 0) (by omega) (by omega)).mp c0)
    refine lv_aload_n hx hb d_law_1118 rfl (lv_at hl 5 rfl) ?_
    refine lv_iconst (v := 0) hx hb d_law_1119 (by decide) ?_
    refine ad_lald S I ho2 (show vp_in 0 1 by unfold vp_in; decide) d_law_1120 ?_
    refine ad_top (y := .long (f1 0)) rfl ?_
    refine lv_iload hx hb d_law_1121 (lv_at hl 0 rfl) ?_
    refine lv_i2l (v := q.1.2.toInt64) hx hb d_law_1123 rfl ?_
    refine W.lcmp hx hb d_law_1124 ?_
    refine lv_if_eq (tgt := 1130) hx hb d_law_1125 (by decide) (fun _ => ?_) (fun cc => absurd (ad_lcEq.mpr hz2) cc)
    refine lv_goto (tgt := 1269) hx hb d_law_1130 (by decide) ?_
    exact W.widen (k := cells + 128) (n := slots + 12800) (by omega) (by omega) (hk hp2 _ _ q.2 _ f1 I hC2 hM2 ho2 (by rw [hq]; exact hW.wt (xs (i + 1)) (xs (i + 2))) ls (lv_sub hl [2, 3, 4, 5, 6] rfl))
set_option maxHeartbeats 4000000 in
set_option maxRecDepth 100000 in
theorem lw_c14 {p : Program} {e : Env} {s : State} {m : MethodId} {below : List Frame} {meth : Method} {c : Code} {Q : State → Prop} {l : Launch} {b L : Nat} {xs : Nat → Int32} {G : ad_G} {x gA sA m0 oA : Nat} {bs : Nat → Nat} {i : Nat} {hp : ad_H} {H : Heap} {locs : List Loc} {cells slots : Nat} {A : AST} {th : Int32} {f : Nat → Int64} {ls : Array Slot} (S : CallFix p m c code 7 s #[Value.ref b] ad_T "AuditDrawsLaw") (hT : l.stackTraces = false) (hX : va_X b L xs s s.heap) (hbl : b < s.heap.size) (hne : ∀ i, i < 11 → bs i ≠ gA ∧ bs i ≠ sA) (hi : i + 5 ≤ L) (hL : L ≤ 2560) (hcl : cells + 128 ≤ 601024) (hsl : slots + 12800 ≤ 7293034) (I : ad_I G s.heap.size s hp H locs) (hC : CRA G hp x gA sA A) (hM : MRA G hp m0 bs th A) (ho : hp oA = some (.inl (G.2.1 2, 1, .inr (.inl f)))) (hW : WF A) (hl : lv_has ls 7 [(0, .ref b), (1, .ref x), (2, .ref m0), (3, .ref oA), (4, .int (nI i))]) (hk : ∀ (hp' : ad_H) (H' : Heap) (locs' : List Loc) (A' : AST) (th' : Int32) (f' : Nat → Int64), ad_I G s.heap.size s hp' H' locs' → CRA G hp' x gA sA A' → MRA G hp' m0 bs th' A' → hp' oA = some (.inl (G.2.1 2, 1, .inr (.inl f'))) → WF A' → ∀ ls' : Array Slot, lv_has ls' 7 [(0, .ref b), (1, .ref x), (2, .ref m0), (3, .ref oA), (4, .int (nI i))] → W p l e room_1 s m #[Value.ref b] below meth c H' locs' (cells + 128) (slots + 12800) Q (F0 m 1269 ls' [])) : W p l e room_1 s m #[Value.ref b] below meth c H locs cells slots Q (F0 m 1133 ls []) := by
  obtain ⟨hx, hb, hml, hown, hts⟩ := id S
  have hbA : ¬ (fun q => s.heap.size ≤ q) b := Nat.not_le.mpr hbl
  obtain ⟨_, hm9⟩ := hM.self
  obtain ⟨_, hx9⟩ := hC.self
  refine lv_aload_n hx hb d_law_1133 rfl (lv_at hl 1 rfl) ?_
  refine lv_aload_n hx hb d_law_1134 rfl (lv_at hl 0 rfl) ?_
  refine lv_iload hx hb d_law_1135 (lv_at hl 4 rfl) ?_
  refine lv_iconst (v := 1) hx hb d_law_1137 (by decide) ?_
  refine lv_iadd hx hb d_law_1138 ?_
  refine ad_top (y := .int (nI (i + 1))) (congrArg Value.int (nI_add i 1)) ?_
  refine va_sld hx hb hX hbl hbA I.S (vp_in_nI (show (i + 1) < L by omega) (by omega)) d_law_1139 ?_
  refine ad_top (y := .int (xs (i + 1))) (congrArg (fun q => Value.int (xs q)) (show (nI (i + 1)).toNatClampNeg = (i + 1) from nI_clamp (by omega))) ?_
  refine lv_aload_n hx hb d_law_1140 rfl (lv_at hl 0 rfl) ?_
  refine lv_iload hx hb d_law_1141 (lv_at hl 4 rfl) ?_
  refine lv_iconst (v := 2) hx hb d_law_1143 (by decide) ?_
  refine lv_iadd hx hb d_law_1144 ?_
  refine ad_top (y := .int (nI (i + 2))) (congrArg Value.int (nI_add i 2)) ?_
  refine va_sld hx hb hX hbl hbA I.S (vp_in_nI (show (i + 2) < L by omega) (by omega)) d_law_1145 ?_
  refine ad_top (y := .int (xs (i + 2))) (congrArg (fun q => Value.int (xs q)) (show (nI (i + 2)).toNatClampNeg = (i + 2) from nI_clamp (by omega))) ?_
  refine lv_aload_n hx hb d_law_1146 rfl (lv_at hl 3 rfl) ?_
  obtain ⟨q, hq⟩ : ∃ q : (Nat × Int32) × AST, q = (q_rp (fun t => decide (t.2.2.1 = (xs (i + 1)))) A.1 4 (xs (i + 1)) (xs (i + 2)), A) := ⟨_, rfl⟩
  have hK := HP_eq (h_report l G s.heap.size hp x gA sA oA A (xs (i + 1)) (xs (i + 2)) f hT hC hW ho)
  rw [← hq] at hK
  refine ad_cZi S I (ad_ivS (As := [.ref x, .int (xs (i + 1)), .int (xs (i + 2)), .ref oA]) (rest := []) S Y_L_report w_524 w_525 w_0 ⟨by decide, by decide, np_L_report⟩ rfl d_law_1147) hK Y_L_report hl.1 ⟨Nat.le_of_ble_eq_true rfl, Nat.le_of_ble_eq_true rfl⟩ (by show _ ≤ 601024; omega) (by show _ ≤ 7293034; omega) d_law_1147 (fun hp1 H1 locs1 hA I => ?_)
  obtain ⟨hC1, ⟨f1, ho1, hz1⟩, hF1⟩ := hA
  have hM1 := hM.keep ho hne hF1
  obtain ⟨_, hm1⟩ := hM1.self
  refine lv_istore (lv' := [(5, .int (nI q.1.1)), (0, .ref b), (1, .ref x), (2, .ref m0), (3, .ref oA), (4, .int (nI i))]) hx hb d_law_1150 hl (by decide) rfl (fun ls hl => ?_)
  refine lv_aload_n hx hb d_law_1152 rfl (lv_at hl 3 rfl) ?_
  refine lv_aload_n hx hb d_law_1153 rfl (lv_at hl 1 rfl) ?_
  refine lv_iload hx hb d_law_1154 (lv_at hl 5 rfl) ?_
  refine lv_iconst (v := 1) hx hb d_law_1156 (by decide) ?_
  refine lv_iadd hx hb d_law_1157 ?_
  refine ad_top (y := .int (nI (i + 1))) (congrArg Value.int (nI_add i 1)) ?_
  refine va_sld hx hb hX hbl hbA I.S (vp_in_nI (show (i + 1) < L by omega) (by omega)) d_law_1158 ?_
  refine ad_top (y := .int (xs (i + 1))) (congrArg (fun q => Value.int (xs q)) (show (nI (i + 1)).toNatClampNeg = (i + 1) from nI_clamp (by omega))) ?_
  refine lv_aload_n hx hb d_law_1159 rfl (lv_at hl 1 rfl) ?_
  refine lv_iload hx hb d_law_1160 (lv_at hl 5 rfl) ?_
  refine lv_iconst (v := 2) hx hb d_law_1162 (by decide) ?_
  refine lv_iadd hx hb d_law_1163 ?_
  refine ad_top (y := .int (nI (i + 2))) (congrArg Value.int (nI_add i 2)) ?_
  refine va_sld hx hb hX hbl hbA I.S (vp_in_nI (show (i + 2) < L by omega) (by omega)) d_law_1164 ?_
  refine ad_top (y := .int (xs (i + 2))) (congrArg (fun q => Value.int (xs q)) (show (nI (i + 2)).toNatClampNeg = (i + 2) from nI_clamp (by omega))) ?_
  have hK := MP_eq (r_report l G s.heap.size hp1 m0 bs th A (xs (i + 1)) (xs (i + 2)) hM1 hW)
  rw [← hq] at hK
  refine ad_cZi S I (ad_ivV (As := [.int (xs (i + 1)), .int (xs (i + 2))]) (rest := []) S (ad_recv I hm1 K_Mod) w_712 w_713 w_714 Y_M_report ⟨by decide, by decide, np_M_report⟩ rfl d_law_1165) hK Y_M_report hl.1 ⟨Nat.le_of_ble_eq_true rfl, Nat.le_of_ble_eq_true rfl⟩ (by show _ ≤ 601024; omega) (by show _ ≤ 7293034; omega) d_law_1165 (fun hp2 H1 locs1 hA I => ?_)
  obtain ⟨hM2, hF2⟩ := hA
  have hC2 := hC1.far (mf_far hM1 hne hF2) (ad_I.e I)
  have ho2 := mf_out hM1 ho1 hF2
  obtain ⟨_, hm2⟩ := hM2.self
  refine lv_istore (lv' := [(6, .int q.1.2), (5, .int (nI q.1.1)), (0, .ref b), (1, .ref x), (2, .ref m0), (3, .ref oA), (4, .int (nI i))]) hx hb d_law_1168 hl (by decide) rfl (fun ls hl => ?_)
  refine lv_aload_n hx hb d_law_1170 rfl (lv_at hl 4 rfl) ?_
  refine ad_cPi S I (ad_ivV (As := []) (rest := []) S (ad_recv I hm2 K_Mod) w_594 w_595 w_596 Y_M_thrown ⟨by decide, by decide, np_M_thrown⟩ rfl d_law_1171) (r_thrown l G s.heap.size hp2 m0 bs (nI q.1.1) q.2 hM2) Y_M_thrown hl.1 ⟨Nat.le_of_ble_eq_true rfl, Nat.le_of_ble_eq_true rfl⟩ (by show _ ≤ 601024; omega) (by show _ ≤ 7293034; omega) d_law_1171 ?_
  refine lv_iload hx hb d_law_1174 (lv_at hl 1 rfl) ?_
  refine lv_icmp_eq (tgt := 1181) hx hb d_law_1176 (by decide) (fun _ => ?_) (fun cc => absurd rfl cc)
  refine lv_iload hx hb d_law_1181 (lv_at hl 1 rfl) ?_
  refine lv_if_ne (tgt := 1198) hx hb d_law_1183 (by decide) (fun c0 => ?_) (fun c0 => ?_)
  · refine lv_goto (tgt := 1269) hx hb d_law_1198 (by decide) ?_
    exact W.widen (k := cells + 128) (n := slots + 12800) (by omega) (by omega) (hk hp2 _ _ q.2 _ f1 I hC2 hM2 ho2 (by rw [hq]; exact hW) ls (lv_sub hl [2, 3, 4, 5, 6] rfl))
  · have hn9 := n_report A (xs (i + 1)) (xs (i + 2))
    rw [← hq] at hn9
    have hz2 := hz1 ((nI_eq (b := 0) (by omega) (by omega)).mp c0)
    refine lv_aload_n hx hb d_law_1186 rfl (lv_at hl 5 rfl) ?_
    refine lv_iconst (v := 0) hx hb d_law_1187 (by decide) ?_
    refine ad_lald S I ho2 (show vp_in 0 1 by unfold vp_in; decide) d_law_1188 ?_
    refine ad_top (y := .long (f1 0)) rfl ?_
    refine lv_iload hx hb d_law_1189 (lv_at hl 0 rfl) ?_
    refine lv_i2l (v := q.1.2.toInt64) hx hb d_law_1191 rfl ?_
    refine W.lcmp hx hb d_law_1192 ?_
    refine lv_if_eq (tgt := 1198) hx hb d_law_1193 (by decide) (fun _ => ?_) (fun cc => absurd (ad_lcEq.mpr hz2) cc)
    refine lv_goto (tgt := 1269) hx hb d_law_1198 (by decide) ?_
    exact W.widen (k := cells + 128) (n := slots + 12800) (by omega) (by omega) (hk hp2 _ _ q.2 _ f1 I hC2 hM2 ho2 (by rw [hq]; exact hW) ls (lv_sub hl [2, 3, 4, 5, 6] rfl))
set_option maxHeartbeats 4000000 in
set_option maxRecDepth 100000 in
theorem lw_c15 {p : Program} {e : Env} {s : State} {m : MethodId} {below : List Frame} {meth : Method} {c : Code} {Q : State → Prop} {l : Launch} {b L : Nat} {xs : Nat → Int32} {G : ad_G} {x gA sA m0 oA : Nat} {bs : Nat → Nat} {i : Nat} {hp : ad_H} {H : Heap} {locs : List Loc} {cells slots : Nat} {A : AST} {th : Int32} {f : Nat → Int64} {ls : Array Slot} (S : CallFix p m c code 7 s #[Value.ref b] ad_T "AuditDrawsLaw") (hT : l.stackTraces = false) (hX : va_X b L xs s s.heap) (hbl : b < s.heap.size) (hne : ∀ i, i < 11 → bs i ≠ gA ∧ bs i ≠ sA) (hi : i + 5 ≤ L) (hL : L ≤ 2560) (hcl : cells + 128 ≤ 601024) (hsl : slots + 12800 ≤ 7293034) (I : ad_I G s.heap.size s hp H locs) (hC : CRA G hp x gA sA A) (hM : MRA G hp m0 bs th A) (ho : hp oA = some (.inl (G.2.1 2, 1, .inr (.inl f)))) (hW : WF A) (hl : lv_has ls 7 [(0, .ref b), (1, .ref x), (2, .ref m0), (3, .ref oA), (4, .int (nI i))]) (hk : ∀ (hp' : ad_H) (H' : Heap) (locs' : List Loc) (A' : AST) (th' : Int32) (f' : Nat → Int64), ad_I G s.heap.size s hp' H' locs' → CRA G hp' x gA sA A' → MRA G hp' m0 bs th' A' → hp' oA = some (.inl (G.2.1 2, 1, .inr (.inl f'))) → WF A' → ∀ ls' : Array Slot, lv_has ls' 7 [(0, .ref b), (1, .ref x), (2, .ref m0), (3, .ref oA), (4, .int (nI i))] → W p l e room_1 s m #[Value.ref b] below meth c H' locs' (cells + 128) (slots + 12800) Q (F0 m 1269 ls' [])) : W p l e room_1 s m #[Value.ref b] below meth c H locs cells slots Q (F0 m 1201 ls []) := by
  obtain ⟨hx, hb, hml, hown, hts⟩ := id S
  have hbA : ¬ (fun q => s.heap.size ≤ q) b := Nat.not_le.mpr hbl
  obtain ⟨_, hm9⟩ := hM.self
  obtain ⟨_, hx9⟩ := hC.self
  refine lv_aload_n hx hb d_law_1201 rfl (lv_at hl 1 rfl) ?_
  refine lv_aload_n hx hb d_law_1202 rfl (lv_at hl 0 rfl) ?_
  refine lv_iload hx hb d_law_1203 (lv_at hl 4 rfl) ?_
  refine lv_iconst (v := 1) hx hb d_law_1205 (by decide) ?_
  refine lv_iadd hx hb d_law_1206 ?_
  refine ad_top (y := .int (nI (i + 1))) (congrArg Value.int (nI_add i 1)) ?_
  refine va_sld hx hb hX hbl hbA I.S (vp_in_nI (show (i + 1) < L by omega) (by omega)) d_law_1207 ?_
  refine ad_top (y := .int (xs (i + 1))) (congrArg (fun q => Value.int (xs q)) (show (nI (i + 1)).toNatClampNeg = (i + 1) from nI_clamp (by omega))) ?_
  refine lv_aload_n hx hb d_law_1208 rfl (lv_at hl 0 rfl) ?_
  refine lv_iload hx hb d_law_1209 (lv_at hl 4 rfl) ?_
  refine lv_iconst (v := 2) hx hb d_law_1211 (by decide) ?_
  refine lv_iadd hx hb d_law_1212 ?_
  refine ad_top (y := .int (nI (i + 2))) (congrArg Value.int (nI_add i 2)) ?_
  refine va_sld hx hb hX hbl hbA I.S (vp_in_nI (show (i + 2) < L by omega) (by omega)) d_law_1213 ?_
  refine ad_top (y := .int (xs (i + 2))) (congrArg (fun q => Value.int (xs q)) (show (nI (i + 2)).toNatClampNeg = (i + 2) from nI_clamp (by omega))) ?_
  refine lv_aload_n hx hb d_law_1214 rfl (lv_at hl 3 rfl) ?_
  obtain ⟨q, hq⟩ : ∃ q : (Nat × Int32) × AST, q = (q_rp (fun t => decide (t.2.1 = (xs (i + 1)))) A.1 16 (xs (i + 1)) (xs (i + 2)), A) := ⟨_, rfl⟩
  have hK := HP_eq (h_room l G s.heap.size hp x gA sA oA A (xs (i + 1)) (xs (i + 2)) f hT hC hW ho)
  rw [← hq] at hK
  refine ad_cZi S I (ad_ivS (As := [.ref x, .int (xs (i + 1)), .int (xs (i + 2)), .ref oA]) (rest := []) S Y_L_room w_535 w_536 w_0 ⟨by decide, by decide, np_L_room⟩ rfl d_law_1215) hK Y_L_room hl.1 ⟨Nat.le_of_ble_eq_true rfl, Nat.le_of_ble_eq_true rfl⟩ (by show _ ≤ 601024; omega) (by show _ ≤ 7293034; omega) d_law_1215 (fun hp1 H1 locs1 hA I => ?_)
  obtain ⟨hC1, ⟨f1, ho1, hz1⟩, hF1⟩ := hA
  have hM1 := hM.keep ho hne hF1
  obtain ⟨_, hm1⟩ := hM1.self
  refine lv_istore (lv' := [(5, .int (nI q.1.1)), (0, .ref b), (1, .ref x), (2, .ref m0), (3, .ref oA), (4, .int (nI i))]) hx hb d_law_1218 hl (by decide) rfl (fun ls hl => ?_)
  refine lv_aload_n hx hb d_law_1220 rfl (lv_at hl 3 rfl) ?_
  refine lv_aload_n hx hb d_law_1221 rfl (lv_at hl 1 rfl) ?_
  refine lv_iload hx hb d_law_1222 (lv_at hl 5 rfl) ?_
  refine lv_iconst (v := 1) hx hb d_law_1224 (by decide) ?_
  refine lv_iadd hx hb d_law_1225 ?_
  refine ad_top (y := .int (nI (i + 1))) (congrArg Value.int (nI_add i 1)) ?_
  refine va_sld hx hb hX hbl hbA I.S (vp_in_nI (show (i + 1) < L by omega) (by omega)) d_law_1226 ?_
  refine ad_top (y := .int (xs (i + 1))) (congrArg (fun q => Value.int (xs q)) (show (nI (i + 1)).toNatClampNeg = (i + 1) from nI_clamp (by omega))) ?_
  refine lv_aload_n hx hb d_law_1227 rfl (lv_at hl 1 rfl) ?_
  refine lv_iload hx hb d_law_1228 (lv_at hl 5 rfl) ?_
  refine lv_iconst (v := 2) hx hb d_law_1230 (by decide) ?_
  refine lv_iadd hx hb d_law_1231 ?_
  refine ad_top (y := .int (nI (i + 2))) (congrArg Value.int (nI_add i 2)) ?_
  refine va_sld hx hb hX hbl hbA I.S (vp_in_nI (show (i + 2) < L by omega) (by omega)) d_law_1232 ?_
  refine ad_top (y := .int (xs (i + 2))) (congrArg (fun q => Value.int (xs q)) (show (nI (i + 2)).toNatClampNeg = (i + 2) from nI_clamp (by omega))) ?_
  have hK := MP_eq (r_room l G s.heap.size hp1 m0 bs th A (xs (i + 1)) (xs (i + 2)) hM1 hW)
  rw [← hq] at hK
  refine ad_cZi S I (ad_ivV (As := [.int (xs (i + 1)), .int (xs (i + 2))]) (rest := []) S (ad_recv I hm1 K_Mod) w_717 w_718 w_719 Y_M_room ⟨by decide, by decide, np_M_room⟩ rfl d_law_1233) hK Y_M_room hl.1 ⟨Nat.le_of_ble_eq_true rfl, Nat.le_of_ble_eq_true rfl⟩ (by show _ ≤ 601024; omega) (by show _ ≤ 7293034; omega) d_law_1233 (fun hp2 H1 locs1 hA I => ?_)
  obtain ⟨hM2, hF2⟩ := hA
  have hC2 := hC1.far (mf_far hM1 hne hF2) (ad_I.e I)
  have ho2 := mf_out hM1 ho1 hF2
  obtain ⟨_, hm2⟩ := hM2.self
  refine lv_istore (lv' := [(6, .int q.1.2), (5, .int (nI q.1.1)), (0, .ref b), (1, .ref x), (2, .ref m0), (3, .ref oA), (4, .int (nI i))]) hx hb d_law_1236 hl (by decide) rfl (fun ls hl => ?_)
  refine lv_aload_n hx hb d_law_1238 rfl (lv_at hl 4 rfl) ?_
  refine ad_cPi S I (ad_ivV (As := []) (rest := []) S (ad_recv I hm2 K_Mod) w_594 w_595 w_596 Y_M_thrown ⟨by decide, by decide, np_M_thrown⟩ rfl d_law_1239) (r_thrown l G s.heap.size hp2 m0 bs (nI q.1.1) q.2 hM2) Y_M_thrown hl.1 ⟨Nat.le_of_ble_eq_true rfl, Nat.le_of_ble_eq_true rfl⟩ (by show _ ≤ 601024; omega) (by show _ ≤ 7293034; omega) d_law_1239 ?_
  refine lv_iload hx hb d_law_1242 (lv_at hl 1 rfl) ?_
  refine lv_icmp_eq (tgt := 1249) hx hb d_law_1244 (by decide) (fun _ => ?_) (fun cc => absurd rfl cc)
  refine lv_iload hx hb d_law_1249 (lv_at hl 1 rfl) ?_
  refine lv_if_ne (tgt := 1266) hx hb d_law_1251 (by decide) (fun c0 => ?_) (fun c0 => ?_)
  · refine lv_goto (tgt := 1269) hx hb d_law_1266 (by decide) ?_
    exact W.widen (k := cells + 128) (n := slots + 12800) (by omega) (by omega) (hk hp2 _ _ q.2 _ f1 I hC2 hM2 ho2 (by rw [hq]; exact hW) ls (lv_sub hl [2, 3, 4, 5, 6] rfl))
  · have hn9 := n_room A (xs (i + 1)) (xs (i + 2))
    rw [← hq] at hn9
    have hz2 := hz1 ((nI_eq (b := 0) (by omega) (by omega)).mp c0)
    refine lv_aload_n hx hb d_law_1254 rfl (lv_at hl 5 rfl) ?_
    refine lv_iconst (v := 0) hx hb d_law_1255 (by decide) ?_
    refine ad_lald S I ho2 (show vp_in 0 1 by unfold vp_in; decide) d_law_1256 ?_
    refine ad_top (y := .long (f1 0)) rfl ?_
    refine lv_iload hx hb d_law_1257 (lv_at hl 0 rfl) ?_
    refine lv_i2l (v := q.1.2.toInt64) hx hb d_law_1259 rfl ?_
    refine W.lcmp hx hb d_law_1260 ?_
    refine lv_if_eq (tgt := 1266) hx hb d_law_1261 (by decide) (fun _ => ?_) (fun cc => absurd (ad_lcEq.mpr hz2) cc)
    refine lv_goto (tgt := 1269) hx hb d_law_1266 (by decide) ?_
    exact W.widen (k := cells + 128) (n := slots + 12800) (by omega) (by omega) (hk hp2 _ _ q.2 _ f1 I hC2 hM2 ho2 (by rw [hq]; exact hW) ls (lv_sub hl [2, 3, 4, 5, 6] rfl))
