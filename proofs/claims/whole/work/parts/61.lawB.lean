set_option maxHeartbeats 4000000 in
set_option maxRecDepth 100000 in
theorem lw_c6 {p : Program} {e : Env} {s : State} {m : MethodId} {below : List Frame} {meth : Method} {c : Code} {Q : State → Prop} {l : Launch} {b L : Nat} {xs : Nat → Int32} {G : ad_G} {x gA sA m0 oA : Nat} {bs : Nat → Nat} {i : Nat} {hp : ad_H} {H : Heap} {locs : List Loc} {cells slots : Nat} {A : AST} {th : Int32} {f : Nat → Int64} {ls : Array Slot} (S : CallFix p m c code 7 s #[Value.ref b] ad_T "AuditDrawsLaw") (hT : l.stackTraces = false) (hX : va_X b L xs s s.heap) (hbl : b < s.heap.size) (hne : ∀ i, i < 11 → bs i ≠ gA ∧ bs i ≠ sA) (hi : i + 5 ≤ L) (hL : L ≤ 2560) (hcl : cells + 128 ≤ 601024) (hsl : slots + 12800 ≤ 7293034) (I : ad_I G s.heap.size s hp H locs) (hC : CRA G hp x gA sA A) (hM : MRA G hp m0 bs th A) (ho : hp oA = some (.inl (G.2.1 2, 1, .inr (.inl f)))) (hW : WF A) (hl : lv_has ls 7 [(0, .ref b), (1, .ref x), (2, .ref m0), (3, .ref oA), (4, .int (nI i))]) (hk : ∀ (hp' : ad_H) (H' : Heap) (locs' : List Loc) (A' : AST) (th' : Int32) (f' : Nat → Int64), ad_I G s.heap.size s hp' H' locs' → CRA G hp' x gA sA A' → MRA G hp' m0 bs th' A' → hp' oA = some (.inl (G.2.1 2, 1, .inr (.inl f'))) → WF A' → ∀ ls' : Array Slot, lv_has ls' 7 [(0, .ref b), (1, .ref x), (2, .ref m0), (3, .ref oA), (4, .int (nI i))] → W p l e room_1 s m #[Value.ref b] below meth c H' locs' (cells + 128) (slots + 12800) Q (F0 m 1269 ls' [])) : W p l e room_1 s m #[Value.ref b] below meth c H locs cells slots Q (F0 m 506 ls []) := by
  obtain ⟨hx, hb, hml, hown, hts⟩ := id S
  have hbA : ¬ (fun q => s.heap.size ≤ q) b := Nat.not_le.mpr hbl
  obtain ⟨_, hm9⟩ := hM.self
  obtain ⟨_, hx9⟩ := hC.self
  refine lv_aload_n hx hb d_law_506 rfl (lv_at hl 1 rfl) ?_
  refine lv_aload_n hx hb d_law_507 rfl (lv_at hl 0 rfl) ?_
  refine lv_iload hx hb d_law_508 (lv_at hl 4 rfl) ?_
  refine lv_iconst (v := 1) hx hb d_law_510 (by decide) ?_
  refine lv_iadd hx hb d_law_511 ?_
  refine ad_top (y := .int (nI (i + 1))) (congrArg Value.int (nI_add i 1)) ?_
  refine va_sld hx hb hX hbl hbA I.S (vp_in_nI (show (i + 1) < L by omega) (by omega)) d_law_512 ?_
  refine ad_top (y := .int (xs (i + 1))) (congrArg (fun q => Value.int (xs q)) (show (nI (i + 1)).toNatClampNeg = (i + 1) from nI_clamp (by omega))) ?_
  refine lv_aload_n hx hb d_law_513 rfl (lv_at hl 0 rfl) ?_
  refine lv_iload hx hb d_law_514 (lv_at hl 4 rfl) ?_
  refine lv_iconst (v := 2) hx hb d_law_516 (by decide) ?_
  refine lv_iadd hx hb d_law_517 ?_
  refine ad_top (y := .int (nI (i + 2))) (congrArg Value.int (nI_add i 2)) ?_
  refine va_sld hx hb hX hbl hbA I.S (vp_in_nI (show (i + 2) < L by omega) (by omega)) d_law_518 ?_
  refine ad_top (y := .int (xs (i + 2))) (congrArg (fun q => Value.int (xs q)) (show (nI (i + 2)).toNatClampNeg = (i + 2) from nI_clamp (by omega))) ?_
  refine lv_aload_n hx hb d_law_519 rfl (lv_at hl 3 rfl) ?_
  obtain ⟨q, hq⟩ : ∃ q : (Nat × Int32) × AST, q = (q_sh (cc A.1 (xs (i + 1)) 1) (cc A.1 (xs (i + 1)) 2) (cc A.1 (xs (i + 1)) 3) (xs (i + 1)) (xs (i + 2)), A) := ⟨_, rfl⟩
  have hK := HP_eq (h_share l G s.heap.size hp x gA sA oA A (xs (i + 1)) (xs (i + 2)) f hT hC hW ho)
  rw [← hq] at hK
  refine ad_cZi S I (ad_ivS (As := [.ref x, .int (xs (i + 1)), .int (xs (i + 2)), .ref oA]) (rest := []) S Y_L_share w_389 w_390 w_0 ⟨by decide, by decide, np_L_share⟩ rfl d_law_520) hK Y_L_share hl.1 ⟨Nat.le_of_ble_eq_true rfl, Nat.le_of_ble_eq_true rfl⟩ (by show _ ≤ 601024; omega) (by show _ ≤ 7293034; omega) d_law_520 (fun hp1 H1 locs1 hA I => ?_)
  obtain ⟨hC1, ⟨f1, ho1, hz1⟩, hF1⟩ := hA
  have hM1 := hM.keep ho hne hF1
  obtain ⟨_, hm1⟩ := hM1.self
  refine lv_istore (lv' := [(5, .int (nI q.1.1)), (0, .ref b), (1, .ref x), (2, .ref m0), (3, .ref oA), (4, .int (nI i))]) hx hb d_law_523 hl (by decide) rfl (fun ls hl => ?_)
  refine lv_aload_n hx hb d_law_525 rfl (lv_at hl 3 rfl) ?_
  refine lv_aload_n hx hb d_law_526 rfl (lv_at hl 1 rfl) ?_
  refine lv_iload hx hb d_law_527 (lv_at hl 5 rfl) ?_
  refine lv_iconst (v := 1) hx hb d_law_529 (by decide) ?_
  refine lv_iadd hx hb d_law_530 ?_
  refine ad_top (y := .int (nI (i + 1))) (congrArg Value.int (nI_add i 1)) ?_
  refine va_sld hx hb hX hbl hbA I.S (vp_in_nI (show (i + 1) < L by omega) (by omega)) d_law_531 ?_
  refine ad_top (y := .int (xs (i + 1))) (congrArg (fun q => Value.int (xs q)) (show (nI (i + 1)).toNatClampNeg = (i + 1) from nI_clamp (by omega))) ?_
  refine lv_aload_n hx hb d_law_532 rfl (lv_at hl 1 rfl) ?_
  refine lv_iload hx hb d_law_533 (lv_at hl 5 rfl) ?_
  refine lv_iconst (v := 2) hx hb d_law_535 (by decide) ?_
  refine lv_iadd hx hb d_law_536 ?_
  refine ad_top (y := .int (nI (i + 2))) (congrArg Value.int (nI_add i 2)) ?_
  refine va_sld hx hb hX hbl hbA I.S (vp_in_nI (show (i + 2) < L by omega) (by omega)) d_law_537 ?_
  refine ad_top (y := .int (xs (i + 2))) (congrArg (fun q => Value.int (xs q)) (show (nI (i + 2)).toNatClampNeg = (i + 2) from nI_clamp (by omega))) ?_
  have hK := MP_eq (r_share l G s.heap.size hp1 m0 bs th A (xs (i + 1)) (xs (i + 2)) hM1 hW)
  rw [← hq] at hK
  refine ad_cZi S I (ad_ivV (As := [.int (xs (i + 1)), .int (xs (i + 2))]) (rest := []) S (ad_recv I hm1 K_Mod) w_658 w_659 w_660 Y_M_share ⟨by decide, by decide, np_M_share⟩ rfl d_law_538) hK Y_M_share hl.1 ⟨Nat.le_of_ble_eq_true rfl, Nat.le_of_ble_eq_true rfl⟩ (by show _ ≤ 601024; omega) (by show _ ≤ 7293034; omega) d_law_538 (fun hp2 H1 locs1 hA I => ?_)
  obtain ⟨hM2, hF2⟩ := hA
  have hC2 := hC1.far (mf_far hM1 hne hF2) (ad_I.e I)
  have ho2 := mf_out hM1 ho1 hF2
  obtain ⟨_, hm2⟩ := hM2.self
  refine lv_istore (lv' := [(6, .int q.1.2), (5, .int (nI q.1.1)), (0, .ref b), (1, .ref x), (2, .ref m0), (3, .ref oA), (4, .int (nI i))]) hx hb d_law_541 hl (by decide) rfl (fun ls hl => ?_)
  refine lv_aload_n hx hb d_law_543 rfl (lv_at hl 4 rfl) ?_
  refine ad_cPi S I (ad_ivV (As := []) (rest := []) S (ad_recv I hm2 K_Mod) w_594 w_595 w_596 Y_M_thrown ⟨by decide, by decide, np_M_thrown⟩ rfl d_law_544) (r_thrown l G s.heap.size hp2 m0 bs (nI q.1.1) q.2 hM2) Y_M_thrown hl.1 ⟨Nat.le_of_ble_eq_true rfl, Nat.le_of_ble_eq_true rfl⟩ (by show _ ≤ 601024; omega) (by show _ ≤ 7293034; omega) d_law_544 ?_
  refine lv_iload hx hb d_law_547 (lv_at hl 1 rfl) ?_
  refine lv_icmp_eq (tgt := 554) hx hb d_law_549 (by decide) (fun _ => ?_) (fun cc => absurd rfl cc)
  refine lv_iload hx hb d_law_554 (lv_at hl 1 rfl) ?_
  refine lv_if_ne (tgt := 571) hx hb d_law_556 (by decide) (fun c0 => ?_) (fun c0 => ?_)
  · refine lv_goto (tgt := 1269) hx hb d_law_571 (by decide) ?_
    exact W.widen (k := cells + 128) (n := slots + 12800) (by omega) (by omega) (hk hp2 _ _ q.2 _ f1 I hC2 hM2 ho2 (by rw [hq]; exact hW) ls (lv_sub hl [2, 3, 4, 5, 6] rfl))
  · have hn9 := n_share A (xs (i + 1)) (xs (i + 2))
    rw [← hq] at hn9
    have hz2 := hz1 ((nI_eq (b := 0) (by omega) (by omega)).mp c0)
    refine lv_aload_n hx hb d_law_559 rfl (lv_at hl 5 rfl) ?_
    refine lv_iconst (v := 0) hx hb d_law_560 (by decide) ?_
    refine ad_lald S I ho2 (show vp_in 0 1 by unfold vp_in; decide) d_law_561 ?_
    refine ad_top (y := .long (f1 0)) rfl ?_
    refine lv_iload hx hb d_law_562 (lv_at hl 0 rfl) ?_
    refine lv_i2l (v := q.1.2.toInt64) hx hb d_law_564 rfl ?_
    refine W.lcmp hx hb d_law_565 ?_
    refine lv_if_eq (tgt := 571) hx hb d_law_566 (by decide) (fun _ => ?_) (fun cc => absurd (ad_lcEq.mpr hz2) cc)
    refine lv_goto (tgt := 1269) hx hb d_law_571 (by decide) ?_
    exact W.widen (k := cells + 128) (n := slots + 12800) (by omega) (by omega) (hk hp2 _ _ q.2 _ f1 I hC2 hM2 ho2 (by rw [hq]; exact hW) ls (lv_sub hl [2, 3, 4, 5, 6] rfl))
set_option maxHeartbeats 4000000 in
set_option maxRecDepth 100000 in
theorem lw_c7 {p : Program} {e : Env} {s : State} {m : MethodId} {below : List Frame} {meth : Method} {c : Code} {Q : State → Prop} {l : Launch} {b L : Nat} {xs : Nat → Int32} {G : ad_G} {x gA sA m0 oA : Nat} {bs : Nat → Nat} {i : Nat} {hp : ad_H} {H : Heap} {locs : List Loc} {cells slots : Nat} {A : AST} {th : Int32} {f : Nat → Int64} {ls : Array Slot} (S : CallFix p m c code 7 s #[Value.ref b] ad_T "AuditDrawsLaw") (hT : l.stackTraces = false) (hX : va_X b L xs s s.heap) (hbl : b < s.heap.size) (hne : ∀ i, i < 11 → bs i ≠ gA ∧ bs i ≠ sA) (hi : i + 5 ≤ L) (hL : L ≤ 2560) (hcl : cells + 128 ≤ 601024) (hsl : slots + 12800 ≤ 7293034) (I : ad_I G s.heap.size s hp H locs) (hC : CRA G hp x gA sA A) (hM : MRA G hp m0 bs th A) (ho : hp oA = some (.inl (G.2.1 2, 1, .inr (.inl f)))) (hW : WF A) (hl : lv_has ls 7 [(0, .ref b), (1, .ref x), (2, .ref m0), (3, .ref oA), (4, .int (nI i))]) (hk : ∀ (hp' : ad_H) (H' : Heap) (locs' : List Loc) (A' : AST) (th' : Int32) (f' : Nat → Int64), ad_I G s.heap.size s hp' H' locs' → CRA G hp' x gA sA A' → MRA G hp' m0 bs th' A' → hp' oA = some (.inl (G.2.1 2, 1, .inr (.inl f'))) → WF A' → ∀ ls' : Array Slot, lv_has ls' 7 [(0, .ref b), (1, .ref x), (2, .ref m0), (3, .ref oA), (4, .int (nI i))] → W p l e room_1 s m #[Value.ref b] below meth c H' locs' (cells + 128) (slots + 12800) Q (F0 m 1269 ls' [])) : W p l e room_1 s m #[Value.ref b] below meth c H locs cells slots Q (F0 m 574 ls []) := by
  obtain ⟨hx, hb, hml, hown, hts⟩ := id S
  have hbA : ¬ (fun q => s.heap.size ≤ q) b := Nat.not_le.mpr hbl
  obtain ⟨_, hm9⟩ := hM.self
  obtain ⟨_, hx9⟩ := hC.self
  refine lv_aload_n hx hb d_law_574 rfl (lv_at hl 1 rfl) ?_
  refine lv_aload_n hx hb d_law_575 rfl (lv_at hl 0 rfl) ?_
  refine lv_iload hx hb d_law_576 (lv_at hl 4 rfl) ?_
  refine lv_iconst (v := 1) hx hb d_law_578 (by decide) ?_
  refine lv_iadd hx hb d_law_579 ?_
  refine ad_top (y := .int (nI (i + 1))) (congrArg Value.int (nI_add i 1)) ?_
  refine va_sld hx hb hX hbl hbA I.S (vp_in_nI (show (i + 1) < L by omega) (by omega)) d_law_580 ?_
  refine ad_top (y := .int (xs (i + 1))) (congrArg (fun q => Value.int (xs q)) (show (nI (i + 1)).toNatClampNeg = (i + 1) from nI_clamp (by omega))) ?_
  refine lv_aload_n hx hb d_law_581 rfl (lv_at hl 3 rfl) ?_
  obtain ⟨q, hq⟩ : ∃ q : (Nat × Int32) × AST, q = (q_nx (cc A.1 (xs (i + 1)) 1) (cc A.1 (xs (i + 1)) 2) (cc A.1 (xs (i + 1)) 3) (xs (i + 1)), A) := ⟨_, rfl⟩
  have hK := HP_eq (h_next l G s.heap.size hp x gA sA oA A (xs (i + 1)) f hT hC hW ho)
  rw [← hq] at hK
  refine ad_cZi S I (ad_ivS (As := [.ref x, .int (xs (i + 1)), .ref oA]) (rest := []) S Y_L_next w_411 w_412 w_0 ⟨by decide, by decide, np_L_next⟩ rfl d_law_582) hK Y_L_next hl.1 ⟨Nat.le_of_ble_eq_true rfl, Nat.le_of_ble_eq_true rfl⟩ (by show _ ≤ 601024; omega) (by show _ ≤ 7293034; omega) d_law_582 (fun hp1 H1 locs1 hA I => ?_)
  obtain ⟨hC1, ⟨f1, ho1, hz1⟩, hF1⟩ := hA
  have hM1 := hM.keep ho hne hF1
  obtain ⟨_, hm1⟩ := hM1.self
  refine lv_istore (lv' := [(5, .int (nI q.1.1)), (0, .ref b), (1, .ref x), (2, .ref m0), (3, .ref oA), (4, .int (nI i))]) hx hb d_law_585 hl (by decide) rfl (fun ls hl => ?_)
  refine lv_aload_n hx hb d_law_587 rfl (lv_at hl 3 rfl) ?_
  refine lv_aload_n hx hb d_law_588 rfl (lv_at hl 1 rfl) ?_
  refine lv_iload hx hb d_law_589 (lv_at hl 5 rfl) ?_
  refine lv_iconst (v := 1) hx hb d_law_591 (by decide) ?_
  refine lv_iadd hx hb d_law_592 ?_
  refine ad_top (y := .int (nI (i + 1))) (congrArg Value.int (nI_add i 1)) ?_
  refine va_sld hx hb hX hbl hbA I.S (vp_in_nI (show (i + 1) < L by omega) (by omega)) d_law_593 ?_
  refine ad_top (y := .int (xs (i + 1))) (congrArg (fun q => Value.int (xs q)) (show (nI (i + 1)).toNatClampNeg = (i + 1) from nI_clamp (by omega))) ?_
  have hK := MP_eq (r_next l G s.heap.size hp1 m0 bs th A (xs (i + 1)) hM1 hW)
  rw [← hq] at hK
  refine ad_cZi S I (ad_ivV (As := [.int (xs (i + 1))]) (rest := []) S (ad_recv I hm1 K_Mod) w_666 w_667 w_668 Y_M_next ⟨by decide, by decide, np_M_next⟩ rfl d_law_594) hK Y_M_next hl.1 ⟨Nat.le_of_ble_eq_true rfl, Nat.le_of_ble_eq_true rfl⟩ (by show _ ≤ 601024; omega) (by show _ ≤ 7293034; omega) d_law_594 (fun hp2 H1 locs1 hA I => ?_)
  obtain ⟨hM2, hF2⟩ := hA
  have hC2 := hC1.far (mf_far hM1 hne hF2) (ad_I.e I)
  have ho2 := mf_out hM1 ho1 hF2
  obtain ⟨_, hm2⟩ := hM2.self
  refine lv_istore (lv' := [(6, .int q.1.2), (5, .int (nI q.1.1)), (0, .ref b), (1, .ref x), (2, .ref m0), (3, .ref oA), (4, .int (nI i))]) hx hb d_law_597 hl (by decide) rfl (fun ls hl => ?_)
  refine lv_aload_n hx hb d_law_599 rfl (lv_at hl 4 rfl) ?_
  refine ad_cPi S I (ad_ivV (As := []) (rest := []) S (ad_recv I hm2 K_Mod) w_594 w_595 w_596 Y_M_thrown ⟨by decide, by decide, np_M_thrown⟩ rfl d_law_600) (r_thrown l G s.heap.size hp2 m0 bs (nI q.1.1) q.2 hM2) Y_M_thrown hl.1 ⟨Nat.le_of_ble_eq_true rfl, Nat.le_of_ble_eq_true rfl⟩ (by show _ ≤ 601024; omega) (by show _ ≤ 7293034; omega) d_law_600 ?_
  refine lv_iload hx hb d_law_603 (lv_at hl 1 rfl) ?_
  refine lv_icmp_eq (tgt := 610) hx hb d_law_605 (by decide) (fun _ => ?_) (fun cc => absurd rfl cc)
  refine lv_iload hx hb d_law_610 (lv_at hl 1 rfl) ?_
  refine lv_if_ne (tgt := 627) hx hb d_law_612 (by decide) (fun c0 => ?_) (fun c0 => ?_)
  · refine lv_goto (tgt := 1269) hx hb d_law_627 (by decide) ?_
    exact W.widen (k := cells + 128) (n := slots + 12800) (by omega) (by omega) (hk hp2 _ _ q.2 _ f1 I hC2 hM2 ho2 (by rw [hq]; exact hW) ls (lv_sub hl [2, 3, 4, 5, 6] rfl))
  · have hn9 := n_next A (xs (i + 1))
    rw [← hq] at hn9
    have hz2 := hz1 ((nI_eq (b := 0) (by omega) (by omega)).mp c0)
    refine lv_aload_n hx hb d_law_615 rfl (lv_at hl 5 rfl) ?_
    refine lv_iconst (v := 0) hx hb d_law_616 (by decide) ?_
    refine ad_lald S I ho2 (show vp_in 0 1 by unfold vp_in; decide) d_law_617 ?_
    refine ad_top (y := .long (f1 0)) rfl ?_
    refine lv_iload hx hb d_law_618 (lv_at hl 0 rfl) ?_
    refine lv_i2l (v := q.1.2.toInt64) hx hb d_law_620 rfl ?_
    refine W.lcmp hx hb d_law_621 ?_
    refine lv_if_eq (tgt := 627) hx hb d_law_622 (by decide) (fun _ => ?_) (fun cc => absurd (ad_lcEq.mpr hz2) cc)
    refine lv_goto (tgt := 1269) hx hb d_law_627 (by decide) ?_
    exact W.widen (k := cells + 128) (n := slots + 12800) (by omega) (by omega) (hk hp2 _ _ q.2 _ f1 I hC2 hM2 ho2 (by rw [hq]; exact hW) ls (lv_sub hl [2, 3, 4, 5, 6] rfl))
set_option maxHeartbeats 4000000 in
set_option maxRecDepth 100000 in
theorem lw_c8 {p : Program} {e : Env} {s : State} {m : MethodId} {below : List Frame} {meth : Method} {c : Code} {Q : State → Prop} {l : Launch} {b L : Nat} {xs : Nat → Int32} {G : ad_G} {x gA sA m0 oA : Nat} {bs : Nat → Nat} {i : Nat} {hp : ad_H} {H : Heap} {locs : List Loc} {cells slots : Nat} {A : AST} {th : Int32} {f : Nat → Int64} {ls : Array Slot} (S : CallFix p m c code 7 s #[Value.ref b] ad_T "AuditDrawsLaw") (hT : l.stackTraces = false) (hX : va_X b L xs s s.heap) (hbl : b < s.heap.size) (hne : ∀ i, i < 11 → bs i ≠ gA ∧ bs i ≠ sA) (hi : i + 5 ≤ L) (hL : L ≤ 2560) (hcl : cells + 128 ≤ 601024) (hsl : slots + 12800 ≤ 7293034) (I : ad_I G s.heap.size s hp H locs) (hC : CRA G hp x gA sA A) (hM : MRA G hp m0 bs th A) (ho : hp oA = some (.inl (G.2.1 2, 1, .inr (.inl f)))) (hW : WF A) (hl : lv_has ls 7 [(0, .ref b), (1, .ref x), (2, .ref m0), (3, .ref oA), (4, .int (nI i))]) (hk : ∀ (hp' : ad_H) (H' : Heap) (locs' : List Loc) (A' : AST) (th' : Int32) (f' : Nat → Int64), ad_I G s.heap.size s hp' H' locs' → CRA G hp' x gA sA A' → MRA G hp' m0 bs th' A' → hp' oA = some (.inl (G.2.1 2, 1, .inr (.inl f'))) → WF A' → ∀ ls' : Array Slot, lv_has ls' 7 [(0, .ref b), (1, .ref x), (2, .ref m0), (3, .ref oA), (4, .int (nI i))] → W p l e room_1 s m #[Value.ref b] below meth c H' locs' (cells + 128) (slots + 12800) Q (F0 m 1269 ls' [])) : W p l e room_1 s m #[Value.ref b] below meth c H locs cells slots Q (F0 m 630 ls []) := by
  obtain ⟨hx, hb, hml, hown, hts⟩ := id S
  have hbA : ¬ (fun q => s.heap.size ≤ q) b := Nat.not_le.mpr hbl
  obtain ⟨_, hm9⟩ := hM.self
  obtain ⟨_, hx9⟩ := hC.self
  refine lv_aload_n hx hb d_law_630 rfl (lv_at hl 1 rfl) ?_
  refine lv_aload_n hx hb d_law_631 rfl (lv_at hl 0 rfl) ?_
  refine lv_iload hx hb d_law_632 (lv_at hl 4 rfl) ?_
  refine lv_iconst (v := 1) hx hb d_law_634 (by decide) ?_
  refine lv_iadd hx hb d_law_635 ?_
  refine ad_top (y := .int (nI (i + 1))) (congrArg Value.int (nI_add i 1)) ?_
  refine va_sld hx hb hX hbl hbA I.S (vp_in_nI (show (i + 1) < L by omega) (by omega)) d_law_636 ?_
  refine ad_top (y := .int (xs (i + 1))) (congrArg (fun q => Value.int (xs q)) (show (nI (i + 1)).toNatClampNeg = (i + 1) from nI_clamp (by omega))) ?_
  refine lv_aload_n hx hb d_law_637 rfl (lv_at hl 0 rfl) ?_
  refine lv_iload hx hb d_law_638 (lv_at hl 4 rfl) ?_
  refine lv_iconst (v := 2) hx hb d_law_640 (by decide) ?_
  refine lv_iadd hx hb d_law_641 ?_
  refine ad_top (y := .int (nI (i + 2))) (congrArg Value.int (nI_add i 2)) ?_
  refine va_sld hx hb hX hbl hbA I.S (vp_in_nI (show (i + 2) < L by omega) (by omega)) d_law_642 ?_
  refine ad_top (y := .int (xs (i + 2))) (congrArg (fun q => Value.int (xs q)) (show (nI (i + 2)).toNatClampNeg = (i + 2) from nI_clamp (by omega))) ?_
  refine lv_i2l (v := (xs (i + 2)).toInt64) hx hb d_law_643 rfl ?_
  refine lv_bipush (v := 32) hx hb d_law_644 (by decide) ?_
  refine lv_lshl (v := ((xs (i + 2)).toInt64) <<< ((32 : Int32).toInt64 &&& 63)) hx hb d_law_646 rfl ?_
  refine lv_aload_n hx hb d_law_647 rfl (lv_at hl 0 rfl) ?_
  refine lv_iload hx hb d_law_648 (lv_at hl 4 rfl) ?_
  refine lv_iconst (v := 3) hx hb d_law_650 (by decide) ?_
  refine lv_iadd hx hb d_law_651 ?_
  refine ad_top (y := .int (nI (i + 3))) (congrArg Value.int (nI_add i 3)) ?_
  refine va_sld hx hb hX hbl hbA I.S (vp_in_nI (show (i + 3) < L by omega) (by omega)) d_law_652 ?_
  refine ad_top (y := .int (xs (i + 3))) (congrArg (fun q => Value.int (xs q)) (show (nI (i + 3)).toNatClampNeg = (i + 3) from nI_clamp (by omega))) ?_
  refine lv_i2l (v := (xs (i + 3)).toInt64) hx hb d_law_653 rfl ?_
  refine lv_ldc2 (v := 4294967295) hx hb hown (hts _ w_721) d_law_654 ?_
  refine lv_land hx hb d_law_657 ?_
  refine lv_lor hx hb d_law_658 ?_
  refine lv_aload_n hx hb d_law_659 rfl (lv_at hl 3 rfl) ?_
  obtain ⟨q, hq⟩ : ∃ q : (Nat × Int32) × AST, q = (q_dg (xs (i + 1)) ((((xs (i + 2)).toInt64) <<< ((32 : Int32).toInt64 &&& 63)) ||| (((xs (i + 3)).toInt64) &&& 4294967295)), A) := ⟨_, rfl⟩
  have hK := HP_eq (h_digit l G s.heap.size hp x gA sA oA A (xs (i + 1)) ((((xs (i + 2)).toInt64) <<< ((32 : Int32).toInt64 &&& 63)) ||| (((xs (i + 3)).toInt64) &&& 4294967295)) f hT hC hW ho)
  rw [← hq] at hK
  refine ad_cZi S I (ad_ivS (As := [.ref x, .int (xs (i + 1)), .long ((((xs (i + 2)).toInt64) <<< ((32 : Int32).toInt64 &&& 63)) ||| (((xs (i + 3)).toInt64) &&& 4294967295)), .ref oA]) (rest := []) S Y_L_digit w_418 w_419 w_0 ⟨by decide, by decide, np_L_digit⟩ rfl d_law_660) hK Y_L_digit hl.1 ⟨Nat.le_of_ble_eq_true rfl, Nat.le_of_ble_eq_true rfl⟩ (by show _ ≤ 601024; omega) (by show _ ≤ 7293034; omega) d_law_660 (fun hp1 H1 locs1 hA I => ?_)
  obtain ⟨hC1, ⟨f1, ho1, hz1⟩, hF1⟩ := hA
  have hM1 := hM.keep ho hne hF1
  obtain ⟨_, hm1⟩ := hM1.self
  refine lv_istore (lv' := [(5, .int (nI q.1.1)), (0, .ref b), (1, .ref x), (2, .ref m0), (3, .ref oA), (4, .int (nI i))]) hx hb d_law_663 hl (by decide) rfl (fun ls hl => ?_)
  refine lv_aload_n hx hb d_law_665 rfl (lv_at hl 3 rfl) ?_
  refine lv_aload_n hx hb d_law_666 rfl (lv_at hl 1 rfl) ?_
  refine lv_iload hx hb d_law_667 (lv_at hl 5 rfl) ?_
  refine lv_iconst (v := 1) hx hb d_law_669 (by decide) ?_
  refine lv_iadd hx hb d_law_670 ?_
  refine ad_top (y := .int (nI (i + 1))) (congrArg Value.int (nI_add i 1)) ?_
  refine va_sld hx hb hX hbl hbA I.S (vp_in_nI (show (i + 1) < L by omega) (by omega)) d_law_671 ?_
  refine ad_top (y := .int (xs (i + 1))) (congrArg (fun q => Value.int (xs q)) (show (nI (i + 1)).toNatClampNeg = (i + 1) from nI_clamp (by omega))) ?_
  refine lv_aload_n hx hb d_law_672 rfl (lv_at hl 1 rfl) ?_
  refine lv_iload hx hb d_law_673 (lv_at hl 5 rfl) ?_
  refine lv_iconst (v := 2) hx hb d_law_675 (by decide) ?_
  refine lv_iadd hx hb d_law_676 ?_
  refine ad_top (y := .int (nI (i + 2))) (congrArg Value.int (nI_add i 2)) ?_
  refine va_sld hx hb hX hbl hbA I.S (vp_in_nI (show (i + 2) < L by omega) (by omega)) d_law_677 ?_
  refine ad_top (y := .int (xs (i + 2))) (congrArg (fun q => Value.int (xs q)) (show (nI (i + 2)).toNatClampNeg = (i + 2) from nI_clamp (by omega))) ?_
  refine lv_i2l (v := (xs (i + 2)).toInt64) hx hb d_law_678 rfl ?_
  refine lv_bipush (v := 32) hx hb d_law_679 (by decide) ?_
  refine lv_lshl (v := ((xs (i + 2)).toInt64) <<< ((32 : Int32).toInt64 &&& 63)) hx hb d_law_681 rfl ?_
  refine lv_aload_n hx hb d_law_682 rfl (lv_at hl 1 rfl) ?_
  refine lv_iload hx hb d_law_683 (lv_at hl 5 rfl) ?_
  refine lv_iconst (v := 3) hx hb d_law_685 (by decide) ?_
  refine lv_iadd hx hb d_law_686 ?_
  refine ad_top (y := .int (nI (i + 3))) (congrArg Value.int (nI_add i 3)) ?_
  refine va_sld hx hb hX hbl hbA I.S (vp_in_nI (show (i + 3) < L by omega) (by omega)) d_law_687 ?_
  refine ad_top (y := .int (xs (i + 3))) (congrArg (fun q => Value.int (xs q)) (show (nI (i + 3)).toNatClampNeg = (i + 3) from nI_clamp (by omega))) ?_
  refine lv_i2l (v := (xs (i + 3)).toInt64) hx hb d_law_688 rfl ?_
  refine lv_ldc2 (v := 4294967295) hx hb hown (hts _ w_721) d_law_689 ?_
  refine lv_land hx hb d_law_692 ?_
  refine lv_lor hx hb d_law_693 ?_
  have hK := MP_eq (r_digit l G s.heap.size hp1 m0 bs th A (xs (i + 1)) ((((xs (i + 2)).toInt64) <<< ((32 : Int32).toInt64 &&& 63)) ||| (((xs (i + 3)).toInt64) &&& 4294967295)) hM1 hW)
  rw [← hq] at hK
  refine ad_cZi S I (ad_ivV (As := [.int (xs (i + 1)), .long ((((xs (i + 2)).toInt64) <<< ((32 : Int32).toInt64 &&& 63)) ||| (((xs (i + 3)).toInt64) &&& 4294967295))]) (rest := []) S (ad_recv I hm1 K_Mod) w_670 w_671 w_672 Y_M_digit ⟨by decide, by decide, np_M_digit⟩ rfl d_law_694) hK Y_M_digit hl.1 ⟨Nat.le_of_ble_eq_true rfl, Nat.le_of_ble_eq_true rfl⟩ (by show _ ≤ 601024; omega) (by show _ ≤ 7293034; omega) d_law_694 (fun hp2 H1 locs1 hA I => ?_)
  obtain ⟨hM2, hF2⟩ := hA
  have hC2 := hC1.far (mf_far hM1 hne hF2) (ad_I.e I)
  have ho2 := mf_out hM1 ho1 hF2
  obtain ⟨_, hm2⟩ := hM2.self
  refine lv_istore (lv' := [(6, .int q.1.2), (5, .int (nI q.1.1)), (0, .ref b), (1, .ref x), (2, .ref m0), (3, .ref oA), (4, .int (nI i))]) hx hb d_law_697 hl (by decide) rfl (fun ls hl => ?_)
  refine lv_aload_n hx hb d_law_699 rfl (lv_at hl 4 rfl) ?_
  refine ad_cPi S I (ad_ivV (As := []) (rest := []) S (ad_recv I hm2 K_Mod) w_594 w_595 w_596 Y_M_thrown ⟨by decide, by decide, np_M_thrown⟩ rfl d_law_700) (r_thrown l G s.heap.size hp2 m0 bs (nI q.1.1) q.2 hM2) Y_M_thrown hl.1 ⟨Nat.le_of_ble_eq_true rfl, Nat.le_of_ble_eq_true rfl⟩ (by show _ ≤ 601024; omega) (by show _ ≤ 7293034; omega) d_law_700 ?_
  refine lv_iload hx hb d_law_703 (lv_at hl 1 rfl) ?_
  refine lv_icmp_eq (tgt := 710) hx hb d_law_705 (by decide) (fun _ => ?_) (fun cc => absurd rfl cc)
  refine lv_iload hx hb d_law_710 (lv_at hl 1 rfl) ?_
  refine lv_if_ne (tgt := 727) hx hb d_law_712 (by decide) (fun c0 => ?_) (fun c0 => ?_)
  · refine lv_goto (tgt := 1269) hx hb d_law_727 (by decide) ?_
    exact W.widen (k := cells + 128) (n := slots + 12800) (by omega) (by omega) (hk hp2 _ _ q.2 _ f1 I hC2 hM2 ho2 (by rw [hq]; exact hW) ls (lv_sub hl [2, 3, 4, 5, 6] rfl))
  · have hn9 := n_digit A (xs (i + 1)) ((((xs (i + 2)).toInt64) <<< ((32 : Int32).toInt64 &&& 63)) ||| (((xs (i + 3)).toInt64) &&& 4294967295))
    rw [← hq] at hn9
    have hz2 := hz1 ((nI_eq (b := 0) (by omega) (by omega)).mp c0)
    refine lv_aload_n hx hb d_law_715 rfl (lv_at hl 5 rfl) ?_
    refine lv_iconst (v := 0) hx hb d_law_716 (by decide) ?_
    refine ad_lald S I ho2 (show vp_in 0 1 by unfold vp_in; decide) d_law_717 ?_
    refine ad_top (y := .long (f1 0)) rfl ?_
    refine lv_iload hx hb d_law_718 (lv_at hl 0 rfl) ?_
    refine lv_i2l (v := q.1.2.toInt64) hx hb d_law_720 rfl ?_
    refine W.lcmp hx hb d_law_721 ?_
    refine lv_if_eq (tgt := 727) hx hb d_law_722 (by decide) (fun _ => ?_) (fun cc => absurd (ad_lcEq.mpr hz2) cc)
    refine lv_goto (tgt := 1269) hx hb d_law_727 (by decide) ?_
    exact W.widen (k := cells + 128) (n := slots + 12800) (by omega) (by omega) (hk hp2 _ _ q.2 _ f1 I hC2 hM2 ho2 (by rw [hq]; exact hW) ls (lv_sub hl [2, 3, 4, 5, 6] rfl))
set_option maxHeartbeats 4000000 in
set_option maxRecDepth 100000 in
theorem lw_c9 {p : Program} {e : Env} {s : State} {m : MethodId} {below : List Frame} {meth : Method} {c : Code} {Q : State → Prop} {l : Launch} {b L : Nat} {xs : Nat → Int32} {G : ad_G} {x gA sA m0 oA : Nat} {bs : Nat → Nat} {i : Nat} {hp : ad_H} {H : Heap} {locs : List Loc} {cells slots : Nat} {A : AST} {th : Int32} {f : Nat → Int64} {ls : Array Slot} (S : CallFix p m c code 7 s #[Value.ref b] ad_T "AuditDrawsLaw") (hT : l.stackTraces = false) (hX : va_X b L xs s s.heap) (hbl : b < s.heap.size) (hne : ∀ i, i < 11 → bs i ≠ gA ∧ bs i ≠ sA) (hi : i + 5 ≤ L) (hL : L ≤ 2560) (hcl : cells + 128 ≤ 601024) (hsl : slots + 12800 ≤ 7293034) (I : ad_I G s.heap.size s hp H locs) (hC : CRA G hp x gA sA A) (hM : MRA G hp m0 bs th A) (ho : hp oA = some (.inl (G.2.1 2, 1, .inr (.inl f)))) (hW : WF A) (hl : lv_has ls 7 [(0, .ref b), (1, .ref x), (2, .ref m0), (3, .ref oA), (4, .int (nI i))]) (hk : ∀ (hp' : ad_H) (H' : Heap) (locs' : List Loc) (A' : AST) (th' : Int32) (f' : Nat → Int64), ad_I G s.heap.size s hp' H' locs' → CRA G hp' x gA sA A' → MRA G hp' m0 bs th' A' → hp' oA = some (.inl (G.2.1 2, 1, .inr (.inl f'))) → WF A' → ∀ ls' : Array Slot, lv_has ls' 7 [(0, .ref b), (1, .ref x), (2, .ref m0), (3, .ref oA), (4, .int (nI i))] → W p l e room_1 s m #[Value.ref b] below meth c H' locs' (cells + 128) (slots + 12800) Q (F0 m 1269 ls' [])) : W p l e room_1 s m #[Value.ref b] below meth c H locs cells slots Q (F0 m 730 ls []) := by
  obtain ⟨hx, hb, hml, hown, hts⟩ := id S
  have hbA : ¬ (fun q => s.heap.size ≤ q) b := Nat.not_le.mpr hbl
  obtain ⟨_, hm9⟩ := hM.self
  obtain ⟨_, hx9⟩ := hC.self
  refine lv_aload_n hx hb d_law_730 rfl (lv_at hl 1 rfl) ?_
  refine lv_aload_n hx hb d_law_731 rfl (lv_at hl 0 rfl) ?_
  refine lv_iload hx hb d_law_732 (lv_at hl 4 rfl) ?_
  refine lv_iconst (v := 1) hx hb d_law_734 (by decide) ?_
  refine lv_iadd hx hb d_law_735 ?_
  refine ad_top (y := .int (nI (i + 1))) (congrArg Value.int (nI_add i 1)) ?_
  refine va_sld hx hb hX hbl hbA I.S (vp_in_nI (show (i + 1) < L by omega) (by omega)) d_law_736 ?_
  refine ad_top (y := .int (xs (i + 1))) (congrArg (fun q => Value.int (xs q)) (show (nI (i + 1)).toNatClampNeg = (i + 1) from nI_clamp (by omega))) ?_
  refine lv_aload_n hx hb d_law_737 rfl (lv_at hl 0 rfl) ?_
  refine lv_iload hx hb d_law_738 (lv_at hl 4 rfl) ?_
  refine lv_iconst (v := 2) hx hb d_law_740 (by decide) ?_
  refine lv_iadd hx hb d_law_741 ?_
  refine ad_top (y := .int (nI (i + 2))) (congrArg Value.int (nI_add i 2)) ?_
  refine va_sld hx hb hX hbl hbA I.S (vp_in_nI (show (i + 2) < L by omega) (by omega)) d_law_742 ?_
  refine ad_top (y := .int (xs (i + 2))) (congrArg (fun q => Value.int (xs q)) (show (nI (i + 2)).toNatClampNeg = (i + 2) from nI_clamp (by omega))) ?_
  refine lv_i2l (v := (xs (i + 2)).toInt64) hx hb d_law_743 rfl ?_
  refine lv_bipush (v := 32) hx hb d_law_744 (by decide) ?_
  refine lv_lshl (v := ((xs (i + 2)).toInt64) <<< ((32 : Int32).toInt64 &&& 63)) hx hb d_law_746 rfl ?_
  refine lv_aload_n hx hb d_law_747 rfl (lv_at hl 0 rfl) ?_
  refine lv_iload hx hb d_law_748 (lv_at hl 4 rfl) ?_
  refine lv_iconst (v := 3) hx hb d_law_750 (by decide) ?_
  refine lv_iadd hx hb d_law_751 ?_
  refine ad_top (y := .int (nI (i + 3))) (congrArg Value.int (nI_add i 3)) ?_
  refine va_sld hx hb hX hbl hbA I.S (vp_in_nI (show (i + 3) < L by omega) (by omega)) d_law_752 ?_
  refine ad_top (y := .int (xs (i + 3))) (congrArg (fun q => Value.int (xs q)) (show (nI (i + 3)).toNatClampNeg = (i + 3) from nI_clamp (by omega))) ?_
  refine lv_i2l (v := (xs (i + 3)).toInt64) hx hb d_law_753 rfl ?_
  refine lv_ldc2 (v := 4294967295) hx hb hown (hts _ w_721) d_law_754 ?_
  refine lv_land hx hb d_law_757 ?_
  refine lv_lor hx hb d_law_758 ?_
  refine lv_aload_n hx hb d_law_759 rfl (lv_at hl 3 rfl) ?_
  obtain ⟨q, hq⟩ : ∃ q : (Nat × Int32) × AST, q = (q_gd (xs (i + 1)) ((((xs (i + 2)).toInt64) <<< ((32 : Int32).toInt64 &&& 63)) ||| (((xs (i + 3)).toInt64) &&& 4294967295)), A) := ⟨_, rfl⟩
  have hK := HP_eq (h_good l G s.heap.size hp x gA sA oA A (xs (i + 1)) ((((xs (i + 2)).toInt64) <<< ((32 : Int32).toInt64 &&& 63)) ||| (((xs (i + 3)).toInt64) &&& 4294967295)) f hT hC hW ho)
  rw [← hq] at hK
  refine ad_cZi S I (ad_ivS (As := [.ref x, .int (xs (i + 1)), .long ((((xs (i + 2)).toInt64) <<< ((32 : Int32).toInt64 &&& 63)) ||| (((xs (i + 3)).toInt64) &&& 4294967295)), .ref oA]) (rest := []) S Y_L_good w_443 w_444 w_0 ⟨by decide, by decide, np_L_good⟩ rfl d_law_760) hK Y_L_good hl.1 ⟨Nat.le_of_ble_eq_true rfl, Nat.le_of_ble_eq_true rfl⟩ (by show _ ≤ 601024; omega) (by show _ ≤ 7293034; omega) d_law_760 (fun hp1 H1 locs1 hA I => ?_)
  obtain ⟨hC1, ⟨f1, ho1, hz1⟩, hF1⟩ := hA
  have hM1 := hM.keep ho hne hF1
  obtain ⟨_, hm1⟩ := hM1.self
  refine lv_istore (lv' := [(5, .int (nI q.1.1)), (0, .ref b), (1, .ref x), (2, .ref m0), (3, .ref oA), (4, .int (nI i))]) hx hb d_law_763 hl (by decide) rfl (fun ls hl => ?_)
  refine lv_aload_n hx hb d_law_765 rfl (lv_at hl 3 rfl) ?_
  refine lv_aload_n hx hb d_law_766 rfl (lv_at hl 1 rfl) ?_
  refine lv_iload hx hb d_law_767 (lv_at hl 5 rfl) ?_
  refine lv_iconst (v := 1) hx hb d_law_769 (by decide) ?_
  refine lv_iadd hx hb d_law_770 ?_
  refine ad_top (y := .int (nI (i + 1))) (congrArg Value.int (nI_add i 1)) ?_
  refine va_sld hx hb hX hbl hbA I.S (vp_in_nI (show (i + 1) < L by omega) (by omega)) d_law_771 ?_
  refine ad_top (y := .int (xs (i + 1))) (congrArg (fun q => Value.int (xs q)) (show (nI (i + 1)).toNatClampNeg = (i + 1) from nI_clamp (by omega))) ?_
  refine lv_aload_n hx hb d_law_772 rfl (lv_at hl 1 rfl) ?_
  refine lv_iload hx hb d_law_773 (lv_at hl 5 rfl) ?_
  refine lv_iconst (v := 2) hx hb d_law_775 (by decide) ?_
  refine lv_iadd hx hb d_law_776 ?_
  refine ad_top (y := .int (nI (i + 2))) (congrArg Value.int (nI_add i 2)) ?_
  refine va_sld hx hb hX hbl hbA I.S (vp_in_nI (show (i + 2) < L by omega) (by omega)) d_law_777 ?_
  refine ad_top (y := .int (xs (i + 2))) (congrArg (fun q => Value.int (xs q)) (show (nI (i + 2)).toNatClampNeg = (i + 2) from nI_clamp (by omega))) ?_
  refine lv_i2l (v := (xs (i + 2)).toInt64) hx hb d_law_778 rfl ?_
  refine lv_bipush (v := 32) hx hb d_law_779 (by decide) ?_
  refine lv_lshl (v := ((xs (i + 2)).toInt64) <<< ((32 : Int32).toInt64 &&& 63)) hx hb d_law_781 rfl ?_
  refine lv_aload_n hx hb d_law_782 rfl (lv_at hl 1 rfl) ?_
  refine lv_iload hx hb d_law_783 (lv_at hl 5 rfl) ?_
  refine lv_iconst (v := 3) hx hb d_law_785 (by decide) ?_
  refine lv_iadd hx hb d_law_786 ?_
  refine ad_top (y := .int (nI (i + 3))) (congrArg Value.int (nI_add i 3)) ?_
  refine va_sld hx hb hX hbl hbA I.S (vp_in_nI (show (i + 3) < L by omega) (by omega)) d_law_787 ?_
  refine ad_top (y := .int (xs (i + 3))) (congrArg (fun q => Value.int (xs q)) (show (nI (i + 3)).toNatClampNeg = (i + 3) from nI_clamp (by omega))) ?_
  refine lv_i2l (v := (xs (i + 3)).toInt64) hx hb d_law_788 rfl ?_
  refine lv_ldc2 (v := 4294967295) hx hb hown (hts _ w_721) d_law_789 ?_
  refine lv_land hx hb d_law_792 ?_
  refine lv_lor hx hb d_law_793 ?_
  have hK := MP_eq (r_good l G s.heap.size hp1 m0 bs th A (xs (i + 1)) ((((xs (i + 2)).toInt64) <<< ((32 : Int32).toInt64 &&& 63)) ||| (((xs (i + 3)).toInt64) &&& 4294967295)) hM1 hW)
  rw [← hq] at hK
  refine ad_cZi S I (ad_ivV (As := [.int (xs (i + 1)), .long ((((xs (i + 2)).toInt64) <<< ((32 : Int32).toInt64 &&& 63)) ||| (((xs (i + 3)).toInt64) &&& 4294967295))]) (rest := []) S (ad_recv I hm1 K_Mod) w_686 w_687 w_688 Y_M_good ⟨by decide, by decide, np_M_good⟩ rfl d_law_794) hK Y_M_good hl.1 ⟨Nat.le_of_ble_eq_true rfl, Nat.le_of_ble_eq_true rfl⟩ (by show _ ≤ 601024; omega) (by show _ ≤ 7293034; omega) d_law_794 (fun hp2 H1 locs1 hA I => ?_)
  obtain ⟨hM2, hF2⟩ := hA
  have hC2 := hC1.far (mf_far hM1 hne hF2) (ad_I.e I)
  have ho2 := mf_out hM1 ho1 hF2
  obtain ⟨_, hm2⟩ := hM2.self
  refine lv_istore (lv' := [(6, .int q.1.2), (5, .int (nI q.1.1)), (0, .ref b), (1, .ref x), (2, .ref m0), (3, .ref oA), (4, .int (nI i))]) hx hb d_law_797 hl (by decide) rfl (fun ls hl => ?_)
  refine lv_aload_n hx hb d_law_799 rfl (lv_at hl 4 rfl) ?_
  refine ad_cPi S I (ad_ivV (As := []) (rest := []) S (ad_recv I hm2 K_Mod) w_594 w_595 w_596 Y_M_thrown ⟨by decide, by decide, np_M_thrown⟩ rfl d_law_800) (r_thrown l G s.heap.size hp2 m0 bs (nI q.1.1) q.2 hM2) Y_M_thrown hl.1 ⟨Nat.le_of_ble_eq_true rfl, Nat.le_of_ble_eq_true rfl⟩ (by show _ ≤ 601024; omega) (by show _ ≤ 7293034; omega) d_law_800 ?_
  refine lv_iload hx hb d_law_803 (lv_at hl 1 rfl) ?_
  refine lv_icmp_eq (tgt := 810) hx hb d_law_805 (by decide) (fun _ => ?_) (fun cc => absurd rfl cc)
  refine lv_iload hx hb d_law_810 (lv_at hl 1 rfl) ?_
  refine lv_if_ne (tgt := 834) hx hb d_law_812 (by decide) (fun c0 => ?_) (fun c0 => ?_)
  · refine lv_goto (tgt := 1269) hx hb d_law_834 (by decide) ?_
    exact W.widen (k := cells + 128) (n := slots + 12800) (by omega) (by omega) (hk hp2 _ _ q.2 _ f1 I hC2 hM2 ho2 (by rw [hq]; exact hW) ls (lv_sub hl [2, 3, 4, 5, 6] rfl))
  · have hn9 := n_good A (xs (i + 1)) ((((xs (i + 2)).toInt64) <<< ((32 : Int32).toInt64 &&& 63)) ||| (((xs (i + 3)).toInt64) &&& 4294967295))
    rw [← hq] at hn9
    have hz2 := hz1 ((nI_eq (b := 0) (by omega) (by omega)).mp c0)
    have hb9 := z_good A (xs (i + 1)) ((((xs (i + 2)).toInt64) <<< ((32 : Int32).toInt64 &&& 63)) ||| (((xs (i + 3)).toInt64) &&& 4294967295))
    rw [← hq] at hb9
    refine lv_aload_n hx hb d_law_815 rfl (lv_at hl 5 rfl) ?_
    refine lv_iconst (v := 0) hx hb d_law_816 (by decide) ?_
    refine ad_lald S I ho2 (show vp_in 0 1 by unfold vp_in; decide) d_law_817 ?_
    refine ad_top (y := .long (f1 0)) rfl ?_
    refine lv_iload hx hb d_law_818 (lv_at hl 0 rfl) ?_
    refine lv_if_eq (tgt := 827) hx hb d_law_820 (by decide) (fun cb => ?_) (fun cb => ?_)
    · refine lv_lconst (v := 0) hx hb d_law_827 (by decide) ?_
      refine W.lcmp hx hb d_law_828 ?_
      refine lv_if_eq (tgt := 834) hx hb d_law_829 (by decide) (fun _ => ?_) (fun cc => absurd (ad_lcEq.mpr (by rw [hz2, cb]; rfl)) cc)
      refine lv_goto (tgt := 1269) hx hb d_law_834 (by decide) ?_
      exact W.widen (k := cells + 128) (n := slots + 12800) (by omega) (by omega) (hk hp2 _ _ q.2 _ f1 I hC2 hM2 ho2 (by rw [hq]; exact hW) ls (lv_sub hl [2, 3, 4, 5, 6] rfl))
    · refine lv_lconst (v := 1) hx hb d_law_823 (by decide) ?_
      refine lv_goto (tgt := 828) hx hb d_law_824 (by decide) ?_
      refine W.lcmp hx hb d_law_828 ?_
      refine lv_if_eq (tgt := 834) hx hb d_law_829 (by decide) (fun _ => ?_) (fun cc => absurd (ad_lcEq.mpr (by rw [hz2, (hb9.resolve_left cb)]; rfl)) cc)
      refine lv_goto (tgt := 1269) hx hb d_law_834 (by decide) ?_
      exact W.widen (k := cells + 128) (n := slots + 12800) (by omega) (by omega) (hk hp2 _ _ q.2 _ f1 I hC2 hM2 ho2 (by rw [hq]; exact hW) ls (lv_sub hl [2, 3, 4, 5, 6] rfl))
set_option maxHeartbeats 4000000 in
set_option maxRecDepth 100000 in
theorem lw_c10 {p : Program} {e : Env} {s : State} {m : MethodId} {below : List Frame} {meth : Method} {c : Code} {Q : State → Prop} {l : Launch} {b L : Nat} {xs : Nat → Int32} {G : ad_G} {x gA sA m0 oA : Nat} {bs : Nat → Nat} {i : Nat} {hp : ad_H} {H : Heap} {locs : List Loc} {cells slots : Nat} {A : AST} {th : Int32} {f : Nat → Int64} {ls : Array Slot} (S : CallFix p m c code 7 s #[Value.ref b] ad_T "AuditDrawsLaw") (hT : l.stackTraces = false) (hX : va_X b L xs s s.heap) (hbl : b < s.heap.size) (hne : ∀ i, i < 11 → bs i ≠ gA ∧ bs i ≠ sA) (hi : i + 5 ≤ L) (hL : L ≤ 2560) (hcl : cells + 128 ≤ 601024) (hsl : slots + 12800 ≤ 7293034) (I : ad_I G s.heap.size s hp H locs) (hC : CRA G hp x gA sA A) (hM : MRA G hp m0 bs th A) (ho : hp oA = some (.inl (G.2.1 2, 1, .inr (.inl f)))) (hW : WF A) (hl : lv_has ls 7 [(0, .ref b), (1, .ref x), (2, .ref m0), (3, .ref oA), (4, .int (nI i))]) (hk : ∀ (hp' : ad_H) (H' : Heap) (locs' : List Loc) (A' : AST) (th' : Int32) (f' : Nat → Int64), ad_I G s.heap.size s hp' H' locs' → CRA G hp' x gA sA A' → MRA G hp' m0 bs th' A' → hp' oA = some (.inl (G.2.1 2, 1, .inr (.inl f'))) → WF A' → ∀ ls' : Array Slot, lv_has ls' 7 [(0, .ref b), (1, .ref x), (2, .ref m0), (3, .ref oA), (4, .int (nI i))] → W p l e room_1 s m #[Value.ref b] below meth c H' locs' (cells + 128) (slots + 12800) Q (F0 m 1269 ls' [])) : W p l e room_1 s m #[Value.ref b] below meth c H locs cells slots Q (F0 m 837 ls []) := by
  obtain ⟨hx, hb, hml, hown, hts⟩ := id S
  have hbA : ¬ (fun q => s.heap.size ≤ q) b := Nat.not_le.mpr hbl
  obtain ⟨_, hm9⟩ := hM.self
  obtain ⟨_, hx9⟩ := hC.self
  refine lv_aload_n hx hb d_law_837 rfl (lv_at hl 1 rfl) ?_
  refine lv_aload_n hx hb d_law_838 rfl (lv_at hl 0 rfl) ?_
  refine lv_iload hx hb d_law_839 (lv_at hl 4 rfl) ?_
  refine lv_iconst (v := 1) hx hb d_law_841 (by decide) ?_
  refine lv_iadd hx hb d_law_842 ?_
  refine ad_top (y := .int (nI (i + 1))) (congrArg Value.int (nI_add i 1)) ?_
  refine va_sld hx hb hX hbl hbA I.S (vp_in_nI (show (i + 1) < L by omega) (by omega)) d_law_843 ?_
  refine ad_top (y := .int (xs (i + 1))) (congrArg (fun q => Value.int (xs q)) (show (nI (i + 1)).toNatClampNeg = (i + 1) from nI_clamp (by omega))) ?_
  refine lv_aload_n hx hb d_law_844 rfl (lv_at hl 0 rfl) ?_
  refine lv_iload hx hb d_law_845 (lv_at hl 4 rfl) ?_
  refine lv_iconst (v := 2) hx hb d_law_847 (by decide) ?_
  refine lv_iadd hx hb d_law_848 ?_
  refine ad_top (y := .int (nI (i + 2))) (congrArg Value.int (nI_add i 2)) ?_
  refine va_sld hx hb hX hbl hbA I.S (vp_in_nI (show (i + 2) < L by omega) (by omega)) d_law_849 ?_
  refine ad_top (y := .int (xs (i + 2))) (congrArg (fun q => Value.int (xs q)) (show (nI (i + 2)).toNatClampNeg = (i + 2) from nI_clamp (by omega))) ?_
  refine lv_aload_n hx hb d_law_850 rfl (lv_at hl 0 rfl) ?_
  refine lv_iload hx hb d_law_851 (lv_at hl 4 rfl) ?_
  refine lv_iconst (v := 3) hx hb d_law_853 (by decide) ?_
  refine lv_iadd hx hb d_law_854 ?_
  refine ad_top (y := .int (nI (i + 3))) (congrArg Value.int (nI_add i 3)) ?_
  refine va_sld hx hb hX hbl hbA I.S (vp_in_nI (show (i + 3) < L by omega) (by omega)) d_law_855 ?_
  refine ad_top (y := .int (xs (i + 3))) (congrArg (fun q => Value.int (xs q)) (show (nI (i + 3)).toNatClampNeg = (i + 3) from nI_clamp (by omega))) ?_
  refine lv_aload_n hx hb d_law_856 rfl (lv_at hl 0 rfl) ?_
  refine lv_iload hx hb d_law_857 (lv_at hl 4 rfl) ?_
  refine lv_iconst (v := 4) hx hb d_law_859 (by decide) ?_
  refine lv_iadd hx hb d_law_860 ?_
  refine ad_top (y := .int (nI (i + 4))) (congrArg Value.int (nI_add i 4)) ?_
  refine va_sld hx hb hX hbl hbA I.S (vp_in_nI (show (i + 4) < L by omega) (by omega)) d_law_861 ?_
  refine ad_top (y := .int (xs (i + 4))) (congrArg (fun q => Value.int (xs q)) (show (nI (i + 4)).toNatClampNeg = (i + 4) from nI_clamp (by omega))) ?_
  refine lv_aload_n hx hb d_law_862 rfl (lv_at hl 3 rfl) ?_
  obtain ⟨q, hq⟩ : ∃ q : (Nat × Int32) × AST, q = ((q_tg A.1 (xs (i + 1)) (xs (i + 2)) (xs (i + 3)) (xs (i + 4))).1, ((q_tg A.1 (xs (i + 1)) (xs (i + 2)) (xs (i + 3)) (xs (i + 4))).2, A.2.1, A.2.2)) := ⟨_, rfl⟩
  have hK := HP_eq (h_tag l G s.heap.size hp x gA sA oA A (xs (i + 1)) (xs (i + 2)) (xs (i + 3)) (xs (i + 4)) f hT hC hW ho)
  rw [← hq] at hK
  refine ad_cZi S I (ad_ivS (As := [.ref x, .int (xs (i + 1)), .int (xs (i + 2)), .int (xs (i + 3)), .int (xs (i + 4)), .ref oA]) (rest := []) S Y_L_tag w_454 w_455 w_0 ⟨by decide, by decide, np_L_tag⟩ rfl d_law_863) hK Y_L_tag hl.1 ⟨Nat.le_of_ble_eq_true rfl, Nat.le_of_ble_eq_true rfl⟩ (by show _ ≤ 601024; omega) (by show _ ≤ 7293034; omega) d_law_863 (fun hp1 H1 locs1 hA I => ?_)
  obtain ⟨hC1, ⟨f1, ho1, hz1⟩, hF1⟩ := hA
  have hM1 := hM.keep ho hne hF1
  obtain ⟨_, hm1⟩ := hM1.self
  refine lv_istore (lv' := [(5, .int (nI q.1.1)), (0, .ref b), (1, .ref x), (2, .ref m0), (3, .ref oA), (4, .int (nI i))]) hx hb d_law_866 hl (by decide) rfl (fun ls hl => ?_)
  refine lv_aload_n hx hb d_law_868 rfl (lv_at hl 3 rfl) ?_
  refine lv_aload_n hx hb d_law_869 rfl (lv_at hl 1 rfl) ?_
  refine lv_iload hx hb d_law_870 (lv_at hl 5 rfl) ?_
  refine lv_iconst (v := 1) hx hb d_law_872 (by decide) ?_
  refine lv_iadd hx hb d_law_873 ?_
  refine ad_top (y := .int (nI (i + 1))) (congrArg Value.int (nI_add i 1)) ?_
  refine va_sld hx hb hX hbl hbA I.S (vp_in_nI (show (i + 1) < L by omega) (by omega)) d_law_874 ?_
  refine ad_top (y := .int (xs (i + 1))) (congrArg (fun q => Value.int (xs q)) (show (nI (i + 1)).toNatClampNeg = (i + 1) from nI_clamp (by omega))) ?_
  refine lv_aload_n hx hb d_law_875 rfl (lv_at hl 1 rfl) ?_
  refine lv_iload hx hb d_law_876 (lv_at hl 5 rfl) ?_
  refine lv_iconst (v := 2) hx hb d_law_878 (by decide) ?_
  refine lv_iadd hx hb d_law_879 ?_
  refine ad_top (y := .int (nI (i + 2))) (congrArg Value.int (nI_add i 2)) ?_
  refine va_sld hx hb hX hbl hbA I.S (vp_in_nI (show (i + 2) < L by omega) (by omega)) d_law_880 ?_
  refine ad_top (y := .int (xs (i + 2))) (congrArg (fun q => Value.int (xs q)) (show (nI (i + 2)).toNatClampNeg = (i + 2) from nI_clamp (by omega))) ?_
  refine lv_aload_n hx hb d_law_881 rfl (lv_at hl 1 rfl) ?_
  refine lv_iload hx hb d_law_882 (lv_at hl 5 rfl) ?_
  refine lv_iconst (v := 3) hx hb d_law_884 (by decide) ?_
  refine lv_iadd hx hb d_law_885 ?_
  refine ad_top (y := .int (nI (i + 3))) (congrArg Value.int (nI_add i 3)) ?_
  refine va_sld hx hb hX hbl hbA I.S (vp_in_nI (show (i + 3) < L by omega) (by omega)) d_law_886 ?_
  refine ad_top (y := .int (xs (i + 3))) (congrArg (fun q => Value.int (xs q)) (show (nI (i + 3)).toNatClampNeg = (i + 3) from nI_clamp (by omega))) ?_
  refine lv_aload_n hx hb d_law_887 rfl (lv_at hl 1 rfl) ?_
  refine lv_iload hx hb d_law_888 (lv_at hl 5 rfl) ?_
  refine lv_iconst (v := 4) hx hb d_law_890 (by decide) ?_
  refine lv_iadd hx hb d_law_891 ?_
  refine ad_top (y := .int (nI (i + 4))) (congrArg Value.int (nI_add i 4)) ?_
  refine va_sld hx hb hX hbl hbA I.S (vp_in_nI (show (i + 4) < L by omega) (by omega)) d_law_892 ?_
  refine ad_top (y := .int (xs (i + 4))) (congrArg (fun q => Value.int (xs q)) (show (nI (i + 4)).toNatClampNeg = (i + 4) from nI_clamp (by omega))) ?_
  have hK := MP_eq (r_tag l G s.heap.size hp1 m0 bs th A (xs (i + 1)) (xs (i + 2)) (xs (i + 3)) (xs (i + 4)) hM1 hW)
  rw [← hq] at hK
  refine ad_cZi S I (ad_ivV (As := [.int (xs (i + 1)), .int (xs (i + 2)), .int (xs (i + 3)), .int (xs (i + 4))]) (rest := []) S (ad_recv I hm1 K_Mod) w_690 w_691 w_692 Y_M_tag ⟨by decide, by decide, np_M_tag⟩ rfl d_law_893) hK Y_M_tag hl.1 ⟨Nat.le_of_ble_eq_true rfl, Nat.le_of_ble_eq_true rfl⟩ (by show _ ≤ 601024; omega) (by show _ ≤ 7293034; omega) d_law_893 (fun hp2 H1 locs1 hA I => ?_)
  obtain ⟨hM2, hF2⟩ := hA
  have hC2 := hC1.far (mf_far hM1 hne hF2) (ad_I.e I)
  have ho2 := mf_out hM1 ho1 hF2
  obtain ⟨_, hm2⟩ := hM2.self
  refine lv_istore (lv' := [(6, .int q.1.2), (5, .int (nI q.1.1)), (0, .ref b), (1, .ref x), (2, .ref m0), (3, .ref oA), (4, .int (nI i))]) hx hb d_law_896 hl (by decide) rfl (fun ls hl => ?_)
  refine lv_aload_n hx hb d_law_898 rfl (lv_at hl 4 rfl) ?_
  refine ad_cPi S I (ad_ivV (As := []) (rest := []) S (ad_recv I hm2 K_Mod) w_594 w_595 w_596 Y_M_thrown ⟨by decide, by decide, np_M_thrown⟩ rfl d_law_899) (r_thrown l G s.heap.size hp2 m0 bs (nI q.1.1) q.2 hM2) Y_M_thrown hl.1 ⟨Nat.le_of_ble_eq_true rfl, Nat.le_of_ble_eq_true rfl⟩ (by show _ ≤ 601024; omega) (by show _ ≤ 7293034; omega) d_law_899 ?_
  refine lv_iload hx hb d_law_902 (lv_at hl 1 rfl) ?_
  refine lv_icmp_eq (tgt := 909) hx hb d_law_904 (by decide) (fun _ => ?_) (fun cc => absurd rfl cc)
  refine lv_iload hx hb d_law_909 (lv_at hl 1 rfl) ?_
  refine lv_if_ne (tgt := 926) hx hb d_law_911 (by decide) (fun c0 => ?_) (fun c0 => ?_)
  · refine lv_goto (tgt := 1269) hx hb d_law_926 (by decide) ?_
    exact W.widen (k := cells + 128) (n := slots + 12800) (by omega) (by omega) (hk hp2 _ _ q.2 _ f1 I hC2 hM2 ho2 (by rw [hq]; exact hW.tg (xs (i + 1)) (xs (i + 2)) (xs (i + 3)) (xs (i + 4))) ls (lv_sub hl [2, 3, 4, 5, 6] rfl))
  · have hn9 := n_tag A (xs (i + 1)) (xs (i + 2)) (xs (i + 3)) (xs (i + 4))
    rw [← hq] at hn9
    have hz2 := hz1 ((nI_eq (b := 0) (by omega) (by omega)).mp c0)
    refine lv_aload_n hx hb d_law_914 rfl (lv_at hl 5 rfl) ?_
    refine lv_iconst (v := 0) hx hb d_law_915 (by decide) ?_
    refine ad_lald S I ho2 (show vp_in 0 1 by unfold vp_in; decide) d_law_916 ?_
    refine ad_top (y := .long (f1 0)) rfl ?_
    refine lv_iload hx hb d_law_917 (lv_at hl 0 rfl) ?_
    refine lv_i2l (v := q.1.2.toInt64) hx hb d_law_919 rfl ?_
    refine W.lcmp hx hb d_law_920 ?_
    refine lv_if_eq (tgt := 926) hx hb d_law_921 (by decide) (fun _ => ?_) (fun cc => absurd (ad_lcEq.mpr hz2) cc)
    refine lv_goto (tgt := 1269) hx hb d_law_926 (by decide) ?_
    exact W.widen (k := cells + 128) (n := slots + 12800) (by omega) (by omega) (hk hp2 _ _ q.2 _ f1 I hC2 hM2 ho2 (by rw [hq]; exact hW.tg (xs (i + 1)) (xs (i + 2)) (xs (i + 3)) (xs (i + 4))) ls (lv_sub hl [2, 3, 4, 5, 6] rfl))
