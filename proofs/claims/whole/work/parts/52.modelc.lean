def cc (ts : List TH) (s0 q0 : Int32) : Nat := ts.countP (fun t => decide (t.1 = s0 ∧ t.2.2.1 = q0))
theorem iv_11 (x : Int32) : (1 ≤ x ∧ x ≤ 1) ↔ x = 1 := by
  have z1 : (1 : Int32).toInt = 1 := by decide
  rw [Int32.le_iff_toInt_le, Int32.le_iff_toInt_le, ← Int32.toInt_inj, z1]
  omega
theorem iv_23 (x : Int32) : (2 ≤ x ∧ x ≤ 3) ↔ (x = 2 ∨ x = 3) := by
  have z2 : (2 : Int32).toInt = 2 := by decide
  have z3 : (3 : Int32).toInt = 3 := by decide
  rw [Int32.le_iff_toInt_le, Int32.le_iff_toInt_le, ← Int32.toInt_inj, ← Int32.toInt_inj, z2, z3]
  omega
theorem iv_13 (x : Int32) : (1 ≤ x ∧ x ≤ 3) ↔ (x = 1 ∨ x = 2 ∨ x = 3) := by
  have z1 : (1 : Int32).toInt = 1 := by decide
  have z2 : (2 : Int32).toInt = 2 := by decide
  have z3 : (3 : Int32).toInt = 3 := by decide
  rw [Int32.le_iff_toInt_le, Int32.le_iff_toInt_le, ← Int32.toInt_inj, ← Int32.toInt_inj, ← Int32.toInt_inj, z1, z2, z3]
  omega
theorem mn_11 (ts : List TH) (s0 : Int32) : ts.countP (fun t => decide (t.1 = s0 ∧ 1 ≤ t.2.2.1 ∧ t.2.2.1 ≤ 1)) = cc ts s0 1 :=
  List.countP_congr (fun t _ => by simp only [decide_eq_true_eq, iv_11])
theorem cc_or (ts : List TH) (s0 a b : Int32) (h : a ≠ b) : ts.countP (fun t => decide (t.1 = s0 ∧ (t.2.2.1 = a ∨ t.2.2.1 = b))) = cc ts s0 a + cc ts s0 b := by
  unfold cc
  rw [← cp_add (fun t _ hp => ?_)]
  · exact List.countP_congr (fun t _ => by simp only [decide_eq_true_eq, Bool.or_eq_true, and_or_left])
  · simp only [decide_eq_true_eq] at hp
    rw [decide_eq_false_iff_not]
    exact fun hq => h (hp.2.symm.trans hq.2)
theorem mn_23 (ts : List TH) (s0 : Int32) : ts.countP (fun t => decide (t.1 = s0 ∧ 2 ≤ t.2.2.1 ∧ t.2.2.1 ≤ 3)) = cc ts s0 2 + cc ts s0 3 := by
  rw [← cc_or ts s0 2 3 (by decide)]
  exact List.countP_congr (fun t _ => by simp only [decide_eq_true_eq, iv_23])
theorem mn_13 (ts : List TH) (s0 : Int32) : ts.countP (fun t => decide (t.1 = s0 ∧ 1 ≤ t.2.2.1 ∧ t.2.2.1 ≤ 3)) = cc ts s0 1 + (cc ts s0 2 + cc ts s0 3) := by
  rw [← mn_23]
  unfold cc
  rw [← cp_add (fun t _ hp => ?_)]
  · refine List.countP_congr (fun t _ => ?_)
    simp only [decide_eq_true_eq, Bool.or_eq_true, iv_13, iv_23, and_or_left]
  · simp only [decide_eq_true_eq] at hp
    rw [decide_eq_false_iff_not]
    intro hq
    rw [hp.2] at hq
    exact absurd hq.2 (by decide)
theorem cc_le (ts : List TH) (s0 : Int32) : cc ts s0 1 + (cc ts s0 2 + cc ts s0 3) ≤ ts.length := by
  rw [← mn_13]; exact List.countP_le_length
theorem in_nm (v : Int64) : sp_in v 0 100000000000000000 = 0 ↔ ¬ okn v := by
  unfold sp_in okn
  rw [Int64.not_lt]
  split
  · next q => exact ⟨fun z => absurd z (by decide), fun z => absurd q z⟩
  · next q => exact ⟨fun _ => q, fun _ => rfl⟩
theorem wd_ct {kind : Int32} (h : okb kind 3) (j : Nat) (hj : j < 18) (v : Int32) : sp_wd kind (nI j) v = sp_ct kind v (nI j) := by
  have e2 : nI j - nI j / 2 * 2 = nI (j % 2) := pk_rem (d := 2) (by omega) (by omega) (by omega)
  obtain ⟨q, hq, rfl⟩ := ad_2 (n := 3) h.1 h.2 (by omega)
  have hm : j % 2 = 0 ∨ j % 2 = 1 := by omega
  have hk : q = 0 ∨ q = 1 ∨ q = 2 := by omega
  unfold sp_wd sp_ct
  rw [e2]
  rcases hk with rfl | rfl | rfl <;> rcases hm with e | e <;> rw [e] <;> rfl
theorem ws_ms {kind : Int32} (h : okb kind 3) (number : Int64) : ∀ j, j ≤ 18 → sp_ws kind number j = sp_ms kind number j
  | 0, _ => rfl
  | j + 1, hj => by
    simp only [sp_ws, sp_ms, ws_ms h number j (by omega), wd_ct h j (by omega)]
theorem of_mo {kind : Int32} (h : okb kind 3) (number : Int64) : sp_mo kind number = sp_of kind number := by
  unfold sp_mo sp_of
  rw [ws_ms h number 18 (by omega)]
  obtain ⟨q, hq, rfl⟩ := ad_2 (n := 3) h.1 h.2 (by omega)
  have hk : q = 0 ∨ q = 1 ∨ q = 2 := by omega
  rcases hk with rfl | rfl | rfl <;> rfl
theorem gd_eq {v0 : Int64} (h : ¬ v0 < 0) (y : Int32) : v0 - v0 / 10 * 10 = y.toInt64 ↔ y = (v0 - v0 / 10 * 10).toInt32 := by
  obtain ⟨k, hk, rfl⟩ := pk_lOf h
  have e : lN k - lN k / 10 * 10 = lN (k % 10) := pk_lRem (b := 10) hk (by omega) (by omega)
  have hlt := Nat.mod_lt k (show 0 < 10 by omega)
  rw [e]
  have e2 : (lN (k % 10)).toInt32 = nI (k % 10) := Int64.toInt32_ofNat
  rw [e2, ← nI_l (by omega)]
  constructor
  · intro hh
    have := congrArg Int64.toInt hh
    rw [Int32.toInt_toInt64, Int32.toInt_toInt64] at this
    exact (Int32.toInt_inj.mp this).symm
  · intro hh; rw [hh]
theorem nI_cl {x : Int32} (h : ¬ x < 0) : x = nI x.toNatClampNeg := by
  obtain ⟨j, hj, rfl⟩ := nI_of h
  rw [nI_clamp hj]
def q_rp (P : TH → Bool) (ts : List TH) (b v k : Int32) : Nat × Int32 := if okb v b ∧ 0 ≤ k then (0, sp_ki (sp_kth P ts 0 k.toNatClampNeg)) else (1, 0)
set_option maxHeartbeats 4000000 in
set_option maxRecDepth 100000 in
theorem c_M_next (l : Launch) (G : ad_G) (lo : Nat) (hp : ad_H) (m0 : Nat) (bs : Nat → Nat) (th : Int32) (sd : Int64) (fs : Nat → Nat → Int32) (ts : List TH) (lt : List Nat) (s0 : Int32)  (C : MC G hp m0 bs th sd (nI ts.length) (nI lt.length) fs) (A : MA ts lt fs) (hn : ts.length ≤ 64) : ad_Ct l y_M_next b_M_next 4 rt_M_next hs_M_next 3 0 0 G lo hp [.ref m0, .int s0] (fun r hp' => r = .inl (some (.int (q_nx (cc ts s0 1) (cc ts s0 2) (cc ts s0 3) s0).2)) ∧ ∃ fs' : Nat → Nat → Int32, MC G hp' m0 bs (nI (q_nx (cc ts s0 1) (cc ts s0 2) (cc ts s0 3) s0).1) sd (nI (ts).length) (nI (lt).length) fs' ∧ MA (ts) lt fs' ∧ mf m0 bs hp hp') := by
  intro p e s m below meth c M hts hB hP
  have hx := M.1
  have hb := M.2.1
  have hml := M.2.2.1
  have hown : s.vm.findClass "AuditDrawsModel" = some m.cls := M.2.2.2.1
  have S : CallFix p m c b_M_next 4 s _ ad_T "AuditDrawsModel" := ⟨hx, hb, hml, hown, hts⟩
  have I : ad_I G lo s hp s.heap [] := ad_I.rf hB hP
  have hl := lv_entry ([.ref m0, .int s0]) (n := 4) (Nat.le_of_ble_eq_true rfl)
  rw [lg_entry_eq]
  generalize (lg_sl ([.ref m0, .int s0]) ++ List.replicate (4 - (lg_sl ([.ref m0, .int s0])).length) Slot.unset).toArray = ls at hl ⊢
  have hl : lv_has ls 4 [(0, .ref m0), (1, .int s0)] := hl
  have hcl := cc_le ts s0
  refine lv_aload_n hx hb d_M_next_0 rfl (lv_at hl 0 rfl) ?_
  refine lv_iload_n hx hb d_M_next_1 rfl (lv_at hl 1 rfl) ?_
  refine lv_i2l (v := s0.toInt64) hx hb d_M_next_2 rfl ?_
  refine lv_lconst (v := 0) hx hb d_M_next_3 (by decide) ?_
  refine lv_ldc2 (v := 5) hx hb hown (hts _ w_606) d_M_next_4 ?_
  refine ad_cPi S I (ad_ivS (As := [.long s0.toInt64, .long 0, .long 5]) (rest := [.ref m0]) S Y_M_in w_607 w_608 w_6 ⟨by decide, by decide, np_M_in⟩ rfl d_M_next_7) (c_M_in l G lo hp s0.toInt64 0 5) Y_M_in hl.1 ⟨Nat.le_of_ble_eq_true rfl, Nat.le_of_ble_eq_true rfl⟩ (Nat.le_of_ble_eq_true rfl) (Nat.le_of_ble_eq_true rfl) d_M_next_7 ?_
  refine lv_if_ne (tgt := 17) hx hb d_M_next_10 (by decide) (fun c10 => ?_) (fun c10 => ?_)
  · rw [in_ok s0 _ 6 (by decide), Decidable.not_not] at c10
    refine lv_iconst (v := 0) hx hb d_M_next_17 (by decide) ?_
    refine lv_iconst (v := 0) hx hb d_M_next_18 (by decide) ?_
    refine lv_iconst (v := 0) hx hb d_M_next_19 (by decide) ?_
    refine ad_cZi S I (ad_ivV (As := [.int 0, .int 0, .int 0]) (rest := []) S (ad_recv I C.1 K_Mod) w_611 w_613 sp_M_fails Y_M_fails ⟨by decide, by decide, np_M_fails⟩ rfl d_M_next_20) (c_M_fails l G lo hp m0 bs th sd (nI ts.length) (nI lt.length) fs 0 0 0 C) Y_M_fails hl.1 ⟨Nat.le_of_ble_eq_true rfl, Nat.le_of_ble_eq_true rfl⟩ (Nat.le_of_ble_eq_true rfl) (Nat.le_of_ble_eq_true rfl) d_M_next_20 (fun hp1 H1 locs1 hA I => ?_)
    obtain ⟨C1, F1⟩ := hA
    have C1 : MC G hp1 m0 bs 0 sd (nI ts.length) (nI lt.length) fs := C1
    refine ad_top (y := .int 0) (by rfl) ?_
    refine lv_if_eq (tgt := 28) hx hb d_M_next_23 (by decide) (fun c23 => ?_) (fun c23 => ?_)
    · refine lv_aload_n hx hb d_M_next_28 rfl (lv_at hl 0 rfl) ?_
      refine lv_iload_n hx hb d_M_next_29 rfl (lv_at hl 1 rfl) ?_
      refine lv_iconst (v := 1) hx hb d_M_next_30 (by decide) ?_
      refine lv_iconst (v := 3) hx hb d_M_next_31 (by decide) ?_
      refine ad_cPi S I (ad_ivV (As := [.int s0, .int 1, .int 3]) (rest := []) S (ad_recv I C1.1 K_Mod) w_662 w_664 sp_M_many Y_M_many ⟨by decide, by decide, np_M_many⟩ rfl d_M_next_32) (c_M_many l G lo hp1 m0 bs 0 sd (nI lt.length) fs ts lt s0 1 3 C1 A hn) Y_M_many hl.1 ⟨Nat.le_of_ble_eq_true rfl, Nat.le_of_ble_eq_true rfl⟩ (Nat.le_of_ble_eq_true rfl) (Nat.le_of_ble_eq_true rfl) d_M_next_32 ?_
      refine ad_top (y := .int (nI (cc ts s0 1 + (cc ts s0 2 + cc ts s0 3)))) (by rw [mn_13]) ?_
      refine lv_istore_n (lv' := [(2, .int (nI (cc ts s0 1 + (cc ts s0 2 + cc ts s0 3)))), (0, .ref m0), (1, .int s0)]) hx hb d_M_next_35 rfl hl (by decide) rfl (fun ls hl => ?_)
      refine lv_aload_n hx hb d_M_next_36 rfl (lv_at hl 1 rfl) ?_
      refine lv_iload_n hx hb d_M_next_37 rfl (lv_at hl 2 rfl) ?_
      refine lv_iconst (v := 2) hx hb d_M_next_38 (by decide) ?_
      refine lv_iconst (v := 3) hx hb d_M_next_39 (by decide) ?_
      refine ad_cPi S I (ad_ivV (As := [.int s0, .int 2, .int 3]) (rest := []) S (ad_recv I C1.1 K_Mod) w_662 w_664 sp_M_many Y_M_many ⟨by decide, by decide, np_M_many⟩ rfl d_M_next_40) (c_M_many l G lo hp1 m0 bs 0 sd (nI lt.length) fs ts lt s0 2 3 C1 A hn) Y_M_many hl.1 ⟨Nat.le_of_ble_eq_true rfl, Nat.le_of_ble_eq_true rfl⟩ (Nat.le_of_ble_eq_true rfl) (Nat.le_of_ble_eq_true rfl) d_M_next_40 ?_
      refine ad_top (y := .int (nI (cc ts s0 2 + cc ts s0 3))) (by rw [mn_23]) ?_
      refine lv_istore_n (lv' := [(3, .int (nI (cc ts s0 2 + cc ts s0 3))), (2, .int (nI (cc ts s0 1 + (cc ts s0 2 + cc ts s0 3)))), (0, .ref m0), (1, .int s0)]) hx hb d_M_next_43 rfl hl (by decide) rfl (fun ls hl => ?_)
      refine lv_iload_n hx hb d_M_next_44 rfl (lv_at hl 1 rfl) ?_
      refine lv_if_ne (tgt := 53) hx hb d_M_next_45 (by decide) (fun c45 => ?_) (fun c45 => ?_)
      · refine lv_bipush (v := 50) hx hb d_M_next_53 (by decide) ?_
        refine lv_sipush (v := 950) hx hb d_M_next_55 (by decide) ?_
        refine lv_iload_n hx hb d_M_next_58 rfl (lv_at hl 0 rfl) ?_
        refine lv_imul hx hb d_M_next_59 ?_
        refine lv_iload_n hx hb d_M_next_60 rfl (lv_at hl 1 rfl) ?_
        refine lv_iadd hx hb d_M_next_61 ?_
        refine lv_iconst (v := 1) hx hb d_M_next_62 (by decide) ?_
        refine lv_isub hx hb d_M_next_63 ?_
        refine lv_iload_n hx hb d_M_next_64 rfl (lv_at hl 1 rfl) ?_
        refine lv_idiv hx hb d_M_next_65 c45 ?_
        refine lv_iadd hx hb d_M_next_66 ?_
        exact ad_iret M I rfl (by omega) (by omega) (⟨by rw [(show q_nx (cc ts s0 1) (cc ts s0 2) (cc ts s0 3) s0 = (0, 50 + ((((950 * (nI (cc ts s0 2 + cc ts s0 3))) + (nI (cc ts s0 1 + (cc ts s0 2 + cc ts s0 3)))) - 1) / (nI (cc ts s0 1 + (cc ts s0 2 + cc ts s0 3))))) by simp only [q_nx]; rw [if_pos c10, if_neg (fun h => c45 (by rw [h]; rfl))])], fs, by rw [(show q_nx (cc ts s0 1) (cc ts s0 2) (cc ts s0 3) s0 = (0, 50 + ((((950 * (nI (cc ts s0 2 + cc ts s0 3))) + (nI (cc ts s0 1 + (cc ts s0 2 + cc ts s0 3)))) - 1) / (nI (cc ts s0 1 + (cc ts s0 2 + cc ts s0 3))))) by simp only [q_nx]; rw [if_pos c10, if_neg (fun h => c45 (by rw [h]; rfl))])]; exact C1, A, F1⟩) d_M_next_67
      · refine lv_bipush (v := 100) hx hb d_M_next_48 (by decide) ?_
        refine lv_goto (tgt := 67) hx hb d_M_next_50 (by decide) ?_
        exact ad_iret M I rfl (by omega) (by omega) (⟨by rw [(show q_nx (cc ts s0 1) (cc ts s0 2) (cc ts s0 3) s0 = (0, 100) by simp only [q_nx]; rw [if_pos c10, if_pos ((nI_eq (b := 0) (by omega) (by omega)).mp c45)])], fs, by rw [(show q_nx (cc ts s0 1) (cc ts s0 2) (cc ts s0 3) s0 = (0, 100) by simp only [q_nx]; rw [if_pos c10, if_pos ((nI_eq (b := 0) (by omega) (by omega)).mp c45)])]; exact C1, A, F1⟩) d_M_next_67
    · exact absurd c23 (by decide)
  · rw [in_ok s0 _ 6 (by decide)] at c10
    refine lv_iconst (v := 1) hx hb d_M_next_13 (by decide) ?_
    refine lv_goto (tgt := 18) hx hb d_M_next_14 (by decide) ?_
    refine lv_iconst (v := 0) hx hb d_M_next_18 (by decide) ?_
    refine lv_iconst (v := 0) hx hb d_M_next_19 (by decide) ?_
    refine ad_cZi S I (ad_ivV (As := [.int 1, .int 0, .int 0]) (rest := []) S (ad_recv I C.1 K_Mod) w_611 w_613 sp_M_fails Y_M_fails ⟨by decide, by decide, np_M_fails⟩ rfl d_M_next_20) (c_M_fails l G lo hp m0 bs th sd (nI ts.length) (nI lt.length) fs 1 0 0 C) Y_M_fails hl.1 ⟨Nat.le_of_ble_eq_true rfl, Nat.le_of_ble_eq_true rfl⟩ (Nat.le_of_ble_eq_true rfl) (Nat.le_of_ble_eq_true rfl) d_M_next_20 (fun hp2 H1 locs1 hA I => ?_)
    obtain ⟨C2, F2⟩ := hA
    have C2 : MC G hp2 m0 bs 1 sd (nI ts.length) (nI lt.length) fs := C2
    refine ad_top (y := .int 1) (by rfl) ?_
    refine lv_if_eq (tgt := 28) hx hb d_M_next_23 (by decide) (fun c23 => ?_) (fun c23 => ?_)
    · exact absurd c23 (by decide)
    · refine lv_iconst (v := 0) hx hb d_M_next_26 (by decide) ?_
      exact ad_iret M I rfl (by omega) (by omega) (⟨by rw [(show q_nx (cc ts s0 1) (cc ts s0 2) (cc ts s0 3) s0 = (1, 0) from if_neg c10)], fs, by rw [(show q_nx (cc ts s0 1) (cc ts s0 2) (cc ts s0 3) s0 = (1, 0) from if_neg c10)]; exact C2, A, F2⟩) d_M_next_27
set_option maxHeartbeats 4000000 in
set_option maxRecDepth 100000 in
theorem c_M_digit (l : Launch) (G : ad_G) (lo : Nat) (hp : ad_H) (m0 : Nat) (bs : Nat → Nat) (th : Int32) (sd : Int64) (fs : Nat → Nat → Int32) (ts : List TH) (lt : List Nat) (k0 : Int32) (v0 : Int64)  (C : MC G hp m0 bs th sd (nI ts.length) (nI lt.length) fs) (A : MA ts lt fs) (hn : ts.length ≤ 64) : ad_Ct l y_M_digit b_M_digit 4 rt_M_digit hs_M_digit 4 0 0 G lo hp [.ref m0, .int k0, .long v0] (fun r hp' => r = .inl (some (.int (q_dg k0 v0).2)) ∧ ∃ fs' : Nat → Nat → Int32, MC G hp' m0 bs (nI (q_dg k0 v0).1) sd (nI (ts).length) (nI (lt).length) fs' ∧ MA (ts) lt fs' ∧ mf m0 bs hp hp') := by
  intro p e s m below meth c M hts hB hP
  have hx := M.1
  have hb := M.2.1
  have hml := M.2.2.1
  have hown : s.vm.findClass "AuditDrawsModel" = some m.cls := M.2.2.2.1
  have S : CallFix p m c b_M_digit 4 s _ ad_T "AuditDrawsModel" := ⟨hx, hb, hml, hown, hts⟩
  have I : ad_I G lo s hp s.heap [] := ad_I.rf hB hP
  have hl := lv_entry ([.ref m0, .int k0, .long v0]) (n := 4) (Nat.le_of_ble_eq_true rfl)
  rw [lg_entry_eq]
  generalize (lg_sl ([.ref m0, .int k0, .long v0]) ++ List.replicate (4 - (lg_sl ([.ref m0, .int k0, .long v0])).length) Slot.unset).toArray = ls at hl ⊢
  have hl : lv_has ls 4 [(0, .ref m0), (1, .int k0), (2, .long v0)] := hl
  refine lv_aload_n hx hb d_M_digit_0 rfl (lv_at hl 0 rfl) ?_
  refine lv_iload_n hx hb d_M_digit_1 rfl (lv_at hl 1 rfl) ?_
  refine lv_i2l (v := k0.toInt64) hx hb d_M_digit_2 rfl ?_
  refine lv_lconst (v := 0) hx hb d_M_digit_3 (by decide) ?_
  refine lv_ldc2 (v := 2) hx hb hown (hts _ w_674) d_M_digit_4 ?_
  refine ad_cPi S I (ad_ivS (As := [.long k0.toInt64, .long 0, .long 2]) (rest := [.ref m0]) S Y_M_in w_607 w_608 w_6 ⟨by decide, by decide, np_M_in⟩ rfl d_M_digit_7) (c_M_in l G lo hp k0.toInt64 0 2) Y_M_in hl.1 ⟨Nat.le_of_ble_eq_true rfl, Nat.le_of_ble_eq_true rfl⟩ (Nat.le_of_ble_eq_true rfl) (Nat.le_of_ble_eq_true rfl) d_M_digit_7 ?_
  refine lv_if_ne (tgt := 17) hx hb d_M_digit_10 (by decide) (fun c10 => ?_) (fun c10 => ?_)
  · rw [in_ok k0 _ 3 (by decide), Decidable.not_not] at c10
    refine lv_iconst (v := 0) hx hb d_M_digit_17 (by decide) ?_
    refine lv_lload_n hx hb d_M_digit_18 rfl (lv_at hl 2 rfl) ?_
    refine lv_lconst (v := 0) hx hb d_M_digit_19 (by decide) ?_
    refine lv_ldc2 (v := 100000000000000000) hx hb hown (hts _ w_675) d_M_digit_20 ?_
    refine ad_cPi S I (ad_ivS (As := [.long v0, .long 0, .long 100000000000000000]) (rest := [.int 0, .ref m0]) S Y_M_in w_607 w_608 w_6 ⟨by decide, by decide, np_M_in⟩ rfl d_M_digit_23) (c_M_in l G lo hp v0 0 100000000000000000) Y_M_in hl.1 ⟨Nat.le_of_ble_eq_true rfl, Nat.le_of_ble_eq_true rfl⟩ (Nat.le_of_ble_eq_true rfl) (Nat.le_of_ble_eq_true rfl) d_M_digit_23 ?_
    refine lv_if_ne (tgt := 33) hx hb d_M_digit_26 (by decide) (fun c26 => ?_) (fun c26 => ?_)
    · rw [in_nm, Decidable.not_not] at c26
      refine lv_iconst (v := 0) hx hb d_M_digit_33 (by decide) ?_
      refine lv_iconst (v := 0) hx hb d_M_digit_34 (by decide) ?_
      refine ad_cZi S I (ad_ivV (As := [.int 0, .int 0, .int 0]) (rest := []) S (ad_recv I C.1 K_Mod) w_611 w_613 sp_M_fails Y_M_fails ⟨by decide, by decide, np_M_fails⟩ rfl d_M_digit_35) (c_M_fails l G lo hp m0 bs th sd (nI ts.length) (nI lt.length) fs 0 0 0 C) Y_M_fails hl.1 ⟨Nat.le_of_ble_eq_true rfl, Nat.le_of_ble_eq_true rfl⟩ (Nat.le_of_ble_eq_true rfl) (Nat.le_of_ble_eq_true rfl) d_M_digit_35 (fun hp1 H1 locs1 hA I => ?_)
      obtain ⟨C1, F1⟩ := hA
      have C1 : MC G hp1 m0 bs 0 sd (nI ts.length) (nI lt.length) fs := C1
      refine ad_top (y := .int 0) (by rfl) ?_
      refine lv_if_eq (tgt := 45) hx hb d_M_digit_38 (by decide) (fun c38 => ?_) (fun c38 => ?_)
      · refine lv_iload_n hx hb d_M_digit_45 rfl (lv_at hl 1 rfl) ?_
        refine lv_lload_n hx hb d_M_digit_46 rfl (lv_at hl 2 rfl) ?_
        refine ad_cPi S I (ad_ivS (As := [.int k0, .long v0]) (rest := []) S Y_M_digitOf w_676 w_677 w_6 ⟨by decide, by decide, np_M_digitOf⟩ rfl d_M_digit_47) (c_M_digitOf l G lo hp1 k0 v0) Y_M_digitOf hl.1 ⟨Nat.le_of_ble_eq_true rfl, Nat.le_of_ble_eq_true rfl⟩ (Nat.le_of_ble_eq_true rfl) (Nat.le_of_ble_eq_true rfl) d_M_digit_47 ?_
        exact ad_iret M I rfl (by omega) (by omega) (⟨by rw [(show q_dg k0 v0 = (0, sp_of k0 v0) by simp only [q_dg]; rw [if_pos c10, if_pos c26]), of_mo c10], fs, by rw [(show q_dg k0 v0 = (0, sp_of k0 v0) by simp only [q_dg]; rw [if_pos c10, if_pos c26])]; exact C1, A, F1⟩) d_M_digit_50
      · exact absurd c38 (by decide)
    · rw [in_nm] at c26
      refine lv_iconst (v := 1) hx hb d_M_digit_29 (by decide) ?_
      refine lv_goto (tgt := 34) hx hb d_M_digit_30 (by decide) ?_
      refine lv_iconst (v := 0) hx hb d_M_digit_34 (by decide) ?_
      refine ad_cZi S I (ad_ivV (As := [.int 0, .int 1, .int 0]) (rest := []) S (ad_recv I C.1 K_Mod) w_611 w_613 sp_M_fails Y_M_fails ⟨by decide, by decide, np_M_fails⟩ rfl d_M_digit_35) (c_M_fails l G lo hp m0 bs th sd (nI ts.length) (nI lt.length) fs 0 1 0 C) Y_M_fails hl.1 ⟨Nat.le_of_ble_eq_true rfl, Nat.le_of_ble_eq_true rfl⟩ (Nat.le_of_ble_eq_true rfl) (Nat.le_of_ble_eq_true rfl) d_M_digit_35 (fun hp2 H1 locs1 hA I => ?_)
      obtain ⟨C2, F2⟩ := hA
      have C2 : MC G hp2 m0 bs 2 sd (nI ts.length) (nI lt.length) fs := C2
      refine ad_top (y := .int 1) (by rfl) ?_
      refine lv_if_eq (tgt := 45) hx hb d_M_digit_38 (by decide) (fun c38 => ?_) (fun c38 => ?_)
      · exact absurd c38 (by decide)
      · refine lv_iconst (v := 0) hx hb d_M_digit_41 (by decide) ?_
        refine lv_goto (tgt := 50) hx hb d_M_digit_42 (by decide) ?_
        exact ad_iret M I rfl (by omega) (by omega) (⟨by rw [(show q_dg k0 v0 = (2, 0) by simp only [q_dg]; rw [if_pos c10, if_neg c26])], fs, by rw [(show q_dg k0 v0 = (2, 0) by simp only [q_dg]; rw [if_pos c10, if_neg c26])]; exact C2, A, F2⟩) d_M_digit_50
  · rw [in_ok k0 _ 3 (by decide)] at c10
    refine lv_iconst (v := 1) hx hb d_M_digit_13 (by decide) ?_
    refine lv_goto (tgt := 18) hx hb d_M_digit_14 (by decide) ?_
    refine lv_lload_n hx hb d_M_digit_18 rfl (lv_at hl 2 rfl) ?_
    refine lv_lconst (v := 0) hx hb d_M_digit_19 (by decide) ?_
    refine lv_ldc2 (v := 100000000000000000) hx hb hown (hts _ w_675) d_M_digit_20 ?_
    refine ad_cPi S I (ad_ivS (As := [.long v0, .long 0, .long 100000000000000000]) (rest := [.int 1, .ref m0]) S Y_M_in w_607 w_608 w_6 ⟨by decide, by decide, np_M_in⟩ rfl d_M_digit_23) (c_M_in l G lo hp v0 0 100000000000000000) Y_M_in hl.1 ⟨Nat.le_of_ble_eq_true rfl, Nat.le_of_ble_eq_true rfl⟩ (Nat.le_of_ble_eq_true rfl) (Nat.le_of_ble_eq_true rfl) d_M_digit_23 ?_
    refine lv_if_ne (tgt := 33) hx hb d_M_digit_26 (by decide) (fun c26 => ?_) (fun c26 => ?_)
    · rw [in_nm, Decidable.not_not] at c26
      refine lv_iconst (v := 0) hx hb d_M_digit_33 (by decide) ?_
      refine lv_iconst (v := 0) hx hb d_M_digit_34 (by decide) ?_
      refine ad_cZi S I (ad_ivV (As := [.int 1, .int 0, .int 0]) (rest := []) S (ad_recv I C.1 K_Mod) w_611 w_613 sp_M_fails Y_M_fails ⟨by decide, by decide, np_M_fails⟩ rfl d_M_digit_35) (c_M_fails l G lo hp m0 bs th sd (nI ts.length) (nI lt.length) fs 1 0 0 C) Y_M_fails hl.1 ⟨Nat.le_of_ble_eq_true rfl, Nat.le_of_ble_eq_true rfl⟩ (Nat.le_of_ble_eq_true rfl) (Nat.le_of_ble_eq_true rfl) d_M_digit_35 (fun hp3 H1 locs1 hA I => ?_)
      obtain ⟨C3, F3⟩ := hA
      have C3 : MC G hp3 m0 bs 1 sd (nI ts.length) (nI lt.length) fs := C3
      refine ad_top (y := .int 1) (by rfl) ?_
      refine lv_if_eq (tgt := 45) hx hb d_M_digit_38 (by decide) (fun c38 => ?_) (fun c38 => ?_)
      · exact absurd c38 (by decide)
      · refine lv_iconst (v := 0) hx hb d_M_digit_41 (by decide) ?_
        refine lv_goto (tgt := 50) hx hb d_M_digit_42 (by decide) ?_
        exact ad_iret M I rfl (by omega) (by omega) (⟨by rw [(show q_dg k0 v0 = (1, 0) from if_neg c10)], fs, by rw [(show q_dg k0 v0 = (1, 0) from if_neg c10)]; exact C3, A, F3⟩) d_M_digit_50
    · rw [in_nm] at c26
      refine lv_iconst (v := 1) hx hb d_M_digit_29 (by decide) ?_
      refine lv_goto (tgt := 34) hx hb d_M_digit_30 (by decide) ?_
      refine lv_iconst (v := 0) hx hb d_M_digit_34 (by decide) ?_
      refine ad_cZi S I (ad_ivV (As := [.int 1, .int 1, .int 0]) (rest := []) S (ad_recv I C.1 K_Mod) w_611 w_613 sp_M_fails Y_M_fails ⟨by decide, by decide, np_M_fails⟩ rfl d_M_digit_35) (c_M_fails l G lo hp m0 bs th sd (nI ts.length) (nI lt.length) fs 1 1 0 C) Y_M_fails hl.1 ⟨Nat.le_of_ble_eq_true rfl, Nat.le_of_ble_eq_true rfl⟩ (Nat.le_of_ble_eq_true rfl) (Nat.le_of_ble_eq_true rfl) d_M_digit_35 (fun hp4 H1 locs1 hA I => ?_)
      obtain ⟨C4, F4⟩ := hA
      have C4 : MC G hp4 m0 bs 1 sd (nI ts.length) (nI lt.length) fs := C4
      refine ad_top (y := .int 1) (by rfl) ?_
      refine lv_if_eq (tgt := 45) hx hb d_M_digit_38 (by decide) (fun c38 => ?_) (fun c38 => ?_)
      · exact absurd c38 (by decide)
      · refine lv_iconst (v := 0) hx hb d_M_digit_41 (by decide) ?_
        refine lv_goto (tgt := 50) hx hb d_M_digit_42 (by decide) ?_
        exact ad_iret M I rfl (by omega) (by omega) (⟨by rw [(show q_dg k0 v0 = (1, 0) from if_neg c10)], fs, by rw [(show q_dg k0 v0 = (1, 0) from if_neg c10)]; exact C4, A, F4⟩) d_M_digit_50
set_option maxHeartbeats 4000000 in
set_option maxRecDepth 100000 in
theorem c_M_good (l : Launch) (G : ad_G) (lo : Nat) (hp : ad_H) (m0 : Nat) (bs : Nat → Nat) (th : Int32) (sd : Int64) (fs : Nat → Nat → Int32) (ts : List TH) (lt : List Nat) (k0 : Int32) (v0 : Int64)  (C : MC G hp m0 bs th sd (nI ts.length) (nI lt.length) fs) (A : MA ts lt fs) (hn : ts.length ≤ 64) : ad_Ct l y_M_good b_M_good 4 rt_M_good hs_M_good 4 0 0 G lo hp [.ref m0, .int k0, .long v0] (fun r hp' => r = .inl (some (.int (q_gd k0 v0).2)) ∧ ∃ fs' : Nat → Nat → Int32, MC G hp' m0 bs (nI (q_gd k0 v0).1) sd (nI (ts).length) (nI (lt).length) fs' ∧ MA (ts) lt fs' ∧ mf m0 bs hp hp') := by
  intro p e s m below meth c M hts hB hP
  have hx := M.1
  have hb := M.2.1
  have hml := M.2.2.1
  have hown : s.vm.findClass "AuditDrawsModel" = some m.cls := M.2.2.2.1
  have S : CallFix p m c b_M_good 4 s _ ad_T "AuditDrawsModel" := ⟨hx, hb, hml, hown, hts⟩
  have I : ad_I G lo s hp s.heap [] := ad_I.rf hB hP
  have hl := lv_entry ([.ref m0, .int k0, .long v0]) (n := 4) (Nat.le_of_ble_eq_true rfl)
  rw [lg_entry_eq]
  generalize (lg_sl ([.ref m0, .int k0, .long v0]) ++ List.replicate (4 - (lg_sl ([.ref m0, .int k0, .long v0])).length) Slot.unset).toArray = ls at hl ⊢
  have hl : lv_has ls 4 [(0, .ref m0), (1, .int k0), (2, .long v0)] := hl
  refine lv_aload_n hx hb d_M_good_0 rfl (lv_at hl 0 rfl) ?_
  refine lv_iload_n hx hb d_M_good_1 rfl (lv_at hl 1 rfl) ?_
  refine lv_i2l (v := k0.toInt64) hx hb d_M_good_2 rfl ?_
  refine lv_lconst (v := 0) hx hb d_M_good_3 (by decide) ?_
  refine lv_ldc2 (v := 2) hx hb hown (hts _ w_674) d_M_good_4 ?_
  refine ad_cPi S I (ad_ivS (As := [.long k0.toInt64, .long 0, .long 2]) (rest := [.ref m0]) S Y_M_in w_607 w_608 w_6 ⟨by decide, by decide, np_M_in⟩ rfl d_M_good_7) (c_M_in l G lo hp k0.toInt64 0 2) Y_M_in hl.1 ⟨Nat.le_of_ble_eq_true rfl, Nat.le_of_ble_eq_true rfl⟩ (Nat.le_of_ble_eq_true rfl) (Nat.le_of_ble_eq_true rfl) d_M_good_7 ?_
  refine lv_if_ne (tgt := 17) hx hb d_M_good_10 (by decide) (fun c10 => ?_) (fun c10 => ?_)
  · rw [in_ok k0 _ 3 (by decide), Decidable.not_not] at c10
    refine lv_iconst (v := 0) hx hb d_M_good_17 (by decide) ?_
    refine lv_lload_n hx hb d_M_good_18 rfl (lv_at hl 2 rfl) ?_
    refine lv_lconst (v := 0) hx hb d_M_good_19 (by decide) ?_
    refine lv_ldc2 (v := 100000000000000000) hx hb hown (hts _ w_675) d_M_good_20 ?_
    refine ad_cPi S I (ad_ivS (As := [.long v0, .long 0, .long 100000000000000000]) (rest := [.int 0, .ref m0]) S Y_M_in w_607 w_608 w_6 ⟨by decide, by decide, np_M_in⟩ rfl d_M_good_23) (c_M_in l G lo hp v0 0 100000000000000000) Y_M_in hl.1 ⟨Nat.le_of_ble_eq_true rfl, Nat.le_of_ble_eq_true rfl⟩ (Nat.le_of_ble_eq_true rfl) (Nat.le_of_ble_eq_true rfl) d_M_good_23 ?_
    refine lv_if_ne (tgt := 33) hx hb d_M_good_26 (by decide) (fun c26 => ?_) (fun c26 => ?_)
    · rw [in_nm, Decidable.not_not] at c26
      refine lv_iconst (v := 0) hx hb d_M_good_33 (by decide) ?_
      refine lv_iconst (v := 0) hx hb d_M_good_34 (by decide) ?_
      refine ad_cZi S I (ad_ivV (As := [.int 0, .int 0, .int 0]) (rest := []) S (ad_recv I C.1 K_Mod) w_611 w_613 sp_M_fails Y_M_fails ⟨by decide, by decide, np_M_fails⟩ rfl d_M_good_35) (c_M_fails l G lo hp m0 bs th sd (nI ts.length) (nI lt.length) fs 0 0 0 C) Y_M_fails hl.1 ⟨Nat.le_of_ble_eq_true rfl, Nat.le_of_ble_eq_true rfl⟩ (Nat.le_of_ble_eq_true rfl) (Nat.le_of_ble_eq_true rfl) d_M_good_35 (fun hp1 H1 locs1 hA I => ?_)
      obtain ⟨C1, F1⟩ := hA
      have C1 : MC G hp1 m0 bs 0 sd (nI ts.length) (nI lt.length) fs := C1
      refine ad_top (y := .int 0) (by rfl) ?_
      refine lv_if_eq (tgt := 43) hx hb d_M_good_38 (by decide) (fun c38 => ?_) (fun c38 => ?_)
      · refine lv_lload_n hx hb d_M_good_43 rfl (lv_at hl 2 rfl) ?_
        refine lv_ldc2 (v := 10) hx hb hown (hts _ w_682) d_M_good_44 ?_
        refine lv_lrem hx hb d_M_good_47 (by decide) ?_
        refine lv_iload_n hx hb d_M_good_48 rfl (lv_at hl 1 rfl) ?_
        refine lv_lload_n hx hb d_M_good_49 rfl (lv_at hl 2 rfl) ?_
        refine lv_ldc2 (v := 10) hx hb hown (hts _ w_682) d_M_good_50 ?_
        refine lv_ldiv hx hb d_M_good_53 (by decide) ?_
        refine ad_cPi S I (ad_ivS (As := [.int k0, .long (v0 / 10)]) (rest := [.long (v0 - v0 / 10 * 10)]) S Y_M_digitOf w_676 w_677 w_6 ⟨by decide, by decide, np_M_digitOf⟩ rfl d_M_good_54) (c_M_digitOf l G lo hp1 k0 (v0 / 10)) Y_M_digitOf hl.1 ⟨Nat.le_of_ble_eq_true rfl, Nat.le_of_ble_eq_true rfl⟩ (Nat.le_of_ble_eq_true rfl) (Nat.le_of_ble_eq_true rfl) d_M_good_54 ?_
        refine lv_i2l (v := (sp_mo k0 (v0 / 10)).toInt64) hx hb d_M_good_57 rfl ?_
        refine W.lcmp hx hb d_M_good_58 ?_
        refine lv_if_ne (tgt := 66) hx hb d_M_good_59 (by decide) (fun c59 => ?_) (fun c59 => ?_)
        · rw [ad_lcEq, of_mo c10] at c59
          refine lv_iconst (v := 0) hx hb d_M_good_66 (by decide) ?_
          exact ad_iret M I rfl (by omega) (by omega) (⟨by rw [(show q_gd k0 v0 = (0, 0) by simp only [q_gd, sp_closes]; rw [if_pos c10, if_pos c26, if_neg (fun h => c59 ((gd_eq c26.1 _).mpr h))])], fs, by rw [(show q_gd k0 v0 = (0, 0) by simp only [q_gd, sp_closes]; rw [if_pos c10, if_pos c26, if_neg (fun h => c59 ((gd_eq c26.1 _).mpr h))])]; exact C1, A, F1⟩) d_M_good_67
        · rw [ad_lcEq, of_mo c10] at c59
          refine lv_iconst (v := 1) hx hb d_M_good_62 (by decide) ?_
          refine lv_goto (tgt := 67) hx hb d_M_good_63 (by decide) ?_
          exact ad_iret M I rfl (by omega) (by omega) (⟨by rw [(show q_gd k0 v0 = (0, 1) by simp only [q_gd, sp_closes]; rw [if_pos c10, if_pos c26, if_pos ((gd_eq c26.1 _).mp c59)])], fs, by rw [(show q_gd k0 v0 = (0, 1) by simp only [q_gd, sp_closes]; rw [if_pos c10, if_pos c26, if_pos ((gd_eq c26.1 _).mp c59)])]; exact C1, A, F1⟩) d_M_good_67
      · exact absurd c38 (by decide)
    · rw [in_nm] at c26
      refine lv_iconst (v := 1) hx hb d_M_good_29 (by decide) ?_
      refine lv_goto (tgt := 34) hx hb d_M_good_30 (by decide) ?_
      refine lv_iconst (v := 0) hx hb d_M_good_34 (by decide) ?_
      refine ad_cZi S I (ad_ivV (As := [.int 0, .int 1, .int 0]) (rest := []) S (ad_recv I C.1 K_Mod) w_611 w_613 sp_M_fails Y_M_fails ⟨by decide, by decide, np_M_fails⟩ rfl d_M_good_35) (c_M_fails l G lo hp m0 bs th sd (nI ts.length) (nI lt.length) fs 0 1 0 C) Y_M_fails hl.1 ⟨Nat.le_of_ble_eq_true rfl, Nat.le_of_ble_eq_true rfl⟩ (Nat.le_of_ble_eq_true rfl) (Nat.le_of_ble_eq_true rfl) d_M_good_35 (fun hp2 H1 locs1 hA I => ?_)
      obtain ⟨C2, F2⟩ := hA
      have C2 : MC G hp2 m0 bs 2 sd (nI ts.length) (nI lt.length) fs := C2
      refine ad_top (y := .int 1) (by rfl) ?_
      refine lv_if_eq (tgt := 43) hx hb d_M_good_38 (by decide) (fun c38 => ?_) (fun c38 => ?_)
      · exact absurd c38 (by decide)
      · refine lv_iconst (v := 0) hx hb d_M_good_41 (by decide) ?_
        exact ad_iret M I rfl (by omega) (by omega) (⟨by rw [(show q_gd k0 v0 = (2, 0) by simp only [q_gd]; rw [if_pos c10, if_neg c26])], fs, by rw [(show q_gd k0 v0 = (2, 0) by simp only [q_gd]; rw [if_pos c10, if_neg c26])]; exact C2, A, F2⟩) d_M_good_42
  · rw [in_ok k0 _ 3 (by decide)] at c10
    refine lv_iconst (v := 1) hx hb d_M_good_13 (by decide) ?_
    refine lv_goto (tgt := 18) hx hb d_M_good_14 (by decide) ?_
    refine lv_lload_n hx hb d_M_good_18 rfl (lv_at hl 2 rfl) ?_
    refine lv_lconst (v := 0) hx hb d_M_good_19 (by decide) ?_
    refine lv_ldc2 (v := 100000000000000000) hx hb hown (hts _ w_675) d_M_good_20 ?_
    refine ad_cPi S I (ad_ivS (As := [.long v0, .long 0, .long 100000000000000000]) (rest := [.int 1, .ref m0]) S Y_M_in w_607 w_608 w_6 ⟨by decide, by decide, np_M_in⟩ rfl d_M_good_23) (c_M_in l G lo hp v0 0 100000000000000000) Y_M_in hl.1 ⟨Nat.le_of_ble_eq_true rfl, Nat.le_of_ble_eq_true rfl⟩ (Nat.le_of_ble_eq_true rfl) (Nat.le_of_ble_eq_true rfl) d_M_good_23 ?_
    refine lv_if_ne (tgt := 33) hx hb d_M_good_26 (by decide) (fun c26 => ?_) (fun c26 => ?_)
    · rw [in_nm, Decidable.not_not] at c26
      refine lv_iconst (v := 0) hx hb d_M_good_33 (by decide) ?_
      refine lv_iconst (v := 0) hx hb d_M_good_34 (by decide) ?_
      refine ad_cZi S I (ad_ivV (As := [.int 1, .int 0, .int 0]) (rest := []) S (ad_recv I C.1 K_Mod) w_611 w_613 sp_M_fails Y_M_fails ⟨by decide, by decide, np_M_fails⟩ rfl d_M_good_35) (c_M_fails l G lo hp m0 bs th sd (nI ts.length) (nI lt.length) fs 1 0 0 C) Y_M_fails hl.1 ⟨Nat.le_of_ble_eq_true rfl, Nat.le_of_ble_eq_true rfl⟩ (Nat.le_of_ble_eq_true rfl) (Nat.le_of_ble_eq_true rfl) d_M_good_35 (fun hp3 H1 locs1 hA I => ?_)
      obtain ⟨C3, F3⟩ := hA
      have C3 : MC G hp3 m0 bs 1 sd (nI ts.length) (nI lt.length) fs := C3
      refine ad_top (y := .int 1) (by rfl) ?_
      refine lv_if_eq (tgt := 43) hx hb d_M_good_38 (by decide) (fun c38 => ?_) (fun c38 => ?_)
      · exact absurd c38 (by decide)
      · refine lv_iconst (v := 0) hx hb d_M_good_41 (by decide) ?_
        exact ad_iret M I rfl (by omega) (by omega) (⟨by rw [(show q_gd k0 v0 = (1, 0) from if_neg c10)], fs, by rw [(show q_gd k0 v0 = (1, 0) from if_neg c10)]; exact C3, A, F3⟩) d_M_good_42
    · rw [in_nm] at c26
      refine lv_iconst (v := 1) hx hb d_M_good_29 (by decide) ?_
      refine lv_goto (tgt := 34) hx hb d_M_good_30 (by decide) ?_
      refine lv_iconst (v := 0) hx hb d_M_good_34 (by decide) ?_
      refine ad_cZi S I (ad_ivV (As := [.int 1, .int 1, .int 0]) (rest := []) S (ad_recv I C.1 K_Mod) w_611 w_613 sp_M_fails Y_M_fails ⟨by decide, by decide, np_M_fails⟩ rfl d_M_good_35) (c_M_fails l G lo hp m0 bs th sd (nI ts.length) (nI lt.length) fs 1 1 0 C) Y_M_fails hl.1 ⟨Nat.le_of_ble_eq_true rfl, Nat.le_of_ble_eq_true rfl⟩ (Nat.le_of_ble_eq_true rfl) (Nat.le_of_ble_eq_true rfl) d_M_good_35 (fun hp4 H1 locs1 hA I => ?_)
      obtain ⟨C4, F4⟩ := hA
      have C4 : MC G hp4 m0 bs 1 sd (nI ts.length) (nI lt.length) fs := C4
      refine ad_top (y := .int 1) (by rfl) ?_
      refine lv_if_eq (tgt := 43) hx hb d_M_good_38 (by decide) (fun c38 => ?_) (fun c38 => ?_)
      · exact absurd c38 (by decide)
      · refine lv_iconst (v := 0) hx hb d_M_good_41 (by decide) ?_
        exact ad_iret M I rfl (by omega) (by omega) (⟨by rw [(show q_gd k0 v0 = (1, 0) from if_neg c10)], fs, by rw [(show q_gd k0 v0 = (1, 0) from if_neg c10)]; exact C4, A, F4⟩) d_M_good_42
theorem cl_lt (k : Int32) : k.toNatClampNeg < 2 ^ 31 := Int32.toNatClampNeg_lt k
set_option maxHeartbeats 4000000 in
set_option maxRecDepth 100000 in
theorem c_M_report (l : Launch) (G : ad_G) (lo : Nat) (hp : ad_H) (m0 : Nat) (bs : Nat → Nat) (th : Int32) (sd : Int64) (fs : Nat → Nat → Int32) (ts : List TH) (lt : List Nat) (v k : Int32)  (C : MC G hp m0 bs th sd (nI ts.length) (nI lt.length) fs) (A : MA ts lt fs) (hn : ts.length ≤ 64) : ad_Ct l y_M_report b_M_report 5 rt_M_report hs_M_report 2 0 0 G lo hp [.ref m0, .int v, .int k] (fun r hp' => r = .inl (some (.int (q_rp (fun t => decide (t.2.2.1 = v)) ts 4 v k).2)) ∧ ∃ fs' : Nat → Nat → Int32, MC G hp' m0 bs (nI (q_rp (fun t => decide (t.2.2.1 = v)) ts 4 v k).1) sd (nI (ts).length) (nI (lt).length) fs' ∧ MA (ts) lt fs' ∧ mf m0 bs hp hp') := by
  intro p e s m below meth c M hts hB hP
  have hx := M.1
  have hb := M.2.1
  have hml := M.2.2.1
  have hown : s.vm.findClass "AuditDrawsModel" = some m.cls := M.2.2.2.1
  have S : CallFix p m c b_M_report 5 s _ ad_T "AuditDrawsModel" := ⟨hx, hb, hml, hown, hts⟩
  have I : ad_I G lo s hp s.heap [] := ad_I.rf hB hP
  have hl := lv_entry ([.ref m0, .int v, .int k]) (n := 5) (Nat.le_of_ble_eq_true rfl)
  rw [lg_entry_eq]
  generalize (lg_sl ([.ref m0, .int v, .int k]) ++ List.replicate (5 - (lg_sl ([.ref m0, .int v, .int k])).length) Slot.unset).toArray = ls at hl ⊢
  have hl : lv_has ls 5 [(0, .ref m0), (1, .int v), (2, .int k)] := hl
  have loop : ∀ (n : Nat) (j lf : Nat) (hpj : ad_H) (H : Heap) (locs : List Loc), (ts.length < j + n ∧ j ≤ ts.length ∧ lf < 2 ^ 31 ∧ sp_kth (fun t => decide (t.2.2.1 = v)) ts 0 k.toNatClampNeg = sp_kth (fun t => decide (t.2.2.1 = v)) (ts.drop j) j lf) → ad_I G lo s hpj H locs → MC G hpj m0 bs 0 sd (nI ts.length) (nI lt.length) fs → mf m0 bs hp hpj → okb v 4 ∧ 0 ≤ k → ∀ ls : Array Slot, lv_has ls 5 [(0, .ref m0), (1, .int v), (3, .int (nI lf)), (4, .int (nI j))] → W p l e (ad_rm 2 0 0) s m ([.ref m0, .int v, .int k] : List Value).toArray below meth c H locs 0 0 (ad_Z below G lo (fun r hp' => r = .inl (some (.int (q_rp (fun t => decide (t.2.2.1 = v)) ts 4 v k).2)) ∧ ∃ fs' : Nat → Nat → Int32, MC G hp' m0 bs (nI (q_rp (fun t => decide (t.2.2.1 = v)) ts 4 v k).1) sd (nI (ts).length) (nI (lt).length) fs' ∧ MA (ts) lt fs' ∧ mf m0 bs hp hp') s 0 0) (F0 m 37 ls []) := by
    intro n
    induction n with
    | zero => intro j lf hpj H locs h0; exact absurd h0 (by omega)
    | succ n ih =>
      intro j lf hpj H locs h0 I C F hok ls hl
      refine lv_iload hx hb d_M_report_37 (lv_at hl 3 rfl) ?_
      refine lv_aload_n hx hb d_M_report_39 rfl (lv_at hl 0 rfl) ?_
      refine ad_get S I C.1 K_Mod 2 (by decide) w_550 rfl d_M_report_40 ?_
      refine lv_icmp_ge (tgt := 73) hx hb d_M_report_43 (by decide) (fun c43 => ?_) (fun c43 => ?_)
      · obtain rfl : j = ts.length := by have := ad_ge (j := j) (n := ts.length) (by omega) (by omega) c43; omega
        refine lv_iconst (v := (-1)) hx hb d_M_report_73 (by decide) ?_
        exact ad_iret M I rfl (by omega) (by omega) (⟨by rw [(show q_rp (fun t => decide (t.2.2.1 = v)) ts 4 v k = (0, (-1)) by simp only [q_rp]; rw [if_pos hok, h0.2.2.2]; rw [List.drop_length]; rfl)], fs, by rw [(show q_rp (fun t => decide (t.2.2.1 = v)) ts 4 v k = (0, (-1)) by simp only [q_rp]; rw [if_pos hok, h0.2.2.2]; rw [List.drop_length]; rfl)]; exact C, A, F⟩) d_M_report_74
      · have hj : j < ts.length := ad_lt (by omega) (by omega) c43
        obtain ⟨t, ht⟩ : ∃ t, ts[j]? = some t := ⟨_, List.getElem?_eq_getElem hj⟩
        have hA := A.1 j t ht
        refine lv_aload_n hx hb d_M_report_46 rfl (lv_at hl 0 rfl) ?_
        refine ad_get S I C.1 K_Mod 8 (by decide) w_556 rfl d_M_report_47 ?_
        refine lv_iload hx hb d_M_report_50 (lv_at hl 3 rfl) ?_
        refine ad_iald S I (C.2.1 4 (by decide)) (vp_in_nI (show j < 64 by omega) (by decide)) d_M_report_52 ?_
        refine ad_top (y := .int ((fs 4) j)) (congrArg (fun q => Value.int ((fs 4) q)) (show (nI j).toNatClampNeg = j from nI_clamp (by omega))) ?_
        refine lv_iload_n hx hb d_M_report_53 rfl (lv_at hl 1 rfl) ?_
        refine lv_icmp_ne (tgt := 67) hx hb d_M_report_54 (by decide) (fun c54 => ?_) (fun c54 => ?_)
        · rw [hA.2.2.2.1] at c54
          refine lv_iinc (v := (nI (j + 1))) (lv' := [(4, .int (nI (j + 1))), (0, .ref m0), (1, .int v), (3, .int (nI lf))]) hx hb d_M_report_67 hl (k := 3) rfl (nI_1 j) (by decide) rfl (fun ls hl => ?_)
          refine lv_goto (tgt := 37) hx hb d_M_report_70 (by decide) ?_
          exact ih (j + 1) lf hpj H locs ⟨by omega, by omega, by omega, by rw [h0.2.2.2, kth_s ht]; simp [c54]⟩ I C F hok ls (lv_sub hl [1, 2, 3, 0] rfl)
        · rw [hA.2.2.2.1] at c54
          refine lv_iload_n hx hb d_M_report_57 rfl (lv_at hl 2 rfl) ?_
          refine lv_if_ne (tgt := 64) hx hb d_M_report_58 (by decide) (fun c58 => ?_) (fun c58 => ?_)
          · have hlf : 0 < lf := Nat.pos_of_ne_zero (fun h => c58 (by rw [h]; rfl))
            refine lv_iinc (v := (nI (lf - 1))) (lv' := [(3, .int (nI (lf - 1))), (0, .ref m0), (1, .int v), (4, .int (nI j))]) hx hb d_M_report_64 hl (k := 2) rfl (nI_dec hlf) (by decide) rfl (fun ls hl => ?_)
            refine lv_iinc (v := (nI (j + 1))) (lv' := [(4, .int (nI (j + 1))), (3, .int (nI (lf - 1))), (0, .ref m0), (1, .int v)]) hx hb d_M_report_67 hl (k := 3) rfl (nI_1 j) (by decide) rfl (fun ls hl => ?_)
            refine lv_goto (tgt := 37) hx hb d_M_report_70 (by decide) ?_
            exact ih (j + 1) (lf - 1) hpj H locs ⟨by omega, by omega, by omega, by rw [h0.2.2.2, kth_s ht]; simp [c54, show ¬ lf = 0 by omega]⟩ I C F hok ls (lv_sub hl [2, 3, 1, 0] rfl)
          · rw [show (0 : Int32) = nI 0 from rfl, nI_eq h0.2.2.1 (by omega)] at c58
            refine lv_iload hx hb d_M_report_61 (lv_at hl 3 rfl) ?_
            exact ad_iret M I rfl (by omega) (by omega) (⟨by rw [(show q_rp (fun t => decide (t.2.2.1 = v)) ts 4 v k = (0, nI j) by simp only [q_rp]; rw [if_pos hok, h0.2.2.2]; rw [kth_s ht]; simp [c54, c58, sp_ki])], fs, by rw [(show q_rp (fun t => decide (t.2.2.1 = v)) ts 4 v k = (0, nI j) by simp only [q_rp]; rw [if_pos hok, h0.2.2.2]; rw [kth_s ht]; simp [c54, c58, sp_ki])]; exact C, A, F⟩) d_M_report_63
  refine lv_aload_n hx hb d_M_report_0 rfl (lv_at hl 0 rfl) ?_
  refine lv_iload_n hx hb d_M_report_1 rfl (lv_at hl 1 rfl) ?_
  refine lv_i2l (v := v.toInt64) hx hb d_M_report_2 rfl ?_
  refine lv_lconst (v := 0) hx hb d_M_report_3 (by decide) ?_
  refine lv_ldc2 (v := 3) hx hb hown (hts _ w_716) d_M_report_4 ?_
  refine ad_cPi S I (ad_ivS (As := [.long v.toInt64, .long 0, .long 3]) (rest := [.ref m0]) S Y_M_in w_607 w_608 w_6 ⟨by decide, by decide, np_M_in⟩ rfl d_M_report_7) (c_M_in l G lo hp v.toInt64 0 3) Y_M_in hl.1 ⟨Nat.le_of_ble_eq_true rfl, Nat.le_of_ble_eq_true rfl⟩ (Nat.le_of_ble_eq_true rfl) (Nat.le_of_ble_eq_true rfl) d_M_report_7 ?_
  refine lv_if_eq (tgt := 17) hx hb d_M_report_10 (by decide) (fun c10 => ?_) (fun c10 => ?_)
  · rw [in_ok v _ 4 (by decide)] at c10
    refine lv_iconst (v := 1) hx hb d_M_report_17 (by decide) ?_
    refine lv_goto (tgt := 22) hx hb d_M_report_18 (by decide) ?_
    refine lv_iconst (v := 0) hx hb d_M_report_22 (by decide) ?_
    refine lv_iconst (v := 0) hx hb d_M_report_23 (by decide) ?_
    refine ad_cZi S I (ad_ivV (As := [.int 1, .int 0, .int 0]) (rest := []) S (ad_recv I C.1 K_Mod) w_611 w_613 sp_M_fails Y_M_fails ⟨by decide, by decide, np_M_fails⟩ rfl d_M_report_24) (c_M_fails l G lo hp m0 bs th sd (nI ts.length) (nI lt.length) fs 1 0 0 C) Y_M_fails hl.1 ⟨Nat.le_of_ble_eq_true rfl, Nat.le_of_ble_eq_true rfl⟩ (Nat.le_of_ble_eq_true rfl) (Nat.le_of_ble_eq_true rfl) d_M_report_24 (fun hp1 H1 locs1 hA I => ?_)
    obtain ⟨C1, F1⟩ := hA
    have C1 : MC G hp1 m0 bs 1 sd (nI ts.length) (nI lt.length) fs := C1
    refine ad_top (y := .int 1) (by rfl) ?_
    refine lv_if_eq (tgt := 32) hx hb d_M_report_27 (by decide) (fun c27 => ?_) (fun c27 => ?_)
    · exact absurd c27 (by decide)
    · refine lv_iconst (v := 0) hx hb d_M_report_30 (by decide) ?_
      exact ad_iret M I rfl (by omega) (by omega) (⟨by rw [(show q_rp (fun t => decide (t.2.2.1 = v)) ts 4 v k = (1, 0) from if_neg (fun h => c10 h.1))], fs, by rw [(show q_rp (fun t => decide (t.2.2.1 = v)) ts 4 v k = (1, 0) from if_neg (fun h => c10 h.1))]; exact C1, A, F1⟩) d_M_report_31
  · rw [in_ok v _ 4 (by decide), Decidable.not_not] at c10
    refine lv_iload_n hx hb d_M_report_13 rfl (lv_at hl 2 rfl) ?_
    refine lv_if_ge (tgt := 21) hx hb d_M_report_14 (by decide) (fun c14 => ?_) (fun c14 => ?_)
    · refine lv_iconst (v := 0) hx hb d_M_report_21 (by decide) ?_
      refine lv_iconst (v := 0) hx hb d_M_report_22 (by decide) ?_
      refine lv_iconst (v := 0) hx hb d_M_report_23 (by decide) ?_
      refine ad_cZi S I (ad_ivV (As := [.int 0, .int 0, .int 0]) (rest := []) S (ad_recv I C.1 K_Mod) w_611 w_613 sp_M_fails Y_M_fails ⟨by decide, by decide, np_M_fails⟩ rfl d_M_report_24) (c_M_fails l G lo hp m0 bs th sd (nI ts.length) (nI lt.length) fs 0 0 0 C) Y_M_fails hl.1 ⟨Nat.le_of_ble_eq_true rfl, Nat.le_of_ble_eq_true rfl⟩ (Nat.le_of_ble_eq_true rfl) (Nat.le_of_ble_eq_true rfl) d_M_report_24 (fun hp2 H1 locs1 hA I => ?_)
      obtain ⟨C2, F2⟩ := hA
      have C2 : MC G hp2 m0 bs 0 sd (nI ts.length) (nI lt.length) fs := C2
      refine ad_top (y := .int 0) (by rfl) ?_
      refine lv_if_eq (tgt := 32) hx hb d_M_report_27 (by decide) (fun c27 => ?_) (fun c27 => ?_)
      · refine lv_iload_n hx hb d_M_report_32 rfl (lv_at hl 2 rfl) ?_
        refine ad_top (y := .int (nI k.toNatClampNeg)) (congrArg Value.int (nI_cl (Int32.not_lt.mpr c14))) ?_
        refine lv_istore_n (lv' := [(3, .int (nI k.toNatClampNeg)), (0, .ref m0), (1, .int v), (2, .int k)]) hx hb d_M_report_33 rfl hl (by decide) rfl (fun ls hl => ?_)
        refine lv_iconst (v := 0) hx hb d_M_report_34 (by decide) ?_
        refine lv_istore (lv' := [(4, .int 0), (3, .int (nI k.toNatClampNeg)), (0, .ref m0), (1, .int v), (2, .int k)]) hx hb d_M_report_35 hl (by decide) rfl (fun ls hl => ?_)
        exact loop (ts.length + 1) 0 k.toNatClampNeg hp2 H1 locs1 ⟨by omega, by omega, cl_lt k, by simp⟩ I C2 F2 ⟨c10, c14⟩ ls (lv_sub hl [2, 3, 1, 0] rfl)
      · exact absurd c27 (by decide)
    · refine lv_iconst (v := 1) hx hb d_M_report_17 (by decide) ?_
      refine lv_goto (tgt := 22) hx hb d_M_report_18 (by decide) ?_
      refine lv_iconst (v := 0) hx hb d_M_report_22 (by decide) ?_
      refine lv_iconst (v := 0) hx hb d_M_report_23 (by decide) ?_
      refine ad_cZi S I (ad_ivV (As := [.int 1, .int 0, .int 0]) (rest := []) S (ad_recv I C.1 K_Mod) w_611 w_613 sp_M_fails Y_M_fails ⟨by decide, by decide, np_M_fails⟩ rfl d_M_report_24) (c_M_fails l G lo hp m0 bs th sd (nI ts.length) (nI lt.length) fs 1 0 0 C) Y_M_fails hl.1 ⟨Nat.le_of_ble_eq_true rfl, Nat.le_of_ble_eq_true rfl⟩ (Nat.le_of_ble_eq_true rfl) (Nat.le_of_ble_eq_true rfl) d_M_report_24 (fun hp3 H1 locs1 hA I => ?_)
      obtain ⟨C3, F3⟩ := hA
      have C3 : MC G hp3 m0 bs 1 sd (nI ts.length) (nI lt.length) fs := C3
      refine ad_top (y := .int 1) (by rfl) ?_
      refine lv_if_eq (tgt := 32) hx hb d_M_report_27 (by decide) (fun c27 => ?_) (fun c27 => ?_)
      · exact absurd c27 (by decide)
      · refine lv_iconst (v := 0) hx hb d_M_report_30 (by decide) ?_
        exact ad_iret M I rfl (by omega) (by omega) (⟨by rw [(show q_rp (fun t => decide (t.2.2.1 = v)) ts 4 v k = (1, 0) from if_neg (fun h => c14 h.2))], fs, by rw [(show q_rp (fun t => decide (t.2.2.1 = v)) ts 4 v k = (1, 0) from if_neg (fun h => c14 h.2))]; exact C3, A, F3⟩) d_M_report_31
set_option maxHeartbeats 4000000 in
set_option maxRecDepth 100000 in
theorem c_M_room (l : Launch) (G : ad_G) (lo : Nat) (hp : ad_H) (m0 : Nat) (bs : Nat → Nat) (th : Int32) (sd : Int64) (fs : Nat → Nat → Int32) (ts : List TH) (lt : List Nat) (v k : Int32)  (C : MC G hp m0 bs th sd (nI ts.length) (nI lt.length) fs) (A : MA ts lt fs) (hn : ts.length ≤ 64) : ad_Ct l y_M_room b_M_room 5 rt_M_room hs_M_room 2 0 0 G lo hp [.ref m0, .int v, .int k] (fun r hp' => r = .inl (some (.int (q_rp (fun t => decide (t.2.1 = v)) ts 16 v k).2)) ∧ ∃ fs' : Nat → Nat → Int32, MC G hp' m0 bs (nI (q_rp (fun t => decide (t.2.1 = v)) ts 16 v k).1) sd (nI (ts).length) (nI (lt).length) fs' ∧ MA (ts) lt fs' ∧ mf m0 bs hp hp') := by
  intro p e s m below meth c M hts hB hP
  have hx := M.1
  have hb := M.2.1
  have hml := M.2.2.1
  have hown : s.vm.findClass "AuditDrawsModel" = some m.cls := M.2.2.2.1
  have S : CallFix p m c b_M_room 5 s _ ad_T "AuditDrawsModel" := ⟨hx, hb, hml, hown, hts⟩
  have I : ad_I G lo s hp s.heap [] := ad_I.rf hB hP
  have hl := lv_entry ([.ref m0, .int v, .int k]) (n := 5) (Nat.le_of_ble_eq_true rfl)
  rw [lg_entry_eq]
  generalize (lg_sl ([.ref m0, .int v, .int k]) ++ List.replicate (5 - (lg_sl ([.ref m0, .int v, .int k])).length) Slot.unset).toArray = ls at hl ⊢
  have hl : lv_has ls 5 [(0, .ref m0), (1, .int v), (2, .int k)] := hl
  have loop : ∀ (n : Nat) (j lf : Nat) (hpj : ad_H) (H : Heap) (locs : List Loc), (ts.length < j + n ∧ j ≤ ts.length ∧ lf < 2 ^ 31 ∧ sp_kth (fun t => decide (t.2.1 = v)) ts 0 k.toNatClampNeg = sp_kth (fun t => decide (t.2.1 = v)) (ts.drop j) j lf) → ad_I G lo s hpj H locs → MC G hpj m0 bs 0 sd (nI ts.length) (nI lt.length) fs → mf m0 bs hp hpj → okb v 16 ∧ 0 ≤ k → ∀ ls : Array Slot, lv_has ls 5 [(0, .ref m0), (1, .int v), (3, .int (nI lf)), (4, .int (nI j))] → W p l e (ad_rm 2 0 0) s m ([.ref m0, .int v, .int k] : List Value).toArray below meth c H locs 0 0 (ad_Z below G lo (fun r hp' => r = .inl (some (.int (q_rp (fun t => decide (t.2.1 = v)) ts 16 v k).2)) ∧ ∃ fs' : Nat → Nat → Int32, MC G hp' m0 bs (nI (q_rp (fun t => decide (t.2.1 = v)) ts 16 v k).1) sd (nI (ts).length) (nI (lt).length) fs' ∧ MA (ts) lt fs' ∧ mf m0 bs hp hp') s 0 0) (F0 m 37 ls []) := by
    intro n
    induction n with
    | zero => intro j lf hpj H locs h0; exact absurd h0 (by omega)
    | succ n ih =>
      intro j lf hpj H locs h0 I C F hok ls hl
      refine lv_iload hx hb d_M_room_37 (lv_at hl 3 rfl) ?_
      refine lv_aload_n hx hb d_M_room_39 rfl (lv_at hl 0 rfl) ?_
      refine ad_get S I C.1 K_Mod 2 (by decide) w_550 rfl d_M_room_40 ?_
      refine lv_icmp_ge (tgt := 73) hx hb d_M_room_43 (by decide) (fun c43 => ?_) (fun c43 => ?_)
      · obtain rfl : j = ts.length := by have := ad_ge (j := j) (n := ts.length) (by omega) (by omega) c43; omega
        refine lv_iconst (v := (-1)) hx hb d_M_room_73 (by decide) ?_
        exact ad_iret M I rfl (by omega) (by omega) (⟨by rw [(show q_rp (fun t => decide (t.2.1 = v)) ts 16 v k = (0, (-1)) by simp only [q_rp]; rw [if_pos hok, h0.2.2.2]; rw [List.drop_length]; rfl)], fs, by rw [(show q_rp (fun t => decide (t.2.1 = v)) ts 16 v k = (0, (-1)) by simp only [q_rp]; rw [if_pos hok, h0.2.2.2]; rw [List.drop_length]; rfl)]; exact C, A, F⟩) d_M_room_74
      · have hj : j < ts.length := ad_lt (by omega) (by omega) c43
        obtain ⟨t, ht⟩ : ∃ t, ts[j]? = some t := ⟨_, List.getElem?_eq_getElem hj⟩
        have hA := A.1 j t ht
        refine lv_aload_n hx hb d_M_room_46 rfl (lv_at hl 0 rfl) ?_
        refine ad_get S I C.1 K_Mod 4 (by decide) w_552 rfl d_M_room_47 ?_
        refine lv_iload hx hb d_M_room_50 (lv_at hl 3 rfl) ?_
        refine ad_iald S I (C.2.1 1 (by decide)) (vp_in_nI (show j < 64 by omega) (by decide)) d_M_room_52 ?_
        refine ad_top (y := .int ((fs 1) j)) (congrArg (fun q => Value.int ((fs 1) q)) (show (nI j).toNatClampNeg = j from nI_clamp (by omega))) ?_
        refine lv_iload_n hx hb d_M_room_53 rfl (lv_at hl 1 rfl) ?_
        refine lv_icmp_ne (tgt := 67) hx hb d_M_room_54 (by decide) (fun c54 => ?_) (fun c54 => ?_)
        · rw [hA.2.1] at c54
          refine lv_iinc (v := (nI (j + 1))) (lv' := [(4, .int (nI (j + 1))), (0, .ref m0), (1, .int v), (3, .int (nI lf))]) hx hb d_M_room_67 hl (k := 3) rfl (nI_1 j) (by decide) rfl (fun ls hl => ?_)
          refine lv_goto (tgt := 37) hx hb d_M_room_70 (by decide) ?_
          exact ih (j + 1) lf hpj H locs ⟨by omega, by omega, by omega, by rw [h0.2.2.2, kth_s ht]; simp [c54]⟩ I C F hok ls (lv_sub hl [1, 2, 3, 0] rfl)
        · rw [hA.2.1] at c54
          refine lv_iload_n hx hb d_M_room_57 rfl (lv_at hl 2 rfl) ?_
          refine lv_if_ne (tgt := 64) hx hb d_M_room_58 (by decide) (fun c58 => ?_) (fun c58 => ?_)
          · have hlf : 0 < lf := Nat.pos_of_ne_zero (fun h => c58 (by rw [h]; rfl))
            refine lv_iinc (v := (nI (lf - 1))) (lv' := [(3, .int (nI (lf - 1))), (0, .ref m0), (1, .int v), (4, .int (nI j))]) hx hb d_M_room_64 hl (k := 2) rfl (nI_dec hlf) (by decide) rfl (fun ls hl => ?_)
            refine lv_iinc (v := (nI (j + 1))) (lv' := [(4, .int (nI (j + 1))), (3, .int (nI (lf - 1))), (0, .ref m0), (1, .int v)]) hx hb d_M_room_67 hl (k := 3) rfl (nI_1 j) (by decide) rfl (fun ls hl => ?_)
            refine lv_goto (tgt := 37) hx hb d_M_room_70 (by decide) ?_
            exact ih (j + 1) (lf - 1) hpj H locs ⟨by omega, by omega, by omega, by rw [h0.2.2.2, kth_s ht]; simp [c54, show ¬ lf = 0 by omega]⟩ I C F hok ls (lv_sub hl [2, 3, 1, 0] rfl)
          · rw [show (0 : Int32) = nI 0 from rfl, nI_eq h0.2.2.1 (by omega)] at c58
            refine lv_iload hx hb d_M_room_61 (lv_at hl 3 rfl) ?_
            exact ad_iret M I rfl (by omega) (by omega) (⟨by rw [(show q_rp (fun t => decide (t.2.1 = v)) ts 16 v k = (0, nI j) by simp only [q_rp]; rw [if_pos hok, h0.2.2.2]; rw [kth_s ht]; simp [c54, c58, sp_ki])], fs, by rw [(show q_rp (fun t => decide (t.2.1 = v)) ts 16 v k = (0, nI j) by simp only [q_rp]; rw [if_pos hok, h0.2.2.2]; rw [kth_s ht]; simp [c54, c58, sp_ki])]; exact C, A, F⟩) d_M_room_63
  refine lv_aload_n hx hb d_M_room_0 rfl (lv_at hl 0 rfl) ?_
  refine lv_iload_n hx hb d_M_room_1 rfl (lv_at hl 1 rfl) ?_
  refine lv_i2l (v := v.toInt64) hx hb d_M_room_2 rfl ?_
  refine lv_lconst (v := 0) hx hb d_M_room_3 (by decide) ?_
  refine lv_ldc2 (v := 15) hx hb hown (hts _ w_610) d_M_room_4 ?_
  refine ad_cPi S I (ad_ivS (As := [.long v.toInt64, .long 0, .long 15]) (rest := [.ref m0]) S Y_M_in w_607 w_608 w_6 ⟨by decide, by decide, np_M_in⟩ rfl d_M_room_7) (c_M_in l G lo hp v.toInt64 0 15) Y_M_in hl.1 ⟨Nat.le_of_ble_eq_true rfl, Nat.le_of_ble_eq_true rfl⟩ (Nat.le_of_ble_eq_true rfl) (Nat.le_of_ble_eq_true rfl) d_M_room_7 ?_
  refine lv_if_eq (tgt := 17) hx hb d_M_room_10 (by decide) (fun c10 => ?_) (fun c10 => ?_)
  · rw [in_ok v _ 16 (by decide)] at c10
    refine lv_iconst (v := 1) hx hb d_M_room_17 (by decide) ?_
    refine lv_goto (tgt := 22) hx hb d_M_room_18 (by decide) ?_
    refine lv_iconst (v := 0) hx hb d_M_room_22 (by decide) ?_
    refine lv_iconst (v := 0) hx hb d_M_room_23 (by decide) ?_
    refine ad_cZi S I (ad_ivV (As := [.int 1, .int 0, .int 0]) (rest := []) S (ad_recv I C.1 K_Mod) w_611 w_613 sp_M_fails Y_M_fails ⟨by decide, by decide, np_M_fails⟩ rfl d_M_room_24) (c_M_fails l G lo hp m0 bs th sd (nI ts.length) (nI lt.length) fs 1 0 0 C) Y_M_fails hl.1 ⟨Nat.le_of_ble_eq_true rfl, Nat.le_of_ble_eq_true rfl⟩ (Nat.le_of_ble_eq_true rfl) (Nat.le_of_ble_eq_true rfl) d_M_room_24 (fun hp1 H1 locs1 hA I => ?_)
    obtain ⟨C1, F1⟩ := hA
    have C1 : MC G hp1 m0 bs 1 sd (nI ts.length) (nI lt.length) fs := C1
    refine ad_top (y := .int 1) (by rfl) ?_
    refine lv_if_eq (tgt := 32) hx hb d_M_room_27 (by decide) (fun c27 => ?_) (fun c27 => ?_)
    · exact absurd c27 (by decide)
    · refine lv_iconst (v := 0) hx hb d_M_room_30 (by decide) ?_
      exact ad_iret M I rfl (by omega) (by omega) (⟨by rw [(show q_rp (fun t => decide (t.2.1 = v)) ts 16 v k = (1, 0) from if_neg (fun h => c10 h.1))], fs, by rw [(show q_rp (fun t => decide (t.2.1 = v)) ts 16 v k = (1, 0) from if_neg (fun h => c10 h.1))]; exact C1, A, F1⟩) d_M_room_31
  · rw [in_ok v _ 16 (by decide), Decidable.not_not] at c10
    refine lv_iload_n hx hb d_M_room_13 rfl (lv_at hl 2 rfl) ?_
    refine lv_if_ge (tgt := 21) hx hb d_M_room_14 (by decide) (fun c14 => ?_) (fun c14 => ?_)
    · refine lv_iconst (v := 0) hx hb d_M_room_21 (by decide) ?_
      refine lv_iconst (v := 0) hx hb d_M_room_22 (by decide) ?_
      refine lv_iconst (v := 0) hx hb d_M_room_23 (by decide) ?_
      refine ad_cZi S I (ad_ivV (As := [.int 0, .int 0, .int 0]) (rest := []) S (ad_recv I C.1 K_Mod) w_611 w_613 sp_M_fails Y_M_fails ⟨by decide, by decide, np_M_fails⟩ rfl d_M_room_24) (c_M_fails l G lo hp m0 bs th sd (nI ts.length) (nI lt.length) fs 0 0 0 C) Y_M_fails hl.1 ⟨Nat.le_of_ble_eq_true rfl, Nat.le_of_ble_eq_true rfl⟩ (Nat.le_of_ble_eq_true rfl) (Nat.le_of_ble_eq_true rfl) d_M_room_24 (fun hp2 H1 locs1 hA I => ?_)
      obtain ⟨C2, F2⟩ := hA
      have C2 : MC G hp2 m0 bs 0 sd (nI ts.length) (nI lt.length) fs := C2
      refine ad_top (y := .int 0) (by rfl) ?_
      refine lv_if_eq (tgt := 32) hx hb d_M_room_27 (by decide) (fun c27 => ?_) (fun c27 => ?_)
      · refine lv_iload_n hx hb d_M_room_32 rfl (lv_at hl 2 rfl) ?_
        refine ad_top (y := .int (nI k.toNatClampNeg)) (congrArg Value.int (nI_cl (Int32.not_lt.mpr c14))) ?_
        refine lv_istore_n (lv' := [(3, .int (nI k.toNatClampNeg)), (0, .ref m0), (1, .int v), (2, .int k)]) hx hb d_M_room_33 rfl hl (by decide) rfl (fun ls hl => ?_)
        refine lv_iconst (v := 0) hx hb d_M_room_34 (by decide) ?_
        refine lv_istore (lv' := [(4, .int 0), (3, .int (nI k.toNatClampNeg)), (0, .ref m0), (1, .int v), (2, .int k)]) hx hb d_M_room_35 hl (by decide) rfl (fun ls hl => ?_)
        exact loop (ts.length + 1) 0 k.toNatClampNeg hp2 H1 locs1 ⟨by omega, by omega, cl_lt k, by simp⟩ I C2 F2 ⟨c10, c14⟩ ls (lv_sub hl [2, 3, 1, 0] rfl)
      · exact absurd c27 (by decide)
    · refine lv_iconst (v := 1) hx hb d_M_room_17 (by decide) ?_
      refine lv_goto (tgt := 22) hx hb d_M_room_18 (by decide) ?_
      refine lv_iconst (v := 0) hx hb d_M_room_22 (by decide) ?_
      refine lv_iconst (v := 0) hx hb d_M_room_23 (by decide) ?_
      refine ad_cZi S I (ad_ivV (As := [.int 1, .int 0, .int 0]) (rest := []) S (ad_recv I C.1 K_Mod) w_611 w_613 sp_M_fails Y_M_fails ⟨by decide, by decide, np_M_fails⟩ rfl d_M_room_24) (c_M_fails l G lo hp m0 bs th sd (nI ts.length) (nI lt.length) fs 1 0 0 C) Y_M_fails hl.1 ⟨Nat.le_of_ble_eq_true rfl, Nat.le_of_ble_eq_true rfl⟩ (Nat.le_of_ble_eq_true rfl) (Nat.le_of_ble_eq_true rfl) d_M_room_24 (fun hp3 H1 locs1 hA I => ?_)
      obtain ⟨C3, F3⟩ := hA
      have C3 : MC G hp3 m0 bs 1 sd (nI ts.length) (nI lt.length) fs := C3
      refine ad_top (y := .int 1) (by rfl) ?_
      refine lv_if_eq (tgt := 32) hx hb d_M_room_27 (by decide) (fun c27 => ?_) (fun c27 => ?_)
      · exact absurd c27 (by decide)
      · refine lv_iconst (v := 0) hx hb d_M_room_30 (by decide) ?_
        exact ad_iret M I rfl (by omega) (by omega) (⟨by rw [(show q_rp (fun t => decide (t.2.1 = v)) ts 16 v k = (1, 0) from if_neg (fun h => c14 h.2))], fs, by rw [(show q_rp (fun t => decide (t.2.1 = v)) ts 16 v k = (1, 0) from if_neg (fun h => c14 h.2))]; exact C3, A, F3⟩) d_M_room_31
theorem sh_pos {b : Nat} (h : ¬ nI b ≤ 0) : 1 ≤ b := by
  rcases Nat.eq_zero_or_pos b with q | q
  · rw [q] at h; exact absurd (by decide) h
  · exact q
set_option maxHeartbeats 4000000 in
set_option maxRecDepth 100000 in
theorem c_M_share (l : Launch) (G : ad_G) (lo : Nat) (hp : ad_H) (m0 : Nat) (bs : Nat → Nat) (th : Int32) (sd : Int64) (fs : Nat → Nat → Int32) (ts : List TH) (lt : List Nat) (s0 p0 : Int32)  (C : MC G hp m0 bs th sd (nI ts.length) (nI lt.length) fs) (A : MA ts lt fs) (hn : ts.length ≤ 64) : ad_Ct l y_M_share b_M_share 6 rt_M_share hs_M_share 3 0 0 G lo hp [.ref m0, .int s0, .int p0] (fun r hp' => r = .inl (some (.int (q_sh (cc ts s0 1) (cc ts s0 2) (cc ts s0 3) s0 p0).2)) ∧ ∃ fs' : Nat → Nat → Int32, MC G hp' m0 bs (nI (q_sh (cc ts s0 1) (cc ts s0 2) (cc ts s0 3) s0 p0).1) sd (nI (ts).length) (nI (lt).length) fs' ∧ MA (ts) lt fs' ∧ mf m0 bs hp hp') := by
  intro p e s m below meth c M hts hB hP
  have hx := M.1
  have hb := M.2.1
  have hml := M.2.2.1
  have hown : s.vm.findClass "AuditDrawsModel" = some m.cls := M.2.2.2.1
  have S : CallFix p m c b_M_share 6 s _ ad_T "AuditDrawsModel" := ⟨hx, hb, hml, hown, hts⟩
  have I : ad_I G lo s hp s.heap [] := ad_I.rf hB hP
  have hl := lv_entry ([.ref m0, .int s0, .int p0]) (n := 6) (Nat.le_of_ble_eq_true rfl)
  rw [lg_entry_eq]
  generalize (lg_sl ([.ref m0, .int s0, .int p0]) ++ List.replicate (6 - (lg_sl ([.ref m0, .int s0, .int p0])).length) Slot.unset).toArray = ls at hl ⊢
  have hl : lv_has ls 6 [(0, .ref m0), (1, .int s0), (2, .int p0)] := hl
  have hcl := cc_le ts s0
  have loop : ∀ (n : Nat) (g : Nat) (hpj : ad_H) (H : Heap) (locs : List Loc), (g < n ∧ 1 ≤ g ∧ g ≤ 64 ∧ (0 < (cc ts s0 1 + (cc ts s0 2 + cc ts s0 3)) → sp_cd (cc ts s0 1) (cc ts s0 1 + (cc ts s0 2 + cc ts s0 3)) (cc ts s0 1 + (cc ts s0 2 + cc ts s0 3)) = sp_cd (cc ts s0 1) (cc ts s0 1 + (cc ts s0 2 + cc ts s0 3)) g)) → ad_I G lo s hpj H locs → MC G hpj m0 bs 0 sd (nI ts.length) (nI lt.length) fs → mf m0 bs hp hpj → okb s0 6 ∧ okb p0 2 → ∀ ls : Array Slot, lv_has ls 6 [(0, .ref m0), (2, .int p0), (3, .int (nI (cc ts s0 1))), (4, .int (nI (cc ts s0 1 + (cc ts s0 2 + cc ts s0 3)))), (5, .int (nI g))] → W p l e (ad_rm 3 0 0) s m ([.ref m0, .int s0, .int p0] : List Value).toArray below meth c H locs 0 0 (ad_Z below G lo (fun r hp' => r = .inl (some (.int (q_sh (cc ts s0 1) (cc ts s0 2) (cc ts s0 3) s0 p0).2)) ∧ ∃ fs' : Nat → Nat → Int32, MC G hp' m0 bs (nI (q_sh (cc ts s0 1) (cc ts s0 2) (cc ts s0 3) s0 p0).1) sd (nI (ts).length) (nI (lt).length) fs' ∧ MA (ts) lt fs' ∧ mf m0 bs hp hp') s 0 0) (F0 m 68 ls []) := by
    intro n
    induction n with
    | zero => intro g hpj H locs h0; exact absurd h0 (by omega)
    | succ n ih =>
      intro g hpj H locs h0 I C F hok ls hl
      refine lv_iload_n hx hb d_M_share_68 rfl (lv_at hl 2 rfl) ?_
      refine lv_iload hx hb d_M_share_69 (lv_at hl 4 rfl) ?_
      refine lv_irem hx hb d_M_share_71 (nI_ne0 (by omega) (by omega)) ?_
      refine lv_if_ne (tgt := 83) hx hb d_M_share_72 (by decide) (fun c72 => ?_) (fun c72 => ?_)
      · rw [ad_rem (a := cc ts s0 1) (d := g) (by omega) (by omega) (by omega), show (0 : Int32) = nI 0 from rfl, nI_eq (by have := Nat.mod_lt (cc ts s0 1) (show 0 < g by omega); omega) (by omega)] at c72
        have hg : 1 < g := by
          rcases Nat.lt_or_ge 1 g with q | q
          · exact q
          · exact absurd (by rw [show g = 1 by omega]; exact Nat.mod_one _) c72
        refine lv_iinc (v := (nI (g - 1))) (lv' := [(5, .int (nI (g - 1))), (0, .ref m0), (2, .int p0), (3, .int (nI (cc ts s0 1))), (4, .int (nI (cc ts s0 1 + (cc ts s0 2 + cc ts s0 3))))]) hx hb d_M_share_83 hl (k := 4) rfl (nI_dec (by omega)) (by decide) rfl (fun ls hl => ?_)
        refine lv_goto (tgt := 68) hx hb d_M_share_86 (by decide) ?_
        exact ih (g - 1) hpj H locs ⟨by omega, by omega, by omega, fun hb9 => by rw [h0.2.2.2 hb9, sp_cd_s hg, if_neg (fun h => c72 h.1)]⟩ I C F hok ls (lv_sub hl [1, 2, 3, 4, 0] rfl)
      · rw [ad_rem (a := cc ts s0 1) (d := g) (by omega) (by omega) (by omega), show (0 : Int32) = nI 0 from rfl, nI_eq (by have := Nat.mod_lt (cc ts s0 1) (show 0 < g by omega); omega) (by omega)] at c72
        refine lv_iload hx hb d_M_share_75 (lv_at hl 3 rfl) ?_
        refine lv_iload hx hb d_M_share_77 (lv_at hl 4 rfl) ?_
        refine lv_irem hx hb d_M_share_79 (nI_ne0 (by omega) (by omega)) ?_
        refine lv_if_eq (tgt := 89) hx hb d_M_share_80 (by decide) (fun c80 => ?_) (fun c80 => ?_)
        · rw [ad_rem (a := (cc ts s0 1 + (cc ts s0 2 + cc ts s0 3))) (d := g) (by omega) (by omega) (by omega), show (0 : Int32) = nI 0 from rfl, nI_eq (by have := Nat.mod_lt ((cc ts s0 1 + (cc ts s0 2 + cc ts s0 3))) (show 0 < g by omega); omega) (by omega)] at c80
          have hcd : 0 < (cc ts s0 1 + (cc ts s0 2 + cc ts s0 3)) → sp_cd (cc ts s0 1) (cc ts s0 1 + (cc ts s0 2 + cc ts s0 3)) (cc ts s0 1 + (cc ts s0 2 + cc ts s0 3)) = g := fun hb9 => by
            rw [h0.2.2.2 hb9]
            rcases Nat.lt_or_ge 1 g with q | q
            · rw [sp_cd_s q, if_pos ⟨c72, c80⟩]
            · rw [show g = 1 by omega]; exact sp_cd_one _ _
          refine lv_iload hx hb d_M_share_89 (lv_at hl 3 rfl) ?_
          refine lv_if_ne (tgt := 98) hx hb d_M_share_91 (by decide) (fun c91 => ?_) (fun c91 => ?_)
          · have hb8 : 0 < (cc ts s0 1 + (cc ts s0 2 + cc ts s0 3)) := Nat.pos_of_ne_zero (fun h => c91 (by rw [h]; rfl))
            refine lv_iload_n hx hb d_M_share_98 rfl (lv_at hl 1 rfl) ?_
            refine lv_if_ne (tgt := 109) hx hb d_M_share_99 (by decide) (fun c99 => ?_) (fun c99 => ?_)
            · refine lv_iload hx hb d_M_share_109 (lv_at hl 3 rfl) ?_
              refine lv_iload hx hb d_M_share_111 (lv_at hl 4 rfl) ?_
              refine lv_idiv hx hb d_M_share_113 (nI_ne0 (by omega) (by omega)) ?_
              exact ad_iret M I rfl (by omega) (by omega) (⟨by rw [(show q_sh (cc ts s0 1) (cc ts s0 2) (cc ts s0 3) s0 p0 = (0, nI (cc ts s0 1 + (cc ts s0 2 + cc ts s0 3)) / nI g) by simp only [q_sh]; rw [if_pos hok, if_neg (fun h => c91 (by rw [h]; rfl)), if_neg c99, hcd hb8, pk_div (by omega) (by omega) (by omega)])], fs, by rw [(show q_sh (cc ts s0 1) (cc ts s0 2) (cc ts s0 3) s0 p0 = (0, nI (cc ts s0 1 + (cc ts s0 2 + cc ts s0 3)) / nI g) by simp only [q_sh]; rw [if_pos hok, if_neg (fun h => c91 (by rw [h]; rfl)), if_neg c99, hcd hb8, pk_div (by omega) (by omega) (by omega)])]; exact C, A, F⟩) d_M_share_114
            · refine lv_iload_n hx hb d_M_share_102 rfl (lv_at hl 2 rfl) ?_
              refine lv_iload hx hb d_M_share_103 (lv_at hl 4 rfl) ?_
              refine lv_idiv hx hb d_M_share_105 (nI_ne0 (by omega) (by omega)) ?_
              refine lv_goto (tgt := 114) hx hb d_M_share_106 (by decide) ?_
              exact ad_iret M I rfl (by omega) (by omega) (⟨by rw [(show q_sh (cc ts s0 1) (cc ts s0 2) (cc ts s0 3) s0 p0 = (0, nI (cc ts s0 1) / nI g) by simp only [q_sh]; rw [if_pos hok, if_neg (fun h => c91 (by rw [h]; rfl)), if_pos c99, hcd hb8, pk_div (by omega) (by omega) (by omega)])], fs, by rw [(show q_sh (cc ts s0 1) (cc ts s0 2) (cc ts s0 3) s0 p0 = (0, nI (cc ts s0 1) / nI g) by simp only [q_sh]; rw [if_pos hok, if_neg (fun h => c91 (by rw [h]; rfl)), if_pos c99, hcd hb8, pk_div (by omega) (by omega) (by omega)])]; exact C, A, F⟩) d_M_share_114
          · refine lv_iload_n hx hb d_M_share_94 rfl (lv_at hl 1 rfl) ?_
            refine lv_goto (tgt := 114) hx hb d_M_share_95 (by decide) ?_
            exact ad_iret M I rfl (by omega) (by omega) (⟨by rw [(show q_sh (cc ts s0 1) (cc ts s0 2) (cc ts s0 3) s0 p0 = (0, p0) by simp only [q_sh]; rw [if_pos hok, if_pos ((nI_eq (b := 0) (by omega) (by omega)).mp c91)])], fs, by rw [(show q_sh (cc ts s0 1) (cc ts s0 2) (cc ts s0 3) s0 p0 = (0, p0) by simp only [q_sh]; rw [if_pos hok, if_pos ((nI_eq (b := 0) (by omega) (by omega)).mp c91)])]; exact C, A, F⟩) d_M_share_114
        · rw [ad_rem (a := (cc ts s0 1 + (cc ts s0 2 + cc ts s0 3))) (d := g) (by omega) (by omega) (by omega), show (0 : Int32) = nI 0 from rfl, nI_eq (by have := Nat.mod_lt ((cc ts s0 1 + (cc ts s0 2 + cc ts s0 3))) (show 0 < g by omega); omega) (by omega)] at c80
          have hg : 1 < g := by
            rcases Nat.lt_or_ge 1 g with q | q
            · exact q
            · exact absurd (by rw [show g = 1 by omega]; exact Nat.mod_one _) c80
          refine lv_iinc (v := (nI (g - 1))) (lv' := [(5, .int (nI (g - 1))), (0, .ref m0), (2, .int p0), (3, .int (nI (cc ts s0 1))), (4, .int (nI (cc ts s0 1 + (cc ts s0 2 + cc ts s0 3))))]) hx hb d_M_share_83 hl (k := 4) rfl (nI_dec (by omega)) (by decide) rfl (fun ls hl => ?_)
          refine lv_goto (tgt := 68) hx hb d_M_share_86 (by decide) ?_
          exact ih (g - 1) hpj H locs ⟨by omega, by omega, by omega, fun hb9 => by rw [h0.2.2.2 hb9, sp_cd_s hg, if_neg (fun h => c80 h.2)]⟩ I C F hok ls (lv_sub hl [1, 2, 3, 4, 0] rfl)
  refine lv_aload_n hx hb d_M_share_0 rfl (lv_at hl 0 rfl) ?_
  refine lv_iload_n hx hb d_M_share_1 rfl (lv_at hl 1 rfl) ?_
  refine lv_i2l (v := s0.toInt64) hx hb d_M_share_2 rfl ?_
  refine lv_lconst (v := 0) hx hb d_M_share_3 (by decide) ?_
  refine lv_ldc2 (v := 5) hx hb hown (hts _ w_606) d_M_share_4 ?_
  refine ad_cPi S I (ad_ivS (As := [.long s0.toInt64, .long 0, .long 5]) (rest := [.ref m0]) S Y_M_in w_607 w_608 w_6 ⟨by decide, by decide, np_M_in⟩ rfl d_M_share_7) (c_M_in l G lo hp s0.toInt64 0 5) Y_M_in hl.1 ⟨Nat.le_of_ble_eq_true rfl, Nat.le_of_ble_eq_true rfl⟩ (Nat.le_of_ble_eq_true rfl) (Nat.le_of_ble_eq_true rfl) d_M_share_7 ?_
  refine lv_if_eq (tgt := 23) hx hb d_M_share_10 (by decide) (fun c10 => ?_) (fun c10 => ?_)
  · rw [in_ok s0 _ 6 (by decide)] at c10
    refine lv_iconst (v := 1) hx hb d_M_share_23 (by decide) ?_
    refine lv_goto (tgt := 28) hx hb d_M_share_24 (by decide) ?_
    refine lv_iconst (v := 0) hx hb d_M_share_28 (by decide) ?_
    refine lv_iconst (v := 0) hx hb d_M_share_29 (by decide) ?_
    refine ad_cZi S I (ad_ivV (As := [.int 1, .int 0, .int 0]) (rest := []) S (ad_recv I C.1 K_Mod) w_611 w_613 sp_M_fails Y_M_fails ⟨by decide, by decide, np_M_fails⟩ rfl d_M_share_30) (c_M_fails l G lo hp m0 bs th sd (nI ts.length) (nI lt.length) fs 1 0 0 C) Y_M_fails hl.1 ⟨Nat.le_of_ble_eq_true rfl, Nat.le_of_ble_eq_true rfl⟩ (Nat.le_of_ble_eq_true rfl) (Nat.le_of_ble_eq_true rfl) d_M_share_30 (fun hp1 H1 locs1 hA I => ?_)
    obtain ⟨C1, F1⟩ := hA
    have C1 : MC G hp1 m0 bs 1 sd (nI ts.length) (nI lt.length) fs := C1
    refine ad_top (y := .int 1) (by rfl) ?_
    refine lv_if_eq (tgt := 38) hx hb d_M_share_33 (by decide) (fun c33 => ?_) (fun c33 => ?_)
    · exact absurd c33 (by decide)
    · refine lv_iconst (v := 0) hx hb d_M_share_36 (by decide) ?_
      exact ad_iret M I rfl (by omega) (by omega) (⟨by rw [(show q_sh (cc ts s0 1) (cc ts s0 2) (cc ts s0 3) s0 p0 = (1, 0) from if_neg (fun h => c10 h.1))], fs, by rw [(show q_sh (cc ts s0 1) (cc ts s0 2) (cc ts s0 3) s0 p0 = (1, 0) from if_neg (fun h => c10 h.1))]; exact C1, A, F1⟩) d_M_share_37
  · rw [in_ok s0 _ 6 (by decide), Decidable.not_not] at c10
    refine lv_iload_n hx hb d_M_share_13 rfl (lv_at hl 2 rfl) ?_
    refine lv_i2l (v := p0.toInt64) hx hb d_M_share_14 rfl ?_
    refine lv_lconst (v := 0) hx hb d_M_share_15 (by decide) ?_
    refine lv_lconst (v := 1) hx hb d_M_share_16 (by decide) ?_
    refine ad_cPi S I (ad_ivS (As := [.long p0.toInt64, .long 0, .long 1]) (rest := [.ref m0]) S Y_M_in w_607 w_608 w_6 ⟨by decide, by decide, np_M_in⟩ rfl d_M_share_17) (c_M_in l G lo hp p0.toInt64 0 1) Y_M_in hl.1 ⟨Nat.le_of_ble_eq_true rfl, Nat.le_of_ble_eq_true rfl⟩ (Nat.le_of_ble_eq_true rfl) (Nat.le_of_ble_eq_true rfl) d_M_share_17 ?_
    refine lv_if_ne (tgt := 27) hx hb d_M_share_20 (by decide) (fun c20 => ?_) (fun c20 => ?_)
    · rw [in_ok p0 _ 2 (by decide), Decidable.not_not] at c20
      refine lv_iconst (v := 0) hx hb d_M_share_27 (by decide) ?_
      refine lv_iconst (v := 0) hx hb d_M_share_28 (by decide) ?_
      refine lv_iconst (v := 0) hx hb d_M_share_29 (by decide) ?_
      refine ad_cZi S I (ad_ivV (As := [.int 0, .int 0, .int 0]) (rest := []) S (ad_recv I C.1 K_Mod) w_611 w_613 sp_M_fails Y_M_fails ⟨by decide, by decide, np_M_fails⟩ rfl d_M_share_30) (c_M_fails l G lo hp m0 bs th sd (nI ts.length) (nI lt.length) fs 0 0 0 C) Y_M_fails hl.1 ⟨Nat.le_of_ble_eq_true rfl, Nat.le_of_ble_eq_true rfl⟩ (Nat.le_of_ble_eq_true rfl) (Nat.le_of_ble_eq_true rfl) d_M_share_30 (fun hp2 H1 locs1 hA I => ?_)
      obtain ⟨C2, F2⟩ := hA
      have C2 : MC G hp2 m0 bs 0 sd (nI ts.length) (nI lt.length) fs := C2
      refine ad_top (y := .int 0) (by rfl) ?_
      refine lv_if_eq (tgt := 38) hx hb d_M_share_33 (by decide) (fun c33 => ?_) (fun c33 => ?_)
      · refine lv_aload_n hx hb d_M_share_38 rfl (lv_at hl 0 rfl) ?_
        refine lv_iload_n hx hb d_M_share_39 rfl (lv_at hl 1 rfl) ?_
        refine lv_iconst (v := 1) hx hb d_M_share_40 (by decide) ?_
        refine lv_iconst (v := 1) hx hb d_M_share_41 (by decide) ?_
        refine ad_cPi S I (ad_ivV (As := [.int s0, .int 1, .int 1]) (rest := []) S (ad_recv I C2.1 K_Mod) w_662 w_664 sp_M_many Y_M_many ⟨by decide, by decide, np_M_many⟩ rfl d_M_share_42) (c_M_many l G lo hp2 m0 bs 0 sd (nI lt.length) fs ts lt s0 1 1 C2 A hn) Y_M_many hl.1 ⟨Nat.le_of_ble_eq_true rfl, Nat.le_of_ble_eq_true rfl⟩ (Nat.le_of_ble_eq_true rfl) (Nat.le_of_ble_eq_true rfl) d_M_share_42 ?_
        refine ad_top (y := .int (nI (cc ts s0 1))) (by rw [mn_11]) ?_
        refine lv_istore_n (lv' := [(3, .int (nI (cc ts s0 1))), (0, .ref m0), (1, .int s0), (2, .int p0)]) hx hb d_M_share_45 rfl hl (by decide) rfl (fun ls hl => ?_)
        refine lv_aload_n hx hb d_M_share_46 rfl (lv_at hl 1 rfl) ?_
        refine lv_iload_n hx hb d_M_share_47 rfl (lv_at hl 2 rfl) ?_
        refine lv_iconst (v := 1) hx hb d_M_share_48 (by decide) ?_
        refine lv_iconst (v := 3) hx hb d_M_share_49 (by decide) ?_
        refine ad_cPi S I (ad_ivV (As := [.int s0, .int 1, .int 3]) (rest := []) S (ad_recv I C2.1 K_Mod) w_662 w_664 sp_M_many Y_M_many ⟨by decide, by decide, np_M_many⟩ rfl d_M_share_50) (c_M_many l G lo hp2 m0 bs 0 sd (nI lt.length) fs ts lt s0 1 3 C2 A hn) Y_M_many hl.1 ⟨Nat.le_of_ble_eq_true rfl, Nat.le_of_ble_eq_true rfl⟩ (Nat.le_of_ble_eq_true rfl) (Nat.le_of_ble_eq_true rfl) d_M_share_50 ?_
        refine ad_top (y := .int (nI (cc ts s0 1 + (cc ts s0 2 + cc ts s0 3)))) (by rw [mn_13]) ?_
        refine lv_istore (lv' := [(4, .int (nI (cc ts s0 1 + (cc ts s0 2 + cc ts s0 3)))), (3, .int (nI (cc ts s0 1))), (0, .ref m0), (1, .int s0), (2, .int p0)]) hx hb d_M_share_53 hl (by decide) rfl (fun ls hl => ?_)
        refine lv_iload hx hb d_M_share_55 (lv_at hl 0 rfl) ?_
        refine lv_if_le (tgt := 65) hx hb d_M_share_57 (by decide) (fun c57 => ?_) (fun c57 => ?_)
        · refine lv_iconst (v := 1) hx hb d_M_share_65 (by decide) ?_
          refine lv_istore (lv' := [(5, .int 1), (4, .int (nI (cc ts s0 1 + (cc ts s0 2 + cc ts s0 3)))), (3, .int (nI (cc ts s0 1))), (0, .ref m0), (1, .int s0), (2, .int p0)]) hx hb d_M_share_66 hl (by decide) rfl (fun ls hl => ?_)
          exact loop 65 1 hp2 H1 locs1 ⟨by omega, by omega, by omega, fun hb9 => absurd (nI_leI (b := 0) (by omega) (by omega) |>.mp c57) (by omega)⟩ I C2 F2 ⟨c10, c20⟩ ls (lv_sub hl [3, 5, 2, 1, 0] rfl)
        · refine lv_iload hx hb d_M_share_60 (lv_at hl 0 rfl) ?_
          refine lv_goto (tgt := 66) hx hb d_M_share_62 (by decide) ?_
          refine lv_istore (lv' := [(5, .int (nI (cc ts s0 1 + (cc ts s0 2 + cc ts s0 3)))), (4, .int (nI (cc ts s0 1 + (cc ts s0 2 + cc ts s0 3)))), (3, .int (nI (cc ts s0 1))), (0, .ref m0), (1, .int s0), (2, .int p0)]) hx hb d_M_share_66 hl (by decide) rfl (fun ls hl => ?_)
          exact loop 65 (cc ts s0 1 + (cc ts s0 2 + cc ts s0 3)) hp2 H1 locs1 ⟨by omega, sh_pos c57, by omega, fun _ => rfl⟩ I C2 F2 ⟨c10, c20⟩ ls (lv_sub hl [3, 5, 2, 1, 0] rfl)
      · exact absurd c33 (by decide)
    · rw [in_ok p0 _ 2 (by decide)] at c20
      refine lv_iconst (v := 1) hx hb d_M_share_23 (by decide) ?_
      refine lv_goto (tgt := 28) hx hb d_M_share_24 (by decide) ?_
      refine lv_iconst (v := 0) hx hb d_M_share_28 (by decide) ?_
      refine lv_iconst (v := 0) hx hb d_M_share_29 (by decide) ?_
      refine ad_cZi S I (ad_ivV (As := [.int 1, .int 0, .int 0]) (rest := []) S (ad_recv I C.1 K_Mod) w_611 w_613 sp_M_fails Y_M_fails ⟨by decide, by decide, np_M_fails⟩ rfl d_M_share_30) (c_M_fails l G lo hp m0 bs th sd (nI ts.length) (nI lt.length) fs 1 0 0 C) Y_M_fails hl.1 ⟨Nat.le_of_ble_eq_true rfl, Nat.le_of_ble_eq_true rfl⟩ (Nat.le_of_ble_eq_true rfl) (Nat.le_of_ble_eq_true rfl) d_M_share_30 (fun hp3 H1 locs1 hA I => ?_)
      obtain ⟨C3, F3⟩ := hA
      have C3 : MC G hp3 m0 bs 1 sd (nI ts.length) (nI lt.length) fs := C3
      refine ad_top (y := .int 1) (by rfl) ?_
      refine lv_if_eq (tgt := 38) hx hb d_M_share_33 (by decide) (fun c33 => ?_) (fun c33 => ?_)
      · exact absurd c33 (by decide)
      · refine lv_iconst (v := 0) hx hb d_M_share_36 (by decide) ?_
        exact ad_iret M I rfl (by omega) (by omega) (⟨by rw [(show q_sh (cc ts s0 1) (cc ts s0 2) (cc ts s0 3) s0 p0 = (1, 0) from if_neg (fun h => c20 h.2))], fs, by rw [(show q_sh (cc ts s0 1) (cc ts s0 2) (cc ts s0 3) s0 p0 = (1, 0) from if_neg (fun h => c20 h.2))]; exact C3, A, F3⟩) d_M_share_37
