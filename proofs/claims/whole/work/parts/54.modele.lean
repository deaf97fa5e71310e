theorem MA.cong {ts : List TH} {lt : List Nat} {fs fs' : Nat → Nat → Int32} (A : MA ts lt fs) (h : ∀ k, k ≠ 5 → k ≠ 6 → fs' k = fs k) : MA ts lt fs' := by
  refine ⟨fun i t ht => ?_, fun i h1 h2 => ?_, fun j i hi => ?_⟩
  · have := A.1 i t ht
    unfold mt
    rw [h 0 (by decide) (by decide), h 1 (by decide) (by decide), h 2 (by decide) (by decide), h 4 (by decide) (by decide), h 7 (by decide) (by decide), h 8 (by decide) (by decide), h 9 (by decide) (by decide), h 10 (by decide) (by decide)]
    exact this
  · rw [h 2 (by decide) (by decide), h 7 (by decide) (by decide)]; exact A.2.1 i h1 h2
  · rw [h 3 (by decide) (by decide)]; exact A.2.2 j i hi
theorem MA.dr {ts : List TH} {lt : List Nat} {fs : Nat → Nat → Int32} (A : MA ts lt fs) (io : Nat) : MA ts (lt ++ [io]) (updF fs 3 (upd (fs 3) lt.length (nI io))) := by
  refine ⟨A.1, A.2.1, fun j i hi => ?_⟩
  rw [List.getElem?_append] at hi
  by_cases hj : j < lt.length
  · rw [if_pos hj] at hi
    exact (pk_un (by omega)).trans (A.2.2 j i hi)
  · rw [if_neg hj] at hi
    have : j - lt.length = 0 := by
      have := (List.getElem?_eq_some_iff.mp hi).1
      simp at this; omega
    rw [this] at hi
    simp at hi
    subst hi
    obtain rfl : j = lt.length := by omega
    exact pk_us
theorem MA.nil {ts : List TH} {lt : List Nat} {fs : Nat → Nat → Int32} (A : MA ts lt fs) : MA ts [] fs := ⟨A.1, A.2.1, fun j i h => by simp at h⟩
theorem row_mem {ts : List TH} {k : Nat} : ∀ {j x : Nat}, x ∈ sp_row ts k j → x < j ∧ ∃ t, ts[x]? = some t ∧ t.1 = nI k
  | 0, x, h => by simp [sp_row] at h
  | j + 1, x, h => by
    simp only [sp_row, List.mem_append] at h
    rcases h with h | h
    · have := row_mem h
      exact ⟨by omega, this.2⟩
    · split at h
      · next q =>
        rw [List.mem_singleton] at h
        subst h
        cases e : ts[x]? with
        | none => rw [e] at q; simp at q
        | some t => rw [e] at q; simp at q; exact ⟨by omega, t, rfl, q⟩
      · simp at h
theorem tk_mem {rw : List Nat} (d : Int64) (hl : rw.length < 2 ^ 31) : ∀ i, i ≤ rw.length → (∀ x ∈ (sp_tk rw d i).1, x ∈ rw) ∧ ∀ x ∈ (sp_tk rw d i).2.1, x ∈ rw
  | 0, _ => ⟨fun x h => h, fun x h => by simp [sp_tk] at h⟩
  | i + 1, h => by
    obtain ⟨h1, h2⟩ := tk_mem d hl i (by omega)
    have hll := (sp_tk_l rw d i).1
    have hix := (ix_n (sp_dr (sp_tk rw d i).2.2) (k := rw.length - i) (by omega) (by omega)).2
    have g : ∀ k, k < rw.length → (sp_tk rw d i).1.getD k 0 ∈ rw := fun k hk => h1 _ (List.mem_of_getElem? (gd_e (by omega)))
    simp only [sp_tk]
    refine ⟨fun x hx => ?_, fun x hx => ?_⟩
    · rcases List.mem_or_eq_of_mem_set hx with hx | hx
      · rcases List.mem_or_eq_of_mem_set hx with hx | hx
        · exact h1 x hx
        · rw [hx]; exact g _ (by omega)
      · rw [hx]; exact g _ (by omega)
    · rw [List.mem_append, List.mem_singleton] at hx
      rcases hx with hx | hx
      · exact h2 x hx
      · rw [hx]; exact g _ (by omega)
theorem dv_put {fs fsj : Nat → Nat → Int32} {g : Nat → Nat} {s9 : Nat} (h : (∀ k, k ≠ 6 → fsj k = fs k) ∧ ∀ i, i < s9 → fsj 6 i = nI (g i)) : (∀ k, k ≠ 6 → (updF fsj 6 (upd (fsj 6) s9 (nI (g s9)))) k = fs k) ∧ ∀ i, i < s9 + 1 → (updF fsj 6 (upd (fsj 6) s9 (nI (g s9)))) 6 i = nI (g i) := by
  refine ⟨fun k hk => by simp [updF, hk]; exact h.1 k hk, fun i hi => ?_⟩
  show upd (fsj 6) s9 (nI (g s9)) i = _
  by_cases e : i = s9
  · subst e; exact pk_us
  · rw [pk_un e]; exact h.2 i (by omega)
theorem rk_6 (r : Nat → Nat) (s : Nat) : sp_rk r s ≤ 6 := List.countP_le_length
set_option maxHeartbeats 4000000 in
set_option maxRecDepth 100000 in
theorem c_M_divide (l : Launch) (G : ad_G) (lo : Nat) (hp : ad_H) (m0 : Nat) (bs : Nat → Nat) (th : Int32) (sd : Int64) (dm : Int32) (fs : Nat → Nat → Int32) (ts : List TH) (lt : List Nat)  (C : MC G hp m0 bs th sd (nI ts.length) dm fs) (A : MA ts lt fs) (hn : ts.length ≤ 64) (hw : wfs ts) (n0 : Nat) (hn0 : n0 ≤ ts.length) (hp0 : 0 < ts.length) : ad_Ct l y_M_divide b_M_divide 7 rt_M_divide hs_M_divide 3 0 0 G lo hp [.ref m0, .int (nI n0)] (fun r hp' => r = .inl none ∧ ∃ fs' : Nat → Nat → Int32, MC G hp' m0 bs th sd (nI ts.length) dm fs' ∧ ((∀ k, k ≠ 6 → fs' k = fs k) ∧ ∀ i, i < 6 → fs' 6 i = nI (sp_g ts n0 i)) ∧ mf m0 bs hp hp') := by
  intro p e s m below meth c M hts hB hP
  have hx := M.1
  have hb := M.2.1
  have hml := M.2.2.1
  have hown : s.vm.findClass "AuditDrawsModel" = some m.cls := M.2.2.2.1
  have S : CallFix p m c b_M_divide 7 s _ ad_T "AuditDrawsModel" := ⟨hx, hb, hml, hown, hts⟩
  have I : ad_I G lo s hp s.heap [] := ad_I.rf hB hP
  have hl := lv_entry ([.ref m0, .int (nI n0)]) (n := 7) (Nat.le_of_ble_eq_true rfl)
  rw [lg_entry_eq]
  generalize (lg_sl ([.ref m0, .int (nI n0)]) ++ List.replicate (7 - (lg_sl ([.ref m0, .int (nI n0)])).length) Slot.unset).toArray = ls at hl ⊢
  have hl : lv_has ls 7 [(0, .ref m0), (1, .int (nI n0))] := hl
  have hr30 : ∀ s9, sp_r ts n0 s9 < 2 ^ 30 := fun s9 => by have h8 := sp_cb s9 hn hn0; have h7 : sp_r ts n0 s9 ≤ n0 * sp_cn ts s9 := Nat.mod_le _ _; omega
  have hm6 := m_6 hw hn0
  have hrk := rk_6 (sp_r ts n0)
  have inner : ∀ (s9 : Nat) (hpj : ad_H) (fsj : Nat → Nat → Int32) (H : Heap) (locs : List Loc), ad_I G lo s hpj H locs → MC G hpj m0 bs th sd (nI ts.length) dm fsj → MA ts lt fsj → s9 < 6 → (∀ ls : Array Slot, lv_has ls 7 [(0, .ref m0), (1, .int (nI n0)), (2, .int (nI (sp_m ts n0))), (3, .int (nI s9)), (4, .int (nI (sp_rk (sp_r ts n0) s9)))] → W p l e (ad_rm 3 0 0) s m ([.ref m0, .int (nI n0)] : List Value).toArray below meth c H locs 0 0 (ad_Z below G lo (fun r hp' => r = .inl none ∧ ∃ fs' : Nat → Nat → Int32, MC G hp' m0 bs th sd (nI ts.length) dm fs' ∧ ((∀ k, k ≠ 6 → fs' k = fs k) ∧ ∀ i, i < 6 → fs' 6 i = nI (sp_g ts n0 i)) ∧ mf m0 bs hp hp') s 0 0) (F0 m 118 ls [])) → ∀ (n : Nat) (o9 c9 : Nat), (6 < o9 + n ∧ o9 ≤ 6 ∧ c9 = (List.range o9).countP (fun o => sp_ah (sp_r ts n0) o s9)) → ∀ ls : Array Slot, lv_has ls 7 [(0, .ref m0), (1, .int (nI n0)), (2, .int (nI (sp_m ts n0))), (3, .int (nI s9)), (4, .int (nI c9)), (5, .int (nI o9))] → W p l e (ad_rm 3 0 0) s m ([.ref m0, .int (nI n0)] : List Value).toArray below meth c H locs 0 0 (ad_Z below G lo (fun r hp' => r = .inl none ∧ ∃ fs' : Nat → Nat → Int32, MC G hp' m0 bs th sd (nI ts.length) dm fs' ∧ ((∀ k, k ≠ 6 → fs' k = fs k) ∧ ∀ i, i < 6 → fs' 6 i = nI (sp_g ts n0 i)) ∧ mf m0 bs hp hp') s 0 0) (F0 m 45 ls []) := by
    intro s9 hpj fsj H locs I C A hs9 hk n
    induction n with
    | zero => intro o9 c9 h0; exact absurd h0 (by omega)
    | succ n ih =>
      intro o9 c9 h0  ls hl
      refine lv_iload hx hb d_M_divide_45 (lv_at hl 5 rfl) ?_
      refine lv_bipush (v := 6) hx hb d_M_divide_47 (by decide) ?_
      refine lv_icmp_ge (tgt := 118) hx hb d_M_divide_49 (by decide) (fun c49 => ?_) (fun c49 => ?_)
      · obtain rfl : o9 = 6 := by have := ad_ge (j := o9) (n := 6) (by omega) (by omega) c49; omega
        obtain rfl : c9 = sp_rk (sp_r ts n0) s9 := h0.2.2
        exact hk ls (lv_sub hl [0, 1, 2, 3, 4] rfl)
      · have ho9 : o9 < 6 := ad_lt (n := 6) (by omega) (by omega) c49
        have hro := hr30 o9
        have hrs := hr30 s9
        refine lv_aload_n hx hb d_M_divide_52 rfl (lv_at hl 0 rfl) ?_
        refine lv_iload hx hb d_M_divide_53 (lv_at hl 5 rfl) ?_
        refine lv_iload_n hx hb d_M_divide_55 rfl (lv_at hl 1 rfl) ?_
        refine ad_cPi S I (ad_ivV (As := [.int (nI o9), .int (nI n0)]) (rest := []) S (ad_recv I C.1 K_Mod) w_627 w_629 sp_M_rest Y_M_rest ⟨by decide, by decide, np_M_rest⟩ rfl d_M_divide_56) (c_M_rest l G lo hpj m0 bs th sd dm fsj ts lt o9 n0 C A hn hn0 hp0) Y_M_rest hl.1 ⟨Nat.le_of_ble_eq_true rfl, Nat.le_of_ble_eq_true rfl⟩ (Nat.le_of_ble_eq_true rfl) (Nat.le_of_ble_eq_true rfl) d_M_divide_56 ?_
        refine lv_aload_n hx hb d_M_divide_59 rfl (lv_at hl 0 rfl) ?_
        refine lv_iload_n hx hb d_M_divide_60 rfl (lv_at hl 3 rfl) ?_
        refine lv_iload_n hx hb d_M_divide_61 rfl (lv_at hl 1 rfl) ?_
        refine ad_cPi S I (ad_ivV (As := [.int (nI s9), .int (nI n0)]) (rest := [.int (nI (sp_r ts n0 o9))]) S (ad_recv I C.1 K_Mod) w_627 w_629 sp_M_rest Y_M_rest ⟨by decide, by decide, np_M_rest⟩ rfl d_M_divide_62) (c_M_rest l G lo hpj m0 bs th sd dm fsj ts lt s9 n0 C A hn hn0 hp0) Y_M_rest hl.1 ⟨Nat.le_of_ble_eq_true rfl, Nat.le_of_ble_eq_true rfl⟩ (Nat.le_of_ble_eq_true rfl) (Nat.le_of_ble_eq_true rfl) d_M_divide_62 ?_
        refine lv_icmp_gt (tgt := 90) hx hb d_M_divide_65 (by decide) (fun c65 => ?_) (fun c65 => ?_)
        · rw [nI_ltI (by omega) (by omega)] at c65
          refine lv_iconst (v := 1) hx hb d_M_divide_90 (by decide) ?_
          refine lv_goto (tgt := 95) hx hb d_M_divide_91 (by decide) ?_
          refine lv_istore (lv' := [(6, .int 1), (0, .ref m0), (1, .int (nI n0)), (2, .int (nI (sp_m ts n0))), (3, .int (nI s9)), (4, .int (nI c9)), (5, .int (nI o9))]) hx hb d_M_divide_95 hl (by decide) rfl (fun ls hl => ?_)
          refine lv_iload hx hb d_M_divide_97 (lv_at hl 5 rfl) ?_
          refine lv_iload hx hb d_M_divide_99 (lv_at hl 0 rfl) ?_
          refine lv_if_eq (tgt := 108) hx hb d_M_divide_101 (by decide) (fun c101 => ?_) (fun c101 => ?_)
          · exact absurd c101 (by decide)
          · refine lv_iconst (v := 1) hx hb d_M_divide_104 (by decide) ?_
            refine lv_goto (tgt := 109) hx hb d_M_divide_105 (by decide) ?_
            refine lv_iadd hx hb d_M_divide_109 ?_
            refine ad_top (y := .int (nI (c9 + 1))) (congrArg Value.int (nI_1 _)) ?_
            refine lv_istore (lv' := [(4, .int (nI (c9 + 1))), (6, .int 1), (0, .ref m0), (1, .int (nI n0)), (2, .int (nI (sp_m ts n0))), (3, .int (nI s9)), (5, .int (nI o9))]) hx hb d_M_divide_110 hl (by decide) rfl (fun ls hl => ?_)
            refine lv_iinc (v := (nI (o9 + 1))) (lv' := [(5, .int (nI (o9 + 1))), (4, .int (nI (c9 + 1))), (6, .int 1), (0, .ref m0), (1, .int (nI n0)), (2, .int (nI (sp_m ts n0))), (3, .int (nI s9))]) hx hb d_M_divide_112 hl (k := 6) rfl (nI_1 o9) (by decide) rfl (fun ls hl => ?_)
            refine lv_goto (tgt := 45) hx hb d_M_divide_115 (by decide) ?_
            exact ih (o9 + 1) (c9 + 1) ⟨by omega, by omega, by rw [List.range_succ, List.countP_append, ← h0.2.2, List.countP_singleton]; simp [sp_ah, c65]⟩ ls (lv_sub hl [3, 4, 5, 6, 1, 0] rfl)
        · rw [nI_ltI (by omega) (by omega)] at c65
          refine lv_aload_n hx hb d_M_divide_68 rfl (lv_at hl 0 rfl) ?_
          refine lv_iload hx hb d_M_divide_69 (lv_at hl 5 rfl) ?_
          refine lv_iload_n hx hb d_M_divide_71 rfl (lv_at hl 1 rfl) ?_
          refine ad_cPi S I (ad_ivV (As := [.int (nI o9), .int (nI n0)]) (rest := []) S (ad_recv I C.1 K_Mod) w_627 w_629 sp_M_rest Y_M_rest ⟨by decide, by decide, np_M_rest⟩ rfl d_M_divide_72) (c_M_rest l G lo hpj m0 bs th sd dm fsj ts lt o9 n0 C A hn hn0 hp0) Y_M_rest hl.1 ⟨Nat.le_of_ble_eq_true rfl, Nat.le_of_ble_eq_true rfl⟩ (Nat.le_of_ble_eq_true rfl) (Nat.le_of_ble_eq_true rfl) d_M_divide_72 ?_
          refine lv_aload_n hx hb d_M_divide_75 rfl (lv_at hl 0 rfl) ?_
          refine lv_iload_n hx hb d_M_divide_76 rfl (lv_at hl 3 rfl) ?_
          refine lv_iload_n hx hb d_M_divide_77 rfl (lv_at hl 1 rfl) ?_
          refine ad_cPi S I (ad_ivV (As := [.int (nI s9), .int (nI n0)]) (rest := [.int (nI (sp_r ts n0 o9))]) S (ad_recv I C.1 K_Mod) w_627 w_629 sp_M_rest Y_M_rest ⟨by decide, by decide, np_M_rest⟩ rfl d_M_divide_78) (c_M_rest l G lo hpj m0 bs th sd dm fsj ts lt s9 n0 C A hn hn0 hp0) Y_M_rest hl.1 ⟨Nat.le_of_ble_eq_true rfl, Nat.le_of_ble_eq_true rfl⟩ (Nat.le_of_ble_eq_true rfl) (Nat.le_of_ble_eq_true rfl) d_M_divide_78 ?_
          refine lv_icmp_ne (tgt := 94) hx hb d_M_divide_81 (by decide) (fun c81 => ?_) (fun c81 => ?_)
          · rw [nI_eq (by omega) (by omega)] at c81
            refine lv_iconst (v := 0) hx hb d_M_divide_94 (by decide) ?_
            refine lv_istore (lv' := [(6, .int 0), (0, .ref m0), (1, .int (nI n0)), (2, .int (nI (sp_m ts n0))), (3, .int (nI s9)), (4, .int (nI c9)), (5, .int (nI o9))]) hx hb d_M_divide_95 hl (by decide) rfl (fun ls hl => ?_)
            refine lv_iload hx hb d_M_divide_97 (lv_at hl 5 rfl) ?_
            refine lv_iload hx hb d_M_divide_99 (lv_at hl 0 rfl) ?_
            refine lv_if_eq (tgt := 108) hx hb d_M_divide_101 (by decide) (fun c101 => ?_) (fun c101 => ?_)
            · refine lv_iconst (v := 0) hx hb d_M_divide_108 (by decide) ?_
              refine lv_iadd hx hb d_M_divide_109 ?_
              refine ad_top (y := .int (nI c9)) (congrArg Value.int (Int32.add_zero _)) ?_
              refine lv_istore (lv' := [(4, .int (nI c9)), (6, .int 0), (0, .ref m0), (1, .int (nI n0)), (2, .int (nI (sp_m ts n0))), (3, .int (nI s9)), (5, .int (nI o9))]) hx hb d_M_divide_110 hl (by decide) rfl (fun ls hl => ?_)
              refine lv_iinc (v := (nI (o9 + 1))) (lv' := [(5, .int (nI (o9 + 1))), (4, .int (nI c9)), (6, .int 0), (0, .ref m0), (1, .int (nI n0)), (2, .int (nI (sp_m ts n0))), (3, .int (nI s9))]) hx hb d_M_divide_112 hl (k := 6) rfl (nI_1 o9) (by decide) rfl (fun ls hl => ?_)
              refine lv_goto (tgt := 45) hx hb d_M_divide_115 (by decide) ?_
              exact ih (o9 + 1) c9 ⟨by omega, by omega, by rw [List.range_succ, List.countP_append, ← h0.2.2, List.countP_singleton]; simp [sp_ah, c65, c81]⟩ ls (lv_sub hl [3, 4, 5, 6, 1, 0] rfl)
            · exact absurd c101 (by decide)
          · rw [nI_eq (by omega) (by omega)] at c81
            refine lv_iload hx hb d_M_divide_84 (lv_at hl 5 rfl) ?_
            refine lv_iload_n hx hb d_M_divide_86 rfl (lv_at hl 3 rfl) ?_
            refine lv_icmp_ge (tgt := 94) hx hb d_M_divide_87 (by decide) (fun c87 => ?_) (fun c87 => ?_)
            · rw [nI_leI (by omega) (by omega)] at c87
              refine lv_iconst (v := 0) hx hb d_M_divide_94 (by decide) ?_
              refine lv_istore (lv' := [(6, .int 0), (0, .ref m0), (1, .int (nI n0)), (2, .int (nI (sp_m ts n0))), (3, .int (nI s9)), (4, .int (nI c9)), (5, .int (nI o9))]) hx hb d_M_divide_95 hl (by decide) rfl (fun ls hl => ?_)
              refine lv_iload hx hb d_M_divide_97 (lv_at hl 5 rfl) ?_
              refine lv_iload hx hb d_M_divide_99 (lv_at hl 0 rfl) ?_
              refine lv_if_eq (tgt := 108) hx hb d_M_divide_101 (by decide) (fun c101 => ?_) (fun c101 => ?_)
              · refine lv_iconst (v := 0) hx hb d_M_divide_108 (by decide) ?_
                refine lv_iadd hx hb d_M_divide_109 ?_
                refine ad_top (y := .int (nI c9)) (congrArg Value.int (Int32.add_zero _)) ?_
                refine lv_istore (lv' := [(4, .int (nI c9)), (6, .int 0), (0, .ref m0), (1, .int (nI n0)), (2, .int (nI (sp_m ts n0))), (3, .int (nI s9)), (5, .int (nI o9))]) hx hb d_M_divide_110 hl (by decide) rfl (fun ls hl => ?_)
                refine lv_iinc (v := (nI (o9 + 1))) (lv' := [(5, .int (nI (o9 + 1))), (4, .int (nI c9)), (6, .int 0), (0, .ref m0), (1, .int (nI n0)), (2, .int (nI (sp_m ts n0))), (3, .int (nI s9))]) hx hb d_M_divide_112 hl (k := 6) rfl (nI_1 o9) (by decide) rfl (fun ls hl => ?_)
                refine lv_goto (tgt := 45) hx hb d_M_divide_115 (by decide) ?_
                exact ih (o9 + 1) c9 ⟨by omega, by omega, by rw [List.range_succ, List.countP_append, ← h0.2.2, List.countP_singleton]; simp [sp_ah, c65, c81, show ¬ o9 < s9 by omega]⟩ ls (lv_sub hl [3, 4, 5, 6, 1, 0] rfl)
              · exact absurd c101 (by decide)
            · rw [nI_leI (by omega) (by omega)] at c87
              refine lv_iconst (v := 1) hx hb d_M_divide_90 (by decide) ?_
              refine lv_goto (tgt := 95) hx hb d_M_divide_91 (by decide) ?_
              refine lv_istore (lv' := [(6, .int 1), (0, .ref m0), (1, .int (nI n0)), (2, .int (nI (sp_m ts n0))), (3, .int (nI s9)), (4, .int (nI c9)), (5, .int (nI o9))]) hx hb d_M_divide_95 hl (by decide) rfl (fun ls hl => ?_)
              refine lv_iload hx hb d_M_divide_97 (lv_at hl 5 rfl) ?_
              refine lv_iload hx hb d_M_divide_99 (lv_at hl 0 rfl) ?_
              refine lv_if_eq (tgt := 108) hx hb d_M_divide_101 (by decide) (fun c101 => ?_) (fun c101 => ?_)
              · exact absurd c101 (by decide)
              · refine lv_iconst (v := 1) hx hb d_M_divide_104 (by decide) ?_
                refine lv_goto (tgt := 109) hx hb d_M_divide_105 (by decide) ?_
                refine lv_iadd hx hb d_M_divide_109 ?_
                refine ad_top (y := .int (nI (c9 + 1))) (congrArg Value.int (nI_1 _)) ?_
                refine lv_istore (lv' := [(4, .int (nI (c9 + 1))), (6, .int 1), (0, .ref m0), (1, .int (nI n0)), (2, .int (nI (sp_m ts n0))), (3, .int (nI s9)), (5, .int (nI o9))]) hx hb d_M_divide_110 hl (by decide) rfl (fun ls hl => ?_)
                refine lv_iinc (v := (nI (o9 + 1))) (lv' := [(5, .int (nI (o9 + 1))), (4, .int (nI (c9 + 1))), (6, .int 1), (0, .ref m0), (1, .int (nI n0)), (2, .int (nI (sp_m ts n0))), (3, .int (nI s9))]) hx hb d_M_divide_112 hl (k := 6) rfl (nI_1 o9) (by decide) rfl (fun ls hl => ?_)
                refine lv_goto (tgt := 45) hx hb d_M_divide_115 (by decide) ?_
                exact ih (o9 + 1) (c9 + 1) ⟨by omega, by omega, by rw [List.range_succ, List.countP_append, ← h0.2.2, List.countP_singleton]; simp [sp_ah, c65, c81, show o9 < s9 by omega]⟩ ls (lv_sub hl [3, 4, 5, 6, 1, 0] rfl)
  have outer : ∀ (n : Nat) (s9 : Nat) (hpj : ad_H) (fsj : Nat → Nat → Int32) (H : Heap) (locs : List Loc), (6 < s9 + n ∧ s9 ≤ 6) → ad_I G lo s hpj H locs → MC G hpj m0 bs th sd (nI ts.length) dm fsj → MA ts lt fsj → mf m0 bs hp hpj → ((∀ k, k ≠ 6 → fsj k = fs k) ∧ ∀ i, i < s9 → fsj 6 i = nI (sp_g ts n0 i)) → ∀ ls : Array Slot, lv_has ls 7 [(0, .ref m0), (1, .int (nI n0)), (2, .int (nI (sp_m ts n0))), (3, .int (nI s9))] → W p l e (ad_rm 3 0 0) s m ([.ref m0, .int (nI n0)] : List Value).toArray below meth c H locs 0 0 (ad_Z below G lo (fun r hp' => r = .inl none ∧ ∃ fs' : Nat → Nat → Int32, MC G hp' m0 bs th sd (nI ts.length) dm fs' ∧ ((∀ k, k ≠ 6 → fs' k = fs k) ∧ ∀ i, i < 6 → fs' 6 i = nI (sp_g ts n0 i)) ∧ mf m0 bs hp hp') s 0 0) (F0 m 33 ls []) := by
    intro n
    induction n with
    | zero => intro s9 hpj fsj H locs h0; exact absurd h0 (by omega)
    | succ n ih =>
      intro s9 hpj fsj H locs h0 I C A F hinv ls hl
      refine lv_iload_n hx hb d_M_divide_33 rfl (lv_at hl 3 rfl) ?_
      refine lv_bipush (v := 6) hx hb d_M_divide_34 (by decide) ?_
      refine lv_icmp_ge (tgt := 154) hx hb d_M_divide_36 (by decide) (fun c36 => ?_) (fun c36 => ?_)
      · obtain rfl : s9 = 6 := by have := ad_ge (j := s9) (n := 6) (by omega) (by omega) c36; omega
        exact ad_vret M I (by omega) (by omega) (⟨rfl, fsj, C, hinv, F⟩) d_M_divide_154
      · have hs9 : s9 < 6 := ad_lt (n := 6) (by omega) (by omega) c36
        refine lv_iconst (v := 0) hx hb d_M_divide_39 (by decide) ?_
        refine lv_istore (lv' := [(4, .int 0), (0, .ref m0), (1, .int (nI n0)), (2, .int (nI (sp_m ts n0))), (3, .int (nI s9))]) hx hb d_M_divide_40 hl (by decide) rfl (fun ls hl => ?_)
        refine lv_iconst (v := 0) hx hb d_M_divide_42 (by decide) ?_
        refine lv_istore (lv' := [(5, .int 0), (4, .int 0), (0, .ref m0), (1, .int (nI n0)), (2, .int (nI (sp_m ts n0))), (3, .int (nI s9))]) hx hb d_M_divide_43 hl (by decide) rfl (fun ls hl => ?_)
        refine inner s9 hpj fsj H locs I C A hs9 (fun ls hl => ?_) 7 0 0 ⟨by omega, by omega, rfl⟩ ls (lv_sub hl [2, 3, 4, 5, 1, 0] rfl)
        refine lv_aload_n hx hb d_M_divide_118 rfl (lv_at hl 0 rfl) ?_
        refine ad_get S I C.1 K_Mod 10 (by decide) w_558 rfl d_M_divide_119 ?_
        refine lv_iload_n hx hb d_M_divide_122 rfl (lv_at hl 3 rfl) ?_
        refine lv_iload_n hx hb d_M_divide_123 rfl (lv_at hl 1 rfl) ?_
        refine lv_aload_n hx hb d_M_divide_124 rfl (lv_at hl 0 rfl) ?_
        refine lv_iload_n hx hb d_M_divide_125 rfl (lv_at hl 3 rfl) ?_
        refine ad_cPi S I (ad_ivV (As := [.int (nI s9)]) (rest := [.int (nI n0), .int (nI s9), .ref (bs 6)]) S (ad_recv I C.1 K_Mod) w_623 w_625 sp_M_size Y_M_size ⟨by decide, by decide, np_M_size⟩ rfl d_M_divide_126) (c_M_size l G lo hpj m0 bs th sd dm fsj ts lt (nI s9) C A hn) Y_M_size hl.1 ⟨Nat.le_of_ble_eq_true rfl, Nat.le_of_ble_eq_true rfl⟩ (Nat.le_of_ble_eq_true rfl) (Nat.le_of_ble_eq_true rfl) d_M_divide_126 ?_
        refine lv_imul hx hb d_M_divide_129 ?_
        refine ad_top (y := .int (nI (n0 * sp_cn ts s9))) (congrArg Value.int (pk_mul _ _)) ?_
        refine lv_aload_n hx hb d_M_divide_130 rfl (lv_at hl 0 rfl) ?_
        refine ad_get S I C.1 K_Mod 2 (by decide) w_550 rfl d_M_divide_131 ?_
        refine lv_idiv hx hb d_M_divide_134 (nI_ne0 hp0 (by omega)) ?_
        refine ad_top (y := .int (nI (sp_f ts n0 s9))) (congrArg Value.int (pk_div (by have := sp_cb s9 hn hn0; omega) hp0 (by omega))) ?_
        refine lv_iload hx hb d_M_divide_135 (lv_at hl 4 rfl) ?_
        refine lv_iload_n hx hb d_M_divide_137 rfl (lv_at hl 2 rfl) ?_
        refine lv_icmp_ge (tgt := 145) hx hb d_M_divide_138 (by decide) (fun c138 => ?_) (fun c138 => ?_)
        · refine lv_iconst (v := 0) hx hb d_M_divide_145 (by decide) ?_
          refine lv_iadd hx hb d_M_divide_146 ?_
          have hrk9 := hrk s9
          refine ad_top (y := .int (nI (sp_g ts n0 s9))) (congrArg Value.int (by unfold sp_g; rw [if_neg (Nat.not_lt.mpr (ad_ge (n := sp_m ts n0) (by omega) (by omega) c138))]; exact Int32.add_zero _)) ?_
          refine ad_iast S I (C.2.1 6 (by decide)) (vp_in_nI (show s9 < 6 by omega) (by decide)) d_M_divide_147 (fun H1 locs1 I => ?_)
          rw [show (nI s9).toNatClampNeg = s9 from nI_clamp (by omega)] at I
          obtain ⟨hp101, ehp101⟩ : ∃ z : ad_H, z = ad_up hpj (bs 6) (.inl (G.2.1 0, 6, .inl (upd (fsj 6) s9 (nI (sp_g ts n0 s9))))) := ⟨_, rfl⟩
          have I : ad_I G lo s hp101 H1 locs1 := by rw [ehp101]; exact I
          obtain ⟨C101, F101⟩ := MC.arr (hp' := hp101) C 6 (by decide) (by rw [ehp101]; exact ad_up_s _ _ _) (fun z hz => by rw [ehp101]; exact ad_up_n _ hz)
          refine lv_iinc (v := (nI (s9 + 1))) (lv' := [(3, .int (nI (s9 + 1))), (0, .ref m0), (1, .int (nI n0)), (2, .int (nI (sp_m ts n0))), (4, .int (nI (sp_rk (sp_r ts n0) s9)))]) hx hb d_M_divide_148 hl (k := 3) rfl (nI_1 s9) (by decide) rfl (fun ls hl => ?_)
          refine lv_goto (tgt := 33) hx hb d_M_divide_151 (by decide) ?_
          exact ih (s9 + 1) hp101 (updF fsj 6 (upd (fsj 6) s9 (nI (sp_g ts n0 s9)))) H1 locs1 (by omega) I C101 (A.cong (fun k h1 h2 => by simp [updF, h2])) (F.tr F101) (dv_put hinv) ls (lv_sub hl [1, 2, 3, 0] rfl)
        · refine lv_iconst (v := 1) hx hb d_M_divide_141 (by decide) ?_
          refine lv_goto (tgt := 146) hx hb d_M_divide_142 (by decide) ?_
          refine lv_iadd hx hb d_M_divide_146 ?_
          have hrk9 := hrk s9
          refine ad_top (y := .int (nI (sp_g ts n0 s9))) (congrArg Value.int (by unfold sp_g; rw [if_pos (ad_lt (n := sp_m ts n0) (by omega) (by omega) c138)]; exact nI_1 _)) ?_
          refine ad_iast S I (C.2.1 6 (by decide)) (vp_in_nI (show s9 < 6 by omega) (by decide)) d_M_divide_147 (fun H1 locs1 I => ?_)
          rw [show (nI s9).toNatClampNeg = s9 from nI_clamp (by omega)] at I
          obtain ⟨hp102, ehp102⟩ : ∃ z : ad_H, z = ad_up hpj (bs 6) (.inl (G.2.1 0, 6, .inl (upd (fsj 6) s9 (nI (sp_g ts n0 s9))))) := ⟨_, rfl⟩
          have I : ad_I G lo s hp102 H1 locs1 := by rw [ehp102]; exact I
          obtain ⟨C102, F102⟩ := MC.arr (hp' := hp102) C 6 (by decide) (by rw [ehp102]; exact ad_up_s _ _ _) (fun z hz => by rw [ehp102]; exact ad_up_n _ hz)
          refine lv_iinc (v := (nI (s9 + 1))) (lv' := [(3, .int (nI (s9 + 1))), (0, .ref m0), (1, .int (nI n0)), (2, .int (nI (sp_m ts n0))), (4, .int (nI (sp_rk (sp_r ts n0) s9)))]) hx hb d_M_divide_148 hl (k := 3) rfl (nI_1 s9) (by decide) rfl (fun ls hl => ?_)
          refine lv_goto (tgt := 33) hx hb d_M_divide_151 (by decide) ?_
          exact ih (s9 + 1) hp102 (updF fsj 6 (upd (fsj 6) s9 (nI (sp_g ts n0 s9)))) H1 locs1 (by omega) I C102 (A.cong (fun k h1 h2 => by simp [updF, h2])) (F.tr F102) (dv_put hinv) ls (lv_sub hl [1, 2, 3, 0] rfl)
  have one : ∀ (n : Nat) (j : Nat), (6 < j + n ∧ j ≤ 6) → ∀ ls : Array Slot, lv_has ls 7 [(0, .ref m0), (1, .int (nI n0)), (2, .int (nI (n0 - sp_sm (sp_f ts n0) j))), (3, .int (nI j))] → W p l e (ad_rm 3 0 0) s m ([.ref m0, .int (nI n0)] : List Value).toArray below meth c s.heap [] 0 0 (ad_Z below G lo (fun r hp' => r = .inl none ∧ ∃ fs' : Nat → Nat → Int32, MC G hp' m0 bs th sd (nI ts.length) dm fs' ∧ ((∀ k, k ≠ 6 → fs' k = fs k) ∧ ∀ i, i < 6 → fs' 6 i = nI (sp_g ts n0 i)) ∧ mf m0 bs hp hp') s 0 0) (F0 m 4 ls []) := by
    intro n
    induction n with
    | zero => intro j h0; exact absurd h0 (by omega)
    | succ n ih =>
      intro j h0  ls hl
      refine lv_iload_n hx hb d_M_divide_4 rfl (lv_at hl 3 rfl) ?_
      refine lv_bipush (v := 6) hx hb d_M_divide_5 (by decide) ?_
      refine lv_icmp_ge (tgt := 31) hx hb d_M_divide_7 (by decide) (fun c7 => ?_) (fun c7 => ?_)
      · obtain rfl : j = 6 := by have := ad_ge (j := j) (n := 6) (by omega) (by omega) c7; omega
        refine lv_iconst (v := 0) hx hb d_M_divide_31 (by decide) ?_
        refine lv_istore_n (lv' := [(3, .int 0), (0, .ref m0), (1, .int (nI n0)), (2, .int (nI (sp_m ts n0)))]) hx hb d_M_divide_32 rfl hl (by decide) rfl (fun ls hl => ?_)
        exact outer 7 0 hp fs s.heap [] (by omega) I C A (mf.rf _ _ _) ⟨fun _ _ => rfl, fun i hi => by omega⟩ ls (lv_sub hl [1, 2, 3, 0] rfl)
      · have hj : j < 6 := ad_lt (n := 6) (by omega) (by omega) c7
        refine lv_iload_n hx hb d_M_divide_10 rfl (lv_at hl 2 rfl) ?_
        refine lv_iload_n hx hb d_M_divide_11 rfl (lv_at hl 1 rfl) ?_
        refine lv_aload_n hx hb d_M_divide_12 rfl (lv_at hl 0 rfl) ?_
        refine lv_iload_n hx hb d_M_divide_13 rfl (lv_at hl 3 rfl) ?_
        refine ad_cPi S I (ad_ivV (As := [.int (nI j)]) (rest := [.int (nI n0), .int (nI (n0 - sp_sm (sp_f ts n0) j))]) S (ad_recv I C.1 K_Mod) w_623 w_625 sp_M_size Y_M_size ⟨by decide, by decide, np_M_size⟩ rfl d_M_divide_14) (c_M_size l G lo hp m0 bs th sd dm fs ts lt (nI j) C A hn) Y_M_size hl.1 ⟨Nat.le_of_ble_eq_true rfl, Nat.le_of_ble_eq_true rfl⟩ (Nat.le_of_ble_eq_true rfl) (Nat.le_of_ble_eq_true rfl) d_M_divide_14 ?_
        refine lv_imul hx hb d_M_divide_17 ?_
        refine ad_top (y := .int (nI (n0 * sp_cn ts j))) (congrArg Value.int (pk_mul _ _)) ?_
        refine lv_aload_n hx hb d_M_divide_18 rfl (lv_at hl 0 rfl) ?_
        refine ad_get S I C.1 K_Mod 2 (by decide) w_550 rfl d_M_divide_19 ?_
        refine lv_idiv hx hb d_M_divide_22 (nI_ne0 hp0 (by omega)) ?_
        refine ad_top (y := .int (nI (sp_f ts n0 j))) (congrArg Value.int (pk_div (by have := sp_cb j hn hn0; omega) hp0 (by omega))) ?_
        refine lv_isub hx hb d_M_divide_23 ?_
        have hs1 : sp_sm (sp_f ts n0) j + sp_f ts n0 j ≤ n0 := Nat.le_trans (sm_mono (sp_f ts n0) (i := j + 1) (by omega)) (f_sum hw hn0)
        refine ad_top (y := .int (nI (n0 - sp_sm (sp_f ts n0) (j + 1)))) (congrArg Value.int (by rw [pk_sub (by omega)]; congr 1; show n0 - sp_sm (sp_f ts n0) j - sp_f ts n0 j = n0 - (sp_sm (sp_f ts n0) j + sp_f ts n0 j); omega)) ?_
        refine lv_istore_n (lv' := [(2, .int (nI (n0 - sp_sm (sp_f ts n0) (j + 1)))), (0, .ref m0), (1, .int (nI n0)), (3, .int (nI j))]) hx hb d_M_divide_24 rfl hl (by decide) rfl (fun ls hl => ?_)
        refine lv_iinc (v := (nI (j + 1))) (lv' := [(3, .int (nI (j + 1))), (2, .int (nI (n0 - sp_sm (sp_f ts n0) (j + 1)))), (0, .ref m0), (1, .int (nI n0))]) hx hb d_M_divide_25 hl (k := 3) rfl (nI_1 j) (by decide) rfl (fun ls hl => ?_)
        refine lv_goto (tgt := 4) hx hb d_M_divide_28 (by decide) ?_
        exact ih (j + 1) (by omega) ls (lv_sub hl [2, 3, 1, 0] rfl)
  refine lv_iload_n hx hb d_M_divide_0 rfl (lv_at hl 1 rfl) ?_
  refine lv_istore_n (lv' := [(2, .int (nI n0)), (0, .ref m0), (1, .int (nI n0))]) hx hb d_M_divide_1 rfl hl (by decide) rfl (fun ls hl => ?_)
  refine lv_iconst (v := 0) hx hb d_M_divide_2 (by decide) ?_
  refine lv_istore_n (lv' := [(3, .int 0), (2, .int (nI n0)), (0, .ref m0), (1, .int (nI n0))]) hx hb d_M_divide_3 rfl hl (by decide) rfl (fun ls hl => ?_)
  exact one 7 0 (by omega) ls (lv_sub hl [2, 3, 1, 0] rfl)
theorem ly_put {fs fsj : Nat → Nat → Int32} {rw : List Nat} {c9 j : Nat} (hc : c9 = rw.length) (h : (∀ k, k ≠ 5 → fsj k = fs k) ∧ ∀ (i x : Nat), rw[i]? = some x → fsj 5 i = nI x) : (∀ k, k ≠ 5 → (updF fsj 5 (upd (fsj 5) c9 (nI j))) k = fs k) ∧ ∀ (i x : Nat), (rw ++ [j])[i]? = some x → (updF fsj 5 (upd (fsj 5) c9 (nI j))) 5 i = nI x := by
  refine ⟨fun k hk => by simp [updF, hk]; exact h.1 k hk, fun i x hx => ?_⟩
  show upd (fsj 5) c9 (nI j) i = _
  rw [List.getElem?_append] at hx
  by_cases hi : i < rw.length
  · rw [if_pos hi] at hx
    rw [pk_un (by omega)]; exact h.2 i x hx
  · rw [if_neg hi] at hx
    have : i - rw.length = 0 := by
      have := (List.getElem?_eq_some_iff.mp hx).1
      simp at this; omega
    rw [this] at hx
    simp at hx
    subst hx
    rw [show i = c9 by omega]
    exact pk_us
theorem tk_put {fsj : Nat → Nat → Int32} {rw : List Nat} {i o9 io ii : Nat} (h : ∀ (q x : Nat), rw[q]? = some x → fsj 5 q = nI x) (ho : rw[o9]? = some io) (hi : rw[i]? = some ii) : ∀ (q x : Nat), ((rw.set o9 ii).set i io)[q]? = some x → upd (upd (fsj 5) o9 (fsj 5 i)) i (nI io) q = nI x := by
  intro q x hx
  have h1 := (List.getElem?_eq_some_iff.mp ho).1
  have h2 := (List.getElem?_eq_some_iff.mp hi).1
  by_cases e : q = i
  · subst e
    rw [List.getElem?_set_self (by simp; omega)] at hx
    cases hx
    exact pk_us
  · rw [List.getElem?_set_ne (Ne.symm e)] at hx
    rw [pk_un e]
    by_cases e2 : q = o9
    · subst e2
      rw [List.getElem?_set_self h1] at hx
      cases hx
      rw [pk_us]; exact h i _ hi
    · rw [List.getElem?_set_ne (Ne.symm e2)] at hx
      rw [pk_un e2]; exact h q x hx
set_option maxHeartbeats 4000000 in
set_option maxRecDepth 100000 in
theorem c_M_drawFrom (l : Launch) (G : ad_G) (lo : Nat) (hp : ad_H) (m0 : Nat) (bs : Nat → Nat) (th : Int32) (sd : Int64) (fs : Nat → Nat → Int32) (ts : List TH) (lt : List Nat) (k0 g0 : Nat)  (C : MC G hp m0 bs th sd (nI ts.length) (nI lt.length) fs) (A : MA ts lt fs) (hn : ts.length ≤ 64) (hk6 : k0 < 6) (hg6 : fs 6 k0 = nI g0) (hgc : g0 ≤ sp_cn ts k0) (hlg : lt.length + g0 ≤ 64) : ad_Ct l y_M_drawFrom b_M_drawFrom 6 rt_M_drawFrom hs_M_drawFrom 2 0 0 G lo hp [.ref m0, .int (nI k0)] (fun r hp' => r = .inl none ∧ ∃ fs' : Nat → Nat → Int32, MC G hp' m0 bs th ((sp_tk (sp_row ts k0 ts.length) sd g0).2.2) (nI ts.length) (nI (lt.length + g0)) fs' ∧ MA ((sp_tk (sp_row ts k0 ts.length) sd g0).2.1.foldl (sp_z 0) ts) (lt ++ (sp_tk (sp_row ts k0 ts.length) sd g0).2.1) fs' ∧ fs' 6 = fs 6 ∧ mf m0 bs hp hp') := by
  intro p e s m below meth c M hts hB hP
  have hx := M.1
  have hb := M.2.1
  have hml := M.2.2.1
  have hown : s.vm.findClass "AuditDrawsModel" = some m.cls := M.2.2.2.1
  have S : CallFix p m c b_M_drawFrom 6 s _ ad_T "AuditDrawsModel" := ⟨hx, hb, hml, hown, hts⟩
  have I : ad_I G lo s hp s.heap [] := ad_I.rf hB hP
  have hl := lv_entry ([.ref m0, .int (nI k0)]) (n := 6) (Nat.le_of_ble_eq_true rfl)
  rw [lg_entry_eq]
  generalize (lg_sl ([.ref m0, .int (nI k0)]) ++ List.replicate (6 - (lg_sl ([.ref m0, .int (nI k0)])).length) Slot.unset).toArray = ls at hl ⊢
  have hl : lv_has ls 6 [(0, .ref m0), (1, .int (nI k0))] := hl
  have take : ∀ (n : Nat) (i : Nat) (hpj : ad_H) (fsj : Nat → Nat → Int32) (H : Heap) (locs : List Loc), (g0 < i + n ∧ i ≤ g0) → ad_I G lo s hpj H locs → MC G hpj m0 bs th ((sp_tk (sp_row ts k0 ts.length) sd i).2.2) (nI ts.length) (nI (lt.length + i)) fsj → mf m0 bs hp hpj → MA ((sp_tk (sp_row ts k0 ts.length) sd i).2.1.foldl (sp_z 0) ts) (lt ++ (sp_tk (sp_row ts k0 ts.length) sd i).2.1) fsj → fsj 6 = fs 6 → (∀ (q x : Nat), (sp_tk (sp_row ts k0 ts.length) sd i).1[q]? = some x → fsj 5 q = nI x) → ∀ ls : Array Slot, lv_has ls 6 [(0, .ref m0), (1, .int (nI k0)), (2, .int (nI (sp_cn ts k0))), (3, .int (nI i))] → W p l e (ad_rm 2 0 0) s m ([.ref m0, .int (nI k0)] : List Value).toArray below meth c H locs 0 0 (ad_Z below G lo (fun r hp' => r = .inl none ∧ ∃ fs' : Nat → Nat → Int32, MC G hp' m0 bs th ((sp_tk (sp_row ts k0 ts.length) sd g0).2.2) (nI ts.length) (nI (lt.length + g0)) fs' ∧ MA ((sp_tk (sp_row ts k0 ts.length) sd g0).2.1.foldl (sp_z 0) ts) (lt ++ (sp_tk (sp_row ts k0 ts.length) sd g0).2.1) fs' ∧ fs' 6 = fs 6 ∧ mf m0 bs hp hp') s 0 0) (F0 m 40 ls []) := by
    intro n
    induction n with
    | zero => intro i hpj fsj H locs h0; exact absurd h0 (by omega)
    | succ n ih =>
      intro i hpj fsj H locs h0 I C F A h6 h5 ls hl
      have hl1 := sp_tk_l (sp_row ts k0 ts.length) sd i
      rw [sp_row_len] at hl1
      have hcl := sp_cn_le ts k0
      refine lv_iload_n hx hb d_M_drawFrom_40 rfl (lv_at hl 3 rfl) ?_
      refine lv_aload_n hx hb d_M_drawFrom_41 rfl (lv_at hl 0 rfl) ?_
      refine ad_get S I C.1 K_Mod 10 (by decide) w_558 rfl d_M_drawFrom_42 ?_
      refine lv_iload_n hx hb d_M_drawFrom_45 rfl (lv_at hl 1 rfl) ?_
      refine ad_iald S I (C.2.1 6 (by decide)) (vp_in_nI (show k0 < 6 by omega) (by decide)) d_M_drawFrom_46 ?_
      refine ad_top (y := .int ((fsj 6) k0)) (congrArg (fun q => Value.int ((fsj 6) q)) (show (nI k0).toNatClampNeg = k0 from nI_clamp (by omega))) ?_
      refine ad_top (y := .int (nI g0)) (congrArg Value.int (by rw [h6]; exact hg6)) ?_
      refine lv_icmp_ge (tgt := 126) hx hb d_M_drawFrom_47 (by decide) (fun c47 => ?_) (fun c47 => ?_)
      · obtain rfl : i = g0 := by have := ad_ge (j := i) (n := g0) (by omega) (by omega) c47; omega
        exact ad_vret M I (by omega) (by omega) (⟨rfl, fsj, C, A, h6, F⟩) d_M_drawFrom_126
      · have hi : i < g0 := ad_lt (by omega) (by omega) c47
        refine lv_iload_n hx hb d_M_drawFrom_50 rfl (lv_at hl 3 rfl) ?_
        refine lv_aload_n hx hb d_M_drawFrom_51 rfl (lv_at hl 0 rfl) ?_
        refine lv_iload_n hx hb d_M_drawFrom_52 rfl (lv_at hl 2 rfl) ?_
        refine lv_iload_n hx hb d_M_drawFrom_53 rfl (lv_at hl 3 rfl) ?_
        refine lv_isub hx hb d_M_drawFrom_54 ?_
        refine ad_top (y := .int (nI (sp_cn ts k0 - i))) (congrArg Value.int (pk_sub (by omega))) ?_
        refine ad_cZi S I (ad_ivV (As := [.int (nI (sp_cn ts k0 - i))]) (rest := [.int (nI i)]) S (ad_recv I C.1 K_Mod) w_635 w_637 sp_M_draw Y_M_draw ⟨by decide, by decide, np_M_draw⟩ rfl d_M_drawFrom_55) (c_M_draw l G lo hpj m0 bs th ((sp_tk (sp_row ts k0 ts.length) sd i).2.2) (nI ts.length) (nI (lt.length + i)) fsj (nI (sp_cn ts k0 - i)) C (nI_nlt (b := 1) (by omega) (by omega))) Y_M_draw hl.1 ⟨Nat.le_of_ble_eq_true rfl, Nat.le_of_ble_eq_true rfl⟩ (Nat.le_of_ble_eq_true rfl) (Nat.le_of_ble_eq_true rfl) d_M_drawFrom_55 (fun hp101 H1 locs1 hA I => ?_)
        obtain ⟨C101, F101⟩ := hA
        obtain ⟨ix1, ix2⟩ := ix_n (sp_dr (sp_tk (sp_row ts k0 ts.length) sd i).2.2) (show 0 < sp_cn ts k0 - i by omega) (by omega)
        obtain ⟨o9, ho9⟩ : ∃ o9, o9 = i + ixN (sp_dr (sp_tk (sp_row ts k0 ts.length) sd i).2.2) (sp_cn ts k0 - i) := ⟨_, rfl⟩
        obtain ⟨io, hio⟩ : ∃ io, io = (sp_tk (sp_row ts k0 ts.length) sd i).1.getD o9 0 := ⟨_, rfl⟩
        obtain ⟨ii, hii⟩ : ∃ ii, ii = (sp_tk (sp_row ts k0 ts.length) sd i).1.getD i 0 := ⟨_, rfl⟩
        have ho2 : o9 < sp_cn ts k0 := by omega
        have hwo : (sp_tk (sp_row ts k0 ts.length) sd i).1[o9]? = some io := by rw [hio]; exact gd_e (by rw [hl1.1]; exact ho2)
        have hwi : (sp_tk (sp_row ts k0 ts.length) sd i).1[i]? = some ii := by rw [hii]; exact gd_e (by rw [hl1.1]; omega)
        have hio2 := row_mem ((tk_mem sd (rw := sp_row ts k0 ts.length) (by rw [sp_row_len]; omega) i (by rw [sp_row_len]; omega)).1 io (List.mem_of_getElem? hwo))
        have hlen : ((sp_tk (sp_row ts k0 ts.length) sd i).2.1.foldl (sp_z 0) ts).length = ts.length := st_len (sp_zf_map 0 _ _)
        obtain ⟨t, ht⟩ : ∃ t, ((sp_tk (sp_row ts k0 ts.length) sd i).2.1.foldl (sp_z 0) ts)[io]? = some t := ⟨_, List.getElem?_eq_getElem (by omega)⟩
        have hA2 : (lt ++ (sp_tk (sp_row ts k0 ts.length) sd i).2.1).length = lt.length + i := by rw [List.length_append, hl1.2]
        have A8 := (A.dr io).st ht 0
        rw [hA2] at A8
        have tk := sp_tk_s (rw := sp_row ts k0 ts.length) (d := sd) (by rw [sp_row_len]; exact ho9) hio hii
        have et : (sp_tk (sp_row ts k0 ts.length) sd (i + 1)).2.1.foldl (sp_z 0) ts = ((sp_tk (sp_row ts k0 ts.length) sd i).2.1.foldl (sp_z 0) ts).set io (sst 0 t) := by rw [tk, List.foldl_append]; exact sp_z_e ht
        have el : lt ++ (sp_tk (sp_row ts k0 ts.length) sd (i + 1)).2.1 = (lt ++ (sp_tk (sp_row ts k0 ts.length) sd i).2.1) ++ [io] := by rw [tk, List.append_assoc]
        refine lv_iadd hx hb d_M_drawFrom_58 ?_
        refine ad_top (y := .int (nI o9)) (congrArg Value.int (by rw [ix1, nI_add, ho9])) ?_
        refine lv_istore (lv' := [(4, .int (nI o9)), (0, .ref m0), (1, .int (nI k0)), (2, .int (nI (sp_cn ts k0))), (3, .int (nI i))]) hx hb d_M_drawFrom_59 hl (by decide) rfl (fun ls hl => ?_)
        refine lv_aload_n hx hb d_M_drawFrom_61 rfl (lv_at hl 1 rfl) ?_
        refine ad_get S I C101.1 K_Mod 9 (by decide) w_557 rfl d_M_drawFrom_62 ?_
        refine lv_iload hx hb d_M_drawFrom_65 (lv_at hl 0 rfl) ?_
        refine ad_iald S I (C101.2.1 5 (by decide)) (vp_in_nI (show o9 < 64 by omega) (by decide)) d_M_drawFrom_67 ?_
        refine ad_top (y := .int ((fsj 5) o9)) (congrArg (fun q => Value.int ((fsj 5) q)) (show (nI o9).toNatClampNeg = o9 from nI_clamp (by omega))) ?_
        refine ad_top (y := .int (nI io)) (congrArg Value.int (h5 o9 io hwo)) ?_
        refine lv_istore (lv' := [(5, .int (nI io)), (4, .int (nI o9)), (0, .ref m0), (1, .int (nI k0)), (2, .int (nI (sp_cn ts k0))), (3, .int (nI i))]) hx hb d_M_drawFrom_68 hl (by decide) rfl (fun ls hl => ?_)
        refine lv_aload_n hx hb d_M_drawFrom_70 rfl (lv_at hl 2 rfl) ?_
        refine ad_get S I C101.1 K_Mod 9 (by decide) w_557 rfl d_M_drawFrom_71 ?_
        refine lv_iload hx hb d_M_drawFrom_74 (lv_at hl 1 rfl) ?_
        refine lv_aload_n hx hb d_M_drawFrom_76 rfl (lv_at hl 2 rfl) ?_
        refine ad_get S I C101.1 K_Mod 9 (by decide) w_557 rfl d_M_drawFrom_77 ?_
        refine lv_iload_n hx hb d_M_drawFrom_80 rfl (lv_at hl 5 rfl) ?_
        refine ad_iald S I (C101.2.1 5 (by decide)) (vp_in_nI (show i < 64 by omega) (by decide)) d_M_drawFrom_81 ?_
        refine ad_top (y := .int ((fsj 5) i)) (congrArg (fun q => Value.int ((fsj 5) q)) (show (nI i).toNatClampNeg = i from nI_clamp (by omega))) ?_
        refine ad_iast S I (C101.2.1 5 (by decide)) (vp_in_nI (show o9 < 64 by omega) (by decide)) d_M_drawFrom_82 (fun H1 locs1 I => ?_)
        rw [show (nI o9).toNatClampNeg = o9 from nI_clamp (by omega)] at I
        obtain ⟨hp102, ehp102⟩ : ∃ z : ad_H, z = ad_up hp101 (bs 5) (.inl (G.2.1 0, 64, .inl (upd (fsj 5) o9 ((fsj 5) i)))) := ⟨_, rfl⟩
        have I : ad_I G lo s hp102 H1 locs1 := by rw [ehp102]; exact I
        obtain ⟨C102, F102⟩ := MC.arr (hp' := hp102) C101 5 (by decide) (by rw [ehp102]; exact ad_up_s _ _ _) (fun z hz => by rw [ehp102]; exact ad_up_n _ hz)
        refine lv_aload_n hx hb d_M_drawFrom_83 rfl (lv_at hl 2 rfl) ?_
        refine ad_get S I C102.1 K_Mod 9 (by decide) w_557 rfl d_M_drawFrom_84 ?_
        refine lv_iload_n hx hb d_M_drawFrom_87 rfl (lv_at hl 5 rfl) ?_
        refine lv_iload hx hb d_M_drawFrom_88 (lv_at hl 0 rfl) ?_
        refine ad_iast S I (C102.2.1 5 (by decide)) (vp_in_nI (show i < 64 by omega) (by decide)) d_M_drawFrom_90 (fun H1 locs1 I => ?_)
        rw [show (nI i).toNatClampNeg = i from nI_clamp (by omega)] at I
        obtain ⟨hp103, ehp103⟩ : ∃ z : ad_H, z = ad_up hp102 (bs 5) (.inl (G.2.1 0, 64, .inl (upd (upd (fsj 5) o9 ((fsj 5) i)) i (nI io)))) := ⟨_, rfl⟩
        have I : ad_I G lo s hp103 H1 locs1 := by rw [ehp103]; exact I
        obtain ⟨C103, F103⟩ := MC.arr (hp' := hp103) C102 5 (by decide) (by rw [ehp103]; exact ad_up_s _ _ _) (fun z hz => by rw [ehp103]; exact ad_up_n _ hz)
        refine lv_aload_n hx hb d_M_drawFrom_91 rfl (lv_at hl 2 rfl) ?_
        refine ad_get S I C103.1 K_Mod 7 (by decide) w_555 rfl d_M_drawFrom_92 ?_
        refine lv_aload_n hx hb d_M_drawFrom_95 rfl (lv_at hl 2 rfl) ?_
        refine ad_get S I C103.1 K_Mod 6 (by decide) w_554 rfl d_M_drawFrom_96 ?_
        refine lv_iload hx hb d_M_drawFrom_99 (lv_at hl 0 rfl) ?_
        refine ad_iast S I (C103.2.1 3 (by decide)) (vp_in_nI (show (lt.length + i) < 64 by omega) (by decide)) d_M_drawFrom_101 (fun H1 locs1 I => ?_)
        rw [show (nI (lt.length + i)).toNatClampNeg = (lt.length + i) from nI_clamp (by omega)] at I
        obtain ⟨hp104, ehp104⟩ : ∃ z : ad_H, z = ad_up hp103 (bs 3) (.inl (G.2.1 0, 64, .inl (upd (fsj 3) (lt.length + i) (nI io)))) := ⟨_, rfl⟩
        have I : ad_I G lo s hp104 H1 locs1 := by rw [ehp104]; exact I
        obtain ⟨C104, F104⟩ := MC.arr (hp' := hp104) C103 3 (by decide) (by rw [ehp104]; exact ad_up_s _ _ _) (fun z hz => by rw [ehp104]; exact ad_up_n _ hz)
        refine lv_aload_n hx hb d_M_drawFrom_102 rfl (lv_at hl 2 rfl) ?_
        refine lv_dup hx hb d_M_drawFrom_103 rfl ?_
        refine ad_get S I C104.1 K_Mod 6 (by decide) w_554 rfl d_M_drawFrom_104 ?_
        refine lv_iconst (v := 1) hx hb d_M_drawFrom_107 (by decide) ?_
        refine lv_iadd hx hb d_M_drawFrom_108 ?_
        refine ad_top (y := .int (nI (lt.length + (i + 1)))) (congrArg Value.int (nI_1 _)) ?_
        refine ad_put S I C104.1 K_Mod 6 (by decide) w_554 rfl rfl rfl (by simp) d_M_drawFrom_109 (fun H1 locs1 I => ?_)
        obtain ⟨hp105, ehp105⟩ : ∃ z : ad_H, z = ad_up hp104 m0 (.inr (5, [.int th, .long (sp_dr (sp_tk (sp_row ts k0 ts.length) sd i).2.2), .int (nI ts.length), .ref (bs 0), .ref (bs 1), .ref (bs 2), .int (nI (lt.length + (i + 1))), .ref (bs 3), .ref (bs 4), .ref (bs 5), .ref (bs 6), .ref (bs 7), .ref (bs 8), .ref (bs 9), .ref (bs 10)])) := ⟨_, rfl⟩
        have I : ad_I G lo s hp105 H1 locs1 := by rw [ehp105]; exact I
        obtain ⟨C105, F105⟩ := MC.fld (hp' := hp105) C104 (by rw [ehp105]; exact ad_up_s _ _ _) (fun z hz => by rw [ehp105]; exact ad_up_n _ hz)
        refine lv_aload_n hx hb d_M_drawFrom_112 rfl (lv_at hl 2 rfl) ?_
        refine ad_get S I C105.1 K_Mod 8 (by decide) w_556 rfl d_M_drawFrom_113 ?_
        refine lv_iload hx hb d_M_drawFrom_116 (lv_at hl 0 rfl) ?_
        refine lv_iconst (v := 0) hx hb d_M_drawFrom_118 (by decide) ?_
        refine ad_iast S I (C105.2.1 4 (by decide)) (vp_in_nI (show io < 64 by omega) (by decide)) d_M_drawFrom_119 (fun H1 locs1 I => ?_)
        rw [show (nI io).toNatClampNeg = io from nI_clamp (by omega)] at I
        obtain ⟨hp106, ehp106⟩ : ∃ z : ad_H, z = ad_up hp105 (bs 4) (.inl (G.2.1 0, 64, .inl (upd (fsj 4) io 0))) := ⟨_, rfl⟩
        have I : ad_I G lo s hp106 H1 locs1 := by rw [ehp106]; exact I
        obtain ⟨C106, F106⟩ := MC.arr (hp' := hp106) C105 4 (by decide) (by rw [ehp106]; exact ad_up_s _ _ _) (fun z hz => by rw [ehp106]; exact ad_up_n _ hz)
        have A9 := A8.cong (fs' := (updF (updF (updF (updF fsj 5 (upd (fsj 5) o9 ((fsj 5) i))) 5 (upd (upd (fsj 5) o9 ((fsj 5) i)) i (nI io))) 3 (upd (fsj 3) (lt.length + i) (nI io))) 4 (upd (fsj 4) io 0))) (fun k h1 h2 => by simp [updF, h1])
        refine lv_iinc (v := (nI (i + 1))) (lv' := [(3, .int (nI (i + 1))), (5, .int (nI io)), (4, .int (nI o9)), (0, .ref m0), (1, .int (nI k0)), (2, .int (nI (sp_cn ts k0)))]) hx hb d_M_drawFrom_120 hl (k := 5) rfl (nI_1 i) (by decide) rfl (fun ls hl => ?_)
        refine lv_goto (tgt := 40) hx hb d_M_drawFrom_123 (by decide) ?_
        exact ih (i + 1) hp106 (updF (updF (updF (updF fsj 5 (upd (fsj 5) o9 ((fsj 5) i))) 5 (upd (upd (fsj 5) o9 ((fsj 5) i)) i (nI io))) 3 (upd (fsj 3) (lt.length + i) (nI io))) 4 (upd (fsj 4) io 0)) H1 locs1 (by omega) I (by rw [tk]; exact C106) ((((((F.tr F101).tr F102).tr F103).tr F104).tr F105).tr F106) (by rw [et, el]; exact A9) h6 (by rw [tk]; exact tk_put h5 hwo hwi) ls (lv_sub hl [3, 4, 5, 0] rfl)
  have lay : ∀ (n : Nat) (j w9 : Nat) (hpj : ad_H) (fsj : Nat → Nat → Int32) (H : Heap) (locs : List Loc), (ts.length < j + n ∧ j ≤ ts.length ∧ w9 = (sp_row ts k0 j).length) → ad_I G lo s hpj H locs → MC G hpj m0 bs th sd (nI ts.length) (nI lt.length) fsj → mf m0 bs hp hpj → ((∀ k, k ≠ 5 → fsj k = fs k) ∧ ∀ (i x : Nat), (sp_row ts k0 j)[i]? = some x → fsj 5 i = nI x) → ∀ ls : Array Slot, lv_has ls 6 [(0, .ref m0), (1, .int (nI k0)), (2, .int (nI w9)), (3, .int (nI j))] → W p l e (ad_rm 2 0 0) s m ([.ref m0, .int (nI k0)] : List Value).toArray below meth c H locs 0 0 (ad_Z below G lo (fun r hp' => r = .inl none ∧ ∃ fs' : Nat → Nat → Int32, MC G hp' m0 bs th ((sp_tk (sp_row ts k0 ts.length) sd g0).2.2) (nI ts.length) (nI (lt.length + g0)) fs' ∧ MA ((sp_tk (sp_row ts k0 ts.length) sd g0).2.1.foldl (sp_z 0) ts) (lt ++ (sp_tk (sp_row ts k0 ts.length) sd g0).2.1) fs' ∧ fs' 6 = fs 6 ∧ mf m0 bs hp hp') s 0 0) (F0 m 4 ls []) := by
    intro n
    induction n with
    | zero => intro j w9 hpj fsj H locs h0; exact absurd h0 (by omega)
    | succ n ih =>
      intro j w9 hpj fsj H locs h0 I C F hinv ls hl
      have hsl := sp_row_c (ts := ts) k0 j (by omega)
      have hs2 : (sp_row ts k0 j).length ≤ j := by rw [hsl]; exact Nat.le_trans List.countP_le_length (by simp; omega)
      refine lv_iload_n hx hb d_M_drawFrom_4 rfl (lv_at hl 3 rfl) ?_
      refine lv_aload_n hx hb d_M_drawFrom_5 rfl (lv_at hl 0 rfl) ?_
      refine ad_get S I C.1 K_Mod 2 (by decide) w_550 rfl d_M_drawFrom_6 ?_
      refine lv_icmp_ge (tgt := 38) hx hb d_M_drawFrom_9 (by decide) (fun c9 => ?_) (fun c9 => ?_)
      · obtain rfl : j = ts.length := by have := ad_ge (j := j) (n := ts.length) (by omega) (by omega) c9; omega
        rw [sp_row_len] at h0
        obtain rfl : w9 = sp_cn ts k0 := h0.2.2
        refine lv_iconst (v := 0) hx hb d_M_drawFrom_38 (by decide) ?_
        refine lv_istore_n (lv' := [(3, .int 0), (0, .ref m0), (1, .int (nI k0)), (2, .int (nI (sp_cn ts k0)))]) hx hb d_M_drawFrom_39 rfl hl (by decide) rfl (fun ls hl => ?_)
        exact take (g0 + 1) 0 hpj fsj H locs (by omega) I C F (by rw [show lt ++ (sp_tk (sp_row ts k0 ts.length) sd 0).2.1 = lt from List.append_nil _]; exact A.cong (fun k h1 _ => hinv.1 k h1)) (hinv.1 6 (by decide)) hinv.2 ls (lv_sub hl [1, 2, 3, 0] rfl)
      · have hj : j < ts.length := ad_lt (by omega) (by omega) c9
        obtain ⟨t, ht⟩ : ∃ t, ts[j]? = some t := ⟨_, List.getElem?_eq_getElem hj⟩
        have hA := A.1 j t ht
        refine lv_aload_n hx hb d_M_drawFrom_12 rfl (lv_at hl 0 rfl) ?_
        refine ad_get S I C.1 K_Mod 3 (by decide) w_551 rfl d_M_drawFrom_13 ?_
        refine lv_iload_n hx hb d_M_drawFrom_16 rfl (lv_at hl 3 rfl) ?_
        refine ad_iald S I (C.2.1 0 (by decide)) (vp_in_nI (show j < 64 by omega) (by decide)) d_M_drawFrom_17 ?_
        refine ad_top (y := .int ((fsj 0) j)) (congrArg (fun q => Value.int ((fsj 0) q)) (show (nI j).toNatClampNeg = j from nI_clamp (by omega))) ?_
        refine lv_iload_n hx hb d_M_drawFrom_18 rfl (lv_at hl 1 rfl) ?_
        refine lv_icmp_ne (tgt := 32) hx hb d_M_drawFrom_19 (by decide) (fun c19 => ?_) (fun c19 => ?_)
        · rw [hinv.1 0 (by decide), hA.1] at c19
          refine lv_iinc (v := (nI (j + 1))) (lv' := [(3, .int (nI (j + 1))), (0, .ref m0), (1, .int (nI k0)), (2, .int (nI w9))]) hx hb d_M_drawFrom_32 hl (k := 3) rfl (nI_1 j) (by decide) rfl (fun ls hl => ?_)
          refine lv_goto (tgt := 4) hx hb d_M_drawFrom_35 (by decide) ?_
          exact ih (j + 1) w9 hpj fsj H locs ⟨by omega, by omega, by rw [sp_row_s ht, if_neg c19]; exact h0.2.2⟩ I C F ⟨hinv.1, by rw [sp_row_s ht, if_neg c19]; exact hinv.2⟩ ls (lv_sub hl [1, 2, 3, 0] rfl)
        · rw [hinv.1 0 (by decide), hA.1] at c19
          refine lv_aload_n hx hb d_M_drawFrom_22 rfl (lv_at hl 0 rfl) ?_
          refine ad_get S I C.1 K_Mod 9 (by decide) w_557 rfl d_M_drawFrom_23 ?_
          refine lv_iload_n hx hb d_M_drawFrom_26 rfl (lv_at hl 2 rfl) ?_
          refine lv_iload_n hx hb d_M_drawFrom_27 rfl (lv_at hl 3 rfl) ?_
          refine ad_iast S I (C.2.1 5 (by decide)) (vp_in_nI (show w9 < 64 by omega) (by decide)) d_M_drawFrom_28 (fun H1 locs1 I => ?_)
          rw [show (nI w9).toNatClampNeg = w9 from nI_clamp (by omega)] at I
          obtain ⟨hp101, ehp101⟩ : ∃ z : ad_H, z = ad_up hpj (bs 5) (.inl (G.2.1 0, 64, .inl (upd (fsj 5) w9 (nI j)))) := ⟨_, rfl⟩
          have I : ad_I G lo s hp101 H1 locs1 := by rw [ehp101]; exact I
          obtain ⟨C101, F101⟩ := MC.arr (hp' := hp101) C 5 (by decide) (by rw [ehp101]; exact ad_up_s _ _ _) (fun z hz => by rw [ehp101]; exact ad_up_n _ hz)
          refine lv_iinc (v := (nI (w9 + 1))) (lv' := [(2, .int (nI (w9 + 1))), (0, .ref m0), (1, .int (nI k0)), (3, .int (nI j))]) hx hb d_M_drawFrom_29 hl (k := 2) rfl (nI_1 w9) (by decide) rfl (fun ls hl => ?_)
          refine lv_iinc (v := (nI (j + 1))) (lv' := [(3, .int (nI (j + 1))), (2, .int (nI (w9 + 1))), (0, .ref m0), (1, .int (nI k0))]) hx hb d_M_drawFrom_32 hl (k := 3) rfl (nI_1 j) (by decide) rfl (fun ls hl => ?_)
          refine lv_goto (tgt := 4) hx hb d_M_drawFrom_35 (by decide) ?_
          exact ih (j + 1) (w9 + 1) hp101 (updF fsj 5 (upd (fsj 5) w9 (nI j))) H1 locs1 ⟨by omega, by omega, by rw [sp_row_s ht, if_pos c19]; simp [h0.2.2]⟩ I C101 (F.tr F101) (by rw [sp_row_s ht, if_pos c19]; exact ly_put h0.2.2 hinv) ls (lv_sub hl [2, 3, 1, 0] rfl)
  refine lv_iconst (v := 0) hx hb d_M_drawFrom_0 (by decide) ?_
  refine lv_istore_n (lv' := [(2, .int 0), (0, .ref m0), (1, .int (nI k0))]) hx hb d_M_drawFrom_1 rfl hl (by decide) rfl (fun ls hl => ?_)
  refine lv_iconst (v := 0) hx hb d_M_drawFrom_2 (by decide) ?_
  refine lv_istore_n (lv' := [(3, .int 0), (2, .int 0), (0, .ref m0), (1, .int (nI k0))]) hx hb d_M_drawFrom_3 rfl hl (by decide) rfl (fun ls hl => ?_)
  exact lay (ts.length + 1) 0 0 hp fs s.heap [] ⟨by omega, by omega, rfl⟩ I C (mf.rf _ _ _) ⟨fun _ _ => rfl, fun i x h => by simp [sp_row] at h⟩ ls (lv_sub hl [2, 3, 1, 0] rfl)
