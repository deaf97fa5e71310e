def q_ans (xs : List String) (q : Nat × Int32) : ad_R := match q.1 with
  | 0 => .inl (some (.int q.2))
  | k + 1 => .inr (xs.getD k "")
abbrev okb (v n : Int32) : Prop := ¬ v < 0 ∧ v < n
abbrev okh (v : Int32) : Prop := ¬ v < 0 ∧ v ≤ 1000000
abbrev okn (v : Int64) : Prop := ¬ v < 0 ∧ v ≤ 100000000000000000
def sp_at (ts : List TH) (v : Int32) : Option TH := if v < 0 then none else ts[v.toNatClampNeg]?
theorem sp_at_n {ts : List TH} {v : Int32} {j : Nat} {t : TH} (hv : v = nI j) (h : ts[j]? = some t) (hn : ts.length ≤ 64) : sp_at ts v = some t := by
  have hj : j < ts.length := (List.getElem?_eq_some_iff.mp h).1
  subst hv
  unfold sp_at
  rw [if_neg (nI_pos (by omega)), nI_clamp (by omega)]
  exact h
theorem sp_at_0 {ts : List TH} {v : Int32} (h : ¬ sp_ok ts.length v) (hn : ts.length ≤ 64) : sp_at ts v = none := by
  unfold sp_at
  by_cases h0 : v < 0
  · rw [if_pos h0]
  · rw [if_neg h0]
    obtain ⟨j, hj, rfl⟩ := nI_of h0
    rw [nI_clamp hj]
    refine List.getElem?_eq_none (Nat.not_lt.mp fun hlt => h ⟨h0, nI_lt hlt (by omega)⟩)
def sp_cl (ts : List TH) (lt : List Nat) (s0 q0 : Int32) : Nat := lt.countP (sp_lp ts (fun t => decide (t.1 = s0 ∧ t.2.2.1 = q0)))
theorem sp_cl_le (ts : List TH) (lt : List Nat) (s0 q0 : Int32) : sp_cl ts lt s0 q0 ≤ lt.length := List.countP_le_length
def sp_cd (a b : Nat) : Nat → Nat
  | 0 => 1
  | d + 1 => if d + 1 ≤ 1 ∨ (a % (d + 1) = 0 ∧ b % (d + 1) = 0) then d + 1 else sp_cd a b d
theorem sp_cd_pos (a b : Nat) : ∀ d, 0 < sp_cd a b d ∧ sp_cd a b d ≤ d + 1
  | 0 => ⟨Nat.zero_lt_one, Nat.le_refl _⟩
  | d + 1 => by
    unfold sp_cd
    split
    · omega
    · have := sp_cd_pos a b d; omega
theorem sp_cd_one (a b : Nat) : sp_cd a b 1 = 1 := by simp [sp_cd]
theorem sp_cd_s {a b d : Nat} (h : 1 < d) : sp_cd a b d = if a % d = 0 ∧ b % d = 0 then d else sp_cd a b (d - 1) := by
  obtain ⟨e, rfl⟩ : ∃ e, d = e + 1 := ⟨d - 1, by omega⟩
  simp only [sp_cd, Nat.add_sub_cancel, show ¬ e + 1 ≤ 1 by omega, false_or]
theorem nI_dec {d : Nat} (h : 0 < d) : nI d + (-1) = nI (d - 1) := by
  obtain ⟨e, rfl⟩ : ∃ e, d = e + 1 := ⟨d - 1, by omega⟩
  exact pk_m1 e
def q_sh (cf ce cg : Nat) (s0 p0 : Int32) : Nat × Int32 := if okb s0 6 ∧ okb p0 2 then (0, if cf + (ce + cg) = 0 then p0 else if p0 = 0 then nI (cf / sp_cd cf (cf + (ce + cg)) (cf + (ce + cg))) else nI ((cf + (ce + cg)) / sp_cd cf (cf + (ce + cg)) (cf + (ce + cg)))) else (1, 0)
def q_nx (cf ce cg : Nat) (s0 : Int32) : Nat × Int32 := if okb s0 6 then (0, if cf + (ce + cg) = 0 then 100 else 50 + (950 * nI (ce + cg) + nI (cf + (ce + cg)) - 1) / nI (cf + (ce + cg))) else (1, 0)
def q_dg (k0 : Int32) (v0 : Int64) : Nat × Int32 := if okb k0 3 then (if okn v0 then (0, sp_of k0 v0) else (2, 0)) else (1, 0)
def q_gd (k0 : Int32) (v0 : Int64) : Nat × Int32 := if okb k0 3 then (if okn v0 then (0, sp_closes k0 v0) else (2, 0)) else (1, 0)
set_option maxHeartbeats 4000000 in
set_option maxRecDepth 100000 in
theorem c_A_countListed (l : Launch) (G : ad_G) (lo : Nat) (hp : ad_H) (x dA tA lA rA gA sA : Nat) (s0 q0 : Int32) (ts : List TH) (la lt : List Nat)  (hX : hp x = some (.inr (4, [.ref dA, .ref tA, .ref lA, .ref rA, .ref gA, .ref sA]))) (hLL : al G hp lA la) (hll : ll hp la lt ts) (hm : lt.length ≤ 64) : ad_Cp l y_A_countListed b_A_countListed 6 rt_A_countListed hs_A_countListed 4 0 0 G lo hp [.ref x, .int s0, .int q0] (fun r => r = .inl (some (.int (nI (sp_cl ts lt s0 q0))))) := by
  intro p e s m below meth c M hts hB hP
  have hx := M.1
  have hb := M.2.1
  have hml := M.2.2.1
  have hown : s.vm.findClass "AuditDraws" = some m.cls := M.2.2.2.1
  have S : CallFix p m c b_A_countListed 6 s _ ad_T "AuditDraws" := ⟨hx, hb, hml, hown, hts⟩
  have I : ad_I G lo s hp s.heap [] := ad_I.rf hB hP
  have hl := lv_entry ([.ref x, .int s0, .int q0]) (n := 6) (Nat.le_of_ble_eq_true rfl)
  rw [lg_entry_eq]
  generalize (lg_sl ([.ref x, .int s0, .int q0]) ++ List.replicate (6 - (lg_sl ([.ref x, .int s0, .int q0])).length) Slot.unset).toArray = ls at hl ⊢
  have hl : lv_has ls 6 [(0, .ref x), (1, .int s0), (2, .int q0)] := hl
  obtain ⟨l1, l2, l3, l4, hlA, -⟩ := id hLL
  have loop : ∀ (n : Nat) (j : Nat), lt.length < j + n ∧ j ≤ lt.length → ∀ ls : Array Slot, lv_has ls 6 [(0, .ref x), (1, .int s0), (2, .int q0), (3, .int (nI ((lt.take j).countP (sp_lp ts (fun t => decide (t.1 = s0 ∧ t.2.2.1 = q0)))))), (4, .int (nI j))] → W p l e (ad_rm 4 0 0) s m ([.ref x, .int s0, .int q0] : List Value).toArray below meth c s.heap [] 0 0 (ad_Zp below (fun r => r = .inl (some (.int (nI (sp_cl ts lt s0 q0))))) s 0 0) (F0 m 5 ls []) := by
    intro n
    induction n with
    | zero => intro j h0 ls hl; exact absurd h0 (by omega)
    | succ n ih =>
      intro j h0 ls hl
      refine lv_iload hx hb d_A_countListed_5 (lv_at hl 4 rfl) ?_
      refine lv_aload_n hx hb d_A_countListed_7 rfl (lv_at hl 0 rfl) ?_
      refine ad_get S I hX K_AD 2 (by decide) w_69 rfl d_A_countListed_8 ?_
      refine ad_cPi S I (ad_ivV (As := []) (rest := [.int (nI j)]) S (ad_recv I hlA K_AL) w_171 w_172 w_173 Y_AL_size ⟨by decide, by decide, np_AL_size⟩ rfl d_A_countListed_11) (c_ALsize l G lo hp lA la hLL) Y_AL_size hl.1 ⟨Nat.le_of_ble_eq_true rfl, Nat.le_of_ble_eq_true rfl⟩ (Nat.le_of_ble_eq_true rfl) (Nat.le_of_ble_eq_true rfl) d_A_countListed_11 ?_
      refine ad_top (y := .int (nI lt.length)) (by rw [hll.1]) ?_
      refine lv_icmp_ge (tgt := 58) hx hb d_A_countListed_14 (by decide) (fun c14 => ?_) (fun c14 => ?_)
      · obtain rfl : j = lt.length := by have := ad_ge (j := j) (n := lt.length) (by omega) (by omega) c14; omega
        refine lv_iload_n hx hb d_A_countListed_58 rfl (lv_at hl 3 rfl) ?_
        exact ad_iretP M rfl (by rw [List.take_length]; rfl) d_A_countListed_59
      · have hj : j < lt.length := ad_lt (by omega) (by omega) c14
        obtain ⟨i, t, y, ra, hi, hy, ht, hty⟩ := hll.at hj
        refine lv_aload_n hx hb d_A_countListed_17 rfl (lv_at hl 0 rfl) ?_
        refine ad_get S I hX K_AD 2 (by decide) w_69 rfl d_A_countListed_18 ?_
        refine lv_iload hx hb d_A_countListed_21 (lv_at hl 4 rfl) ?_
        refine ad_cPi S I (ad_ivV (As := [.int (nI j)]) (rest := []) S (ad_recv I hlA K_AL) w_308 w_309 w_310 Y_AL_get ⟨by decide, by decide, np_AL_get⟩ rfl d_A_countListed_23) (c_ALget l G lo hp lA la j y hLL hy) Y_AL_get hl.1 ⟨Nat.le_of_ble_eq_true rfl, Nat.le_of_ble_eq_true rfl⟩ (Nat.le_of_ble_eq_true rfl) (Nat.le_of_ble_eq_true rfl) d_A_countListed_23 ?_
        refine va_castE hx hb hown (hts _ w_191) (ad_recv I hty K_Thing) d_A_countListed_26 ?_
        refine lv_astore (lv' := [(5, .ref y), (0, .ref x), (1, .int s0), (2, .int q0), (3, .int (nI ((lt.take j).countP (sp_lp ts (fun t => decide (t.1 = s0 ∧ t.2.2.1 = q0)))))), (4, .int (nI j))]) hx hb d_A_countListed_29 hl (by decide) rfl (fun ls hl => ?_)
        refine lv_aload hx hb d_A_countListed_31 (lv_at hl 0 rfl) ?_
        refine ad_get S I hty K_Thing 1 (by decide) w_202 rfl d_A_countListed_33 ?_
        refine lv_iload_n hx hb d_A_countListed_36 rfl (lv_at hl 2 rfl) ?_
        refine lv_icmp_ne (tgt := 52) hx hb d_A_countListed_37 (by decide) (fun c37 => ?_) (fun c37 => ?_)
        · refine lv_iinc (v := (nI (j + 1))) (lv' := [(4, .int (nI (j + 1))), (5, .ref y), (0, .ref x), (1, .int s0), (2, .int q0), (3, .int (nI ((lt.take j).countP (sp_lp ts (fun t => decide (t.1 = s0 ∧ t.2.2.1 = q0))))))]) hx hb d_A_countListed_52 hl (k := 5) rfl (nI_1 j) (by decide) rfl (fun ls hl => ?_)
          refine lv_goto (tgt := 5) hx hb d_A_countListed_55 (by decide) ?_
          exact ih (j + 1) (by omega) ls (by rw [cnt_s hi, sp_lp_e ht]; simp only [c37, decide_false, decide_true, if_true, if_false, Nat.add_zero, Bool.false_eq_true, and_self, and_false, false_and, true_and, and_true]; exact lv_sub hl [2, 3, 4, 5, 0] rfl)
        · refine lv_aload hx hb d_A_countListed_40 (lv_at hl 0 rfl) ?_
          refine ad_get S I hty K_Thing 4 (by decide) w_208 rfl d_A_countListed_42 ?_
          refine lv_iload_n hx hb d_A_countListed_45 rfl (lv_at hl 3 rfl) ?_
          refine lv_icmp_ne (tgt := 52) hx hb d_A_countListed_46 (by decide) (fun c46 => ?_) (fun c46 => ?_)
          · refine lv_iinc (v := (nI (j + 1))) (lv' := [(4, .int (nI (j + 1))), (5, .ref y), (0, .ref x), (1, .int s0), (2, .int q0), (3, .int (nI ((lt.take j).countP (sp_lp ts (fun t => decide (t.1 = s0 ∧ t.2.2.1 = q0))))))]) hx hb d_A_countListed_52 hl (k := 5) rfl (nI_1 j) (by decide) rfl (fun ls hl => ?_)
            refine lv_goto (tgt := 5) hx hb d_A_countListed_55 (by decide) ?_
            exact ih (j + 1) (by omega) ls (by rw [cnt_s hi, sp_lp_e ht]; simp only [c37, c46, decide_false, decide_true, if_true, if_false, Nat.add_zero, Bool.false_eq_true, and_self, and_false, false_and, true_and, and_true]; exact lv_sub hl [2, 3, 4, 5, 0] rfl)
          · refine lv_iinc (v := (nI ((lt.take j).countP (sp_lp ts (fun t => decide (t.1 = s0 ∧ t.2.2.1 = q0))) + 1))) (lv' := [(3, .int (nI ((lt.take j).countP (sp_lp ts (fun t => decide (t.1 = s0 ∧ t.2.2.1 = q0))) + 1))), (5, .ref y), (0, .ref x), (1, .int s0), (2, .int q0), (4, .int (nI j))]) hx hb d_A_countListed_49 hl (k := 4) rfl (nI_1 _) (by decide) rfl (fun ls hl => ?_)
            refine lv_iinc (v := (nI (j + 1))) (lv' := [(4, .int (nI (j + 1))), (3, .int (nI ((lt.take j).countP (sp_lp ts (fun t => decide (t.1 = s0 ∧ t.2.2.1 = q0))) + 1))), (5, .ref y), (0, .ref x), (1, .int s0), (2, .int q0)]) hx hb d_A_countListed_52 hl (k := 5) rfl (nI_1 j) (by decide) rfl (fun ls hl => ?_)
            refine lv_goto (tgt := 5) hx hb d_A_countListed_55 (by decide) ?_
            exact ih (j + 1) (by omega) ls (by rw [cnt_s hi, sp_lp_e ht]; simp only [c37, c46, decide_false, decide_true, if_true, if_false, Nat.add_zero, Bool.false_eq_true, and_self, and_false, false_and, true_and, and_true]; exact lv_sub hl [3, 4, 5, 1, 0] rfl)
  refine lv_iconst (v := 0) hx hb d_A_countListed_0 (by decide) ?_
  refine lv_istore_n (lv' := [(3, .int 0), (0, .ref x), (1, .int s0), (2, .int q0)]) hx hb d_A_countListed_1 rfl hl (by decide) rfl (fun ls hl => ?_)
  refine lv_iconst (v := 0) hx hb d_A_countListed_2 (by decide) ?_
  refine lv_istore (lv' := [(4, .int 0), (3, .int 0), (0, .ref x), (1, .int s0), (2, .int q0)]) hx hb d_A_countListed_3 hl (by decide) rfl (fun ls hl => ?_)
  exact loop (lt.length + 1) 0 (by omega) ls (lv_sub hl [2, 3, 4, 1, 0] rfl)
set_option maxHeartbeats 4000000 in
set_option maxRecDepth 100000 in
theorem c_A_countMissed (l : Launch) (G : ad_G) (lo : Nat) (hp : ad_H) (x dA tA lA rA gA sA : Nat) (s0 : Int32) (ts : List TH) (la lt : List Nat)  (hX : hp x = some (.inr (4, [.ref dA, .ref tA, .ref lA, .ref rA, .ref gA, .ref sA]))) (hLL : al G hp lA la) (hll : ll hp la lt ts) (hm : lt.length ≤ 64) : ad_Cp l y_A_countMissed b_A_countMissed 2 rt_A_countMissed hs_A_countMissed 5 0 0 G lo hp [.ref x, .int s0] (fun r => r = .inl (some (.int (nI (sp_cl ts lt s0 2 + sp_cl ts lt s0 3))))) := by
  intro p e s m below meth c M hts hB hP
  have hx := M.1
  have hb := M.2.1
  have hml := M.2.2.1
  have hown : s.vm.findClass "AuditDraws" = some m.cls := M.2.2.2.1
  have S : CallFix p m c b_A_countMissed 2 s _ ad_T "AuditDraws" := ⟨hx, hb, hml, hown, hts⟩
  have I : ad_I G lo s hp s.heap [] := ad_I.rf hB hP
  have hl := lv_entry ([.ref x, .int s0]) (n := 2) (Nat.le_of_ble_eq_true rfl)
  rw [lg_entry_eq]
  generalize (lg_sl ([.ref x, .int s0]) ++ List.replicate (2 - (lg_sl ([.ref x, .int s0])).length) Slot.unset).toArray = ls at hl ⊢
  have hl : lv_has ls 2 [(0, .ref x), (1, .int s0)] := hl
  obtain ⟨l1, l2, l3, l4, hlA, -⟩ := id hLL
  refine lv_aload_n hx hb d_A_countMissed_0 rfl (lv_at hl 0 rfl) ?_
  refine lv_iload_n hx hb d_A_countMissed_1 rfl (lv_at hl 1 rfl) ?_
  refine lv_iconst (v := 2) hx hb d_A_countMissed_2 (by decide) ?_
  refine ad_cPi S I (ad_ivV (As := [.int s0, .int 2]) (rest := []) S (ad_recv I hX K_AD) w_400 w_402 sp_A_countListed Y_A_countListed ⟨by decide, by decide, np_A_countListed⟩ rfl d_A_countMissed_3) (c_A_countListed l G lo hp x dA tA lA rA gA sA s0 2 ts la lt hX hLL hll hm) Y_A_countListed hl.1 ⟨Nat.le_of_ble_eq_true rfl, Nat.le_of_ble_eq_true rfl⟩ (Nat.le_of_ble_eq_true rfl) (Nat.le_of_ble_eq_true rfl) d_A_countMissed_3 ?_
  refine lv_aload_n hx hb d_A_countMissed_6 rfl (lv_at hl 0 rfl) ?_
  refine lv_iload_n hx hb d_A_countMissed_7 rfl (lv_at hl 1 rfl) ?_
  refine lv_iconst (v := 3) hx hb d_A_countMissed_8 (by decide) ?_
  refine ad_cPi S I (ad_ivV (As := [.int s0, .int 3]) (rest := [.int (nI (sp_cl ts lt s0 2))]) S (ad_recv I hX K_AD) w_400 w_402 sp_A_countListed Y_A_countListed ⟨by decide, by decide, np_A_countListed⟩ rfl d_A_countMissed_9) (c_A_countListed l G lo hp x dA tA lA rA gA sA s0 3 ts la lt hX hLL hll hm) Y_A_countListed hl.1 ⟨Nat.le_of_ble_eq_true rfl, Nat.le_of_ble_eq_true rfl⟩ (Nat.le_of_ble_eq_true rfl) (Nat.le_of_ble_eq_true rfl) d_A_countMissed_9 ?_
  refine lv_iadd hx hb d_A_countMissed_12 ?_
  exact ad_iretP M rfl (by rw [nI_add]) d_A_countMissed_13
set_option maxHeartbeats 4000000 in
set_option maxRecDepth 100000 in
theorem c_A_countChecked (l : Launch) (G : ad_G) (lo : Nat) (hp : ad_H) (x dA tA lA rA gA sA : Nat) (s0 : Int32) (ts : List TH) (la lt : List Nat)  (hX : hp x = some (.inr (4, [.ref dA, .ref tA, .ref lA, .ref rA, .ref gA, .ref sA]))) (hLL : al G hp lA la) (hll : ll hp la lt ts) (hm : lt.length ≤ 64) : ad_Cp l y_A_countChecked b_A_countChecked 2 rt_A_countChecked hs_A_countChecked 6 0 0 G lo hp [.ref x, .int s0] (fun r => r = .inl (some (.int (nI (sp_cl ts lt s0 1 + (sp_cl ts lt s0 2 + sp_cl ts lt s0 3)))))) := by
  intro p e s m below meth c M hts hB hP
  have hx := M.1
  have hb := M.2.1
  have hml := M.2.2.1
  have hown : s.vm.findClass "AuditDraws" = some m.cls := M.2.2.2.1
  have S : CallFix p m c b_A_countChecked 2 s _ ad_T "AuditDraws" := ⟨hx, hb, hml, hown, hts⟩
  have I : ad_I G lo s hp s.heap [] := ad_I.rf hB hP
  have hl := lv_entry ([.ref x, .int s0]) (n := 2) (Nat.le_of_ble_eq_true rfl)
  rw [lg_entry_eq]
  generalize (lg_sl ([.ref x, .int s0]) ++ List.replicate (2 - (lg_sl ([.ref x, .int s0])).length) Slot.unset).toArray = ls at hl ⊢
  have hl : lv_has ls 2 [(0, .ref x), (1, .int s0)] := hl
  obtain ⟨l1, l2, l3, l4, hlA, -⟩ := id hLL
  refine lv_aload_n hx hb d_A_countChecked_0 rfl (lv_at hl 0 rfl) ?_
  refine lv_iload_n hx hb d_A_countChecked_1 rfl (lv_at hl 1 rfl) ?_
  refine lv_iconst (v := 1) hx hb d_A_countChecked_2 (by decide) ?_
  refine ad_cPi S I (ad_ivV (As := [.int s0, .int 1]) (rest := []) S (ad_recv I hX K_AD) w_400 w_402 sp_A_countListed Y_A_countListed ⟨by decide, by decide, np_A_countListed⟩ rfl d_A_countChecked_3) (c_A_countListed l G lo hp x dA tA lA rA gA sA s0 1 ts la lt hX hLL hll hm) Y_A_countListed hl.1 ⟨Nat.le_of_ble_eq_true rfl, Nat.le_of_ble_eq_true rfl⟩ (Nat.le_of_ble_eq_true rfl) (Nat.le_of_ble_eq_true rfl) d_A_countChecked_3 ?_
  refine lv_aload_n hx hb d_A_countChecked_6 rfl (lv_at hl 0 rfl) ?_
  refine lv_iload_n hx hb d_A_countChecked_7 rfl (lv_at hl 1 rfl) ?_
  refine ad_cPi S I (ad_ivV (As := [.int s0]) (rest := [.int (nI (sp_cl ts lt s0 1))]) S (ad_recv I hX K_AD) w_404 w_406 sp_A_countMissed Y_A_countMissed ⟨by decide, by decide, np_A_countMissed⟩ rfl d_A_countChecked_8) (c_A_countMissed l G lo hp x dA tA lA rA gA sA s0 ts la lt hX hLL hll hm) Y_A_countMissed hl.1 ⟨Nat.le_of_ble_eq_true rfl, Nat.le_of_ble_eq_true rfl⟩ (Nat.le_of_ble_eq_true rfl) (Nat.le_of_ble_eq_true rfl) d_A_countChecked_8 ?_
  refine lv_iadd hx hb d_A_countChecked_11 ?_
  exact ad_iretP M rfl (by rw [nI_add]) d_A_countChecked_12
set_option maxHeartbeats 4000000 in
set_option maxRecDepth 100000 in
theorem c_A_commonDivisor (l : Launch) (G : ad_G) (lo : Nat) (hp : ad_H) (a0 b0 : Nat) (h1 : 0 < b0) (h2 : b0 < 2 ^ 30) (h3 : a0 < 2 ^ 30) : ad_Cp l y_A_commonDivisor b_A_commonDivisor 3 rt_A_commonDivisor hs_A_commonDivisor 1 0 0 G lo hp [.int (nI a0), .int (nI b0)] (fun r => r = .inl (some (.int (nI (sp_cd a0 b0 b0))))) := by
  intro p e s m below meth c M hts hB hP
  have hx := M.1
  have hb := M.2.1
  have hml := M.2.2.1
  have hown : s.vm.findClass "AuditDraws" = some m.cls := M.2.2.2.1
  have S : CallFix p m c b_A_commonDivisor 3 s _ ad_T "AuditDraws" := ⟨hx, hb, hml, hown, hts⟩
  have I : ad_I G lo s hp s.heap [] := ad_I.rf hB hP
  have hl := lv_entry ([.int (nI a0), .int (nI b0)]) (n := 3) (Nat.le_of_ble_eq_true rfl)
  rw [lg_entry_eq]
  generalize (lg_sl ([.int (nI a0), .int (nI b0)]) ++ List.replicate (3 - (lg_sl ([.int (nI a0), .int (nI b0)])).length) Slot.unset).toArray = ls at hl ⊢
  have hl : lv_has ls 3 [(0, .int (nI a0)), (1, .int (nI b0))] := hl
  have loop : ∀ (n : Nat) (g : Nat), (g < n ∧ 1 ≤ g ∧ g ≤ b0 ∧ sp_cd a0 b0 b0 = sp_cd a0 b0 g) → ∀ ls : Array Slot, lv_has ls 3 [(0, .int (nI a0)), (1, .int (nI b0)), (2, .int (nI g))] → W p l e (ad_rm 1 0 0) s m ([.int (nI a0), .int (nI b0)] : List Value).toArray below meth c s.heap [] 0 0 (ad_Zp below (fun r => r = .inl (some (.int (nI (sp_cd a0 b0 b0))))) s 0 0) (F0 m 2 ls []) := by
    intro n
    induction n with
    | zero => intro g h0 ls hl; exact absurd h0 (by omega)
    | succ n ih =>
      intro g h0 ls hl
      refine lv_iload_n hx hb d_A_commonDivisor_2 rfl (lv_at hl 2 rfl) ?_
      refine lv_iconst (v := 1) hx hb d_A_commonDivisor_3 (by decide) ?_
      refine lv_icmp_le (tgt := 27) hx hb d_A_commonDivisor_4 (by decide) (fun c4 => ?_) (fun c4 => ?_)
      · obtain rfl : g = 1 := by have := ad_ge (j := 1) (n := g) (by omega) (by omega) c4; omega
        refine lv_iconst (v := 1) hx hb d_A_commonDivisor_27 (by decide) ?_
        exact ad_iretP M rfl (by rw [h0.2.2.2, sp_cd_one]; rfl) d_A_commonDivisor_28
      · have hg : 1 < g := ad_lt (j := 1) (n := g) (by omega) (by omega) c4
        refine lv_iload_n hx hb d_A_commonDivisor_7 rfl (lv_at hl 0 rfl) ?_
        refine lv_iload_n hx hb d_A_commonDivisor_8 rfl (lv_at hl 2 rfl) ?_
        refine lv_irem hx hb d_A_commonDivisor_9 (nI_ne0 (by omega) (by omega)) ?_
        refine lv_if_ne (tgt := 21) hx hb d_A_commonDivisor_10 (by decide) (fun c10 => ?_) (fun c10 => ?_)
        · rw [ad_rem (a := a0) (d := g) (by omega) (by omega) (by omega), show (0 : Int32) = nI 0 from rfl, nI_eq (by have := Nat.mod_lt a0 (show 0 < g by omega); omega) (by omega)] at c10
          refine lv_iinc (v := (nI (g - 1))) (lv' := [(2, .int (nI (g - 1))), (0, .int (nI a0)), (1, .int (nI b0))]) hx hb d_A_commonDivisor_21 hl (k := 2) rfl (nI_dec (by omega)) (by decide) rfl (fun ls hl => ?_)
          refine lv_goto (tgt := 2) hx hb d_A_commonDivisor_24 (by decide) ?_
          exact ih (g - 1) ⟨by omega, by omega, by omega, by rw [h0.2.2.2, sp_cd_s hg]; simp [c10]⟩ ls (lv_sub hl [1, 2, 0] rfl)
        · rw [ad_rem (a := a0) (d := g) (by omega) (by omega) (by omega), show (0 : Int32) = nI 0 from rfl, nI_eq (by have := Nat.mod_lt a0 (show 0 < g by omega); omega) (by omega)] at c10
          refine lv_iload_n hx hb d_A_commonDivisor_13 rfl (lv_at hl 1 rfl) ?_
          refine lv_iload_n hx hb d_A_commonDivisor_14 rfl (lv_at hl 2 rfl) ?_
          refine lv_irem hx hb d_A_commonDivisor_15 (nI_ne0 (by omega) (by omega)) ?_
          refine lv_if_ne (tgt := 21) hx hb d_A_commonDivisor_16 (by decide) (fun c16 => ?_) (fun c16 => ?_)
          · rw [ad_rem (a := b0) (d := g) (by omega) (by omega) (by omega), show (0 : Int32) = nI 0 from rfl, nI_eq (by have := Nat.mod_lt b0 (show 0 < g by omega); omega) (by omega)] at c16
            refine lv_iinc (v := (nI (g - 1))) (lv' := [(2, .int (nI (g - 1))), (0, .int (nI a0)), (1, .int (nI b0))]) hx hb d_A_commonDivisor_21 hl (k := 2) rfl (nI_dec (by omega)) (by decide) rfl (fun ls hl => ?_)
            refine lv_goto (tgt := 2) hx hb d_A_commonDivisor_24 (by decide) ?_
            exact ih (g - 1) ⟨by omega, by omega, by omega, by rw [h0.2.2.2, sp_cd_s hg]; simp [c10, c16]⟩ ls (lv_sub hl [1, 2, 0] rfl)
          · rw [ad_rem (a := b0) (d := g) (by omega) (by omega) (by omega), show (0 : Int32) = nI 0 from rfl, nI_eq (by have := Nat.mod_lt b0 (show 0 < g by omega); omega) (by omega)] at c16
            refine lv_iload_n hx hb d_A_commonDivisor_19 rfl (lv_at hl 2 rfl) ?_
            exact ad_iretP M rfl (by rw [h0.2.2.2, sp_cd_s hg, if_pos ⟨c10, c16⟩]) d_A_commonDivisor_20
  refine lv_iload_n hx hb d_A_commonDivisor_0 rfl (lv_at hl 1 rfl) ?_
  refine lv_istore_n (lv' := [(2, .int (nI b0)), (0, .int (nI a0)), (1, .int (nI b0))]) hx hb d_A_commonDivisor_1 rfl hl (by decide) rfl (fun ls hl => ?_)
  exact loop (b0 + 1) b0 ⟨by omega, by omega, by omega, rfl⟩ ls (lv_sub hl [1, 2, 0] rfl)
set_option maxHeartbeats 4000000 in
set_option maxRecDepth 100000 in
theorem c_A_share (l : Launch) (G : ad_G) (lo : Nat) (hp : ad_H) (x dA tA lA rA gA sA : Nat) (s0 p0 : Int32) (ts : List TH) (la lt : List Nat)  (hT : l.stackTraces = false) (hX : hp x = some (.inr (4, [.ref dA, .ref tA, .ref lA, .ref rA, .ref gA, .ref sA]))) (hLL : al G hp lA la) (hll : ll hp la lt ts) (hm : lt.length ≤ 64) : ad_Cp l y_A_share b_A_share 6 rt_A_share hs_A_share 7 1 6 G lo hp [.ref x, .int s0, .int p0] (fun r => r = q_ans [ad_NSE] (q_sh (sp_cl ts lt s0 1) (sp_cl ts lt s0 2) (sp_cl ts lt s0 3) s0 p0)) := by
  intro p e s m below meth c M hts hB hP
  have hx := M.1
  have hb := M.2.1
  have hml := M.2.2.1
  have hown : s.vm.findClass "AuditDraws" = some m.cls := M.2.2.2.1
  have S : CallFix p m c b_A_share 6 s _ ad_T "AuditDraws" := ⟨hx, hb, hml, hown, hts⟩
  have I : ad_I G lo s hp s.heap [] := ad_I.rf hB hP
  have hl := lv_entry ([.ref x, .int s0, .int p0]) (n := 6) (Nat.le_of_ble_eq_true rfl)
  rw [lg_entry_eq]
  generalize (lg_sl ([.ref x, .int s0, .int p0]) ++ List.replicate (6 - (lg_sl ([.ref x, .int s0, .int p0])).length) Slot.unset).toArray = ls at hl ⊢
  have hl : lv_has ls 6 [(0, .ref x), (1, .int s0), (2, .int p0)] := hl
  obtain ⟨l1, l2, l3, l4, hlA, -⟩ := id hLL
  refine lv_iload_n hx hb d_A_share_0 rfl (lv_at hl 1 rfl) ?_
  refine lv_bipush (v := 6) hx hb d_A_share_1 (by decide) ?_
  refine ad_cPg S I (ad_ivS (As := [.int s0, .int 6]) (rest := []) S Y_A_needBelow w_100 w_101 w_1 ⟨by decide, by decide, np_A_needBelow⟩ rfl d_A_share_3) (c_A_needBelow l G lo hp s0 6 hT) Y_A_needBelow hl.1 ⟨Nat.le_of_ble_eq_true rfl, Nat.le_of_ble_eq_true rfl⟩ (Nat.le_of_ble_eq_true rfl) (Nat.le_of_ble_eq_true rfl) d_A_share_3 (fun g3 => ?_) (fun g3 H1 x cell h1 h2 h3 h4 h5 => ?_)
  · refine lv_iload_n hx hb d_A_share_6 rfl (lv_at hl 2 rfl) ?_
    refine lv_iconst (v := 2) hx hb d_A_share_7 (by decide) ?_
    refine ad_cPg S I (ad_ivS (As := [.int p0, .int 2]) (rest := []) S Y_A_needBelow w_100 w_101 w_1 ⟨by decide, by decide, np_A_needBelow⟩ rfl d_A_share_8) (c_A_needBelow l G lo hp p0 2 hT) Y_A_needBelow hl.1 ⟨Nat.le_of_ble_eq_true rfl, Nat.le_of_ble_eq_true rfl⟩ (Nat.le_of_ble_eq_true rfl) (Nat.le_of_ble_eq_true rfl) d_A_share_8 (fun g8 => ?_) (fun g8 H1 x cell h1 h2 h3 h4 h5 => ?_)
    · refine lv_aload_n hx hb d_A_share_11 rfl (lv_at hl 0 rfl) ?_
      refine lv_iload_n hx hb d_A_share_12 rfl (lv_at hl 1 rfl) ?_
      refine ad_cPi S I (ad_ivV (As := [.int s0]) (rest := []) S (ad_recv I hX K_AD) w_396 w_398 sp_A_countChecked Y_A_countChecked ⟨by decide, by decide, np_A_countChecked⟩ rfl d_A_share_13) (c_A_countChecked l G lo hp x dA tA lA rA gA sA s0 ts la lt hX hLL hll hm) Y_A_countChecked hl.1 ⟨Nat.le_of_ble_eq_true rfl, Nat.le_of_ble_eq_true rfl⟩ (Nat.le_of_ble_eq_true rfl) (Nat.le_of_ble_eq_true rfl) d_A_share_13 ?_
      refine lv_istore_n (lv' := [(3, .int (nI (sp_cl ts lt s0 1 + (sp_cl ts lt s0 2 + sp_cl ts lt s0 3)))), (0, .ref x), (1, .int s0), (2, .int p0)]) hx hb d_A_share_16 rfl hl (by decide) rfl (fun ls hl => ?_)
      refine lv_aload_n hx hb d_A_share_17 rfl (lv_at hl 1 rfl) ?_
      refine lv_iload_n hx hb d_A_share_18 rfl (lv_at hl 2 rfl) ?_
      refine lv_iconst (v := 1) hx hb d_A_share_19 (by decide) ?_
      refine ad_cPi S I (ad_ivV (As := [.int s0, .int 1]) (rest := []) S (ad_recv I hX K_AD) w_400 w_402 sp_A_countListed Y_A_countListed ⟨by decide, by decide, np_A_countListed⟩ rfl d_A_share_20) (c_A_countListed l G lo hp x dA tA lA rA gA sA s0 1 ts la lt hX hLL hll hm) Y_A_countListed hl.1 ⟨Nat.le_of_ble_eq_true rfl, Nat.le_of_ble_eq_true rfl⟩ (Nat.le_of_ble_eq_true rfl) (Nat.le_of_ble_eq_true rfl) d_A_share_20 ?_
      refine lv_istore (lv' := [(4, .int (nI (sp_cl ts lt s0 1))), (3, .int (nI (sp_cl ts lt s0 1 + (sp_cl ts lt s0 2 + sp_cl ts lt s0 3)))), (0, .ref x), (1, .int s0), (2, .int p0)]) hx hb d_A_share_23 hl (by decide) rfl (fun ls hl => ?_)
      refine lv_iload_n hx hb d_A_share_25 rfl (lv_at hl 1 rfl) ?_
      refine lv_if_ne (tgt := 31) hx hb d_A_share_26 (by decide) (fun c26 => ?_) (fun c26 => ?_)
      · refine lv_iload hx hb d_A_share_31 (lv_at hl 0 rfl) ?_
        refine lv_iload_n hx hb d_A_share_33 rfl (lv_at hl 1 rfl) ?_
        have hcb : 0 < sp_cl ts lt s0 1 + (sp_cl ts lt s0 2 + sp_cl ts lt s0 3) := Nat.pos_of_ne_zero fun h => c26 (by rw [h]; rfl)
        have q1 := sp_cl_le ts lt s0 1
        have q2 := sp_cl_le ts lt s0 2
        have q3 := sp_cl_le ts lt s0 3
        have q4 := sp_cd_pos (sp_cl ts lt s0 1) (sp_cl ts lt s0 1 + (sp_cl ts lt s0 2 + sp_cl ts lt s0 3)) (sp_cl ts lt s0 1 + (sp_cl ts lt s0 2 + sp_cl ts lt s0 3))
        refine ad_cPi S I (ad_ivS (As := [.int (nI (sp_cl ts lt s0 1)), .int (nI (sp_cl ts lt s0 1 + (sp_cl ts lt s0 2 + sp_cl ts lt s0 3)))]) (rest := []) S Y_A_commonDivisor w_408 w_409 w_1 ⟨by decide, by decide, np_A_commonDivisor⟩ rfl d_A_share_34) (c_A_commonDivisor l G lo hp (sp_cl ts lt s0 1) (sp_cl ts lt s0 1 + (sp_cl ts lt s0 2 + sp_cl ts lt s0 3)) hcb (by omega) (by omega)) Y_A_commonDivisor hl.1 ⟨Nat.le_of_ble_eq_true rfl, Nat.le_of_ble_eq_true rfl⟩ (Nat.le_of_ble_eq_true rfl) (Nat.le_of_ble_eq_true rfl) d_A_share_34 ?_
        refine lv_istore (lv' := [(5, .int (nI (sp_cd (sp_cl ts lt s0 1) (sp_cl ts lt s0 1 + (sp_cl ts lt s0 2 + sp_cl ts lt s0 3)) (sp_cl ts lt s0 1 + (sp_cl ts lt s0 2 + sp_cl ts lt s0 3))))), (4, .int (nI (sp_cl ts lt s0 1))), (3, .int (nI (sp_cl ts lt s0 1 + (sp_cl ts lt s0 2 + sp_cl ts lt s0 3)))), (0, .ref x), (1, .int s0), (2, .int p0)]) hx hb d_A_share_37 hl (by decide) rfl (fun ls hl => ?_)
        refine lv_iload_n hx hb d_A_share_39 rfl (lv_at hl 5 rfl) ?_
        refine lv_if_ne (tgt := 51) hx hb d_A_share_40 (by decide) (fun c40 => ?_) (fun c40 => ?_)
        · refine lv_iload_n hx hb d_A_share_51 rfl (lv_at hl 2 rfl) ?_
          refine lv_iload hx hb d_A_share_52 (lv_at hl 0 rfl) ?_
          refine lv_idiv hx hb d_A_share_54 (nI_ne0 q4.1 (by omega)) ?_
          exact ad_iretP M rfl (by rw [pk_div (by omega) q4.1 (by omega)]; simp only [q_sh, q_ans]; rw [if_pos ⟨g3, g8⟩, if_neg (Nat.ne_of_gt hcb), if_neg c40]) d_A_share_55
        · refine lv_iload hx hb d_A_share_43 (lv_at hl 1 rfl) ?_
          refine lv_iload hx hb d_A_share_45 (lv_at hl 0 rfl) ?_
          refine lv_idiv hx hb d_A_share_47 (nI_ne0 q4.1 (by omega)) ?_
          refine lv_goto (tgt := 55) hx hb d_A_share_48 (by decide) ?_
          exact ad_iretP M rfl (by rw [pk_div (by omega) q4.1 (by omega)]; simp only [q_sh, q_ans]; rw [if_pos ⟨g3, g8⟩, if_neg (Nat.ne_of_gt hcb), if_pos c40]) d_A_share_55
      · refine lv_iload_n hx hb d_A_share_29 rfl (lv_at hl 4 rfl) ?_
        exact ad_iretP M rfl (by have hz : sp_cl ts lt s0 1 + (sp_cl ts lt s0 2 + sp_cl ts lt s0 3) = 0 := (nI_eq (by have := sp_cl_le ts lt s0 1; have := sp_cl_le ts lt s0 2; have := sp_cl_le ts lt s0 3; omega) (by omega)).mp c26; simp only [q_sh]; rw [if_pos ⟨g3, g8⟩, if_pos hz]; rfl) d_A_share_30
    · exact ad_outP M h1 h2 h3 h4 h5 (by decide) (by decide) (by decide) (by simp only [q_sh]; rw [if_neg (fun h => g8 h.2)]; rfl)
  · exact ad_outP M h1 h2 h3 h4 h5 (by decide) (by decide) (by decide) (by simp only [q_sh]; rw [if_neg (fun h => g3 h.1)]; rfl)
set_option maxHeartbeats 4000000 in
set_option maxRecDepth 100000 in
theorem c_A_next (l : Launch) (G : ad_G) (lo : Nat) (hp : ad_H) (x dA tA lA rA gA sA : Nat) (s0 : Int32) (ts : List TH) (la lt : List Nat)  (hT : l.stackTraces = false) (hX : hp x = some (.inr (4, [.ref dA, .ref tA, .ref lA, .ref rA, .ref gA, .ref sA]))) (hLL : al G hp lA la) (hll : ll hp la lt ts) (hm : lt.length ≤ 64) : ad_Cp l y_A_next b_A_next 4 rt_A_next hs_A_next 7 1 6 G lo hp [.ref x, .int s0] (fun r => r = q_ans [ad_NSE] (q_nx (sp_cl ts lt s0 1) (sp_cl ts lt s0 2) (sp_cl ts lt s0 3) s0)) := by
  intro p e s m below meth c M hts hB hP
  have hx := M.1
  have hb := M.2.1
  have hml := M.2.2.1
  have hown : s.vm.findClass "AuditDraws" = some m.cls := M.2.2.2.1
  have S : CallFix p m c b_A_next 4 s _ ad_T "AuditDraws" := ⟨hx, hb, hml, hown, hts⟩
  have I : ad_I G lo s hp s.heap [] := ad_I.rf hB hP
  have hl := lv_entry ([.ref x, .int s0]) (n := 4) (Nat.le_of_ble_eq_true rfl)
  rw [lg_entry_eq]
  generalize (lg_sl ([.ref x, .int s0]) ++ List.replicate (4 - (lg_sl ([.ref x, .int s0])).length) Slot.unset).toArray = ls at hl ⊢
  have hl : lv_has ls 4 [(0, .ref x), (1, .int s0)] := hl
  obtain ⟨l1, l2, l3, l4, hlA, -⟩ := id hLL
  refine lv_iload_n hx hb d_A_next_0 rfl (lv_at hl 1 rfl) ?_
  refine lv_bipush (v := 6) hx hb d_A_next_1 (by decide) ?_
  refine ad_cPg S I (ad_ivS (As := [.int s0, .int 6]) (rest := []) S Y_A_needBelow w_100 w_101 w_1 ⟨by decide, by decide, np_A_needBelow⟩ rfl d_A_next_3) (c_A_needBelow l G lo hp s0 6 hT) Y_A_needBelow hl.1 ⟨Nat.le_of_ble_eq_true rfl, Nat.le_of_ble_eq_true rfl⟩ (Nat.le_of_ble_eq_true rfl) (Nat.le_of_ble_eq_true rfl) d_A_next_3 (fun g3 => ?_) (fun g3 H1 x cell h1 h2 h3 h4 h5 => ?_)
  · refine lv_aload_n hx hb d_A_next_6 rfl (lv_at hl 0 rfl) ?_
    refine lv_iload_n hx hb d_A_next_7 rfl (lv_at hl 1 rfl) ?_
    refine ad_cPi S I (ad_ivV (As := [.int s0]) (rest := []) S (ad_recv I hX K_AD) w_396 w_398 sp_A_countChecked Y_A_countChecked ⟨by decide, by decide, np_A_countChecked⟩ rfl d_A_next_8) (c_A_countChecked l G lo hp x dA tA lA rA gA sA s0 ts la lt hX hLL hll hm) Y_A_countChecked hl.1 ⟨Nat.le_of_ble_eq_true rfl, Nat.le_of_ble_eq_true rfl⟩ (Nat.le_of_ble_eq_true rfl) (Nat.le_of_ble_eq_true rfl) d_A_next_8 ?_
    refine lv_istore_n (lv' := [(2, .int (nI (sp_cl ts lt s0 1 + (sp_cl ts lt s0 2 + sp_cl ts lt s0 3)))), (0, .ref x), (1, .int s0)]) hx hb d_A_next_11 rfl hl (by decide) rfl (fun ls hl => ?_)
    refine lv_iload_n hx hb d_A_next_12 rfl (lv_at hl 0 rfl) ?_
    refine lv_if_ne (tgt := 19) hx hb d_A_next_13 (by decide) (fun c13 => ?_) (fun c13 => ?_)
    · refine lv_aload_n hx hb d_A_next_19 rfl (lv_at hl 1 rfl) ?_
      refine lv_iload_n hx hb d_A_next_20 rfl (lv_at hl 2 rfl) ?_
      refine ad_cPi S I (ad_ivV (As := [.int s0]) (rest := []) S (ad_recv I hX K_AD) w_404 w_406 sp_A_countMissed Y_A_countMissed ⟨by decide, by decide, np_A_countMissed⟩ rfl d_A_next_21) (c_A_countMissed l G lo hp x dA tA lA rA gA sA s0 ts la lt hX hLL hll hm) Y_A_countMissed hl.1 ⟨Nat.le_of_ble_eq_true rfl, Nat.le_of_ble_eq_true rfl⟩ (Nat.le_of_ble_eq_true rfl) (Nat.le_of_ble_eq_true rfl) d_A_next_21 ?_
      refine lv_istore_n (lv' := [(3, .int (nI (sp_cl ts lt s0 2 + sp_cl ts lt s0 3))), (2, .int (nI (sp_cl ts lt s0 1 + (sp_cl ts lt s0 2 + sp_cl ts lt s0 3)))), (0, .ref x), (1, .int s0)]) hx hb d_A_next_24 rfl hl (by decide) rfl (fun ls hl => ?_)
      refine lv_bipush (v := 50) hx hb d_A_next_25 (by decide) ?_
      refine lv_sipush (v := 950) hx hb d_A_next_27 (by decide) ?_
      refine lv_iload_n hx hb d_A_next_30 rfl (lv_at hl 0 rfl) ?_
      refine lv_imul hx hb d_A_next_31 ?_
      refine lv_iload_n hx hb d_A_next_32 rfl (lv_at hl 1 rfl) ?_
      refine lv_iadd hx hb d_A_next_33 ?_
      refine lv_iconst (v := 1) hx hb d_A_next_34 (by decide) ?_
      refine lv_isub hx hb d_A_next_35 ?_
      refine lv_iload_n hx hb d_A_next_36 rfl (lv_at hl 1 rfl) ?_
      refine lv_idiv hx hb d_A_next_37 c13 ?_
      refine lv_iadd hx hb d_A_next_38 ?_
      exact ad_iretP M rfl (by simp only [q_nx]; rw [if_pos g3, if_neg (fun h => c13 (by rw [h]; rfl))]; rfl) d_A_next_39
    · refine lv_bipush (v := 100) hx hb d_A_next_16 (by decide) ?_
      exact ad_iretP M rfl (by have q1 := sp_cl_le ts lt s0 1; have q2 := sp_cl_le ts lt s0 2; have q3 := sp_cl_le ts lt s0 3; have hz : sp_cl ts lt s0 1 + (sp_cl ts lt s0 2 + sp_cl ts lt s0 3) = 0 := (nI_eq (by omega) (by omega)).mp c13; simp only [q_nx]; rw [if_pos g3, if_pos hz]; rfl) d_A_next_18
  · exact ad_outP M h1 h2 h3 h4 h5 (by decide) (by decide) (by decide) (by simp only [q_nx]; rw [if_neg g3]; rfl)
set_option maxHeartbeats 4000000 in
set_option maxRecDepth 100000 in
theorem c_A_digit (l : Launch) (G : ad_G) (lo : Nat) (hp : ad_H) (x : Nat) (k0 : Int32) (v0 : Int64) (hT : l.stackTraces = false) : ad_Cp l y_A_digit b_A_digit 4 rt_A_digit hs_A_digit 7 1 6 G lo hp [.ref x, .int k0, .long v0] (fun r => r = q_ans [ad_NSE, ad_IAE] (q_dg k0 v0)) := by
  intro p e s m below meth c M hts hB hP
  have hx := M.1
  have hb := M.2.1
  have hml := M.2.2.1
  have hown : s.vm.findClass "AuditDraws" = some m.cls := M.2.2.2.1
  have S : CallFix p m c b_A_digit 4 s _ ad_T "AuditDraws" := ⟨hx, hb, hml, hown, hts⟩
  have I : ad_I G lo s hp s.heap [] := ad_I.rf hB hP
  have hl := lv_entry ([.ref x, .int k0, .long v0]) (n := 4) (Nat.le_of_ble_eq_true rfl)
  rw [lg_entry_eq]
  generalize (lg_sl ([.ref x, .int k0, .long v0]) ++ List.replicate (4 - (lg_sl ([.ref x, .int k0, .long v0])).length) Slot.unset).toArray = ls at hl ⊢
  have hl : lv_has ls 4 [(0, .ref x), (1, .int k0), (2, .long v0)] := hl
  refine lv_iload_n hx hb d_A_digit_0 rfl (lv_at hl 1 rfl) ?_
  refine lv_iconst (v := 3) hx hb d_A_digit_1 (by decide) ?_
  refine ad_cPg S I (ad_ivS (As := [.int k0, .int 3]) (rest := []) S Y_A_needBelow w_100 w_101 w_1 ⟨by decide, by decide, np_A_needBelow⟩ rfl d_A_digit_2) (c_A_needBelow l G lo hp k0 3 hT) Y_A_needBelow hl.1 ⟨Nat.le_of_ble_eq_true rfl, Nat.le_of_ble_eq_true rfl⟩ (Nat.le_of_ble_eq_true rfl) (Nat.le_of_ble_eq_true rfl) d_A_digit_2 (fun g2 => ?_) (fun g2 H1 x cell h1 h2 h3 h4 h5 => ?_)
  · refine lv_lload_n hx hb d_A_digit_5 rfl (lv_at hl 2 rfl) ?_
    refine ad_cPg S I (ad_ivS (As := [.long v0]) (rest := []) S Y_A_needNumber w_425 w_426 w_1 ⟨by decide, by decide, np_A_needNumber⟩ rfl d_A_digit_6) (c_A_needNumber l G lo hp v0 hT) Y_A_needNumber hl.1 ⟨Nat.le_of_ble_eq_true rfl, Nat.le_of_ble_eq_true rfl⟩ (Nat.le_of_ble_eq_true rfl) (Nat.le_of_ble_eq_true rfl) d_A_digit_6 (fun g6 => ?_) (fun g6 H1 x cell h1 h2 h3 h4 h5 => ?_)
    · refine lv_iload_n hx hb d_A_digit_9 rfl (lv_at hl 1 rfl) ?_
      refine lv_lload_n hx hb d_A_digit_10 rfl (lv_at hl 2 rfl) ?_
      refine ad_cPi S I (ad_ivS (As := [.int k0, .long v0]) (rest := []) S Y_C_of w_430 w_431 w_20 ⟨by decide, by decide, np_C_of⟩ rfl d_A_digit_11) (c_C_of l G lo hp k0 v0) Y_C_of hl.1 ⟨Nat.le_of_ble_eq_true rfl, Nat.le_of_ble_eq_true rfl⟩ (Nat.le_of_ble_eq_true rfl) (Nat.le_of_ble_eq_true rfl) d_A_digit_11 ?_
      exact ad_iretP M rfl (by simp only [q_dg]; rw [if_pos g2, if_pos g6]; rfl) d_A_digit_14
    · exact ad_outP M h1 h2 h3 h4 h5 (by decide) (by decide) (by decide) (by simp only [q_dg]; rw [if_pos g2, if_neg g6]; rfl)
  · exact ad_outP M h1 h2 h3 h4 h5 (by decide) (by decide) (by decide) (by simp only [q_dg]; rw [if_neg g2]; rfl)
set_option maxHeartbeats 4000000 in
set_option maxRecDepth 100000 in
theorem c_A_good (l : Launch) (G : ad_G) (lo : Nat) (hp : ad_H) (x : Nat) (k0 : Int32) (v0 : Int64) (hT : l.stackTraces = false) : ad_Cp l y_A_good b_A_good 4 rt_A_good hs_A_good 7 1 6 G lo hp [.ref x, .int k0, .long v0] (fun r => r = q_ans [ad_NSE, ad_IAE] (q_gd k0 v0)) := by
  intro p e s m below meth c M hts hB hP
  have hx := M.1
  have hb := M.2.1
  have hml := M.2.2.1
  have hown : s.vm.findClass "AuditDraws" = some m.cls := M.2.2.2.1
  have S : CallFix p m c b_A_good 4 s _ ad_T "AuditDraws" := ⟨hx, hb, hml, hown, hts⟩
  have I : ad_I G lo s hp s.heap [] := ad_I.rf hB hP
  have hl := lv_entry ([.ref x, .int k0, .long v0]) (n := 4) (Nat.le_of_ble_eq_true rfl)
  rw [lg_entry_eq]
  generalize (lg_sl ([.ref x, .int k0, .long v0]) ++ List.replicate (4 - (lg_sl ([.ref x, .int k0, .long v0])).length) Slot.unset).toArray = ls at hl ⊢
  have hl : lv_has ls 4 [(0, .ref x), (1, .int k0), (2, .long v0)] := hl
  refine lv_iload_n hx hb d_A_good_0 rfl (lv_at hl 1 rfl) ?_
  refine lv_iconst (v := 3) hx hb d_A_good_1 (by decide) ?_
  refine ad_cPg S I (ad_ivS (As := [.int k0, .int 3]) (rest := []) S Y_A_needBelow w_100 w_101 w_1 ⟨by decide, by decide, np_A_needBelow⟩ rfl d_A_good_2) (c_A_needBelow l G lo hp k0 3 hT) Y_A_needBelow hl.1 ⟨Nat.le_of_ble_eq_true rfl, Nat.le_of_ble_eq_true rfl⟩ (Nat.le_of_ble_eq_true rfl) (Nat.le_of_ble_eq_true rfl) d_A_good_2 (fun g2 => ?_) (fun g2 H1 x cell h1 h2 h3 h4 h5 => ?_)
  · refine lv_lload_n hx hb d_A_good_5 rfl (lv_at hl 2 rfl) ?_
    refine ad_cPg S I (ad_ivS (As := [.long v0]) (rest := []) S Y_A_needNumber w_425 w_426 w_1 ⟨by decide, by decide, np_A_needNumber⟩ rfl d_A_good_6) (c_A_needNumber l G lo hp v0 hT) Y_A_needNumber hl.1 ⟨Nat.le_of_ble_eq_true rfl, Nat.le_of_ble_eq_true rfl⟩ (Nat.le_of_ble_eq_true rfl) (Nat.le_of_ble_eq_true rfl) d_A_good_6 (fun g6 => ?_) (fun g6 H1 x cell h1 h2 h3 h4 h5 => ?_)
    · refine lv_iload_n hx hb d_A_good_9 rfl (lv_at hl 1 rfl) ?_
      refine lv_lload_n hx hb d_A_good_10 rfl (lv_at hl 2 rfl) ?_
      refine ad_cPi S I (ad_ivS (As := [.int k0, .long v0]) (rest := []) S Y_C_closes w_450 w_451 w_20 ⟨by decide, by decide, np_C_closes⟩ rfl d_A_good_11) (c_C_closes l G lo hp k0 v0) Y_C_closes hl.1 ⟨Nat.le_of_ble_eq_true rfl, Nat.le_of_ble_eq_true rfl⟩ (Nat.le_of_ble_eq_true rfl) (Nat.le_of_ble_eq_true rfl) d_A_good_11 ?_
      exact ad_iretP M (by unfold sp_closes; split <;> rfl) (by simp only [q_gd]; rw [if_pos g2, if_pos g6]; rfl) d_A_good_14
    · exact ad_outP M h1 h2 h3 h4 h5 (by decide) (by decide) (by decide) (by simp only [q_gd]; rw [if_pos g2, if_neg g6]; rfl)
  · exact ad_outP M h1 h2 h3 h4 h5 (by decide) (by decide) (by decide) (by simp only [q_gd]; rw [if_neg g2]; rfl)
abbrev R3 : Type := Int32 × Int32 × Int32
abbrev oS (r : R3) : va_E := .inr (2, [.int r.1, .int r.2.1, .int r.2.2])
def sp_rp (r b : R3) : Int32 := if r.1 = b.1 then (if r.2.2 < b.2.2 then 0 else 1) else (if r.1 ≤ b.1 then 0 else 1)
def sp_up (h0 : Int32) (r : R3) (b : Option R3) : Option R3 := if h0 < r.2.2 then b else (match b with
  | none => some r
  | some b0 => if sp_rp r b0 = 0 then b else some r)
def sp_lb (h0 : Int32) : List R3 → Option R3 → Option R3
  | [], b => b
  | r :: rs, b => sp_lb h0 rs (sp_up h0 r b)
theorem sp_lb_s {h0 : Int32} {rs : List R3} {j : Nat} {r : R3} {b : Option R3} (h : rs[j]? = some r) : sp_lb h0 (rs.drop j) b = sp_lb h0 (rs.drop (j + 1)) (sp_up h0 r b) := by
  rw [drop_s h]; rfl
def ro (G : ad_G) (hp : ad_H) (ra : Nat) (rs : List R3) : Prop := ∃ sa : List Nat, al G hp ra sa ∧ sa.length = rs.length ∧ ∀ (k : Nat) (r : R3), rs[k]? = some r → ∃ y : Nat, sa[k]? = some y ∧ hp y = some (oS r)
set_option maxHeartbeats 4000000 in
set_option maxRecDepth 100000 in
theorem c_S_replaces (l : Launch) (G : ad_G) (lo : Nat) (hp : ad_H) (a b : Nat) (r2 b2 : R3) (ha : hp a = some (oS r2)) (hb2 : hp b = some (oS b2)) : ad_Cp l y_S_replaces b_S_replaces 2 rt_S_replaces hs_S_replaces 1 0 0 G lo hp [.ref a, .ref b] (fun r => r = .inl (some (.int (sp_rp r2 b2)))) := by
  intro p e s m below meth c M hts hB hP
  have hx := M.1
  have hb := M.2.1
  have hml := M.2.2.1
  have hown : s.vm.findClass "AuditDraws$Sighting" = some m.cls := M.2.2.2.1
  have S : CallFix p m c b_S_replaces 2 s _ ad_T "AuditDraws$Sighting" := ⟨hx, hb, hml, hown, hts⟩
  have I : ad_I G lo s hp s.heap [] := ad_I.rf hB hP
  have hl := lv_entry ([.ref a, .ref b]) (n := 2) (Nat.le_of_ble_eq_true rfl)
  rw [lg_entry_eq]
  generalize (lg_sl ([.ref a, .ref b]) ++ List.replicate (2 - (lg_sl ([.ref a, .ref b])).length) Slot.unset).toArray = ls at hl ⊢
  have hl : lv_has ls 2 [(0, .ref a), (1, .ref b)] := hl
  refine lv_aload_n hx hb d_S_replaces_0 rfl (lv_at hl 0 rfl) ?_
  refine ad_get S I ha K_Sight 0 (by decide) w_474 rfl d_S_replaces_1 ?_
  refine lv_aload_n hx hb d_S_replaces_4 rfl (lv_at hl 1 rfl) ?_
  refine ad_get S I hb2 K_Sight 0 (by decide) w_474 rfl d_S_replaces_5 ?_
  refine lv_icmp_eq (tgt := 28) hx hb d_S_replaces_8 (by decide) (fun c8 => ?_) (fun c8 => ?_)
  · refine lv_aload_n hx hb d_S_replaces_28 rfl (lv_at hl 0 rfl) ?_
    refine ad_get S I ha K_Sight 2 (by decide) w_478 rfl d_S_replaces_29 ?_
    refine lv_aload_n hx hb d_S_replaces_32 rfl (lv_at hl 1 rfl) ?_
    refine ad_get S I hb2 K_Sight 2 (by decide) w_478 rfl d_S_replaces_33 ?_
    refine lv_icmp_lt (tgt := 43) hx hb d_S_replaces_36 (by decide) (fun c36 => ?_) (fun c36 => ?_)
    · refine lv_iconst (v := 0) hx hb d_S_replaces_43 (by decide) ?_
      exact ad_iretP M rfl (by simp [sp_rp, c8, c36]) d_S_replaces_44
    · refine lv_iconst (v := 1) hx hb d_S_replaces_39 (by decide) ?_
      refine lv_goto (tgt := 44) hx hb d_S_replaces_40 (by decide) ?_
      exact ad_iretP M rfl (by simp [sp_rp, c8, c36]) d_S_replaces_44
  · refine lv_aload_n hx hb d_S_replaces_11 rfl (lv_at hl 0 rfl) ?_
    refine ad_get S I ha K_Sight 0 (by decide) w_474 rfl d_S_replaces_12 ?_
    refine lv_aload_n hx hb d_S_replaces_15 rfl (lv_at hl 1 rfl) ?_
    refine ad_get S I hb2 K_Sight 0 (by decide) w_474 rfl d_S_replaces_16 ?_
    refine lv_icmp_le (tgt := 26) hx hb d_S_replaces_19 (by decide) (fun c19 => ?_) (fun c19 => ?_)
    · refine lv_iconst (v := 0) hx hb d_S_replaces_26 (by decide) ?_
      exact ad_iretP M rfl (by simp [sp_rp, c8, c19]) d_S_replaces_27
    · refine lv_iconst (v := 1) hx hb d_S_replaces_22 (by decide) ?_
      refine lv_goto (tgt := 27) hx hb d_S_replaces_23 (by decide) ?_
      exact ad_iretP M rfl (by simp [sp_rp, c8, c19]) d_S_replaces_27
set_option maxHeartbeats 4000000 in
set_option maxRecDepth 100000 in
theorem c_T_lastToldBy (l : Launch) (G : ad_G) (lo : Nat) (hp : ad_H) (a ra : Nat) (n0 t0 p0 q0 g0 h9 : Int32) (rs : List R3) (h : hp a = some (.inr (1, [.int n0, .int t0, .ref ra, .int p0, .int q0, .int g0]))) (hR : ro G hp ra rs) (hm : rs.length ≤ 24) : ad_Cp l y_T_lastToldBy b_T_lastToldBy 5 rt_T_lastToldBy hs_T_lastToldBy 4 0 0 G lo hp [.ref a, .int h9] (fun r => (sp_lb h9 rs none = none ∧ r = .inl (some .null)) ∨ ∃ (b1 : R3) (yb : Nat), sp_lb h9 rs none = some b1 ∧ hp yb = some (oS b1) ∧ r = .inl (some (.ref yb))) := by
  intro p e s m below meth c M hts hB hP
  have hx := M.1
  have hb := M.2.1
  have hml := M.2.2.1
  have hown : s.vm.findClass "AuditDraws$Thing" = some m.cls := M.2.2.2.1
  have S : CallFix p m c b_T_lastToldBy 5 s _ ad_T "AuditDraws$Thing" := ⟨hx, hb, hml, hown, hts⟩
  have I : ad_I G lo s hp s.heap [] := ad_I.rf hB hP
  have hl := lv_entry ([.ref a, .int h9]) (n := 5) (Nat.le_of_ble_eq_true rfl)
  rw [lg_entry_eq]
  generalize (lg_sl ([.ref a, .int h9]) ++ List.replicate (5 - (lg_sl ([.ref a, .int h9])).length) Slot.unset).toArray = ls at hl ⊢
  have hl : lv_has ls 5 [(0, .ref a), (1, .int h9)] := hl
  obtain ⟨sa, hsa, hsl, hse⟩ := hR
  obtain ⟨u1, u2, u3, u4, hra, -⟩ := id hsa
  have loopR : ∀ (n : Nat) (j : Nat) (b1 : R3) (yb : Nat), (rs.length < j + n ∧ j ≤ rs.length ∧ sp_lb h9 rs none = sp_lb h9 (rs.drop j) (some b1) ∧ hp yb = some (oS b1)) → ∀ ls : Array Slot, lv_has ls 5 [(0, .ref a), (1, .int h9), (2, .ref yb), (3, .int (nI j))] → W p l e (ad_rm 4 0 0) s m ([.ref a, .int h9] : List Value).toArray below meth c s.heap [] 0 0 (ad_Zp below (fun r => (sp_lb h9 rs none = none ∧ r = .inl (some .null)) ∨ ∃ (b1 : R3) (yb : Nat), sp_lb h9 rs none = some b1 ∧ hp yb = some (oS b1) ∧ r = .inl (some (.ref yb))) s 0 0) (F0 m 4 ls []) := by
    intro n
    induction n with
    | zero => intro j b1 yb h0 ls hl; exact absurd h0 (by omega)
    | succ n ih =>
      intro j b1 yb h0 ls hl
      refine lv_iload_n hx hb d_T_lastToldBy_4 rfl (lv_at hl 3 rfl) ?_
      refine lv_aload_n hx hb d_T_lastToldBy_5 rfl (lv_at hl 0 rfl) ?_
      refine ad_get S I h K_Thing 2 (by decide) w_203 rfl d_T_lastToldBy_6 ?_
      refine ad_cPi S I (ad_ivV (As := []) (rest := [.int (nI j)]) S (ad_recv I hra K_AL) w_498 w_172 w_173 Y_AL_size ⟨by decide, by decide, np_AL_size⟩ rfl d_T_lastToldBy_9) (c_ALsize l G lo hp ra sa hsa) Y_AL_size hl.1 ⟨Nat.le_of_ble_eq_true rfl, Nat.le_of_ble_eq_true rfl⟩ (Nat.le_of_ble_eq_true rfl) (Nat.le_of_ble_eq_true rfl) d_T_lastToldBy_9 ?_
      refine ad_top (y := .int (nI rs.length)) (by rw [hsl]) ?_
      refine lv_icmp_ge (tgt := 59) hx hb d_T_lastToldBy_12 (by decide) (fun c12 => ?_) (fun c12 => ?_)
      · obtain rfl : j = rs.length := by have := ad_ge (j := j) (n := rs.length) (by omega) (by omega) c12; omega
        refine lv_aload_n hx hb d_T_lastToldBy_59 rfl (lv_at hl 2 rfl) ?_
        exact ad_aretP M (Or.inl ⟨_, rfl⟩) (Or.inr ⟨_, rfl⟩) (Or.inr ⟨b1, yb, by rw [h0.2.2.1, List.drop_length]; rfl, h0.2.2.2, rfl⟩) d_T_lastToldBy_60
      · have hj : j < rs.length := ad_lt (by omega) (by omega) c12
        obtain ⟨r1, hr⟩ : ∃ r1, rs[j]? = some r1 := ⟨_, List.getElem?_eq_getElem hj⟩
        obtain ⟨y, hy, hty⟩ := hse j r1 hr
        refine lv_aload_n hx hb d_T_lastToldBy_15 rfl (lv_at hl 0 rfl) ?_
        refine ad_get S I h K_Thing 2 (by decide) w_203 rfl d_T_lastToldBy_16 ?_
        refine lv_iload_n hx hb d_T_lastToldBy_19 rfl (lv_at hl 3 rfl) ?_
        refine ad_cPi S I (ad_ivV (As := [.int (nI j)]) (rest := []) S (ad_recv I hra K_AL) w_499 w_309 w_310 Y_AL_get ⟨by decide, by decide, np_AL_get⟩ rfl d_T_lastToldBy_20) (c_ALget l G lo hp ra sa j y hsa hy) Y_AL_get hl.1 ⟨Nat.le_of_ble_eq_true rfl, Nat.le_of_ble_eq_true rfl⟩ (Nat.le_of_ble_eq_true rfl) (Nat.le_of_ble_eq_true rfl) d_T_lastToldBy_20 ?_
        refine va_castE hx hb hown (hts _ w_500) (ad_recv I hty K_Sight) d_T_lastToldBy_23 ?_
        refine lv_astore (lv' := [(4, .ref y), (0, .ref a), (1, .int h9), (2, .ref yb), (3, .int (nI j))]) hx hb d_T_lastToldBy_26 hl (by decide) rfl (fun ls hl => ?_)
        refine lv_aload hx hb d_T_lastToldBy_28 (lv_at hl 0 rfl) ?_
        refine ad_get S I hty K_Sight 2 (by decide) w_479 rfl d_T_lastToldBy_30 ?_
        refine lv_iload_n hx hb d_T_lastToldBy_33 rfl (lv_at hl 2 rfl) ?_
        refine lv_icmp_gt (tgt := 53) hx hb d_T_lastToldBy_34 (by decide) (fun c34 => ?_) (fun c34 => ?_)
        · refine lv_iinc (v := (nI (j + 1))) (lv' := [(3, .int (nI (j + 1))), (4, .ref y), (0, .ref a), (1, .int h9), (2, .ref yb)]) hx hb d_T_lastToldBy_53 hl (k := 4) rfl (nI_1 j) (by decide) rfl (fun ls hl => ?_)
          refine lv_goto (tgt := 4) hx hb d_T_lastToldBy_56 (by decide) ?_
          exact ih (j + 1) b1 yb ⟨by omega, by omega, by rw [h0.2.2.1, sp_lb_s hr]; simp [sp_up, c34], h0.2.2.2⟩ ls (lv_sub hl [2, 3, 4, 0] rfl)
        · refine lv_aload_n hx hb d_T_lastToldBy_37 rfl (lv_at hl 3 rfl) ?_
          refine lv_ifnull hx hb d_T_lastToldBy_38 ?_
          refine lv_aload hx hb d_T_lastToldBy_41 (lv_at hl 0 rfl) ?_
          refine lv_aload_n hx hb d_T_lastToldBy_43 rfl (lv_at hl 3 rfl) ?_
          refine ad_cPi S I (ad_ivV (As := [.ref yb]) (rest := []) S (ad_recv I hty K_Sight) w_501 w_502 w_503 Y_S_replaces ⟨by decide, by decide, np_S_replaces⟩ rfl d_T_lastToldBy_44) (c_S_replaces l G lo hp y yb r1 b1 hty h0.2.2.2) Y_S_replaces hl.1 ⟨Nat.le_of_ble_eq_true rfl, Nat.le_of_ble_eq_true rfl⟩ (Nat.le_of_ble_eq_true rfl) (Nat.le_of_ble_eq_true rfl) d_T_lastToldBy_44 ?_
          refine lv_if_eq (tgt := 53) hx hb d_T_lastToldBy_47 (by decide) (fun c47 => ?_) (fun c47 => ?_)
          · refine lv_iinc (v := (nI (j + 1))) (lv' := [(3, .int (nI (j + 1))), (4, .ref y), (0, .ref a), (1, .int h9), (2, .ref yb)]) hx hb d_T_lastToldBy_53 hl (k := 4) rfl (nI_1 j) (by decide) rfl (fun ls hl => ?_)
            refine lv_goto (tgt := 4) hx hb d_T_lastToldBy_56 (by decide) ?_
            exact ih (j + 1) b1 yb ⟨by omega, by omega, by rw [h0.2.2.1, sp_lb_s hr]; simp [sp_up, c34, c47], h0.2.2.2⟩ ls (lv_sub hl [2, 3, 4, 0] rfl)
          · refine lv_aload hx hb d_T_lastToldBy_50 (lv_at hl 0 rfl) ?_
            refine lv_astore_n (lv' := [(2, .ref y), (4, .ref y), (0, .ref a), (1, .int h9), (3, .int (nI j))]) hx hb d_T_lastToldBy_52 rfl hl (by decide) rfl (fun ls hl => ?_)
            refine lv_iinc (v := (nI (j + 1))) (lv' := [(3, .int (nI (j + 1))), (2, .ref y), (4, .ref y), (0, .ref a), (1, .int h9)]) hx hb d_T_lastToldBy_53 hl (k := 4) rfl (nI_1 j) (by decide) rfl (fun ls hl => ?_)
            refine lv_goto (tgt := 4) hx hb d_T_lastToldBy_56 (by decide) ?_
            exact ih (j + 1) r1 y ⟨by omega, by omega, by rw [h0.2.2.1, sp_lb_s hr]; simp [sp_up, c34, c47], hty⟩ ls (lv_sub hl [3, 4, 1, 0] rfl)
  have loopN : ∀ (n : Nat) (j : Nat), (rs.length < j + n ∧ j ≤ rs.length ∧ sp_lb h9 rs none = sp_lb h9 (rs.drop j) none) → ∀ ls : Array Slot, lv_has ls 5 [(0, .ref a), (1, .int h9), (2, .null), (3, .int (nI j))] → W p l e (ad_rm 4 0 0) s m ([.ref a, .int h9] : List Value).toArray below meth c s.heap [] 0 0 (ad_Zp below (fun r => (sp_lb h9 rs none = none ∧ r = .inl (some .null)) ∨ ∃ (b1 : R3) (yb : Nat), sp_lb h9 rs none = some b1 ∧ hp yb = some (oS b1) ∧ r = .inl (some (.ref yb))) s 0 0) (F0 m 4 ls []) := by
    intro n
    induction n with
    | zero => intro j h0 ls hl; exact absurd h0 (by omega)
    | succ n ih =>
      intro j h0 ls hl
      refine lv_iload_n hx hb d_T_lastToldBy_4 rfl (lv_at hl 3 rfl) ?_
      refine lv_aload_n hx hb d_T_lastToldBy_5 rfl (lv_at hl 0 rfl) ?_
      refine ad_get S I h K_Thing 2 (by decide) w_203 rfl d_T_lastToldBy_6 ?_
      refine ad_cPi S I (ad_ivV (As := []) (rest := [.int (nI j)]) S (ad_recv I hra K_AL) w_498 w_172 w_173 Y_AL_size ⟨by decide, by decide, np_AL_size⟩ rfl d_T_lastToldBy_9) (c_ALsize l G lo hp ra sa hsa) Y_AL_size hl.1 ⟨Nat.le_of_ble_eq_true rfl, Nat.le_of_ble_eq_true rfl⟩ (Nat.le_of_ble_eq_true rfl) (Nat.le_of_ble_eq_true rfl) d_T_lastToldBy_9 ?_
      refine ad_top (y := .int (nI rs.length)) (by rw [hsl]) ?_
      refine lv_icmp_ge (tgt := 59) hx hb d_T_lastToldBy_12 (by decide) (fun c12 => ?_) (fun c12 => ?_)
      · obtain rfl : j = rs.length := by have := ad_ge (j := j) (n := rs.length) (by omega) (by omega) c12; omega
        refine lv_aload_nN hx hb d_T_lastToldBy_59 rfl (lv_at hl 2 rfl) ?_
        exact ad_aretP M (Or.inl ⟨_, rfl⟩) (Or.inl rfl) (Or.inl ⟨by rw [h0.2.2, List.drop_length]; rfl, rfl⟩) d_T_lastToldBy_60
      · have hj : j < rs.length := ad_lt (by omega) (by omega) c12
        obtain ⟨r1, hr⟩ : ∃ r1, rs[j]? = some r1 := ⟨_, List.getElem?_eq_getElem hj⟩
        obtain ⟨y, hy, hty⟩ := hse j r1 hr
        refine lv_aload_n hx hb d_T_lastToldBy_15 rfl (lv_at hl 0 rfl) ?_
        refine ad_get S I h K_Thing 2 (by decide) w_203 rfl d_T_lastToldBy_16 ?_
        refine lv_iload_n hx hb d_T_lastToldBy_19 rfl (lv_at hl 3 rfl) ?_
        refine ad_cPi S I (ad_ivV (As := [.int (nI j)]) (rest := []) S (ad_recv I hra K_AL) w_499 w_309 w_310 Y_AL_get ⟨by decide, by decide, np_AL_get⟩ rfl d_T_lastToldBy_20) (c_ALget l G lo hp ra sa j y hsa hy) Y_AL_get hl.1 ⟨Nat.le_of_ble_eq_true rfl, Nat.le_of_ble_eq_true rfl⟩ (Nat.le_of_ble_eq_true rfl) (Nat.le_of_ble_eq_true rfl) d_T_lastToldBy_20 ?_
        refine va_castE hx hb hown (hts _ w_500) (ad_recv I hty K_Sight) d_T_lastToldBy_23 ?_
        refine lv_astore (lv' := [(4, .ref y), (0, .ref a), (1, .int h9), (2, .null), (3, .int (nI j))]) hx hb d_T_lastToldBy_26 hl (by decide) rfl (fun ls hl => ?_)
        refine lv_aload hx hb d_T_lastToldBy_28 (lv_at hl 0 rfl) ?_
        refine ad_get S I hty K_Sight 2 (by decide) w_479 rfl d_T_lastToldBy_30 ?_
        refine lv_iload_n hx hb d_T_lastToldBy_33 rfl (lv_at hl 2 rfl) ?_
        refine lv_icmp_gt (tgt := 53) hx hb d_T_lastToldBy_34 (by decide) (fun c34 => ?_) (fun c34 => ?_)
        · refine lv_iinc (v := (nI (j + 1))) (lv' := [(3, .int (nI (j + 1))), (4, .ref y), (0, .ref a), (1, .int h9), (2, .null)]) hx hb d_T_lastToldBy_53 hl (k := 4) rfl (nI_1 j) (by decide) rfl (fun ls hl => ?_)
          refine lv_goto (tgt := 4) hx hb d_T_lastToldBy_56 (by decide) ?_
          exact ih (j + 1) ⟨by omega, by omega, by rw [h0.2.2, sp_lb_s hr]; simp [sp_up, c34]⟩ ls (lv_sub hl [2, 3, 4, 0] rfl)
        · refine lv_aload_nN hx hb d_T_lastToldBy_37 rfl (lv_at hl 3 rfl) ?_
          refine lv_ifnullN (tgt := 50) hx hb d_T_lastToldBy_38 (by decide) ?_
          refine lv_aload hx hb d_T_lastToldBy_50 (lv_at hl 0 rfl) ?_
          refine lv_astore_n (lv' := [(2, .ref y), (4, .ref y), (0, .ref a), (1, .int h9), (3, .int (nI j))]) hx hb d_T_lastToldBy_52 rfl hl (by decide) rfl (fun ls hl => ?_)
          refine lv_iinc (v := (nI (j + 1))) (lv' := [(3, .int (nI (j + 1))), (2, .ref y), (4, .ref y), (0, .ref a), (1, .int h9)]) hx hb d_T_lastToldBy_53 hl (k := 4) rfl (nI_1 j) (by decide) rfl (fun ls hl => ?_)
          refine lv_goto (tgt := 4) hx hb d_T_lastToldBy_56 (by decide) ?_
          exact loopR n (j + 1) r1 y ⟨by omega, by omega, by rw [h0.2.2, sp_lb_s hr]; simp [sp_up, c34], hty⟩ ls (lv_sub hl [3, 4, 1, 0] rfl)
  refine lv_null hx hb d_T_lastToldBy_0 ?_
  refine lv_astore_nN (lv' := [(2, .null), (0, .ref a), (1, .int h9)]) hx hb d_T_lastToldBy_1 rfl hl (by decide) rfl (fun ls hl => ?_)
  refine lv_iconst (v := 0) hx hb d_T_lastToldBy_2 (by decide) ?_
  refine lv_istore_n (lv' := [(3, .int 0), (2, .null), (0, .ref a), (1, .int h9)]) hx hb d_T_lastToldBy_3 rfl hl (by decide) rfl (fun ls hl => ?_)
  exact loopN (rs.length + 1) 0 ⟨by omega, by omega, by simp⟩ ls (lv_sub hl [2, 3, 1, 0] rfl)
def q_fs (f0 : Option R3 → Int32) (ts : List TH) (v h9 : Int32) : Nat × Int32 := match sp_at ts v with
  | none => (1, 0)
  | some t => if okh h9 then (0, f0 (sp_lb h9 t.2.2.2.2 none)) else (2, 0)
def f_first (b : Option R3) : Int32 := match b with
  | none => 0
  | some r => r.1 + 1
def f_seen (b : Option R3) : Int32 := match b with
  | none => -1
  | some r => r.2.1
set_option maxHeartbeats 4000000 in
set_option maxRecDepth 100000 in
theorem c_A_first (l : Launch) (G : ad_G) (lo : Nat) (hp : ad_H) (x dA tA lA rA gA sA : Nat) (v h9 : Int32) (ta : List Nat) (ts : List TH)  (hT : l.stackTraces = false) (hX : hp x = some (.inr (4, [.ref dA, .ref tA, .ref lA, .ref rA, .ref gA, .ref sA]))) (hL : al G hp tA ta) (hTT : tt hp ta ts) (hn : ts.length ≤ 64) (hro : ∀ (j : Nat) (t : TH) (y ra : Nat), ts[j]? = some t → ta[j]? = some y → hp y = some (oT j t ra) → ro G hp ra t.2.2.2.2 ∧ t.2.2.2.2.length ≤ 24) : ad_Cp l y_A_first b_A_first 5 rt_A_first hs_A_first 8 1 6 G lo hp [.ref x, .int v, .int h9] (fun r => r = q_ans [ad_NSE, ad_IAE] (q_fs f_first ts v h9)) := by
  intro p e s m below meth c M hts hB hP
  have hx := M.1
  have hb := M.2.1
  have hml := M.2.2.1
  have hown : s.vm.findClass "AuditDraws" = some m.cls := M.2.2.2.1
  have S : CallFix p m c b_A_first 5 s _ ad_T "AuditDraws" := ⟨hx, hb, hml, hown, hts⟩
  have I : ad_I G lo s hp s.heap [] := ad_I.rf hB hP
  have hl := lv_entry ([.ref x, .int v, .int h9]) (n := 5) (Nat.le_of_ble_eq_true rfl)
  rw [lg_entry_eq]
  generalize (lg_sl ([.ref x, .int v, .int h9]) ++ List.replicate (5 - (lg_sl ([.ref x, .int v, .int h9])).length) Slot.unset).toArray = ls at hl ⊢
  have hl : lv_has ls 5 [(0, .ref x), (1, .int v), (2, .int h9)] := hl
  obtain ⟨t1, t2, t3, t4, htA, -⟩ := id hL
  refine lv_aload_n hx hb d_A_first_0 rfl (lv_at hl 0 rfl) ?_
  refine lv_iload_n hx hb d_A_first_1 rfl (lv_at hl 1 rfl) ?_
  refine ad_cP S I (ad_ivV (As := [.int v]) (rest := []) S (ad_recv I hX K_AD) w_374 w_376 sp_A_existing Y_A_existing ⟨by decide, by decide, np_A_existing⟩ rfl d_A_first_2) (c_A_existing l G lo hp x dA tA lA rA gA sA v ta ts hT hX hL hTT hn) Y_A_existing hl.1 ⟨Nat.le_of_ble_eq_true rfl, Nat.le_of_ble_eq_true rfl⟩ (Nat.le_of_ble_eq_true rfl) (Nat.le_of_ble_eq_true rfl) d_A_first_2 (fun v9 h9 => ?_) (fun C9 H1 x9 cell h9 h1 h2 h3 h4 h5 => ?_)
  · obtain ⟨j, t, y, ra, hv, ht, hy, hty, hr9⟩ | ⟨-, hr9⟩ := h9
    case inr => cases hr9
    cases hr9
    refine lv_astore_n (lv' := [(3, .ref y), (0, .ref x), (1, .int v), (2, .int h9)]) hx hb d_A_first_5 rfl hl (by decide) rfl (fun ls hl => ?_)
    refine lv_iload_n hx hb d_A_first_6 rfl (lv_at hl 3 rfl) ?_
    refine ad_cPg S I (ad_ivS (As := [.int h9]) (rest := []) S Y_A_needHour w_461 w_462 w_1 ⟨by decide, by decide, np_A_needHour⟩ rfl d_A_first_7) (c_A_needHour l G lo hp h9 hT) Y_A_needHour hl.1 ⟨Nat.le_of_ble_eq_true rfl, Nat.le_of_ble_eq_true rfl⟩ (Nat.le_of_ble_eq_true rfl) (Nat.le_of_ble_eq_true rfl) d_A_first_7 (fun g7 => ?_) (fun g7 H1 x cell h1 h2 h3 h4 h5 => ?_)
    · refine lv_aload_n hx hb d_A_first_10 rfl (lv_at hl 0 rfl) ?_
      refine lv_iload_n hx hb d_A_first_11 rfl (lv_at hl 3 rfl) ?_
      refine ad_cP S I (ad_ivV (As := [.int h9]) (rest := []) S (ad_recv I hty K_Thing) w_494 w_495 w_496 Y_T_lastToldBy ⟨by decide, by decide, np_T_lastToldBy⟩ rfl d_A_first_12) (c_T_lastToldBy l G lo hp y ra (nI j) t.1 t.2.1 t.2.2.1 t.2.2.2.1 h9 t.2.2.2.2 hty (hro j t y ra ht hy hty).1 (hro j t y ra ht hy hty).2) Y_T_lastToldBy hl.1 ⟨Nat.le_of_ble_eq_true rfl, Nat.le_of_ble_eq_true rfl⟩ (Nat.le_of_ble_eq_true rfl) (Nat.le_of_ble_eq_true rfl) d_A_first_12 (fun v8 h8 => ?_) (fun C9 H1 x9 cell h8 h1 h2 h3 h4 h5 => ?_)
      · obtain ⟨hb1, hr8⟩ | ⟨b1, yb, hb1, hyb, hr8⟩ := h8
        · cases hr8
          refine lv_astoreN (lv' := [(4, .null), (3, .ref y), (0, .ref x), (1, .int v), (2, .int h9)]) hx hb d_A_first_15 hl (by decide) rfl (fun ls hl => ?_)
          refine lv_aloadN hx hb d_A_first_17 (lv_at hl 0 rfl) ?_
          refine lv_ifnonnullN hx hb d_A_first_19 ?_
          refine lv_iconst (v := 0) hx hb d_A_first_22 (by decide) ?_
          refine lv_goto (tgt := 33) hx hb d_A_first_23 (by decide) ?_
          exact ad_iretP M rfl (by simp only [q_fs]; rw [sp_at_n hv ht hn]; simp only; rw [if_pos g7, hb1]; rfl) d_A_first_33
        · cases hr8
          refine lv_astore (lv' := [(4, .ref yb), (3, .ref y), (0, .ref x), (1, .int v), (2, .int h9)]) hx hb d_A_first_15 hl (by decide) rfl (fun ls hl => ?_)
          refine lv_aload hx hb d_A_first_17 (lv_at hl 0 rfl) ?_
          refine lv_ifnonnull (tgt := 26) hx hb d_A_first_19 (by decide) ?_
          refine lv_aload hx hb d_A_first_26 (lv_at hl 0 rfl) ?_
          refine ad_get S I hyb K_Sight 0 (by decide) w_475 rfl d_A_first_28 ?_
          refine lv_iconst (v := 1) hx hb d_A_first_31 (by decide) ?_
          refine lv_iadd hx hb d_A_first_32 ?_
          exact ad_iretP M rfl (by simp only [q_fs]; rw [sp_at_n hv ht hn]; simp only; rw [if_pos g7, hb1]; rfl) d_A_first_33
      · rcases h8 with ⟨_, h8⟩ | ⟨_, _, _, _, h8⟩ <;> cases h8
    · exact ad_outP M h1 h2 h3 h4 h5 (by decide) (by decide) (by decide) (by simp only [q_fs]; rw [sp_at_n hv ht hn]; simp only; rw [if_neg g7]; rfl)
  · obtain ⟨_, _, _, _, _, _, _, _, hr9⟩ | ⟨hno, hr9⟩ := h9
    case inl => cases hr9
    cases hr9
    exact ad_outP M h1 h2 h3 h4 h5 (by decide) (by decide) (by decide) (by simp only [q_fs]; rw [sp_at_0 hno hn]; rfl)
set_option maxHeartbeats 4000000 in
set_option maxRecDepth 100000 in
theorem c_A_seen (l : Launch) (G : ad_G) (lo : Nat) (hp : ad_H) (x dA tA lA rA gA sA : Nat) (v h9 : Int32) (ta : List Nat) (ts : List TH)  (hT : l.stackTraces = false) (hX : hp x = some (.inr (4, [.ref dA, .ref tA, .ref lA, .ref rA, .ref gA, .ref sA]))) (hL : al G hp tA ta) (hTT : tt hp ta ts) (hn : ts.length ≤ 64) (hro : ∀ (j : Nat) (t : TH) (y ra : Nat), ts[j]? = some t → ta[j]? = some y → hp y = some (oT j t ra) → ro G hp ra t.2.2.2.2 ∧ t.2.2.2.2.length ≤ 24) : ad_Cp l y_A_seen b_A_seen 5 rt_A_seen hs_A_seen 8 1 6 G lo hp [.ref x, .int v, .int h9] (fun r => r = q_ans [ad_NSE, ad_IAE] (q_fs f_seen ts v h9)) := by
  intro p e s m below meth c M hts hB hP
  have hx := M.1
  have hb := M.2.1
  have hml := M.2.2.1
  have hown : s.vm.findClass "AuditDraws" = some m.cls := M.2.2.2.1
  have S : CallFix p m c b_A_seen 5 s _ ad_T "AuditDraws" := ⟨hx, hb, hml, hown, hts⟩
  have I : ad_I G lo s hp s.heap [] := ad_I.rf hB hP
  have hl := lv_entry ([.ref x, .int v, .int h9]) (n := 5) (Nat.le_of_ble_eq_true rfl)
  rw [lg_entry_eq]
  generalize (lg_sl ([.ref x, .int v, .int h9]) ++ List.replicate (5 - (lg_sl ([.ref x, .int v, .int h9])).length) Slot.unset).toArray = ls at hl ⊢
  have hl : lv_has ls 5 [(0, .ref x), (1, .int v), (2, .int h9)] := hl
  obtain ⟨t1, t2, t3, t4, htA, -⟩ := id hL
  refine lv_aload_n hx hb d_A_seen_0 rfl (lv_at hl 0 rfl) ?_
  refine lv_iload_n hx hb d_A_seen_1 rfl (lv_at hl 1 rfl) ?_
  refine ad_cP S I (ad_ivV (As := [.int v]) (rest := []) S (ad_recv I hX K_AD) w_374 w_376 sp_A_existing Y_A_existing ⟨by decide, by decide, np_A_existing⟩ rfl d_A_seen_2) (c_A_existing l G lo hp x dA tA lA rA gA sA v ta ts hT hX hL hTT hn) Y_A_existing hl.1 ⟨Nat.le_of_ble_eq_true rfl, Nat.le_of_ble_eq_true rfl⟩ (Nat.le_of_ble_eq_true rfl) (Nat.le_of_ble_eq_true rfl) d_A_seen_2 (fun v9 h9 => ?_) (fun C9 H1 x9 cell h9 h1 h2 h3 h4 h5 => ?_)
  · obtain ⟨j, t, y, ra, hv, ht, hy, hty, hr9⟩ | ⟨-, hr9⟩ := h9
    case inr => cases hr9
    cases hr9
    refine lv_astore_n (lv' := [(3, .ref y), (0, .ref x), (1, .int v), (2, .int h9)]) hx hb d_A_seen_5 rfl hl (by decide) rfl (fun ls hl => ?_)
    refine lv_iload_n hx hb d_A_seen_6 rfl (lv_at hl 3 rfl) ?_
    refine ad_cPg S I (ad_ivS (As := [.int h9]) (rest := []) S Y_A_needHour w_461 w_462 w_1 ⟨by decide, by decide, np_A_needHour⟩ rfl d_A_seen_7) (c_A_needHour l G lo hp h9 hT) Y_A_needHour hl.1 ⟨Nat.le_of_ble_eq_true rfl, Nat.le_of_ble_eq_true rfl⟩ (Nat.le_of_ble_eq_true rfl) (Nat.le_of_ble_eq_true rfl) d_A_seen_7 (fun g7 => ?_) (fun g7 H1 x cell h1 h2 h3 h4 h5 => ?_)
    · refine lv_aload_n hx hb d_A_seen_10 rfl (lv_at hl 0 rfl) ?_
      refine lv_iload_n hx hb d_A_seen_11 rfl (lv_at hl 3 rfl) ?_
      refine ad_cP S I (ad_ivV (As := [.int h9]) (rest := []) S (ad_recv I hty K_Thing) w_494 w_495 w_496 Y_T_lastToldBy ⟨by decide, by decide, np_T_lastToldBy⟩ rfl d_A_seen_12) (c_T_lastToldBy l G lo hp y ra (nI j) t.1 t.2.1 t.2.2.1 t.2.2.2.1 h9 t.2.2.2.2 hty (hro j t y ra ht hy hty).1 (hro j t y ra ht hy hty).2) Y_T_lastToldBy hl.1 ⟨Nat.le_of_ble_eq_true rfl, Nat.le_of_ble_eq_true rfl⟩ (Nat.le_of_ble_eq_true rfl) (Nat.le_of_ble_eq_true rfl) d_A_seen_12 (fun v8 h8 => ?_) (fun C9 H1 x9 cell h8 h1 h2 h3 h4 h5 => ?_)
      · obtain ⟨hb1, hr8⟩ | ⟨b1, yb, hb1, hyb, hr8⟩ := h8
        · cases hr8
          refine lv_astoreN (lv' := [(4, .null), (3, .ref y), (0, .ref x), (1, .int v), (2, .int h9)]) hx hb d_A_seen_15 hl (by decide) rfl (fun ls hl => ?_)
          refine lv_aloadN hx hb d_A_seen_17 (lv_at hl 0 rfl) ?_
          refine lv_ifnonnullN hx hb d_A_seen_19 ?_
          refine lv_iconst (v := (-1)) hx hb d_A_seen_22 (by decide) ?_
          refine lv_goto (tgt := 31) hx hb d_A_seen_23 (by decide) ?_
          exact ad_iretP M rfl (by simp only [q_fs]; rw [sp_at_n hv ht hn]; simp only; rw [if_pos g7, hb1]; rfl) d_A_seen_31
        · cases hr8
          refine lv_astore (lv' := [(4, .ref yb), (3, .ref y), (0, .ref x), (1, .int v), (2, .int h9)]) hx hb d_A_seen_15 hl (by decide) rfl (fun ls hl => ?_)
          refine lv_aload hx hb d_A_seen_17 (lv_at hl 0 rfl) ?_
          refine lv_ifnonnull (tgt := 26) hx hb d_A_seen_19 (by decide) ?_
          refine lv_aload hx hb d_A_seen_26 (lv_at hl 0 rfl) ?_
          refine ad_get S I hyb K_Sight 1 (by decide) w_477 rfl d_A_seen_28 ?_
          exact ad_iretP M rfl (by simp only [q_fs]; rw [sp_at_n hv ht hn]; simp only; rw [if_pos g7, hb1]; rfl) d_A_seen_31
      · rcases h8 with ⟨_, h8⟩ | ⟨_, _, _, _, h8⟩ <;> cases h8
    · exact ad_outP M h1 h2 h3 h4 h5 (by decide) (by decide) (by decide) (by simp only [q_fs]; rw [sp_at_n hv ht hn]; simp only; rw [if_neg g7]; rfl)
  · obtain ⟨_, _, _, _, _, _, _, _, hr9⟩ | ⟨hno, hr9⟩ := h9
    case inl => cases hr9
    cases hr9
    exact ad_outP M h1 h2 h3 h4 h5 (by decide) (by decide) (by decide) (by simp only [q_fs]; rw [sp_at_0 hno hn]; rfl)
