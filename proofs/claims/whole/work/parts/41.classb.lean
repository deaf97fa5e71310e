def sp_kth (p : TH → Bool) : List TH → Nat → Nat → Option Nat
  | [], _, _ => none
  | t :: ts, i, k => if p t then (if k = 0 then some i else sp_kth p ts (i + 1) (k - 1)) else sp_kth p ts (i + 1) k
def sp_ki (o : Option Nat) : Int32 := match o with
  | some i => nI i
  | none => -1
theorem drop_s {α : Type} {ts : List α} {j : Nat} {t : α} (h : ts[j]? = some t) : ts.drop j = t :: ts.drop (j + 1) := by
  obtain ⟨hj, rfl⟩ := List.getElem?_eq_some_iff.mp h
  exact List.drop_eq_getElem_cons hj
theorem kth_s {p : TH → Bool} {ts : List TH} {j k : Nat} {t : TH} (h : ts[j]? = some t) : sp_kth p (ts.drop j) j k = if p t then (if k = 0 then some j else sp_kth p (ts.drop (j + 1)) (j + 1) (k - 1)) else sp_kth p (ts.drop (j + 1)) (j + 1) k := by
  rw [drop_s h]; rfl
def ll (hp : ad_H) (la lt : List Nat) (ts : List TH) : Prop := la.length = lt.length ∧ ∀ (j i : Nat), lt[j]? = some i → ∃ (t : TH) (y ra : Nat), la[j]? = some y ∧ ts[i]? = some t ∧ hp y = some (oT i t ra)
theorem ll.at {hp : ad_H} {la lt : List Nat} {ts : List TH} (h : ll hp la lt ts) {j : Nat} (hj : j < lt.length) : ∃ (i : Nat) (t : TH) (y ra : Nat), lt[j]? = some i ∧ la[j]? = some y ∧ ts[i]? = some t ∧ hp y = some (oT i t ra) := by
  have ht : lt[j]? = some lt[j] := List.getElem?_eq_getElem hj
  obtain ⟨t, y, ra, h1, h2, h3⟩ := h.2 j _ ht
  exact ⟨_, t, y, ra, ht, h1, h2, h3⟩
def sp_lp (ts : List TH) (f : TH → Bool) (i : Nat) : Bool := match ts[i]? with
  | some t => f t
  | none => false
theorem sp_lp_e {ts : List TH} {f : TH → Bool} {i : Nat} {t : TH} (h : ts[i]? = some t) : sp_lp ts f i = f t := by simp [sp_lp, h]
set_option maxHeartbeats 4000000 in
set_option maxRecDepth 100000 in
theorem c_A_drawn (l : Launch) (G : ad_G) (lo : Nat) (hp : ad_H) (x dA tA lA rA gA sA : Nat) (v : Int32) (ts : List TH) (la lt : List Nat)  (hT : l.stackTraces = false) (hX : hp x = some (.inr (4, [.ref dA, .ref tA, .ref lA, .ref rA, .ref gA, .ref sA]))) (hLL : al G hp lA la) (hll : ll hp la lt ts) (hm : lt.length ≤ 64) : ad_Cp l y_A_drawn b_A_drawn 2 rt_A_drawn hs_A_drawn 7 1 6 G lo hp [.ref x, .int v] (fun r => (∃ j i, v = nI j ∧ lt[j]? = some i ∧ r = .inl (some (.int (nI i)))) ∨ (¬ sp_ok lt.length v ∧ r = .inr ad_NSE)) := by
  intro p e s m below meth c M hts hB hP
  have hx := M.1
  have hb := M.2.1
  have hml := M.2.2.1
  have hown : s.vm.findClass "AuditDraws" = some m.cls := M.2.2.2.1
  have S : CallFix p m c b_A_drawn 2 s _ ad_T "AuditDraws" := ⟨hx, hb, hml, hown, hts⟩
  have I : ad_I G lo s hp s.heap [] := ad_I.rf hB hP
  have hl := lv_entry ([.ref x, .int v]) (n := 2) (Nat.le_of_ble_eq_true rfl)
  rw [lg_entry_eq]
  generalize (lg_sl ([.ref x, .int v]) ++ List.replicate (2 - (lg_sl ([.ref x, .int v])).length) Slot.unset).toArray = ls at hl ⊢
  have hl : lv_has ls 2 [(0, .ref x), (1, .int v)] := hl
  obtain ⟨l1, l2, l3, l4, hlA, -⟩ := id hLL
  refine lv_iload_n hx hb d_A_drawn_0 rfl (lv_at hl 1 rfl) ?_
  refine lv_aload_n hx hb d_A_drawn_1 rfl (lv_at hl 0 rfl) ?_
  refine ad_get S I hX K_AD 2 (by decide) w_69 rfl d_A_drawn_2 ?_
  refine ad_cPi S I (ad_ivV (As := []) (rest := [.int v]) S (ad_recv I hlA K_AL) w_171 w_172 w_173 Y_AL_size ⟨by decide, by decide, np_AL_size⟩ rfl d_A_drawn_5) (c_ALsize l G lo hp lA la hLL) Y_AL_size hl.1 ⟨Nat.le_of_ble_eq_true rfl, Nat.le_of_ble_eq_true rfl⟩ (Nat.le_of_ble_eq_true rfl) (Nat.le_of_ble_eq_true rfl) d_A_drawn_5 ?_
  refine ad_top (y := .int (nI lt.length)) (by rw [hll.1]) ?_
  refine ad_cPg S I (ad_ivS (As := [.int v, .int (nI lt.length)]) (rest := []) S Y_A_needBelow w_100 w_101 w_1 ⟨by decide, by decide, np_A_needBelow⟩ rfl d_A_drawn_8) (c_A_needBelow l G lo hp v (nI lt.length) hT) Y_A_needBelow hl.1 ⟨Nat.le_of_ble_eq_true rfl, Nat.le_of_ble_eq_true rfl⟩ (Nat.le_of_ble_eq_true rfl) (Nat.le_of_ble_eq_true rfl) d_A_drawn_8 (fun g8 => ?_) (fun g8 H1 x cell h1 h2 h3 h4 h5 => ?_)
  · obtain ⟨j, hj, rfl⟩ := ad_2 g8.1 g8.2 (by omega)
    obtain ⟨i, t, y, ra, hi, hy, ht, hty⟩ := hll.at hj
    refine lv_aload_n hx hb d_A_drawn_11 rfl (lv_at hl 0 rfl) ?_
    refine ad_get S I hX K_AD 2 (by decide) w_69 rfl d_A_drawn_12 ?_
    refine lv_iload_n hx hb d_A_drawn_15 rfl (lv_at hl 1 rfl) ?_
    refine ad_cPi S I (ad_ivV (As := [.int (nI j)]) (rest := []) S (ad_recv I hlA K_AL) w_308 w_309 w_310 Y_AL_get ⟨by decide, by decide, np_AL_get⟩ rfl d_A_drawn_16) (c_ALget l G lo hp lA la j y hLL hy) Y_AL_get hl.1 ⟨Nat.le_of_ble_eq_true rfl, Nat.le_of_ble_eq_true rfl⟩ (Nat.le_of_ble_eq_true rfl) (Nat.le_of_ble_eq_true rfl) d_A_drawn_16 ?_
    refine va_castE hx hb hown (hts _ w_191) (ad_recv I hty K_Thing) d_A_drawn_19 ?_
    refine ad_get S I hty K_Thing 0 (by decide) w_200 rfl d_A_drawn_22 ?_
    exact ad_iretP M rfl (Or.inl ⟨j, i, rfl, hi, rfl⟩) d_A_drawn_25
  · exact ad_outP M h1 h2 h3 h4 h5 (by decide) (by decide) (by decide) (Or.inr ⟨g8, rfl⟩)
set_option maxHeartbeats 4000000 in
set_option maxRecDepth 100000 in
theorem c_A_report (l : Launch) (G : ad_G) (lo : Nat) (hp : ad_H) (x dA tA lA rA gA sA : Nat) (v k : Int32) (ta : List Nat) (ts : List TH)  (hT : l.stackTraces = false) (hX : hp x = some (.inr (4, [.ref dA, .ref tA, .ref lA, .ref rA, .ref gA, .ref sA]))) (hL : al G hp tA ta) (hTT : tt hp ta ts) (hn : ts.length ≤ 64) : ad_Cp l y_A_report b_A_report 5 rt_A_report hs_A_report 7 1 6 G lo hp [.ref x, .int v, .int k] (fun r => (((¬ v < 0 ∧ v < 4) ∧ 0 ≤ k) ∧ ∃ kk, kk < 2 ^ 31 ∧ k = nI kk ∧ r = .inl (some (.int (sp_ki (sp_kth (fun t => decide (t.2.2.1 = v)) ts 0 kk))))) ∨ (¬ ((¬ v < 0 ∧ v < 4) ∧ 0 ≤ k) ∧ r = .inr ad_NSE)) := by
  intro p e s m below meth c M hts hB hP
  have hx := M.1
  have hb := M.2.1
  have hml := M.2.2.1
  have hown : s.vm.findClass "AuditDraws" = some m.cls := M.2.2.2.1
  have S : CallFix p m c b_A_report 5 s _ ad_T "AuditDraws" := ⟨hx, hb, hml, hown, hts⟩
  have I : ad_I G lo s hp s.heap [] := ad_I.rf hB hP
  have hl := lv_entry ([.ref x, .int v, .int k]) (n := 5) (Nat.le_of_ble_eq_true rfl)
  rw [lg_entry_eq]
  generalize (lg_sl ([.ref x, .int v, .int k]) ++ List.replicate (5 - (lg_sl ([.ref x, .int v, .int k])).length) Slot.unset).toArray = ls at hl ⊢
  have hl : lv_has ls 5 [(0, .ref x), (1, .int v), (2, .int k)] := hl
  obtain ⟨t1, t2, t3, t4, htA, -⟩ := id hL
  refine lv_iload_n hx hb d_A_report_0 rfl (lv_at hl 1 rfl) ?_
  refine lv_iconst (v := 4) hx hb d_A_report_1 (by decide) ?_
  refine ad_cPg S I (ad_ivS (As := [.int v, .int 4]) (rest := []) S Y_A_needBelow w_100 w_101 w_1 ⟨by decide, by decide, np_A_needBelow⟩ rfl d_A_report_2) (c_A_needBelow l G lo hp v 4 hT) Y_A_needBelow hl.1 ⟨Nat.le_of_ble_eq_true rfl, Nat.le_of_ble_eq_true rfl⟩ (Nat.le_of_ble_eq_true rfl) (Nat.le_of_ble_eq_true rfl) d_A_report_2 (fun g2 => ?_) (fun g2 H1 x cell h1 h2 h3 h4 h5 => ?_)
  · refine lv_iload_n hx hb d_A_report_5 rfl (lv_at hl 2 rfl) ?_
    refine ad_cPg S I (ad_ivS (As := [.int k]) (rest := []) S Y_A_needNotNegative w_531 w_532 w_1 ⟨by decide, by decide, np_A_needNotNegative⟩ rfl d_A_report_6) (c_A_needNotNegative l G lo hp k hT) Y_A_needNotNegative hl.1 ⟨Nat.le_of_ble_eq_true rfl, Nat.le_of_ble_eq_true rfl⟩ (Nat.le_of_ble_eq_true rfl) (Nat.le_of_ble_eq_true rfl) d_A_report_6 (fun g6 => ?_) (fun g6 H1 x cell h1 h2 h3 h4 h5 => ?_)
    · obtain ⟨kk, hkk, rfl⟩ := nI_of (Int32.not_lt.mpr g6)
      refine lv_iconst (v := 0) hx hb d_A_report_9 (by decide) ?_
      refine lv_istore_n (lv' := [(3, .int 0), (0, .ref x), (1, .int v), (2, .int (nI kk))]) hx hb d_A_report_10 rfl hl (by decide) rfl (fun ls hl => ?_)
      refine lv_iconst (v := 0) hx hb d_A_report_11 (by decide) ?_
      refine lv_istore (lv' := [(4, .int 0), (3, .int 0), (0, .ref x), (1, .int v), (2, .int (nI kk))]) hx hb d_A_report_12 hl (by decide) rfl (fun ls hl => ?_)
      have loop : ∀ (n : Nat) (j c0 m0 : Nat), (ts.length < j + n ∧ j ≤ ts.length ∧ c0 + m0 = kk ∧ c0 ≤ j ∧ sp_kth (fun t => decide (t.2.2.1 = v)) ts 0 kk = sp_kth (fun t => decide (t.2.2.1 = v)) (ts.drop j) j m0) → ∀ ls : Array Slot, lv_has ls 5 [(0, .ref x), (1, .int v), (2, .int (nI kk)), (3, .int (nI c0)), (4, .int (nI j))] → W p l e (ad_rm 7 1 6) s m ([.ref x, .int v, .int (nI kk)] : List Value).toArray below meth c s.heap [] 0 0 (ad_Zp below (fun r => (((¬ v < 0 ∧ v < 4) ∧ 0 ≤ (nI kk)) ∧ ∃ k2, k2 < 2 ^ 31 ∧ nI kk = nI k2 ∧ r = .inl (some (.int (sp_ki (sp_kth (fun t => decide (t.2.2.1 = v)) ts 0 k2))))) ∨ (¬ ((¬ v < 0 ∧ v < 4) ∧ 0 ≤ (nI kk)) ∧ r = .inr ad_NSE)) s 1 6) (F0 m 14 ls []) := by
        intro n
        induction n with
        | zero => intro j c0 m0 h0 ls hl; exact absurd h0 (by omega)
        | succ n ih =>
          intro j c0 m0 h0 ls hl
          refine lv_iload hx hb d_A_report_14 (lv_at hl 4 rfl) ?_
          refine lv_aload_n hx hb d_A_report_16 rfl (lv_at hl 0 rfl) ?_
          refine ad_get S I hX K_AD 1 (by decide) w_68 rfl d_A_report_17 ?_
          refine ad_cPi S I (ad_ivV (As := []) (rest := [.int (nI j)]) S (ad_recv I htA K_AL) w_171 w_172 w_173 Y_AL_size ⟨by decide, by decide, np_AL_size⟩ rfl d_A_report_20) (c_ALsize l G lo hp tA ta hL) Y_AL_size hl.1 ⟨Nat.le_of_ble_eq_true rfl, Nat.le_of_ble_eq_true rfl⟩ (Nat.le_of_ble_eq_true rfl) (Nat.le_of_ble_eq_true rfl) d_A_report_20 ?_
          refine ad_top (y := .int (nI ts.length)) (by rw [hTT.1]) ?_
          refine lv_icmp_ge (tgt := 62) hx hb d_A_report_23 (by decide) (fun c23 => ?_) (fun c23 => ?_)
          · obtain rfl : j = ts.length := by have := ad_ge (j := j) (n := ts.length) (by omega) (by omega) c23; omega
            refine lv_iconst (v := (-1)) hx hb d_A_report_62 (by decide) ?_
            exact ad_iretP M rfl (Or.inl ⟨⟨g2, g6⟩, kk, hkk, rfl, by rw [h0.2.2.2.2]; simp [sp_kth, sp_ki]⟩) d_A_report_63
          · have hj : j < ts.length := ad_lt (by omega) (by omega) c23
            obtain ⟨t, y, ra, ht, hy, hty⟩ := hTT.at hj
            refine lv_aload_n hx hb d_A_report_26 rfl (lv_at hl 0 rfl) ?_
            refine ad_get S I hX K_AD 1 (by decide) w_68 rfl d_A_report_27 ?_
            refine lv_iload hx hb d_A_report_30 (lv_at hl 4 rfl) ?_
            refine ad_cPi S I (ad_ivV (As := [.int (nI j)]) (rest := []) S (ad_recv I htA K_AL) w_308 w_309 w_310 Y_AL_get ⟨by decide, by decide, np_AL_get⟩ rfl d_A_report_32) (c_ALget l G lo hp tA ta j y hL hy) Y_AL_get hl.1 ⟨Nat.le_of_ble_eq_true rfl, Nat.le_of_ble_eq_true rfl⟩ (Nat.le_of_ble_eq_true rfl) (Nat.le_of_ble_eq_true rfl) d_A_report_32 ?_
            refine va_castE hx hb hown (hts _ w_191) (ad_recv I hty K_Thing) d_A_report_35 ?_
            refine ad_get S I hty K_Thing 4 (by decide) w_208 rfl d_A_report_38 ?_
            refine lv_iload_n hx hb d_A_report_41 rfl (lv_at hl 1 rfl) ?_
            refine lv_icmp_ne (tgt := 56) hx hb d_A_report_42 (by decide) (fun c42 => ?_) (fun c42 => ?_)
            · refine lv_iinc (v := (nI (j + 1))) (lv' := [(4, .int (nI (j + 1))), (0, .ref x), (1, .int v), (2, .int (nI kk)), (3, .int (nI c0))]) hx hb d_A_report_56 hl (k := 4) rfl (nI_1 j) (by decide) rfl (fun ls hl => ?_)
              refine lv_goto (tgt := 14) hx hb d_A_report_59 (by decide) ?_
              exact ih (j + 1) c0 m0 ⟨by omega, by omega, by omega, by omega, by rw [h0.2.2.2.2, kth_s ht]; simp [c42]⟩ ls (lv_sub hl [1, 2, 3, 4, 0] rfl)
            · refine lv_iload_n hx hb d_A_report_45 rfl (lv_at hl 3 rfl) ?_
              refine lv_iload_n hx hb d_A_report_46 rfl (lv_at hl 2 rfl) ?_
              refine lv_icmp_ne (tgt := 53) hx hb d_A_report_47 (by decide) (fun c47 => ?_) (fun c47 => ?_)
              · have hm0 : m0 ≠ 0 := fun hz => c47 (by rw [show kk = c0 by omega])
                refine lv_iinc (v := (nI (c0 + 1))) (lv' := [(3, .int (nI (c0 + 1))), (0, .ref x), (1, .int v), (2, .int (nI kk)), (4, .int (nI j))]) hx hb d_A_report_53 hl (k := 3) rfl (nI_1 c0) (by decide) rfl (fun ls hl => ?_)
                refine lv_iinc (v := (nI (j + 1))) (lv' := [(4, .int (nI (j + 1))), (3, .int (nI (c0 + 1))), (0, .ref x), (1, .int v), (2, .int (nI kk))]) hx hb d_A_report_56 hl (k := 4) rfl (nI_1 j) (by decide) rfl (fun ls hl => ?_)
                refine lv_goto (tgt := 14) hx hb d_A_report_59 (by decide) ?_
                exact ih (j + 1) (c0 + 1) (m0 - 1) ⟨by omega, by omega, by have := hm0; omega, by omega, by rw [h0.2.2.2.2, kth_s ht]; simp [c42, show ¬ m0 = 0 from hm0]⟩ ls (lv_sub hl [2, 3, 4, 1, 0] rfl)
              · refine lv_iload hx hb d_A_report_50 (lv_at hl 4 rfl) ?_
                exact ad_iretP M rfl (Or.inl ⟨⟨g2, g6⟩, kk, hkk, rfl, by rw [h0.2.2.2.2]; rw [kth_s ht]; simp [c42, show m0 = 0 by have := (nI_eq (by omega) (by omega)).mp c47; omega, sp_ki]⟩) d_A_report_52
      exact loop (ts.length + 1) 0 0 kk ⟨by omega, by omega, by omega, by omega, by simp⟩ ls (lv_sub hl [2, 3, 4, 1, 0] rfl)
    · exact ad_outP M h1 h2 h3 h4 h5 (by decide) (by decide) (by decide) (Or.inr ⟨fun h => g6 h.2, rfl⟩)
  · exact ad_outP M h1 h2 h3 h4 h5 (by decide) (by decide) (by decide) (Or.inr ⟨fun h => g2 h.1, rfl⟩)
set_option maxHeartbeats 4000000 in
set_option maxRecDepth 100000 in
theorem c_A_room (l : Launch) (G : ad_G) (lo : Nat) (hp : ad_H) (x dA tA lA rA gA sA : Nat) (v k : Int32) (ta : List Nat) (ts : List TH)  (hT : l.stackTraces = false) (hX : hp x = some (.inr (4, [.ref dA, .ref tA, .ref lA, .ref rA, .ref gA, .ref sA]))) (hL : al G hp tA ta) (hTT : tt hp ta ts) (hn : ts.length ≤ 64) : ad_Cp l y_A_room b_A_room 5 rt_A_room hs_A_room 7 1 6 G lo hp [.ref x, .int v, .int k] (fun r => (((¬ v < 0 ∧ v < 16) ∧ 0 ≤ k) ∧ ∃ kk, kk < 2 ^ 31 ∧ k = nI kk ∧ r = .inl (some (.int (sp_ki (sp_kth (fun t => decide (t.2.1 = v)) ts 0 kk))))) ∨ (¬ ((¬ v < 0 ∧ v < 16) ∧ 0 ≤ k) ∧ r = .inr ad_NSE)) := by
  intro p e s m below meth c M hts hB hP
  have hx := M.1
  have hb := M.2.1
  have hml := M.2.2.1
  have hown : s.vm.findClass "AuditDraws" = some m.cls := M.2.2.2.1
  have S : CallFix p m c b_A_room 5 s _ ad_T "AuditDraws" := ⟨hx, hb, hml, hown, hts⟩
  have I : ad_I G lo s hp s.heap [] := ad_I.rf hB hP
  have hl := lv_entry ([.ref x, .int v, .int k]) (n := 5) (Nat.le_of_ble_eq_true rfl)
  rw [lg_entry_eq]
  generalize (lg_sl ([.ref x, .int v, .int k]) ++ List.replicate (5 - (lg_sl ([.ref x, .int v, .int k])).length) Slot.unset).toArray = ls at hl ⊢
  have hl : lv_has ls 5 [(0, .ref x), (1, .int v), (2, .int k)] := hl
  obtain ⟨t1, t2, t3, t4, htA, -⟩ := id hL
  refine lv_iload_n hx hb d_A_room_0 rfl (lv_at hl 1 rfl) ?_
  refine lv_bipush (v := 16) hx hb d_A_room_1 (by decide) ?_
  refine ad_cPg S I (ad_ivS (As := [.int v, .int 16]) (rest := []) S Y_A_needBelow w_100 w_101 w_1 ⟨by decide, by decide, np_A_needBelow⟩ rfl d_A_room_3) (c_A_needBelow l G lo hp v 16 hT) Y_A_needBelow hl.1 ⟨Nat.le_of_ble_eq_true rfl, Nat.le_of_ble_eq_true rfl⟩ (Nat.le_of_ble_eq_true rfl) (Nat.le_of_ble_eq_true rfl) d_A_room_3 (fun g3 => ?_) (fun g3 H1 x cell h1 h2 h3 h4 h5 => ?_)
  · refine lv_iload_n hx hb d_A_room_6 rfl (lv_at hl 2 rfl) ?_
    refine ad_cPg S I (ad_ivS (As := [.int k]) (rest := []) S Y_A_needNotNegative w_531 w_532 w_1 ⟨by decide, by decide, np_A_needNotNegative⟩ rfl d_A_room_7) (c_A_needNotNegative l G lo hp k hT) Y_A_needNotNegative hl.1 ⟨Nat.le_of_ble_eq_true rfl, Nat.le_of_ble_eq_true rfl⟩ (Nat.le_of_ble_eq_true rfl) (Nat.le_of_ble_eq_true rfl) d_A_room_7 (fun g7 => ?_) (fun g7 H1 x cell h1 h2 h3 h4 h5 => ?_)
    · obtain ⟨kk, hkk, rfl⟩ := nI_of (Int32.not_lt.mpr g7)
      refine lv_iconst (v := 0) hx hb d_A_room_10 (by decide) ?_
      refine lv_istore_n (lv' := [(3, .int 0), (0, .ref x), (1, .int v), (2, .int (nI kk))]) hx hb d_A_room_11 rfl hl (by decide) rfl (fun ls hl => ?_)
      refine lv_iconst (v := 0) hx hb d_A_room_12 (by decide) ?_
      refine lv_istore (lv' := [(4, .int 0), (3, .int 0), (0, .ref x), (1, .int v), (2, .int (nI kk))]) hx hb d_A_room_13 hl (by decide) rfl (fun ls hl => ?_)
      have loop : ∀ (n : Nat) (j c0 m0 : Nat), (ts.length < j + n ∧ j ≤ ts.length ∧ c0 + m0 = kk ∧ c0 ≤ j ∧ sp_kth (fun t => decide (t.2.1 = v)) ts 0 kk = sp_kth (fun t => decide (t.2.1 = v)) (ts.drop j) j m0) → ∀ ls : Array Slot, lv_has ls 5 [(0, .ref x), (1, .int v), (2, .int (nI kk)), (3, .int (nI c0)), (4, .int (nI j))] → W p l e (ad_rm 7 1 6) s m ([.ref x, .int v, .int (nI kk)] : List Value).toArray below meth c s.heap [] 0 0 (ad_Zp below (fun r => (((¬ v < 0 ∧ v < 16) ∧ 0 ≤ (nI kk)) ∧ ∃ k2, k2 < 2 ^ 31 ∧ nI kk = nI k2 ∧ r = .inl (some (.int (sp_ki (sp_kth (fun t => decide (t.2.1 = v)) ts 0 k2))))) ∨ (¬ ((¬ v < 0 ∧ v < 16) ∧ 0 ≤ (nI kk)) ∧ r = .inr ad_NSE)) s 1 6) (F0 m 15 ls []) := by
        intro n
        induction n with
        | zero => intro j c0 m0 h0 ls hl; exact absurd h0 (by omega)
        | succ n ih =>
          intro j c0 m0 h0 ls hl
          refine lv_iload hx hb d_A_room_15 (lv_at hl 4 rfl) ?_
          refine lv_aload_n hx hb d_A_room_17 rfl (lv_at hl 0 rfl) ?_
          refine ad_get S I hX K_AD 1 (by decide) w_68 rfl d_A_room_18 ?_
          refine ad_cPi S I (ad_ivV (As := []) (rest := [.int (nI j)]) S (ad_recv I htA K_AL) w_171 w_172 w_173 Y_AL_size ⟨by decide, by decide, np_AL_size⟩ rfl d_A_room_21) (c_ALsize l G lo hp tA ta hL) Y_AL_size hl.1 ⟨Nat.le_of_ble_eq_true rfl, Nat.le_of_ble_eq_true rfl⟩ (Nat.le_of_ble_eq_true rfl) (Nat.le_of_ble_eq_true rfl) d_A_room_21 ?_
          refine ad_top (y := .int (nI ts.length)) (by rw [hTT.1]) ?_
          refine lv_icmp_ge (tgt := 63) hx hb d_A_room_24 (by decide) (fun c24 => ?_) (fun c24 => ?_)
          · obtain rfl : j = ts.length := by have := ad_ge (j := j) (n := ts.length) (by omega) (by omega) c24; omega
            refine lv_iconst (v := (-1)) hx hb d_A_room_63 (by decide) ?_
            exact ad_iretP M rfl (Or.inl ⟨⟨g3, g7⟩, kk, hkk, rfl, by rw [h0.2.2.2.2]; simp [sp_kth, sp_ki]⟩) d_A_room_64
          · have hj : j < ts.length := ad_lt (by omega) (by omega) c24
            obtain ⟨t, y, ra, ht, hy, hty⟩ := hTT.at hj
            refine lv_aload_n hx hb d_A_room_27 rfl (lv_at hl 0 rfl) ?_
            refine ad_get S I hX K_AD 1 (by decide) w_68 rfl d_A_room_28 ?_
            refine lv_iload hx hb d_A_room_31 (lv_at hl 4 rfl) ?_
            refine ad_cPi S I (ad_ivV (As := [.int (nI j)]) (rest := []) S (ad_recv I htA K_AL) w_308 w_309 w_310 Y_AL_get ⟨by decide, by decide, np_AL_get⟩ rfl d_A_room_33) (c_ALget l G lo hp tA ta j y hL hy) Y_AL_get hl.1 ⟨Nat.le_of_ble_eq_true rfl, Nat.le_of_ble_eq_true rfl⟩ (Nat.le_of_ble_eq_true rfl) (Nat.le_of_ble_eq_true rfl) d_A_room_33 ?_
            refine va_castE hx hb hown (hts _ w_191) (ad_recv I hty K_Thing) d_A_room_36 ?_
            refine ad_get S I hty K_Thing 3 (by decide) w_206 rfl d_A_room_39 ?_
            refine lv_iload_n hx hb d_A_room_42 rfl (lv_at hl 1 rfl) ?_
            refine lv_icmp_ne (tgt := 57) hx hb d_A_room_43 (by decide) (fun c43 => ?_) (fun c43 => ?_)
            · refine lv_iinc (v := (nI (j + 1))) (lv' := [(4, .int (nI (j + 1))), (0, .ref x), (1, .int v), (2, .int (nI kk)), (3, .int (nI c0))]) hx hb d_A_room_57 hl (k := 4) rfl (nI_1 j) (by decide) rfl (fun ls hl => ?_)
              refine lv_goto (tgt := 15) hx hb d_A_room_60 (by decide) ?_
              exact ih (j + 1) c0 m0 ⟨by omega, by omega, by omega, by omega, by rw [h0.2.2.2.2, kth_s ht]; simp [c43]⟩ ls (lv_sub hl [1, 2, 3, 4, 0] rfl)
            · refine lv_iload_n hx hb d_A_room_46 rfl (lv_at hl 3 rfl) ?_
              refine lv_iload_n hx hb d_A_room_47 rfl (lv_at hl 2 rfl) ?_
              refine lv_icmp_ne (tgt := 54) hx hb d_A_room_48 (by decide) (fun c48 => ?_) (fun c48 => ?_)
              · have hm0 : m0 ≠ 0 := fun hz => c48 (by rw [show kk = c0 by omega])
                refine lv_iinc (v := (nI (c0 + 1))) (lv' := [(3, .int (nI (c0 + 1))), (0, .ref x), (1, .int v), (2, .int (nI kk)), (4, .int (nI j))]) hx hb d_A_room_54 hl (k := 3) rfl (nI_1 c0) (by decide) rfl (fun ls hl => ?_)
                refine lv_iinc (v := (nI (j + 1))) (lv' := [(4, .int (nI (j + 1))), (3, .int (nI (c0 + 1))), (0, .ref x), (1, .int v), (2, .int (nI kk))]) hx hb d_A_room_57 hl (k := 4) rfl (nI_1 j) (by decide) rfl (fun ls hl => ?_)
                refine lv_goto (tgt := 15) hx hb d_A_room_60 (by decide) ?_
                exact ih (j + 1) (c0 + 1) (m0 - 1) ⟨by omega, by omega, by have := hm0; omega, by omega, by rw [h0.2.2.2.2, kth_s ht]; simp [c43, show ¬ m0 = 0 from hm0]⟩ ls (lv_sub hl [2, 3, 4, 1, 0] rfl)
              · refine lv_iload hx hb d_A_room_51 (lv_at hl 4 rfl) ?_
                exact ad_iretP M rfl (Or.inl ⟨⟨g3, g7⟩, kk, hkk, rfl, by rw [h0.2.2.2.2]; rw [kth_s ht]; simp [c43, show m0 = 0 by have := (nI_eq (by omega) (by omega)).mp c48; omega, sp_ki]⟩) d_A_room_53
      exact loop (ts.length + 1) 0 0 kk ⟨by omega, by omega, by omega, by omega, by simp⟩ ls (lv_sub hl [2, 3, 4, 1, 0] rfl)
    · exact ad_outP M h1 h2 h3 h4 h5 (by decide) (by decide) (by decide) (Or.inr ⟨fun h => g7 h.2, rfl⟩)
  · exact ad_outP M h1 h2 h3 h4 h5 (by decide) (by decide) (by decide) (Or.inr ⟨fun h => g3 h.1, rfl⟩)
