abbrev TH : Type := Int32 × Int32 × Int32 × Int32 × List (Int32 × Int32 × Int32)
abbrev oT (i : Nat) (t : TH) (ra : Nat) : va_E := .inr (1, [.int (nI i), .int t.1, .ref ra, .int t.2.1, .int t.2.2.1, .int t.2.2.2.1])
def tt (hp : ad_H) (ta : List Nat) (ts : List TH) : Prop := ta.length = ts.length ∧ ∀ (i : Nat) (t : TH), ts[i]? = some t → ∃ a ra : Nat, ta[i]? = some a ∧ hp a = some (oT i t ra)
theorem tt.at {hp : ad_H} {ta : List Nat} {ts : List TH} (h : tt hp ta ts) {j : Nat} (hj : j < ts.length) : ∃ (t : TH) (a ra : Nat), ts[j]? = some t ∧ ta[j]? = some a ∧ hp a = some (oT j t ra) := by
  have ht : ts[j]? = some ts[j] := List.getElem?_eq_getElem hj
  obtain ⟨a, ra, h1, h2⟩ := h.2 j _ ht
  exact ⟨_, a, ra, ht, h1, h2⟩
theorem cnt_s {α : Type} {p : α → Bool} {ts : List α} {j : Nat} {t : α} (h : ts[j]? = some t) : (ts.take (j + 1)).countP p = (ts.take j).countP p + if p t then 1 else 0 := by
  obtain ⟨hj, rfl⟩ := List.getElem?_eq_some_iff.mp h
  rw [List.take_succ_eq_append_getElem hj, List.countP_append, List.countP_singleton]
set_option maxHeartbeats 4000000 in
set_option maxRecDepth 100000 in
theorem c_A_needListed (l : Launch) (G : ad_G) (lo : Nat) (hp : ad_H) (i : Nat) (t : TH) (a ra : Nat) (hT : l.stackTraces = false) (h : hp a = some (oT i t ra)) : ad_Cp l y_A_needListed b_A_needListed 1 rt_A_needListed hs_A_needListed 6 1 6 G lo hp [.ref a] (fun r => ((t.2.2.1 ≠ -1) ∧ r = .inl none) ∨ (¬ ((t.2.2.1 ≠ -1)) ∧ r = .inr ad_ISE)) := by
  intro p e s m below meth c M hts hB hP
  have hx := M.1
  have hb := M.2.1
  have hml := M.2.2.1
  have hown : s.vm.findClass "AuditDraws" = some m.cls := M.2.2.2.1
  have S : CallFix p m c b_A_needListed 1 s _ ad_T "AuditDraws" := ⟨hx, hb, hml, hown, hts⟩
  have I : ad_I G lo s hp s.heap [] := ad_I.rf hB hP
  have hl := lv_entry ([.ref a]) (n := 1) (Nat.le_of_ble_eq_true rfl)
  rw [lg_entry_eq]
  generalize (lg_sl ([.ref a]) ++ List.replicate (1 - (lg_sl ([.ref a])).length) Slot.unset).toArray = ls at hl ⊢
  have hl : lv_has ls 1 [(0, .ref a)] := hl
  refine lv_aload_n hx hb d_A_needListed_0 rfl (lv_at hl 0 rfl) ?_
  refine ad_get S I h K_Thing 4 (by decide) w_208 rfl d_A_needListed_1 ?_
  refine lv_iconst (v := (-1)) hx hb d_A_needListed_4 (by decide) ?_
  refine lv_icmp_ne (tgt := 18) hx hb d_A_needListed_5 (by decide) (fun c5 => ?_) (fun c5 => ?_)
  · exact ad_vretP M (Or.inl ⟨c5, rfl⟩) d_A_needListed_18
  · obtain ⟨q9, hq9⟩ := hB.2.2.2.2.2.2.1 (195, "not on the latest list") (by decide)
    refine ad_thr S hT (X := "java/lang/IllegalStateException") (Yn := "java/lang/RuntimeException") (names := ["java/lang/Exception"]) (ix := 7) (bx := prog_12_method_2_code) (ic := 52) w_175 w_176 w_11 hq9 (ad_hat hB hts at_ISE) (by decide +kernel) (by decide +kernel) (by decide +kernel) (by decide +kernel) (by decide +kernel) (by decide +kernel) (by decide +kernel) hl.1 d_A_needListed_8 d_A_needListed_11 d_A_needListed_12 d_A_needListed_14 d_A_needListed_17 (by decide) (by decide) (by decide) (by decide) (fun H1 cell h1 h2 h3 h4 h5 => ?_)
    exact ad_outP M h1 h2 h3 h4 h5 (by decide) (by decide) (by decide) (Or.inr ⟨fun h => h c5, rfl⟩)
set_option maxHeartbeats 4000000 in
set_option maxRecDepth 100000 in
theorem c_A_needNumber (l : Launch) (G : ad_G) (lo : Nat) (hp : ad_H) (v : Int64) (hT : l.stackTraces = false) : ad_Cp l y_A_needNumber b_A_needNumber 2 rt_A_needNumber hs_A_needNumber 6 1 6 G lo hp [.long v] (fun r => ((¬ v < 0 ∧ v ≤ 100000000000000000) ∧ r = .inl none) ∨ (¬ ((¬ v < 0 ∧ v ≤ 100000000000000000)) ∧ r = .inr ad_IAE)) := by
  intro p e s m below meth c M hts hB hP
  have hx := M.1
  have hb := M.2.1
  have hml := M.2.2.1
  have hown : s.vm.findClass "AuditDraws" = some m.cls := M.2.2.2.1
  have S : CallFix p m c b_A_needNumber 2 s _ ad_T "AuditDraws" := ⟨hx, hb, hml, hown, hts⟩
  have I : ad_I G lo s hp s.heap [] := ad_I.rf hB hP
  have hl := lv_entry ([.long v]) (n := 2) (Nat.le_of_ble_eq_true rfl)
  rw [lg_entry_eq]
  generalize (lg_sl ([.long v]) ++ List.replicate (2 - (lg_sl ([.long v])).length) Slot.unset).toArray = ls at hl ⊢
  have hl : lv_has ls 2 [(0, .long v)] := hl
  refine lv_lload_n hx hb d_A_needNumber_0 rfl (lv_at hl 0 rfl) ?_
  refine lv_lconst (v := 0) hx hb d_A_needNumber_1 (by decide) ?_
  refine W.lcmp hx hb d_A_needNumber_2 ?_
  refine lv_if_lt (tgt := 14) hx hb d_A_needNumber_3 (by decide) (fun c3 => ?_) (fun c3 => ?_)
  · obtain ⟨q9, hq9⟩ := hB.2.2.2.2.2.2.1 (202, "not 0 .. 10 to the 17th") (by decide)
    refine ad_thr S hT (X := "java/lang/IllegalArgumentException") (Yn := "java/lang/RuntimeException") (names := ["java/lang/Exception"]) (ix := 7) (bx := prog_11_method_2_code) (ic := 68) w_288 w_289 w_17 hq9 (ad_hat hB hts at_IAE) (by decide +kernel) (by decide +kernel) (by decide +kernel) (by decide +kernel) (by decide +kernel) (by decide +kernel) (by decide +kernel) hl.1 d_A_needNumber_14 d_A_needNumber_17 d_A_needNumber_18 d_A_needNumber_20 d_A_needNumber_23 (by decide) (by decide) (by decide) (by decide) (fun H1 cell h1 h2 h3 h4 h5 => ?_)
    exact ad_outP M h1 h2 h3 h4 h5 (by decide) (by decide) (by decide) (Or.inr ⟨fun h => h.1 (ad_lcLt.mp c3), rfl⟩)
  · refine lv_lload_n hx hb d_A_needNumber_6 rfl (lv_at hl 0 rfl) ?_
    refine lv_ldc2 (v := 100000000000000000) hx hb hown (hts _ w_428) d_A_needNumber_7 ?_
    refine W.lcmp hx hb d_A_needNumber_10 ?_
    refine lv_if_le (tgt := 24) hx hb d_A_needNumber_11 (by decide) (fun c11 => ?_) (fun c11 => ?_)
    · exact ad_vretP M (Or.inl ⟨⟨fun h => c3 (ad_lcLt.mpr h), ad_lcLe.mp c11⟩, rfl⟩) d_A_needNumber_24
    · obtain ⟨q9, hq9⟩ := hB.2.2.2.2.2.2.1 (202, "not 0 .. 10 to the 17th") (by decide)
      refine ad_thr S hT (X := "java/lang/IllegalArgumentException") (Yn := "java/lang/RuntimeException") (names := ["java/lang/Exception"]) (ix := 7) (bx := prog_11_method_2_code) (ic := 68) w_288 w_289 w_17 hq9 (ad_hat hB hts at_IAE) (by decide +kernel) (by decide +kernel) (by decide +kernel) (by decide +kernel) (by decide +kernel) (by decide +kernel) (by decide +kernel) hl.1 d_A_needNumber_14 d_A_needNumber_17 d_A_needNumber_18 d_A_needNumber_20 d_A_needNumber_23 (by decide) (by decide) (by decide) (by decide) (fun H1 cell h1 h2 h3 h4 h5 => ?_)
      exact ad_outP M h1 h2 h3 h4 h5 (by decide) (by decide) (by decide) (Or.inr ⟨fun h => c11 (ad_lcLe.mpr h.2), rfl⟩)
def sp_ok (n : Nat) (v : Int32) : Prop := ¬ v < 0 ∧ v < nI n
set_option maxHeartbeats 4000000 in
set_option maxRecDepth 100000 in
theorem c_A_existing (l : Launch) (G : ad_G) (lo : Nat) (hp : ad_H) (x dA tA lA rA gA sA : Nat) (v : Int32) (ta : List Nat) (ts : List TH)  (hT : l.stackTraces = false) (hX : hp x = some (.inr (4, [.ref dA, .ref tA, .ref lA, .ref rA, .ref gA, .ref sA]))) (hL : al G hp tA ta) (hTT : tt hp ta ts) (hn : ts.length ≤ 64) : ad_Cp l y_A_existing b_A_existing 2 rt_A_existing hs_A_existing 7 1 6 G lo hp [.ref x, .int v] (fun r => (∃ j t y ra, v = nI j ∧ ts[j]? = some t ∧ ta[j]? = some y ∧ hp y = some (oT j t ra) ∧ r = .inl (some (.ref y))) ∨ (¬ sp_ok ts.length v ∧ r = .inr ad_NSE)) := by
  intro p e s m below meth c M hts hB hP
  have hx := M.1
  have hb := M.2.1
  have hml := M.2.2.1
  have hown : s.vm.findClass "AuditDraws" = some m.cls := M.2.2.2.1
  have S : CallFix p m c b_A_existing 2 s _ ad_T "AuditDraws" := ⟨hx, hb, hml, hown, hts⟩
  have I : ad_I G lo s hp s.heap [] := ad_I.rf hB hP
  have hl := lv_entry ([.ref x, .int v]) (n := 2) (Nat.le_of_ble_eq_true rfl)
  rw [lg_entry_eq]
  generalize (lg_sl ([.ref x, .int v]) ++ List.replicate (2 - (lg_sl ([.ref x, .int v])).length) Slot.unset).toArray = ls at hl ⊢
  have hl : lv_has ls 2 [(0, .ref x), (1, .int v)] := hl
  obtain ⟨t1, t2, t3, t4, htA, -⟩ := id hL
  refine lv_iload_n hx hb d_A_existing_0 rfl (lv_at hl 1 rfl) ?_
  refine lv_aload_n hx hb d_A_existing_1 rfl (lv_at hl 0 rfl) ?_
  refine ad_get S I hX K_AD 1 (by decide) w_68 rfl d_A_existing_2 ?_
  refine ad_cPi S I (ad_ivV (As := []) (rest := [.int v]) S (ad_recv I htA K_AL) w_171 w_172 w_173 Y_AL_size ⟨by decide, by decide, np_AL_size⟩ rfl d_A_existing_5) (c_ALsize l G lo hp tA ta hL) Y_AL_size hl.1 ⟨Nat.le_of_ble_eq_true rfl, Nat.le_of_ble_eq_true rfl⟩ (Nat.le_of_ble_eq_true rfl) (Nat.le_of_ble_eq_true rfl) d_A_existing_5 ?_
  refine ad_top (y := .int (nI ts.length)) (by rw [hTT.1]) ?_
  refine ad_cPg S I (ad_ivS (As := [.int v, .int (nI ts.length)]) (rest := []) S Y_A_needBelow w_100 w_101 w_1 ⟨by decide, by decide, np_A_needBelow⟩ rfl d_A_existing_8) (c_A_needBelow l G lo hp v (nI ts.length) hT) Y_A_needBelow hl.1 ⟨Nat.le_of_ble_eq_true rfl, Nat.le_of_ble_eq_true rfl⟩ (Nat.le_of_ble_eq_true rfl) (Nat.le_of_ble_eq_true rfl) d_A_existing_8 (fun g8 => ?_) (fun g8 H1 x cell h1 h2 h3 h4 h5 => ?_)
  · obtain ⟨j, hj, rfl⟩ := ad_2 g8.1 g8.2 (by omega)
    obtain ⟨t, y, ra, ht, hy, hty⟩ := hTT.at hj
    refine lv_aload_n hx hb d_A_existing_11 rfl (lv_at hl 0 rfl) ?_
    refine ad_get S I hX K_AD 1 (by decide) w_68 rfl d_A_existing_12 ?_
    refine lv_iload_n hx hb d_A_existing_15 rfl (lv_at hl 1 rfl) ?_
    refine ad_cPi S I (ad_ivV (As := [.int (nI j)]) (rest := []) S (ad_recv I htA K_AL) w_308 w_309 w_310 Y_AL_get ⟨by decide, by decide, np_AL_get⟩ rfl d_A_existing_16) (c_ALget l G lo hp tA ta j y hL hy) Y_AL_get hl.1 ⟨Nat.le_of_ble_eq_true rfl, Nat.le_of_ble_eq_true rfl⟩ (Nat.le_of_ble_eq_true rfl) (Nat.le_of_ble_eq_true rfl) d_A_existing_16 ?_
    refine va_castE hx hb hown (hts _ w_191) (ad_recv I hty K_Thing) d_A_existing_19 ?_
    exact ad_aretP M (Or.inl ⟨_, rfl⟩) (Or.inr ⟨_, rfl⟩) (Or.inl ⟨j, t, y, ra, rfl, ht, hy, hty, rfl⟩) d_A_existing_22
  · exact ad_outP M h1 h2 h3 h4 h5 (by decide) (by decide) (by decide) (Or.inr ⟨g8, rfl⟩)
set_option maxHeartbeats 4000000 in
set_option maxRecDepth 100000 in
theorem c_A_countThings (l : Launch) (G : ad_G) (lo : Nat) (hp : ad_H) (x dA tA lA rA gA sA : Nat) (s0 : Int32) (ta : List Nat) (ts : List TH)  (hX : hp x = some (.inr (4, [.ref dA, .ref tA, .ref lA, .ref rA, .ref gA, .ref sA]))) (hL : al G hp tA ta) (hTT : tt hp ta ts) (hn : ts.length ≤ 64) : ad_Cp l y_A_countThings b_A_countThings 4 rt_A_countThings hs_A_countThings 4 0 0 G lo hp [.ref x, .int s0] (fun r => r = .inl (some (.int (nI (ts.countP (fun t => decide (t.1 = s0))))))) := by
  intro p e s m below meth c M hts hB hP
  have hx := M.1
  have hb := M.2.1
  have hml := M.2.2.1
  have hown : s.vm.findClass "AuditDraws" = some m.cls := M.2.2.2.1
  have S : CallFix p m c b_A_countThings 4 s _ ad_T "AuditDraws" := ⟨hx, hb, hml, hown, hts⟩
  have I : ad_I G lo s hp s.heap [] := ad_I.rf hB hP
  have hl := lv_entry ([.ref x, .int s0]) (n := 4) (Nat.le_of_ble_eq_true rfl)
  rw [lg_entry_eq]
  generalize (lg_sl ([.ref x, .int s0]) ++ List.replicate (4 - (lg_sl ([.ref x, .int s0])).length) Slot.unset).toArray = ls at hl ⊢
  have hl : lv_has ls 4 [(0, .ref x), (1, .int s0)] := hl
  obtain ⟨t1, t2, t3, t4, htA, -⟩ := id hL
  have loop : ∀ (n : Nat) (j : Nat), ts.length < j + n ∧ j ≤ ts.length → ∀ ls : Array Slot, lv_has ls 4 [(0, .ref x), (1, .int s0), (2, .int (nI ((ts.take j).countP (fun t => decide (t.1 = s0))))), (3, .int (nI j))] → W p l e (ad_rm 4 0 0) s m ([.ref x, .int s0] : List Value).toArray below meth c s.heap [] 0 0 (ad_Zp below (fun r => r = .inl (some (.int (nI (ts.countP (fun t => decide (t.1 = s0))))))) s 0 0) (F0 m 4 ls []) := by
    intro n
    induction n with
    | zero => intro j h0 ls hl; exact absurd h0 (by omega)
    | succ n ih =>
      intro j h0 ls hl
      refine lv_iload_n hx hb d_A_countThings_4 rfl (lv_at hl 3 rfl) ?_
      refine lv_aload_n hx hb d_A_countThings_5 rfl (lv_at hl 0 rfl) ?_
      refine ad_get S I hX K_AD 1 (by decide) w_68 rfl d_A_countThings_6 ?_
      refine ad_cPi S I (ad_ivV (As := []) (rest := [.int (nI j)]) S (ad_recv I htA K_AL) w_171 w_172 w_173 Y_AL_size ⟨by decide, by decide, np_AL_size⟩ rfl d_A_countThings_9) (c_ALsize l G lo hp tA ta hL) Y_AL_size hl.1 ⟨Nat.le_of_ble_eq_true rfl, Nat.le_of_ble_eq_true rfl⟩ (Nat.le_of_ble_eq_true rfl) (Nat.le_of_ble_eq_true rfl) d_A_countThings_9 ?_
      refine ad_top (y := .int (nI ts.length)) (by rw [hTT.1]) ?_
      refine lv_icmp_ge (tgt := 42) hx hb d_A_countThings_12 (by decide) (fun c12 => ?_) (fun c12 => ?_)
      · obtain rfl : j = ts.length := by have := ad_ge (j := j) (n := ts.length) (by omega) (by omega) c12; omega
        refine lv_iload_n hx hb d_A_countThings_42 rfl (lv_at hl 2 rfl) ?_
        exact ad_iretP M rfl (by rw [List.take_length]) d_A_countThings_43
      · have hj : j < ts.length := ad_lt (by omega) (by omega) c12
        obtain ⟨t, y, ra, ht, hy, hty⟩ := hTT.at hj
        refine lv_aload_n hx hb d_A_countThings_15 rfl (lv_at hl 0 rfl) ?_
        refine ad_get S I hX K_AD 1 (by decide) w_68 rfl d_A_countThings_16 ?_
        refine lv_iload_n hx hb d_A_countThings_19 rfl (lv_at hl 3 rfl) ?_
        refine ad_cPi S I (ad_ivV (As := [.int (nI j)]) (rest := []) S (ad_recv I htA K_AL) w_308 w_309 w_310 Y_AL_get ⟨by decide, by decide, np_AL_get⟩ rfl d_A_countThings_20) (c_ALget l G lo hp tA ta j y hL hy) Y_AL_get hl.1 ⟨Nat.le_of_ble_eq_true rfl, Nat.le_of_ble_eq_true rfl⟩ (Nat.le_of_ble_eq_true rfl) (Nat.le_of_ble_eq_true rfl) d_A_countThings_20 ?_
        refine va_castE hx hb hown (hts _ w_191) (ad_recv I hty K_Thing) d_A_countThings_23 ?_
        refine ad_get S I hty K_Thing 1 (by decide) w_202 rfl d_A_countThings_26 ?_
        refine lv_iload_n hx hb d_A_countThings_29 rfl (lv_at hl 1 rfl) ?_
        refine lv_icmp_ne (tgt := 36) hx hb d_A_countThings_30 (by decide) (fun c30 => ?_) (fun c30 => ?_)
        · refine lv_iinc (v := (nI (j + 1))) (lv' := [(3, .int (nI (j + 1))), (0, .ref x), (1, .int s0), (2, .int (nI ((ts.take j).countP (fun t => decide (t.1 = s0)))))]) hx hb d_A_countThings_36 hl (k := 3) rfl (nI_1 j) (by decide) rfl (fun ls hl => ?_)
          refine lv_goto (tgt := 4) hx hb d_A_countThings_39 (by decide) ?_
          exact ih (j + 1) (by omega) ls (by rw [cnt_s ht]; simp only [c30, decide_false, decide_true, if_true, if_false, Nat.add_zero, Bool.false_eq_true]; exact lv_sub hl [1, 2, 3, 0] rfl)
        · refine lv_iinc (v := (nI ((ts.take j).countP (fun t => decide (t.1 = s0)) + 1))) (lv' := [(2, .int (nI ((ts.take j).countP (fun t => decide (t.1 = s0)) + 1))), (0, .ref x), (1, .int s0), (3, .int (nI j))]) hx hb d_A_countThings_33 hl (k := 2) rfl (nI_1 _) (by decide) rfl (fun ls hl => ?_)
          refine lv_iinc (v := (nI (j + 1))) (lv' := [(3, .int (nI (j + 1))), (2, .int (nI ((ts.take j).countP (fun t => decide (t.1 = s0)) + 1))), (0, .ref x), (1, .int s0)]) hx hb d_A_countThings_36 hl (k := 3) rfl (nI_1 j) (by decide) rfl (fun ls hl => ?_)
          refine lv_goto (tgt := 4) hx hb d_A_countThings_39 (by decide) ?_
          exact ih (j + 1) (by omega) ls (by rw [cnt_s ht]; simp only [c30, decide_false, decide_true, if_true, if_false, Nat.add_zero, Bool.false_eq_true]; exact lv_sub hl [2, 3, 1, 0] rfl)
  refine lv_iconst (v := 0) hx hb d_A_countThings_0 (by decide) ?_
  refine lv_istore_n (lv' := [(2, .int 0), (0, .ref x), (1, .int s0)]) hx hb d_A_countThings_1 rfl hl (by decide) rfl (fun ls hl => ?_)
  refine lv_iconst (v := 0) hx hb d_A_countThings_2 (by decide) ?_
  refine lv_istore_n (lv' := [(3, .int 0), (2, .int 0), (0, .ref x), (1, .int s0)]) hx hb d_A_countThings_3 rfl hl (by decide) rfl (fun ls hl => ?_)
  exact loop (ts.length + 1) 0 (by omega) ls (lv_sub hl [2, 3, 1, 0] rfl)
