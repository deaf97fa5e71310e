abbrev ad_NSE : String := "java/util/NoSuchElementException"
abbrev ad_ISE : String := "java/lang/IllegalStateException"
abbrev ad_IAE : String := "java/lang/IllegalArgumentException"
set_option maxHeartbeats 4000000 in
set_option maxRecDepth 100000 in
theorem c_A_needBelow (l : Launch) (G : ad_G) (lo : Nat) (hp : ad_H) (v b : Int32) (hT : l.stackTraces = false) : ad_Cp l y_A_needBelow b_A_needBelow 2 rt_A_needBelow hs_A_needBelow 6 1 6 G lo hp [.int v, .int b] (fun r => ((¬ v < 0 ∧ v < b) ∧ r = .inl none) ∨ (¬ ((¬ v < 0 ∧ v < b)) ∧ r = .inr ad_NSE)) := by
  intro p e s m below meth c M hts hB hP
  have hx := M.1
  have hb := M.2.1
  have hml := M.2.2.1
  have hown : s.vm.findClass "AuditDraws" = some m.cls := M.2.2.2.1
  have S : CallFix p m c b_A_needBelow 2 s _ ad_T "AuditDraws" := ⟨hx, hb, hml, hown, hts⟩
  have I : ad_I G lo s hp s.heap [] := ad_I.rf hB hP
  have hl := lv_entry ([.int v, .int b]) (n := 2) (Nat.le_of_ble_eq_true rfl)
  rw [lg_entry_eq]
  generalize (lg_sl ([.int v, .int b]) ++ List.replicate (2 - (lg_sl ([.int v, .int b])).length) Slot.unset).toArray = ls at hl ⊢
  have hl : lv_has ls 2 [(0, .int v), (1, .int b)] := hl
  refine lv_iload_n hx hb d_A_needBelow_0 rfl (lv_at hl 0 rfl) ?_
  refine lv_if_lt (tgt := 9) hx hb d_A_needBelow_1 (by decide) (fun c1 => ?_) (fun c1 => ?_)
  · obtain ⟨q9, hq9⟩ := hB.2.2.2.2.2.2.1 (190, "there is no such number") (by decide)
    refine ad_thr S hT (X := "java/util/NoSuchElementException") (Yn := "java/lang/RuntimeException") (names := ["java/lang/Exception"]) (ix := 13) (bx := prog_25_method_4_code) (ic := 192) w_103 w_104 w_10 hq9 (ad_hat hB hts at_NSE) (by decide +kernel) (by decide +kernel) (by decide +kernel) (by decide +kernel) (by decide +kernel) (by decide +kernel) (by decide +kernel) hl.1 d_A_needBelow_9 d_A_needBelow_12 d_A_needBelow_13 d_A_needBelow_15 d_A_needBelow_18 (by decide) (by decide) (by decide) (by decide) (fun H1 cell h1 h2 h3 h4 h5 => ?_)
    exact ad_outP M h1 h2 h3 h4 h5 (by decide) (by decide) (by decide) (Or.inr ⟨fun h => h.1 c1, rfl⟩)
  · refine lv_iload_n hx hb d_A_needBelow_4 rfl (lv_at hl 0 rfl) ?_
    refine lv_iload_n hx hb d_A_needBelow_5 rfl (lv_at hl 1 rfl) ?_
    refine lv_icmp_lt (tgt := 19) hx hb d_A_needBelow_6 (by decide) (fun c6 => ?_) (fun c6 => ?_)
    · exact ad_vretP M (Or.inl ⟨⟨c1, c6⟩, rfl⟩) d_A_needBelow_19
    · obtain ⟨q9, hq9⟩ := hB.2.2.2.2.2.2.1 (190, "there is no such number") (by decide)
      refine ad_thr S hT (X := "java/util/NoSuchElementException") (Yn := "java/lang/RuntimeException") (names := ["java/lang/Exception"]) (ix := 13) (bx := prog_25_method_4_code) (ic := 192) w_103 w_104 w_10 hq9 (ad_hat hB hts at_NSE) (by decide +kernel) (by decide +kernel) (by decide +kernel) (by decide +kernel) (by decide +kernel) (by decide +kernel) (by decide +kernel) hl.1 d_A_needBelow_9 d_A_needBelow_12 d_A_needBelow_13 d_A_needBelow_15 d_A_needBelow_18 (by decide) (by decide) (by decide) (by decide) (fun H1 cell h1 h2 h3 h4 h5 => ?_)
      exact ad_outP M h1 h2 h3 h4 h5 (by decide) (by decide) (by decide) (Or.inr ⟨fun h => c6 h.2, rfl⟩)
set_option maxHeartbeats 4000000 in
set_option maxRecDepth 100000 in
theorem c_A_needNotNegative (l : Launch) (G : ad_G) (lo : Nat) (hp : ad_H) (v : Int32) (hT : l.stackTraces = false) : ad_Cp l y_A_needNotNegative b_A_needNotNegative 1 rt_A_needNotNegative hs_A_needNotNegative 6 1 6 G lo hp [.int v] (fun r => ((0 ≤ v) ∧ r = .inl none) ∨ (¬ ((0 ≤ v)) ∧ r = .inr ad_NSE)) := by
  intro p e s m below meth c M hts hB hP
  have hx := M.1
  have hb := M.2.1
  have hml := M.2.2.1
  have hown : s.vm.findClass "AuditDraws" = some m.cls := M.2.2.2.1
  have S : CallFix p m c b_A_needNotNegative 1 s _ ad_T "AuditDraws" := ⟨hx, hb, hml, hown, hts⟩
  have I : ad_I G lo s hp s.heap [] := ad_I.rf hB hP
  have hl := lv_entry ([.int v]) (n := 1) (Nat.le_of_ble_eq_true rfl)
  rw [lg_entry_eq]
  generalize (lg_sl ([.int v]) ++ List.replicate (1 - (lg_sl ([.int v])).length) Slot.unset).toArray = ls at hl ⊢
  have hl : lv_has ls 1 [(0, .int v)] := hl
  refine lv_iload_n hx hb d_A_needNotNegative_0 rfl (lv_at hl 0 rfl) ?_
  refine lv_if_ge (tgt := 14) hx hb d_A_needNotNegative_1 (by decide) (fun c1 => ?_) (fun c1 => ?_)
  · exact ad_vretP M (Or.inl ⟨c1, rfl⟩) d_A_needNotNegative_14
  · obtain ⟨q9, hq9⟩ := hB.2.2.2.2.2.2.1 (193, "k is below 0") (by decide)
    refine ad_thr S hT (X := "java/util/NoSuchElementException") (Yn := "java/lang/RuntimeException") (names := ["java/lang/Exception"]) (ix := 13) (bx := prog_25_method_4_code) (ic := 192) w_103 w_104 w_10 hq9 (ad_hat hB hts at_NSE) (by decide +kernel) (by decide +kernel) (by decide +kernel) (by decide +kernel) (by decide +kernel) (by decide +kernel) (by decide +kernel) hl.1 d_A_needNotNegative_4 d_A_needNotNegative_7 d_A_needNotNegative_8 d_A_needNotNegative_10 d_A_needNotNegative_13 (by decide) (by decide) (by decide) (by decide) (fun H1 cell h1 h2 h3 h4 h5 => ?_)
    exact ad_outP M h1 h2 h3 h4 h5 (by decide) (by decide) (by decide) (Or.inr ⟨c1, rfl⟩)
set_option maxHeartbeats 4000000 in
set_option maxRecDepth 100000 in
theorem c_A_needHour (l : Launch) (G : ad_G) (lo : Nat) (hp : ad_H) (v : Int32) (hT : l.stackTraces = false) : ad_Cp l y_A_needHour b_A_needHour 1 rt_A_needHour hs_A_needHour 6 1 6 G lo hp [.int v] (fun r => ((¬ v < 0 ∧ v ≤ 1000000) ∧ r = .inl none) ∨ (¬ ((¬ v < 0 ∧ v ≤ 1000000)) ∧ r = .inr ad_IAE)) := by
  intro p e s m below meth c M hts hB hP
  have hx := M.1
  have hb := M.2.1
  have hml := M.2.2.1
  have hown : s.vm.findClass "AuditDraws" = some m.cls := M.2.2.2.1
  have S : CallFix p m c b_A_needHour 1 s _ ad_T "AuditDraws" := ⟨hx, hb, hml, hown, hts⟩
  have I : ad_I G lo s hp s.heap [] := ad_I.rf hB hP
  have hl := lv_entry ([.int v]) (n := 1) (Nat.le_of_ble_eq_true rfl)
  rw [lg_entry_eq]
  generalize (lg_sl ([.int v]) ++ List.replicate (1 - (lg_sl ([.int v])).length) Slot.unset).toArray = ls at hl ⊢
  have hl : lv_has ls 1 [(0, .int v)] := hl
  refine lv_iload_n hx hb d_A_needHour_0 rfl (lv_at hl 0 rfl) ?_
  refine lv_if_lt (tgt := 10) hx hb d_A_needHour_1 (by decide) (fun c1 => ?_) (fun c1 => ?_)
  · obtain ⟨q9, hq9⟩ := hB.2.2.2.2.2.2.1 (198, "no hour") (by decide)
    refine ad_thr S hT (X := "java/lang/IllegalArgumentException") (Yn := "java/lang/RuntimeException") (names := ["java/lang/Exception"]) (ix := 7) (bx := prog_11_method_2_code) (ic := 68) w_288 w_289 w_17 hq9 (ad_hat hB hts at_IAE) (by decide +kernel) (by decide +kernel) (by decide +kernel) (by decide +kernel) (by decide +kernel) (by decide +kernel) (by decide +kernel) hl.1 d_A_needHour_10 d_A_needHour_13 d_A_needHour_14 d_A_needHour_16 d_A_needHour_19 (by decide) (by decide) (by decide) (by decide) (fun H1 cell h1 h2 h3 h4 h5 => ?_)
    exact ad_outP M h1 h2 h3 h4 h5 (by decide) (by decide) (by decide) (Or.inr ⟨fun h => h.1 c1, rfl⟩)
  · refine lv_iload_n hx hb d_A_needHour_4 rfl (lv_at hl 0 rfl) ?_
    refine lv_ldc (v := 1000000) hx hb hown (hts _ w_464) d_A_needHour_5 ?_
    refine lv_icmp_le (tgt := 20) hx hb d_A_needHour_7 (by decide) (fun c7 => ?_) (fun c7 => ?_)
    · exact ad_vretP M (Or.inl ⟨⟨c1, c7⟩, rfl⟩) d_A_needHour_20
    · obtain ⟨q9, hq9⟩ := hB.2.2.2.2.2.2.1 (198, "no hour") (by decide)
      refine ad_thr S hT (X := "java/lang/IllegalArgumentException") (Yn := "java/lang/RuntimeException") (names := ["java/lang/Exception"]) (ix := 7) (bx := prog_11_method_2_code) (ic := 68) w_288 w_289 w_17 hq9 (ad_hat hB hts at_IAE) (by decide +kernel) (by decide +kernel) (by decide +kernel) (by decide +kernel) (by decide +kernel) (by decide +kernel) (by decide +kernel) hl.1 d_A_needHour_10 d_A_needHour_13 d_A_needHour_14 d_A_needHour_16 d_A_needHour_19 (by decide) (by decide) (by decide) (by decide) (fun H1 cell h1 h2 h3 h4 h5 => ?_)
      exact ad_outP M h1 h2 h3 h4 h5 (by decide) (by decide) (by decide) (Or.inr ⟨fun h => c7 h.2, rfl⟩)
