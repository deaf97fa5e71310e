theorem ad_ne {hp : ad_H} {a b : Nat} {e f : va_E} (h1 : hp a = some e) (h2 : hp b = some f) (h : e ≠ f) : a ≠ b := fun hab => h (Option.some.inj (h1.symm.trans (hab ▸ h2)))
set_option maxHeartbeats 4000000 in
set_option maxRecDepth 100000 in
theorem c_AL_size (l : Launch) (G : ad_G) (lo : Nat) (hp : ad_H) (a arr : Nat) (sz mv : Int32) (h : hp a = some (.inr (3, [.ref arr, .int sz, .int mv]))) : ad_Cp l y_AL_size b_AL_size 1 rt_AL_size hs_AL_size 1 0 0 G lo hp [.ref a] (fun r => r = .inl (some (.int sz))) := by
  intro p e s m below meth c M hts hB hP
  have hx := M.1
  have hb := M.2.1
  have hml := M.2.2.1
  have hown : s.vm.findClass "java/util/ArrayList" = some m.cls := M.2.2.2.1
  have S : CallFix p m c b_AL_size 1 s _ ad_T "java/util/ArrayList" := ⟨hx, hb, hml, hown, hts⟩
  have I : ad_I G lo s hp s.heap [] := ad_I.rf hB hP
  have hl := lv_entry ([.ref a]) (n := 1) (Nat.le_of_ble_eq_true rfl)
  rw [lg_entry_eq]
  generalize (lg_sl ([.ref a]) ++ List.replicate (1 - (lg_sl ([.ref a])).length) Slot.unset).toArray = ls at hl ⊢
  have hl : lv_has ls 1 [(0, .ref a)] := hl
  refine lv_aload_n hx hb d_AL_size_0 rfl (lv_at hl 0 rfl) ?_
  refine ad_get S I h K_AL 1 (by decide) w_56 rfl d_AL_size_1 ?_
  exact ad_iretP M rfl rfl d_AL_size_4
set_option maxHeartbeats 4000000 in
set_option maxRecDepth 100000 in
theorem c_PR_checkIndex (l : Launch) (G : ad_G) (lo : Nat) (hp : ad_H) (i n : Int32) (h1 : ¬ i < 0) (h2 : i < n) : ad_Cp l y_PR_checkIndex b_PR_checkIndex 3 rt_PR_checkIndex hs_PR_checkIndex 1 0 0 G lo hp [.int i, .int n, .null] (fun r => r = .inl (some (.int i))) := by
  intro p e s m below meth c M hts hB hP
  have hx := M.1
  have hb := M.2.1
  have hml := M.2.2.1
  have hown : s.vm.findClass "jdk/internal/util/Preconditions" = some m.cls := M.2.2.2.1
  have S : CallFix p m c b_PR_checkIndex 3 s _ ad_T "jdk/internal/util/Preconditions" := ⟨hx, hb, hml, hown, hts⟩
  have I : ad_I G lo s hp s.heap [] := ad_I.rf hB hP
  have hl := lv_entry ([.int i, .int n, .null]) (n := 3) (Nat.le_of_ble_eq_true rfl)
  rw [lg_entry_eq]
  generalize (lg_sl ([.int i, .int n, .null]) ++ List.replicate (3 - (lg_sl ([.int i, .int n, .null])).length) Slot.unset).toArray = ls at hl ⊢
  have hl : lv_has ls 3 [(0, .int i), (1, .int n), (2, .null)] := hl
  refine lv_iload_n hx hb d_PR_checkIndex_0 rfl (lv_at hl 0 rfl) ?_
  refine lv_if_lt (tgt := 9) hx hb d_PR_checkIndex_1 (by decide) (fun c1 => ?_) (fun c1 => ?_)
  · exact absurd c1 h1
  · refine lv_iload_n hx hb d_PR_checkIndex_4 rfl (lv_at hl 0 rfl) ?_
    refine lv_iload_n hx hb d_PR_checkIndex_5 rfl (lv_at hl 1 rfl) ?_
    refine lv_icmp_lt (tgt := 16) hx hb d_PR_checkIndex_6 (by decide) (fun c6 => ?_) (fun c6 => ?_)
    · refine lv_iload_n hx hb d_PR_checkIndex_16 rfl (lv_at hl 0 rfl) ?_
      exact ad_iretP M rfl rfl d_PR_checkIndex_17
    · exact absurd h2 c6
set_option maxHeartbeats 4000000 in
set_option maxRecDepth 100000 in
theorem c_OB_checkIndex (l : Launch) (G : ad_G) (lo : Nat) (hp : ad_H) (i n : Int32) (h1 : ¬ i < 0) (h2 : i < n) : ad_Cp l y_OB_checkIndex b_OB_checkIndex 2 rt_OB_checkIndex hs_OB_checkIndex 2 0 0 G lo hp [.int i, .int n] (fun r => r = .inl (some (.int i))) := by
  intro p e s m below meth c M hts hB hP
  have hx := M.1
  have hb := M.2.1
  have hml := M.2.2.1
  have hown : s.vm.findClass "java/util/Objects" = some m.cls := M.2.2.2.1
  have S : CallFix p m c b_OB_checkIndex 2 s _ ad_T "java/util/Objects" := ⟨hx, hb, hml, hown, hts⟩
  have I : ad_I G lo s hp s.heap [] := ad_I.rf hB hP
  have hl := lv_entry ([.int i, .int n]) (n := 2) (Nat.le_of_ble_eq_true rfl)
  rw [lg_entry_eq]
  generalize (lg_sl ([.int i, .int n]) ++ List.replicate (2 - (lg_sl ([.int i, .int n])).length) Slot.unset).toArray = ls at hl ⊢
  have hl : lv_has ls 2 [(0, .int i), (1, .int n)] := hl
  refine lv_iload_n hx hb d_OB_checkIndex_0 rfl (lv_at hl 0 rfl) ?_
  refine lv_iload_n hx hb d_OB_checkIndex_1 rfl (lv_at hl 1 rfl) ?_
  refine lv_null hx hb d_OB_checkIndex_2 ?_
  refine ad_cPi S I (ad_ivS (As := [.int i, .int n, .null]) (rest := []) S Y_PR_checkIndex w_315 w_316 w_19 ⟨by decide, by decide, np_PR_checkIndex⟩ rfl d_OB_checkIndex_3) (c_PR_checkIndex l G lo hp i n h1 h2) Y_PR_checkIndex hl.1 ⟨Nat.le_of_ble_eq_true rfl, Nat.le_of_ble_eq_true rfl⟩ (Nat.le_of_ble_eq_true rfl) (Nat.le_of_ble_eq_true rfl) d_OB_checkIndex_3 ?_
  exact ad_iretP M rfl rfl d_OB_checkIndex_6
set_option maxHeartbeats 4000000 in
set_option maxRecDepth 100000 in
theorem c_AL_elementData (l : Launch) (G : ad_G) (lo : Nat) (hp : ad_H) (a arr : Nat) (sz mv i : Int32) (n : Nat) (f : Nat → Option Nat) (y : Nat) (h : hp a = some (.inr (3, [.ref arr, .int sz, .int mv]))) (h2 : hp arr = some (ad_ra G n f)) (hi : vp_in i n) (hf : f i.toNatClampNeg = some y) : ad_Cp l y_AL_elementData b_AL_elementData 2 rt_AL_elementData hs_AL_elementData 1 0 0 G lo hp [.ref a, .int i] (fun r => r = .inl (some (.ref y))) := by
  intro p e s m below meth c M hts hB hP
  have hx := M.1
  have hb := M.2.1
  have hml := M.2.2.1
  have hown : s.vm.findClass "java/util/ArrayList" = some m.cls := M.2.2.2.1
  have S : CallFix p m c b_AL_elementData 2 s _ ad_T "java/util/ArrayList" := ⟨hx, hb, hml, hown, hts⟩
  have I : ad_I G lo s hp s.heap [] := ad_I.rf hB hP
  have hl := lv_entry ([.ref a, .int i]) (n := 2) (Nat.le_of_ble_eq_true rfl)
  rw [lg_entry_eq]
  generalize (lg_sl ([.ref a, .int i]) ++ List.replicate (2 - (lg_sl ([.ref a, .int i])).length) Slot.unset).toArray = ls at hl ⊢
  have hl : lv_has ls 2 [(0, .ref a), (1, .int i)] := hl
  refine lv_aload_n hx hb d_AL_elementData_0 rfl (lv_at hl 0 rfl) ?_
  refine ad_get S I h K_AL 0 (by decide) w_55 rfl d_AL_elementData_1 ?_
  refine lv_iload_n hx hb d_AL_elementData_4 rfl (lv_at hl 1 rfl) ?_
  refine ad_aald S I h2 hi d_AL_elementData_5 ?_
  refine ad_top (show va_rf (f i.toNatClampNeg) = .ref y by rw [hf]; rfl) ?_
  exact ad_aretP M (Or.inl ⟨_, rfl⟩) (Or.inr ⟨_, rfl⟩) rfl d_AL_elementData_6
set_option maxHeartbeats 4000000 in
set_option maxRecDepth 100000 in
theorem c_AL_get (l : Launch) (G : ad_G) (lo : Nat) (hp : ad_H) (a arr : Nat) (sz mv i : Int32) (n : Nat) (f : Nat → Option Nat) (y : Nat) (h : hp a = some (.inr (3, [.ref arr, .int sz, .int mv]))) (h2 : hp arr = some (ad_ra G n f)) (hi : vp_in i n) (h0 : ¬ i < 0) (h1 : i < sz) (hf : f i.toNatClampNeg = some y) : ad_Cp l y_AL_get b_AL_get 2 rt_AL_get hs_AL_get 3 0 0 G lo hp [.ref a, .int i] (fun r => r = .inl (some (.ref y))) := by
  intro p e s m below meth c M hts hB hP
  have hx := M.1
  have hb := M.2.1
  have hml := M.2.2.1
  have hown : s.vm.findClass "java/util/ArrayList" = some m.cls := M.2.2.2.1
  have S : CallFix p m c b_AL_get 2 s _ ad_T "java/util/ArrayList" := ⟨hx, hb, hml, hown, hts⟩
  have I : ad_I G lo s hp s.heap [] := ad_I.rf hB hP
  have hl := lv_entry ([.ref a, .int i]) (n := 2) (Nat.le_of_ble_eq_true rfl)
  rw [lg_entry_eq]
  generalize (lg_sl ([.ref a, .int i]) ++ List.replicate (2 - (lg_sl ([.ref a, .int i])).length) Slot.unset).toArray = ls at hl ⊢
  have hl : lv_has ls 2 [(0, .ref a), (1, .int i)] := hl
  refine lv_iload_n hx hb d_AL_get_0 rfl (lv_at hl 1 rfl) ?_
  refine lv_aload_n hx hb d_AL_get_1 rfl (lv_at hl 0 rfl) ?_
  refine ad_get S I h K_AL 1 (by decide) w_56 rfl d_AL_get_2 ?_
  refine ad_cPi S I (ad_ivS (As := [.int i, .int sz]) (rest := []) S Y_OB_checkIndex w_312 w_313 w_18 ⟨by decide, by decide, np_OB_checkIndex⟩ rfl d_AL_get_5) (c_OB_checkIndex l G lo hp i sz h0 h1) Y_OB_checkIndex hl.1 ⟨Nat.le_of_ble_eq_true rfl, Nat.le_of_ble_eq_true rfl⟩ (Nat.le_of_ble_eq_true rfl) (Nat.le_of_ble_eq_true rfl) d_AL_get_5 ?_
  refine lv_pop hx hb d_AL_get_8 rfl ?_
  refine lv_aload_n hx hb d_AL_get_9 rfl (lv_at hl 0 rfl) ?_
  refine lv_iload_n hx hb d_AL_get_10 rfl (lv_at hl 1 rfl) ?_
  refine ad_cPi S I (ad_ivV (As := [.int i]) (rest := []) S (ad_recv I h K_AL) w_318 w_319 w_320 Y_AL_elementData ⟨by decide, by decide, np_AL_elementData⟩ rfl d_AL_get_11) (c_AL_elementData l G lo hp a arr sz mv i n f y h h2 hi hf) Y_AL_elementData hl.1 ⟨Nat.le_of_ble_eq_true rfl, Nat.le_of_ble_eq_true rfl⟩ (Nat.le_of_ble_eq_true rfl) (Nat.le_of_ble_eq_true rfl) d_AL_get_11 ?_
  exact ad_aretP M (Or.inl ⟨_, rfl⟩) (Or.inr ⟨_, rfl⟩) rfl d_AL_get_14
