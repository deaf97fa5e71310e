set_option maxHeartbeats 4000000 in
set_option maxRecDepth 100000 in
theorem c_AL_add_in (l : Launch) (G : ad_G) (lo : Nat) (hp : ad_H) (a arr cp n : Nat) (f : Nat → Option Nat) (mv : Int32) (v : Nat) (vs : List Value) (ci : Nat) (C : String) (T : u_T) (N : Nat) (ty0 : Nat → FieldType) (h : hp a = some (.inr (3, [.ref arr, .int (nI n), .int mv]))) (h2 : hp arr = some (ad_ra G cp f)) (hv : hp v = some (.inr (ci, vs))) (hn : n < cp) (hc : cp ≤ 100) (hci : ci ≠ 3) (K : ad_K ci C T N ty0) (hca : Cond.castable C "java/lang/Object" ∈ ad_T) : ad_Ct l y_AL_add b_AL_add 2 rt_AL_add hs_AL_add 7 1 100 G lo hp [.ref a, .ref v] (fun r hp' => r = .inl (some (.int 1)) ∧ hp' arr = some (ad_ra G cp (va_up f n (some v))) ∧ hp' a = some (.inr (3, [.ref arr, .int (nI (n + 1)), .int (mv + 1)])) ∧ ∀ z, z ≠ arr → z ≠ a → hp' z = hp z) := by
  intro p e s m below meth c M hts hB hP
  have hx := M.1
  have hb := M.2.1
  have hml := M.2.2.1
  have hown : s.vm.findClass "java/util/ArrayList" = some m.cls := M.2.2.2.1
  have S : CallFix p m c b_AL_add 2 s _ ad_T "java/util/ArrayList" := ⟨hx, hb, hml, hown, hts⟩
  have I : ad_I G lo s hp s.heap [] := ad_I.rf hB hP
  have hl := lv_entry ([.ref a, .ref v]) (n := 2) (Nat.le_of_ble_eq_true rfl)
  rw [lg_entry_eq]
  generalize (lg_sl ([.ref a, .ref v]) ++ List.replicate (2 - (lg_sl ([.ref a, .ref v])).length) Slot.unset).toArray = ls at hl ⊢
  have hl : lv_has ls 2 [(0, .ref a), (1, .ref v)] := hl
  refine lv_aload_n hx hb d_AL_add_0 rfl (lv_at hl 0 rfl) ?_
  refine lv_dup hx hb d_AL_add_1 rfl ?_
  refine ad_getU S I h K_AL 2 (by decide) w_58 w_sf rfl d_AL_add_2 ?_
  refine lv_iconst (v := 1) hx hb d_AL_add_5 (by decide) ?_
  refine lv_iadd hx hb d_AL_add_6 ?_
  refine ad_putU S I h K_AL 2 (by decide) w_58 w_sf rfl rfl rfl (by simp) d_AL_add_7 (fun H1 locs1 I => ?_)
  obtain ⟨hp1, ehp1⟩ : ∃ z : ad_H, z = ad_up hp a (.inr (3, [.ref arr, .int (nI n), .int (mv + 1)])) := ⟨_, rfl⟩
  have I : ad_I G lo s hp1 H1 locs1 := by rw [ehp1]; exact I
  have fhp1_a : hp1 a = some (.inr (3, [.ref arr, .int (nI n), .int (mv + 1)])) := by rw [ehp1]; exact ad_up_s _ _ _
  have fhp1_v := (show hp1 v = hp v by rw [ehp1]; exact ad_up_n _ ((ad_ne hv h (by simp [hci])))).trans hv
  have fhp1_arr := (show hp1 arr = hp arr by rw [ehp1]; exact ad_up_n _ (ad_ne h2 h (by simp))).trans h2
  refine lv_aload_n hx hb d_AL_add_10 rfl (lv_at hl 0 rfl) ?_
  refine lv_aload_n hx hb d_AL_add_11 rfl (lv_at hl 1 rfl) ?_
  refine lv_aload_n hx hb d_AL_add_12 rfl (lv_at hl 0 rfl) ?_
  refine ad_get S I fhp1_a K_AL 0 (by decide) w_55 rfl d_AL_add_13 ?_
  refine lv_aload_n hx hb d_AL_add_16 rfl (lv_at hl 0 rfl) ?_
  refine ad_get S I fhp1_a K_AL 1 (by decide) w_56 rfl d_AL_add_17 ?_
  refine ad_cZi S I (ad_ivV (As := [.ref v, .ref arr, .int (nI n)]) (rest := []) S (ad_recv I fhp1_a K_AL) w_228 w_230 sp_AL_add3 Y_AL_add3 ⟨by decide, by decide, np_AL_add3⟩ rfl d_AL_add_20) (c_AL_add3_in l G lo hp1 a arr cp n f (mv + 1) v vs ci C T N ty0 fhp1_a fhp1_arr fhp1_v hn hc (ad_ne hv h (by simp [hci])) K hca) Y_AL_add3 hl.1 ⟨Nat.le_of_ble_eq_true rfl, Nat.le_of_ble_eq_true rfl⟩ (Nat.le_of_ble_eq_true rfl) (Nat.le_of_ble_eq_true rfl) d_AL_add_20 (fun hp2 H1 locs1 hA I => ?_)
  obtain ⟨u2_0, u2_1, k2⟩ := hA
  have fhp2_v := (k2 v (ad_ne fhp1_v fhp1_arr (by simp)) ((ad_ne hv h (by simp [hci])))).trans fhp1_v
  refine lv_iconst (v := 1) hx hb d_AL_add_23 (by decide) ?_
  exact ad_iret M I rfl (by omega) (by omega) (⟨rfl, u2_0, u2_1, fun z h1 h2 => (k2 z h1 h2).trans (by rw [ehp1]; exact ad_up_n _ h2)⟩) d_AL_add_24
set_option maxHeartbeats 4000000 in
set_option maxRecDepth 100000 in
theorem c_AL_add_first (l : Launch) (G : ad_G) (lo : Nat) (hp : ad_H) (a : Nat) (mv : Int32) (v : Nat) (vs : List Value) (ci : Nat) (C : String) (T : u_T) (N : Nat) (ty0 : Nat → FieldType) (h : hp a = some (.inr (3, [.ref (G.2.2 0), .int (nI 0), .int mv]))) (hv : hp v = some (.inr (ci, vs))) (hci : ci ≠ 3) (K : ad_K ci C T N ty0) (hca : Cond.castable C "java/lang/Object" ∈ ad_T) : ad_Ct l y_AL_add b_AL_add 2 rt_AL_add hs_AL_add 7 1 100 G lo hp [.ref a, .ref v] (fun r hp' => r = .inl (some (.int 1)) ∧ ∃ q : Nat, hp q = none ∧ hp' q = some (ad_ra G 10 (va_up (fun _ => none) 0 (some v))) ∧ hp' a = some (.inr (3, [.ref q, .int (nI (0 + 1)), .int (mv + 1)])) ∧ ∀ z, z ≠ q → z ≠ a → hp' z = hp z) := by
  intro p e s m below meth c M hts hB hP
  have hx := M.1
  have hb := M.2.1
  have hml := M.2.2.1
  have hown : s.vm.findClass "java/util/ArrayList" = some m.cls := M.2.2.2.1
  have S : CallFix p m c b_AL_add 2 s _ ad_T "java/util/ArrayList" := ⟨hx, hb, hml, hown, hts⟩
  have I : ad_I G lo s hp s.heap [] := ad_I.rf hB hP
  have hl := lv_entry ([.ref a, .ref v]) (n := 2) (Nat.le_of_ble_eq_true rfl)
  rw [lg_entry_eq]
  generalize (lg_sl ([.ref a, .ref v]) ++ List.replicate (2 - (lg_sl ([.ref a, .ref v])).length) Slot.unset).toArray = ls at hl ⊢
  have hl : lv_has ls 2 [(0, .ref a), (1, .ref v)] := hl
  refine lv_aload_n hx hb d_AL_add_0 rfl (lv_at hl 0 rfl) ?_
  refine lv_dup hx hb d_AL_add_1 rfl ?_
  refine ad_getU S I h K_AL 2 (by decide) w_58 w_sf rfl d_AL_add_2 ?_
  refine lv_iconst (v := 1) hx hb d_AL_add_5 (by decide) ?_
  refine lv_iadd hx hb d_AL_add_6 ?_
  refine ad_putU S I h K_AL 2 (by decide) w_58 w_sf rfl rfl rfl (by simp) d_AL_add_7 (fun H1 locs1 I => ?_)
  obtain ⟨hp1, ehp1⟩ : ∃ z : ad_H, z = ad_up hp a (.inr (3, [.ref (G.2.2 0), .int (nI 0), .int (mv + 1)])) := ⟨_, rfl⟩
  have I : ad_I G lo s hp1 H1 locs1 := by rw [ehp1]; exact I
  have fhp1_a : hp1 a = some (.inr (3, [.ref (G.2.2 0), .int (nI 0), .int (mv + 1)])) := by rw [ehp1]; exact ad_up_s _ _ _
  have fhp1_v := (show hp1 v = hp v by rw [ehp1]; exact ad_up_n _ ((ad_ne hv h (by simp [hci])))).trans hv
  refine lv_aload_n hx hb d_AL_add_10 rfl (lv_at hl 0 rfl) ?_
  refine lv_aload_n hx hb d_AL_add_11 rfl (lv_at hl 1 rfl) ?_
  refine lv_aload_n hx hb d_AL_add_12 rfl (lv_at hl 0 rfl) ?_
  refine ad_get S I fhp1_a K_AL 0 (by decide) w_55 rfl d_AL_add_13 ?_
  refine lv_aload_n hx hb d_AL_add_16 rfl (lv_at hl 0 rfl) ?_
  refine ad_get S I fhp1_a K_AL 1 (by decide) w_56 rfl d_AL_add_17 ?_
  refine ad_cZi S I (ad_ivV (As := [.ref v, .ref (G.2.2 0), .int (nI 0)]) (rest := []) S (ad_recv I fhp1_a K_AL) w_228 w_230 sp_AL_add3 Y_AL_add3 ⟨by decide, by decide, np_AL_add3⟩ rfl d_AL_add_20) (c_AL_add3_first l G lo hp1 a (mv + 1) v vs ci C T N ty0 fhp1_a fhp1_v (ad_ne hv h (by simp [hci])) K hca) Y_AL_add3 hl.1 ⟨Nat.le_of_ble_eq_true rfl, Nat.le_of_ble_eq_true rfl⟩ (Nat.le_of_ble_eq_true rfl) (Nat.le_of_ble_eq_true rfl) d_AL_add_20 (fun hp2 H1 locs1 hA I => ?_)
  obtain ⟨q2, n2, u2_0, u2_1, k2⟩ := hA
  have ne_v_q2 : v ≠ q2 := ad_nn n2 fhp1_v
  have fhp2_v := (k2 v ne_v_q2 ((ad_ne hv h (by simp [hci])))).trans fhp1_v
  refine lv_iconst (v := 1) hx hb d_AL_add_23 (by decide) ?_
  exact ad_iret M I rfl (by omega) (by omega) (⟨rfl, q2, (show hp q2 = hp1 q2 by rw [ehp1]; exact (ad_up_n _ (fun hh => by rw [hh] at n2; rw [fhp1_a] at n2; cases n2)).symm).trans n2, u2_0, u2_1, fun z h1 h2 => (k2 z h1 h2).trans (by rw [ehp1]; exact ad_up_n _ h2)⟩) d_AL_add_24
set_option maxHeartbeats 4000000 in
set_option maxRecDepth 100000 in
theorem c_AL_add_full (l : Launch) (G : ad_G) (lo : Nat) (hp : ad_H) (a arr cp : Nat) (f : Nat → Option Nat) (mv : Int32) (v : Nat) (vs : List Value) (ci : Nat) (C : String) (T : u_T) (N : Nat) (ty0 : Nat → FieldType) (h : hp a = some (.inr (3, [.ref arr, .int (nI cp), .int mv]))) (h2 : hp arr = some (ad_ra G cp f)) (hc2 : 2 ≤ cp) (hc : cp ≤ 66) (K : ad_K ci C T N ty0) (hca : Cond.castable C "java/lang/Object" ∈ ad_T) (hel : ∀ i, i < cp → ∀ y, f i = some y → ∃ vs, hp y = some (.inr (ci, vs))) (hv : hp v = some (.inr (ci, vs))) (hci : ci ≠ 3) : ad_Ct l y_AL_add b_AL_add 2 rt_AL_add hs_AL_add 7 1 100 G lo hp [.ref a, .ref v] (fun r hp' => r = .inl (some (.int 1)) ∧ ∃ q : Nat, hp q = none ∧ hp' q = some (ad_ra G (cp + cp / 2) (va_up (va_cpy f (fun _ => none) 0 0 cp) cp (some v))) ∧ hp' a = some (.inr (3, [.ref q, .int (nI (cp + 1)), .int (mv + 1)])) ∧ ∀ z, z ≠ q → z ≠ a → hp' z = hp z) := by
  intro p e s m below meth c M hts hB hP
  have hx := M.1
  have hb := M.2.1
  have hml := M.2.2.1
  have hown : s.vm.findClass "java/util/ArrayList" = some m.cls := M.2.2.2.1
  have S : CallFix p m c b_AL_add 2 s _ ad_T "java/util/ArrayList" := ⟨hx, hb, hml, hown, hts⟩
  have I : ad_I G lo s hp s.heap [] := ad_I.rf hB hP
  have hl := lv_entry ([.ref a, .ref v]) (n := 2) (Nat.le_of_ble_eq_true rfl)
  rw [lg_entry_eq]
  generalize (lg_sl ([.ref a, .ref v]) ++ List.replicate (2 - (lg_sl ([.ref a, .ref v])).length) Slot.unset).toArray = ls at hl ⊢
  have hl : lv_has ls 2 [(0, .ref a), (1, .ref v)] := hl
  refine lv_aload_n hx hb d_AL_add_0 rfl (lv_at hl 0 rfl) ?_
  refine lv_dup hx hb d_AL_add_1 rfl ?_
  refine ad_getU S I h K_AL 2 (by decide) w_58 w_sf rfl d_AL_add_2 ?_
  refine lv_iconst (v := 1) hx hb d_AL_add_5 (by decide) ?_
  refine lv_iadd hx hb d_AL_add_6 ?_
  refine ad_putU S I h K_AL 2 (by decide) w_58 w_sf rfl rfl rfl (by simp) d_AL_add_7 (fun H1 locs1 I => ?_)
  obtain ⟨hp1, ehp1⟩ : ∃ z : ad_H, z = ad_up hp a (.inr (3, [.ref arr, .int (nI cp), .int (mv + 1)])) := ⟨_, rfl⟩
  have I : ad_I G lo s hp1 H1 locs1 := by rw [ehp1]; exact I
  have fhp1_a : hp1 a = some (.inr (3, [.ref arr, .int (nI cp), .int (mv + 1)])) := by rw [ehp1]; exact ad_up_s _ _ _
  have fhp1_v := (show hp1 v = hp v by rw [ehp1]; exact ad_up_n _ ((ad_ne hv h (by simp [hci])))).trans hv
  have fhp1_arr := (show hp1 arr = hp arr by rw [ehp1]; exact ad_up_n _ (ad_ne h2 h (by simp))).trans h2
  refine lv_aload_n hx hb d_AL_add_10 rfl (lv_at hl 0 rfl) ?_
  refine lv_aload_n hx hb d_AL_add_11 rfl (lv_at hl 1 rfl) ?_
  refine lv_aload_n hx hb d_AL_add_12 rfl (lv_at hl 0 rfl) ?_
  refine ad_get S I fhp1_a K_AL 0 (by decide) w_55 rfl d_AL_add_13 ?_
  refine lv_aload_n hx hb d_AL_add_16 rfl (lv_at hl 0 rfl) ?_
  refine ad_get S I fhp1_a K_AL 1 (by decide) w_56 rfl d_AL_add_17 ?_
  refine ad_cZi S I (ad_ivV (As := [.ref v, .ref arr, .int (nI cp)]) (rest := []) S (ad_recv I fhp1_a K_AL) w_228 w_230 sp_AL_add3 Y_AL_add3 ⟨by decide, by decide, np_AL_add3⟩ rfl d_AL_add_20) (c_AL_add3_full l G lo hp1 a arr cp f (mv + 1) v vs ci C T N ty0 fhp1_a fhp1_arr hc2 hc K hca (fun i hi y hy => by obtain ⟨ws, hw⟩ := hel i hi y hy; exact ⟨ws, (show hp1 y = hp y by rw [ehp1]; exact ad_up_n _ (ad_ne hw h (by simp [hci]))).trans hw⟩) fhp1_v (ad_ne hv h (by simp [hci]))) Y_AL_add3 hl.1 ⟨Nat.le_of_ble_eq_true rfl, Nat.le_of_ble_eq_true rfl⟩ (Nat.le_of_ble_eq_true rfl) (Nat.le_of_ble_eq_true rfl) d_AL_add_20 (fun hp2 H1 locs1 hA I => ?_)
  obtain ⟨q2, n2, u2_0, u2_1, k2⟩ := hA
  have ne_v_q2 : v ≠ q2 := ad_nn n2 fhp1_v
  have fhp2_v := (k2 v ne_v_q2 ((ad_ne hv h (by simp [hci])))).trans fhp1_v
  have ne_arr_q2 : arr ≠ q2 := ad_nn n2 fhp1_arr
  have fhp2_arr := (k2 arr ne_arr_q2 (ad_ne fhp1_arr fhp1_a (by simp))).trans fhp1_arr
  refine lv_iconst (v := 1) hx hb d_AL_add_23 (by decide) ?_
  exact ad_iret M I rfl (by omega) (by omega) (⟨rfl, q2, (show hp q2 = hp1 q2 by rw [ehp1]; exact (ad_up_n _ (fun hh => by rw [hh] at n2; rw [fhp1_a] at n2; cases n2)).symm).trans n2, u2_0, u2_1, fun z h1 h2 => (k2 z h1 h2).trans (by rw [ehp1]; exact ad_up_n _ h2)⟩) d_AL_add_24
set_option maxHeartbeats 4000000 in
set_option maxRecDepth 100000 in
theorem c_AL_set (l : Launch) (G : ad_G) (lo : Nat) (hp : ad_H) (a arr : Nat) (sz mv : Int32) (k n : Nat) (f : Nat → Option Nat) (y : Nat) (v : Nat) (vs : List Value) (ci : Nat) (C : String) (T : u_T) (N : Nat) (ty0 : Nat → FieldType) (h : hp a = some (.inr (3, [.ref arr, .int sz, .int mv]))) (h2 : hp arr = some (ad_ra G n f)) (hk : k < n) (hn : n ≤ 100) (h1 : nI k < sz) (hf : f k = some y) (hv : hp v = some (.inr (ci, vs))) (K : ad_K ci C T N ty0) (hca : Cond.castable C "java/lang/Object" ∈ ad_T) : ad_Ct l y_AL_set b_AL_set 4 rt_AL_set hs_AL_set 3 0 0 G lo hp [.ref a, .int (nI k), .ref v] (fun r hp' => r = .inl (some (.ref y)) ∧ hp' arr = some (ad_ra G n (va_up f k (some v))) ∧ ∀ z, z ≠ arr → hp' z = hp z) := by
  intro p e s m below meth c M hts hB hP
  have hx := M.1
  have hb := M.2.1
  have hml := M.2.2.1
  have hown : s.vm.findClass "java/util/ArrayList" = some m.cls := M.2.2.2.1
  have S : CallFix p m c b_AL_set 4 s _ ad_T "java/util/ArrayList" := ⟨hx, hb, hml, hown, hts⟩
  have I : ad_I G lo s hp s.heap [] := ad_I.rf hB hP
  have hl := lv_entry ([.ref a, .int (nI k), .ref v]) (n := 4) (Nat.le_of_ble_eq_true rfl)
  rw [lg_entry_eq]
  generalize (lg_sl ([.ref a, .int (nI k), .ref v]) ++ List.replicate (4 - (lg_sl ([.ref a, .int (nI k), .ref v])).length) Slot.unset).toArray = ls at hl ⊢
  have hl : lv_has ls 4 [(0, .ref a), (1, .int (nI k)), (2, .ref v)] := hl
  have hi : vp_in (nI k) n := vp_in_nI hk (by omega)
  have hcl : (nI k).toNatClampNeg = k := nI_clamp (by omega)
  have hf2 : f (nI k).toNatClampNeg = some y := by rw [hcl]; exact hf
  refine lv_iload_n hx hb d_AL_set_0 rfl (lv_at hl 1 rfl) ?_
  refine lv_aload_n hx hb d_AL_set_1 rfl (lv_at hl 0 rfl) ?_
  refine ad_get S I h K_AL 1 (by decide) w_56 rfl d_AL_set_2 ?_
  refine ad_cPi S I (ad_ivS (As := [.int (nI k), .int sz]) (rest := []) S Y_OB_checkIndex w_312 w_313 w_18 ⟨by decide, by decide, np_OB_checkIndex⟩ rfl d_AL_set_5) (c_OB_checkIndex l G lo hp (nI k) sz (nI_pos (by omega)) h1) Y_OB_checkIndex hl.1 ⟨Nat.le_of_ble_eq_true rfl, Nat.le_of_ble_eq_true rfl⟩ (Nat.le_of_ble_eq_true rfl) (Nat.le_of_ble_eq_true rfl) d_AL_set_5 ?_
  refine lv_pop hx hb d_AL_set_8 rfl ?_
  refine lv_aload_n hx hb d_AL_set_9 rfl (lv_at hl 0 rfl) ?_
  refine lv_iload_n hx hb d_AL_set_10 rfl (lv_at hl 1 rfl) ?_
  refine ad_cPi S I (ad_ivV (As := [.int (nI k)]) (rest := []) S (ad_recv I h K_AL) w_318 w_319 w_320 Y_AL_elementData ⟨by decide, by decide, np_AL_elementData⟩ rfl d_AL_set_11) (c_AL_elementData l G lo hp a arr sz mv (nI k) n f y h h2 hi hf2) Y_AL_elementData hl.1 ⟨Nat.le_of_ble_eq_true rfl, Nat.le_of_ble_eq_true rfl⟩ (Nat.le_of_ble_eq_true rfl) (Nat.le_of_ble_eq_true rfl) d_AL_set_11 ?_
  refine lv_astore_n (lv' := [(3, .ref y), (0, .ref a), (1, .int (nI k)), (2, .ref v)]) hx hb d_AL_set_14 rfl hl (by decide) rfl (fun ls hl => ?_)
  refine lv_aload_n hx hb d_AL_set_15 rfl (lv_at hl 1 rfl) ?_
  refine ad_get S I h K_AL 0 (by decide) w_55 rfl d_AL_set_16 ?_
  refine lv_iload_n hx hb d_AL_set_19 rfl (lv_at hl 2 rfl) ?_
  refine lv_aload_n hx hb d_AL_set_20 rfl (lv_at hl 3 rfl) ?_
  refine ad_aast S I h2 hv K hca hi d_AL_set_21 (fun H1 locs1 I => ?_)
  rw [show (nI k).toNatClampNeg = k from nI_clamp (by omega)] at I
  obtain ⟨hp1, ehp1⟩ : ∃ z : ad_H, z = ad_up hp arr (ad_ra G n (va_up f k (some v))) := ⟨_, rfl⟩
  have I : ad_I G lo s hp1 H1 locs1 := by rw [ehp1]; exact I
  have fhp1_a := (show hp1 a = hp a by rw [ehp1]; exact ad_up_n _ (ad_ne h h2 (by simp))).trans h
  have fhp1_arr : hp1 arr = some (ad_ra G n (va_up f k (some v))) := by rw [ehp1]; exact ad_up_s _ _ _
  refine lv_aload_n hx hb d_AL_set_22 rfl (lv_at hl 0 rfl) ?_
  exact ad_aret M I (Or.inl ⟨_, rfl⟩) (Or.inr ⟨_, rfl⟩) (by omega) (by omega) (⟨rfl, fhp1_arr, fun z hz => by rw [ehp1]; exact ad_up_n _ hz⟩) d_AL_set_23
