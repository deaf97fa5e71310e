theorem ad_nn {hp : ad_H} {q b : Nat} {e : va_E} (h1 : hp q = none) (h2 : hp b = some e) : b ≠ q := fun h => by rw [h, h1] at h2; cases h2
theorem al_max {c : Nat} (h : 2 ≤ c) (hc : c ≤ 1000) : (if nI 1 < nI (c / 2) then nI (c / 2) else nI 1) = nI (c / 2) := by
  split
  · rfl
  · next h1 =>
    have h2 : ¬ 1 < c / 2 := fun h3 => h1 (nI_lt h3 (by omega))
    rw [show c / 2 = 1 by omega]
theorem al_min {a b : Nat} (h : a ≤ b) (hb : b < 2 ^ 31) : (if nI b < nI a then nI b else nI a) = nI a := if_neg (nI_nlt h hb)
set_option maxHeartbeats 4000000 in
set_option maxRecDepth 100000 in
theorem c_AC_init (l : Launch) (G : ad_G) (lo : Nat) (hp : ad_H) (a : Nat) : ad_Cp l y_AC_init b_AC_init 1 rt_AC_init hs_AC_init 1 0 0 G lo hp [.ref a] (fun r => r = .inl none) := by
  intro p e s m below meth c M hts hB hP
  have hx := M.1
  have hb := M.2.1
  have hml := M.2.2.1
  have hown : s.vm.findClass "java/util/AbstractCollection" = some m.cls := M.2.2.2.1
  have S : CallFix p m c b_AC_init 1 s _ ad_T "java/util/AbstractCollection" := ⟨hx, hb, hml, hown, hts⟩
  have I : ad_I G lo s hp s.heap [] := ad_I.rf hB hP
  have hl := lv_entry ([.ref a]) (n := 1) (Nat.le_of_ble_eq_true rfl)
  rw [lg_entry_eq]
  generalize (lg_sl ([.ref a]) ++ List.replicate (1 - (lg_sl ([.ref a])).length) Slot.unset).toArray = ls at hl ⊢
  have hl : lv_has ls 1 [(0, .ref a)] := hl
  refine lv_aload_n hx hb d_AC_init_0 rfl (lv_at hl 0 rfl) ?_
  refine W.objInit hx hb hown (hts _ w_52) (hts _ w_28) (hts _ w_29) rfl (by rw [hml]; exact hl.1) rfl d_AC_init_1 (Nat.le_of_ble_eq_true rfl) (Nat.le_of_ble_eq_true rfl) ?_
  refine W.eq (g2 := F0 m 4 ls []) rfl ?_
  exact ad_vretP M rfl d_AC_init_4
set_option maxHeartbeats 4000000 in
set_option maxRecDepth 100000 in
theorem c_AB_init (l : Launch) (G : ad_G) (lo : Nat) (hp : ad_H) (a : Nat) (h : hp a = some (.inr (3, [.null, .int 0, .int 0]))) : ad_Ct l y_AB_init b_AB_init 1 rt_AB_init hs_AB_init 2 0 0 G lo hp [.ref a] (fun r hp' => r = .inl none ∧ hp' a = some (.inr (3, [.null, .int 0, .int 0])) ∧ ∀ z, z ≠ a → hp' z = hp z) := by
  intro p e s m below meth c M hts hB hP
  have hx := M.1
  have hb := M.2.1
  have hml := M.2.2.1
  have hown : s.vm.findClass "java/util/AbstractList" = some m.cls := M.2.2.2.1
  have S : CallFix p m c b_AB_init 1 s _ ad_T "java/util/AbstractList" := ⟨hx, hb, hml, hown, hts⟩
  have I : ad_I G lo s hp s.heap [] := ad_I.rf hB hP
  have hl := lv_entry ([.ref a]) (n := 1) (Nat.le_of_ble_eq_true rfl)
  rw [lg_entry_eq]
  generalize (lg_sl ([.ref a]) ++ List.replicate (1 - (lg_sl ([.ref a])).length) Slot.unset).toArray = ls at hl ⊢
  have hl : lv_has ls 1 [(0, .ref a)] := hl
  refine lv_aload_n hx hb d_AB_init_0 rfl (lv_at hl 0 rfl) ?_
  refine ad_cPn S I (ad_ivI (As := []) (rest := []) S w_49 w_50 w_51 rfl ⟨by decide, by decide, np_AC_init⟩ rfl d_AB_init_1) (c_AC_init l G lo hp a) Y_AC_init hl.1 ⟨Nat.le_of_ble_eq_true rfl, Nat.le_of_ble_eq_true rfl⟩ (Nat.le_of_ble_eq_true rfl) (Nat.le_of_ble_eq_true rfl) d_AB_init_1 ?_
  refine lv_aload_n hx hb d_AB_init_4 rfl (lv_at hl 0 rfl) ?_
  refine lv_iconst (v := 0) hx hb d_AB_init_5 (by decide) ?_
  refine ad_put S I h K_AL 2 (by decide) w_57 rfl rfl rfl (by simp) d_AB_init_6 (fun H1 locs1 I => ?_)
  obtain ⟨hp1, ehp1⟩ : ∃ z : ad_H, z = ad_up hp a (.inr (3, [.null, .int 0, .int 0])) := ⟨_, rfl⟩
  have I : ad_I G lo s hp1 H1 locs1 := by rw [ehp1]; exact I
  have fhp1_a : hp1 a = some (.inr (3, [.null, .int 0, .int 0])) := by rw [ehp1]; exact ad_up_s _ _ _
  exact ad_vret M I (by omega) (by omega) (⟨rfl, fhp1_a, fun z hz => by rw [ehp1]; exact ad_up_n _ hz⟩) d_AB_init_9
set_option maxHeartbeats 4000000 in
set_option maxRecDepth 100000 in
theorem c_AL_init (l : Launch) (G : ad_G) (lo : Nat) (hp : ad_H) (a : Nat) (h : hp a = some (.inr (3, [.null, .int 0, .int 0]))) : ad_Ct l y_AL_init b_AL_init 1 rt_AL_init hs_AL_init 3 0 0 G lo hp [.ref a] (fun r hp' => r = .inl none ∧ hp' a = some (.inr (3, [.ref (G.2.2 0), .int 0, .int 0])) ∧ ∀ z, z ≠ a → hp' z = hp z) := by
  intro p e s m below meth c M hts hB hP
  have hx := M.1
  have hb := M.2.1
  have hml := M.2.2.1
  have hown : s.vm.findClass "java/util/ArrayList" = some m.cls := M.2.2.2.1
  have S : CallFix p m c b_AL_init 1 s _ ad_T "java/util/ArrayList" := ⟨hx, hb, hml, hown, hts⟩
  have I : ad_I G lo s hp s.heap [] := ad_I.rf hB hP
  have hl := lv_entry ([.ref a]) (n := 1) (Nat.le_of_ble_eq_true rfl)
  rw [lg_entry_eq]
  generalize (lg_sl ([.ref a]) ++ List.replicate (1 - (lg_sl ([.ref a])).length) Slot.unset).toArray = ls at hl ⊢
  have hl : lv_has ls 1 [(0, .ref a)] := hl
  refine lv_aload_n hx hb d_AL_init_0 rfl (lv_at hl 0 rfl) ?_
  refine ad_cZi S I (ad_ivI (As := []) (rest := []) S w_46 w_47 w_48 rfl ⟨by decide, by decide, np_AB_init⟩ rfl d_AL_init_1) (c_AB_init l G lo hp a h) Y_AB_init hl.1 ⟨Nat.le_of_ble_eq_true rfl, Nat.le_of_ble_eq_true rfl⟩ (Nat.le_of_ble_eq_true rfl) (Nat.le_of_ble_eq_true rfl) d_AL_init_1 (fun hp1 H1 locs1 hA I => ?_)
  obtain ⟨u1_0, k1⟩ := hA
  refine lv_aload_n hx hb d_AL_init_4 rfl (lv_at hl 0 rfl) ?_
  refine ad_gete S I w_53 d_AL_init_5 ?_
  refine ad_put S I u1_0 K_AL 0 (by decide) w_55 rfl rfl rfl (by simp) d_AL_init_8 (fun H1 locs1 I => ?_)
  obtain ⟨hp2, ehp2⟩ : ∃ z : ad_H, z = ad_up hp1 a (.inr (3, [.ref (G.2.2 0), .int 0, .int 0])) := ⟨_, rfl⟩
  have I : ad_I G lo s hp2 H1 locs1 := by rw [ehp2]; exact I
  have fhp2_a : hp2 a = some (.inr (3, [.ref (G.2.2 0), .int 0, .int 0])) := by rw [ehp2]; exact ad_up_s _ _ _
  exact ad_vret M I (by omega) (by omega) (⟨rfl, fhp2_a, fun z hz => by rw [ehp2, ad_up_n _ hz]; exact k1 z hz⟩) d_AL_init_11
set_option maxHeartbeats 4000000 in
set_option maxRecDepth 100000 in
theorem c_AS_newLength (l : Launch) (G : ad_G) (lo : Nat) (hp : ad_H) (cp : Nat) (h1 : 2 ≤ cp) (h2 : cp ≤ 1000) : ad_Cp l y_AS_newLength b_AS_newLength 4 rt_AS_newLength hs_AS_newLength 1 0 0 G lo hp [.int (nI cp), .int (nI 1), .int (nI (cp / 2))] (fun r => r = .inl (some (.int (nI (cp + cp / 2))))) := by
  intro p e s m below meth c M hts hB hP
  have hx := M.1
  have hb := M.2.1
  have hml := M.2.2.1
  have hown : s.vm.findClass "jdk/internal/util/ArraysSupport" = some m.cls := M.2.2.2.1
  have S : CallFix p m c b_AS_newLength 4 s _ ad_T "jdk/internal/util/ArraysSupport" := ⟨hx, hb, hml, hown, hts⟩
  have I : ad_I G lo s hp s.heap [] := ad_I.rf hB hP
  have hl := lv_entry ([.int (nI cp), .int (nI 1), .int (nI (cp / 2))]) (n := 4) (Nat.le_of_ble_eq_true rfl)
  rw [lg_entry_eq]
  generalize (lg_sl ([.int (nI cp), .int (nI 1), .int (nI (cp / 2))]) ++ List.replicate (4 - (lg_sl ([.int (nI cp), .int (nI 1), .int (nI (cp / 2))])).length) Slot.unset).toArray = ls at hl ⊢
  have hl : lv_has ls 4 [(0, .int (nI cp)), (1, .int (nI 1)), (2, .int (nI (cp / 2)))] := hl
  refine lv_iload_n hx hb d_AS_newLength_0 rfl (lv_at hl 0 rfl) ?_
  refine lv_iload_n hx hb d_AS_newLength_1 rfl (lv_at hl 1 rfl) ?_
  refine lv_iload_n hx hb d_AS_newLength_2 rfl (lv_at hl 2 rfl) ?_
  refine va_mmax hx hb (hml.trans hl.1.symm) hown (hts _ w_243) (hts _ w_244) (hts _ w_14) (hts _ w_245) (Nat.le_of_ble_eq_true rfl) (Nat.le_of_ble_eq_true rfl) (Nat.le_of_ble_eq_true rfl) (Nat.le_of_ble_eq_true rfl) d_AS_newLength_3 ?_
  refine ad_top (y := .int (nI (cp / 2))) (congrArg Value.int (al_max h1 h2)) ?_
  refine lv_iadd hx hb d_AS_newLength_6 ?_
  refine ad_top (y := .int (nI (cp + cp / 2))) (congrArg Value.int (nI_add _ _)) ?_
  refine lv_istore_n (lv' := [(3, .int (nI (cp + cp / 2))), (0, .int (nI cp)), (1, .int (nI 1)), (2, .int (nI (cp / 2)))]) hx hb d_AS_newLength_7 rfl hl (by decide) rfl (fun ls hl => ?_)
  refine lv_iconst (v := 0) hx hb d_AS_newLength_8 (by decide) ?_
  refine lv_iload_n hx hb d_AS_newLength_9 rfl (lv_at hl 0 rfl) ?_
  refine lv_icmp_ge (tgt := 21) hx hb d_AS_newLength_10 (by decide) (fun c10 => ?_) (fun c10 => ?_)
  · exact absurd c10 (nI_nle (by omega) (by omega))
  · refine lv_iload_n hx hb d_AS_newLength_13 rfl (lv_at hl 0 rfl) ?_
    refine lv_ldc (v := 2147483639) hx hb hown (hts _ w_246) d_AS_newLength_14 ?_
    refine lv_icmp_gt (tgt := 21) hx hb d_AS_newLength_16 (by decide) (fun c16 => ?_) (fun c16 => ?_)
    · exact absurd c16 (nI_nlt (a := 2147483639) (b := cp + cp / 2) (by omega) (by omega))
    · refine lv_iload_n hx hb d_AS_newLength_19 rfl (lv_at hl 0 rfl) ?_
      exact ad_iretP M rfl rfl d_AS_newLength_20
set_option maxHeartbeats 4000000 in
set_option maxRecDepth 100000 in
theorem c_AR_copyOf3 (l : Launch) (G : ad_G) (lo : Nat) (hp : ad_H) (arr cp n : Nat) (f : Nat → Option Nat) (ci : Nat) (C : String) (T : u_T) (N : Nat) (ty0 : Nat → FieldType) (h : hp arr = some (ad_ra G cp f)) (hle : cp ≤ n) (hn : n ≤ 100) (K : ad_K ci C T N ty0) (hca : Cond.castable C "java/lang/Object" ∈ ad_T) (hel : ∀ i, i < cp → ∀ y, f i = some y → ∃ vs, hp y = some (.inr (ci, vs))) : ad_Ct l y_AR_copyOf3 b_AR_copyOf3 4 rt_AR_copyOf3 hs_AR_copyOf3 2 1 100 G lo hp [.ref arr, .int (nI n), .ref (G.2.2 1)] (fun r hp' => ∃ q : Nat, r = .inl (some (.ref q)) ∧ hp q = none ∧ hp' q = some (ad_ra G n (va_cpy f (fun _ => none) 0 0 cp)) ∧ ∀ z, z ≠ q → hp' z = hp z) := by
  intro p e s m below meth c M hts hB hP
  have hx := M.1
  have hb := M.2.1
  have hml := M.2.2.1
  have hown : s.vm.findClass "java/util/Arrays" = some m.cls := M.2.2.2.1
  have S : CallFix p m c b_AR_copyOf3 4 s _ ad_T "java/util/Arrays" := ⟨hx, hb, hml, hown, hts⟩
  have I : ad_I G lo s hp s.heap [] := ad_I.rf hB hP
  have hl := lv_entry ([.ref arr, .int (nI n), .ref (G.2.2 1)]) (n := 4) (Nat.le_of_ble_eq_true rfl)
  rw [lg_entry_eq]
  generalize (lg_sl ([.ref arr, .int (nI n), .ref (G.2.2 1)]) ++ List.replicate (4 - (lg_sl ([.ref arr, .int (nI n), .ref (G.2.2 1)])).length) Slot.unset).toArray = ls at hl ⊢
  have hl : lv_has ls 4 [(0, .ref arr), (1, .int (nI n)), (2, .ref (G.2.2 1))] := hl
  refine lv_aload_n hx hb d_AR_copyOf3_0 rfl (lv_at hl 2 rfl) ?_
  refine va_ldcM hx hb hown (hts _ w_269) I.1.2.2.2.2.2.2.2.2.2.2.2 d_AR_copyOf3_1 ?_
  refine lv_acmp_ne (rx := some (G.2.2 1)) (ry := some (G.2.2 1)) (tgt := 13) hx hb d_AR_copyOf3_3 (by decide) (fun hz => ?_) (fun hz => ?_)
  · exact absurd rfl hz
  · refine lv_iload_n hx hb d_AR_copyOf3_6 rfl (lv_at hl 1 rfl) ?_
    refine ad_anew (n := n) S I w_271 (by omega) (by decide) (show 0 + n ≤ 100 by omega) d_AR_copyOf3_7 (fun q1 H1 n1 nz1 I => ?_)
    obtain ⟨hp1, ehp1⟩ : ∃ z : ad_H, z = ad_up hp q1 (ad_ra G n (fun _ => none)) := ⟨_, rfl⟩
    rw [← ehp1] at I
    have u1_0 : hp1 q1 = some (ad_ra G n (fun _ => none)) := by rw [ehp1]; exact ad_up_s _ _ _
    have k1 : ∀ z, z ≠ q1 → hp1 z = hp z := fun z hz => by rw [ehp1]; exact ad_up_n _ hz
    have ne_arr_q1 : arr ≠ q1 := ad_nn n1 h
    have fhp1_arr := (k1 arr ne_arr_q1).trans h
    refine lv_goto (tgt := 24) hx hb d_AR_copyOf3_10 (by decide) ?_
    refine lv_astore_n (lv' := [(3, .ref q1), (0, .ref arr), (1, .int (nI n)), (2, .ref (G.2.2 1))]) hx hb d_AR_copyOf3_24 rfl hl (by decide) rfl (fun ls hl => ?_)
    refine lv_aload_n hx hb d_AR_copyOf3_25 rfl (lv_at hl 1 rfl) ?_
    refine lv_iconst (v := 0) hx hb d_AR_copyOf3_26 (by decide) ?_
    refine lv_aload_n hx hb d_AR_copyOf3_27 rfl (lv_at hl 0 rfl) ?_
    refine lv_iconst (v := 0) hx hb d_AR_copyOf3_28 (by decide) ?_
    refine lv_aload_n hx hb d_AR_copyOf3_29 rfl (lv_at hl 1 rfl) ?_
    refine ad_alen (v := nI cp) S I fhp1_arr 1 rfl rfl d_AR_copyOf3_30 ?_
    refine lv_iload_n hx hb d_AR_copyOf3_31 rfl (lv_at hl 2 rfl) ?_
    refine va_mmin hx hb (hml.trans hl.1.symm) hown (hts _ w_272) (hts _ w_273) (hts _ w_14) (hts _ w_274) (Nat.le_of_ble_eq_true rfl) (Nat.le_of_ble_eq_true rfl) (by decide) (show 0 + n ≤ 100 by omega) d_AR_copyOf3_32 ?_
    refine ad_top (y := .int (nI cp)) (congrArg Value.int (al_min (a := cp) (b := n) hle (by omega))) ?_
    refine ad_copyq S I hl.1 fhp1_arr u1_0 (ad_nn n1 h) K hca (n := cp) (by omega) (Nat.le_refl _) hle (fun i hi y hy => ?_) w_275 w_277 w_276 w_16 (Nat.le_of_ble_eq_true rfl) (by decide) d_AR_copyOf3_35 (fun H1 locs1 I => ?_)
    · obtain ⟨vs, hv⟩ := hel i hi y hy
      exact ⟨vs, (k1 y (ad_nn n1 hv)).trans hv⟩
    obtain ⟨hp2, ehp2⟩ : ∃ z : ad_H, z = ad_up hp1 q1 (ad_ra G n (va_cpy f (fun _ => none) 0 0 cp)) := ⟨_, rfl⟩
    have I : ad_I G lo s hp2 H1 locs1 := by rw [ehp2]; exact I
    have fhp2_arr := (show hp2 arr = hp1 arr by rw [ehp2]; exact ad_up_n _ (ne_arr_q1)).trans fhp1_arr
    have fhp2_q1 : hp2 q1 = some (ad_ra G n (va_cpy f (fun _ => none) 0 0 cp)) := by rw [ehp2]; exact ad_up_s _ _ _
    refine lv_aload_n hx hb d_AR_copyOf3_38 rfl (lv_at hl 0 rfl) ?_
    exact ad_aret M I (Or.inr ⟨_, rfl⟩) (Or.inr ⟨_, rfl⟩) (by omega) (by omega) (⟨q1, rfl, n1, fhp2_q1, fun z hz => by rw [ehp2, ad_up_n _ hz]; exact k1 z hz⟩) d_AR_copyOf3_39
set_option maxHeartbeats 4000000 in
set_option maxRecDepth 100000 in
theorem c_AR_copyOf (l : Launch) (G : ad_G) (lo : Nat) (hp : ad_H) (arr cp n : Nat) (f : Nat → Option Nat) (ci : Nat) (C : String) (T : u_T) (N : Nat) (ty0 : Nat → FieldType) (h : hp arr = some (ad_ra G cp f)) (hle : cp ≤ n) (hn : n ≤ 100) (K : ad_K ci C T N ty0) (hca : Cond.castable C "java/lang/Object" ∈ ad_T) (hel : ∀ i, i < cp → ∀ y, f i = some y → ∃ vs, hp y = some (.inr (ci, vs))) : ad_Ct l y_AR_copyOf b_AR_copyOf 2 rt_AR_copyOf hs_AR_copyOf 3 1 100 G lo hp [.ref arr, .int (nI n)] (fun r hp' => ∃ q : Nat, r = .inl (some (.ref q)) ∧ hp q = none ∧ hp' q = some (ad_ra G n (va_cpy f (fun _ => none) 0 0 cp)) ∧ ∀ z, z ≠ q → hp' z = hp z) := by
  intro p e s m below meth c M hts hB hP
  have hx := M.1
  have hb := M.2.1
  have hml := M.2.2.1
  have hown : s.vm.findClass "java/util/Arrays" = some m.cls := M.2.2.2.1
  have S : CallFix p m c b_AR_copyOf 2 s _ ad_T "java/util/Arrays" := ⟨hx, hb, hml, hown, hts⟩
  have I : ad_I G lo s hp s.heap [] := ad_I.rf hB hP
  have hl := lv_entry ([.ref arr, .int (nI n)]) (n := 2) (Nat.le_of_ble_eq_true rfl)
  rw [lg_entry_eq]
  generalize (lg_sl ([.ref arr, .int (nI n)]) ++ List.replicate (2 - (lg_sl ([.ref arr, .int (nI n)])).length) Slot.unset).toArray = ls at hl ⊢
  have hl : lv_has ls 2 [(0, .ref arr), (1, .int (nI n))] := hl
  refine lv_aload_n hx hb d_AR_copyOf_0 rfl (lv_at hl 0 rfl) ?_
  refine lv_iload_n hx hb d_AR_copyOf_1 rfl (lv_at hl 1 rfl) ?_
  refine lv_aload_n hx hb d_AR_copyOf_2 rfl (lv_at hl 0 rfl) ?_
  refine va_getC (C := "[Ljava/lang/Object;") hx hb (hml.trans hl.1.symm) hown (hts _ w_253) (hts _ w_728) (hts _ w_727) (hts _ w_254) (hts _ w_265) I.1.2.2.2.2.2.2.2.2.2.2.2 ⟨_, (I.2.1 _ _ h).2, rfl, va_nmO (I.1.2.1.2 1 (G.2.1 1, .object "java/lang/Object") rfl).2 (by decide)⟩ (Nat.le_of_ble_eq_true rfl) (Nat.le_of_ble_eq_true rfl) d_AR_copyOf_3 ?_
  refine ad_cZq S I (ad_ivS (As := [.ref arr, .int (nI n), .ref (G.2.2 1)]) (rest := []) S Y_AR_copyOf3 w_266 w_267 w_15 ⟨by decide, by decide, np_AR_copyOf3⟩ rfl d_AR_copyOf_6) (c_AR_copyOf3 l G lo hp arr cp n f ci C T N ty0 h hle hn K hca hel) Y_AR_copyOf3 hl.1 ⟨Nat.le_of_ble_eq_true rfl, Nat.le_of_ble_eq_true rfl⟩ (Nat.le_of_ble_eq_true rfl) (Nat.le_of_ble_eq_true rfl) d_AR_copyOf_6 (fun q1 hp1 H1 locs1 hA I => ?_)
  obtain ⟨n1, u1_0, k1⟩ := hA
  have ne_arr_q1 : arr ≠ q1 := ad_nn n1 h
  have fhp1_arr := (k1 arr ne_arr_q1).trans h
  exact ad_aret M I (Or.inr ⟨_, rfl⟩) (Or.inr ⟨_, rfl⟩) (by omega) (by omega) (⟨q1, rfl, n1, u1_0, k1⟩) d_AR_copyOf_9
set_option maxHeartbeats 4000000 in
set_option maxRecDepth 100000 in
theorem c_AL_grow1_first (l : Launch) (G : ad_G) (lo : Nat) (hp : ad_H) (a : Nat) (sz mv : Int32) (h : hp a = some (.inr (3, [.ref (G.2.2 0), .int sz, .int mv]))) : ad_Ct l y_AL_grow1 b_AL_grow1 4 rt_AL_grow1 hs_AL_grow1 4 1 100 G lo hp [.ref a, .int (nI 1)] (fun r hp' => ∃ q : Nat, r = .inl (some (.ref q)) ∧ hp q = none ∧ hp' q = some (ad_ra G 10 (fun _ => none)) ∧ hp' a = some (.inr (3, [.ref q, .int sz, .int mv])) ∧ ∀ z, z ≠ q → z ≠ a → hp' z = hp z) := by
  intro p e s m below meth c M hts hB hP
  have hx := M.1
  have hb := M.2.1
  have hml := M.2.2.1
  have hown : s.vm.findClass "java/util/ArrayList" = some m.cls := M.2.2.2.1
  have S : CallFix p m c b_AL_grow1 4 s _ ad_T "java/util/ArrayList" := ⟨hx, hb, hml, hown, hts⟩
  have I : ad_I G lo s hp s.heap [] := ad_I.rf hB hP
  have hl := lv_entry ([.ref a, .int (nI 1)]) (n := 4) (Nat.le_of_ble_eq_true rfl)
  rw [lg_entry_eq]
  generalize (lg_sl ([.ref a, .int (nI 1)]) ++ List.replicate (4 - (lg_sl ([.ref a, .int (nI 1)])).length) Slot.unset).toArray = ls at hl ⊢
  have hl : lv_has ls 4 [(0, .ref a), (1, .int (nI 1))] := hl
  refine lv_aload_n hx hb d_AL_grow1_0 rfl (lv_at hl 0 rfl) ?_
  refine ad_get S I h K_AL 0 (by decide) w_55 rfl d_AL_grow1_1 ?_
  refine ad_alenE S I d_AL_grow1_4 ?_
  refine lv_istore_n (lv' := [(2, .int 0), (0, .ref a), (1, .int (nI 1))]) hx hb d_AL_grow1_5 rfl hl (by decide) rfl (fun ls hl => ?_)
  refine lv_iload_n hx hb d_AL_grow1_6 rfl (lv_at hl 0 rfl) ?_
  refine lv_if_gt (tgt := 20) hx hb d_AL_grow1_7 (by decide) (fun c7 => ?_) (fun c7 => ?_)
  · exact absurd c7 (by decide)
  · refine lv_aload_n hx hb d_AL_grow1_10 rfl (lv_at hl 1 rfl) ?_
    refine ad_get S I h K_AL 0 (by decide) w_55 rfl d_AL_grow1_11 ?_
    refine ad_gete S I w_53 d_AL_grow1_14 ?_
    refine lv_acmp_eq (rx := some (G.2.2 0)) (ry := some (G.2.2 0)) (tgt := 45) hx hb d_AL_grow1_17 (by decide) (fun hz => ?_) (fun hz => ?_)
    · refine lv_aload_n hx hb d_AL_grow1_45 rfl (lv_at hl 1 rfl) ?_
      refine lv_bipush (v := 10) hx hb d_AL_grow1_46 (by decide) ?_
      refine lv_iload_n hx hb d_AL_grow1_48 rfl (lv_at hl 2 rfl) ?_
      refine va_mmax hx hb (hml.trans hl.1.symm) hown (hts _ w_278) (hts _ w_244) (hts _ w_14) (hts _ w_245) (Nat.le_of_ble_eq_true rfl) (Nat.le_of_ble_eq_true rfl) (Nat.le_of_ble_eq_true rfl) (Nat.le_of_ble_eq_true rfl) d_AL_grow1_49 ?_
      refine ad_top (y := .int (nI 10)) (congrArg Value.int (by decide)) ?_
      refine ad_anew (n := 10) S I w_279 (by decide) (by decide) (by decide) d_AL_grow1_52 (fun q1 H1 n1 nz1 I => ?_)
      obtain ⟨hp1, ehp1⟩ : ∃ z : ad_H, z = ad_up hp q1 (ad_ra G 10 (fun _ => none)) := ⟨_, rfl⟩
      rw [← ehp1] at I
      have u1_0 : hp1 q1 = some (ad_ra G 10 (fun _ => none)) := by rw [ehp1]; exact ad_up_s _ _ _
      have k1 : ∀ z, z ≠ q1 → hp1 z = hp z := fun z hz => by rw [ehp1]; exact ad_up_n _ hz
      have ne_a_q1 : a ≠ q1 := ad_nn n1 h
      have fhp1_a := (k1 a ne_a_q1).trans h
      refine lv_dup_x1 hx hb d_AL_grow1_55 rfl rfl ?_
      refine ad_put S I fhp1_a K_AL 0 (by decide) w_55 rfl rfl rfl (by simp) d_AL_grow1_56 (fun H1 locs1 I => ?_)
      obtain ⟨hp2, ehp2⟩ : ∃ z : ad_H, z = ad_up hp1 a (.inr (3, [.ref q1, .int sz, .int mv])) := ⟨_, rfl⟩
      have I : ad_I G lo s hp2 H1 locs1 := by rw [ehp2]; exact I
      have fhp2_a : hp2 a = some (.inr (3, [.ref q1, .int sz, .int mv])) := by rw [ehp2]; exact ad_up_s _ _ _
      have fhp2_q1 := (show hp2 q1 = hp1 q1 by rw [ehp2]; exact ad_up_n _ ((ne_a_q1).symm)).trans u1_0
      exact ad_aret M I (Or.inr ⟨_, rfl⟩) (Or.inr ⟨_, rfl⟩) (by omega) (by omega) (⟨q1, rfl, n1, fhp2_q1, fhp2_a, fun z h1 h2 => by rw [ehp2, ad_up_n _ h2]; exact k1 z h1⟩) d_AL_grow1_59
    · exact absurd rfl hz
set_option maxHeartbeats 4000000 in
set_option maxRecDepth 100000 in
theorem c_AL_grow1_full (l : Launch) (G : ad_G) (lo : Nat) (hp : ad_H) (a arr cp : Nat) (f : Nat → Option Nat) (sz mv : Int32) (ci : Nat) (C : String) (T : u_T) (N : Nat) (ty0 : Nat → FieldType) (h : hp a = some (.inr (3, [.ref arr, .int sz, .int mv]))) (h2 : hp arr = some (ad_ra G cp f)) (hc2 : 2 ≤ cp) (hc : cp ≤ 66) (K : ad_K ci C T N ty0) (hca : Cond.castable C "java/lang/Object" ∈ ad_T) (hel : ∀ i, i < cp → ∀ y, f i = some y → ∃ vs, hp y = some (.inr (ci, vs))) : ad_Ct l y_AL_grow1 b_AL_grow1 4 rt_AL_grow1 hs_AL_grow1 4 1 100 G lo hp [.ref a, .int (nI (cp + 1))] (fun r hp' => ∃ q : Nat, r = .inl (some (.ref q)) ∧ hp q = none ∧ hp' q = some (ad_ra G (cp + cp / 2) (va_cpy f (fun _ => none) 0 0 cp)) ∧ hp' a = some (.inr (3, [.ref q, .int sz, .int mv])) ∧ ∀ z, z ≠ q → z ≠ a → hp' z = hp z) := by
  intro p e s m below meth c M hts hB hP
  have hx := M.1
  have hb := M.2.1
  have hml := M.2.2.1
  have hown : s.vm.findClass "java/util/ArrayList" = some m.cls := M.2.2.2.1
  have S : CallFix p m c b_AL_grow1 4 s _ ad_T "java/util/ArrayList" := ⟨hx, hb, hml, hown, hts⟩
  have I : ad_I G lo s hp s.heap [] := ad_I.rf hB hP
  have hl := lv_entry ([.ref a, .int (nI (cp + 1))]) (n := 4) (Nat.le_of_ble_eq_true rfl)
  rw [lg_entry_eq]
  generalize (lg_sl ([.ref a, .int (nI (cp + 1))]) ++ List.replicate (4 - (lg_sl ([.ref a, .int (nI (cp + 1))])).length) Slot.unset).toArray = ls at hl ⊢
  have hl : lv_has ls 4 [(0, .ref a), (1, .int (nI (cp + 1)))] := hl
  refine lv_aload_n hx hb d_AL_grow1_0 rfl (lv_at hl 0 rfl) ?_
  refine ad_get S I h K_AL 0 (by decide) w_55 rfl d_AL_grow1_1 ?_
  refine ad_alen (v := nI cp) S I h2 1 rfl rfl d_AL_grow1_4 ?_
  refine lv_istore_n (lv' := [(2, .int (nI cp)), (0, .ref a), (1, .int (nI (cp + 1)))]) hx hb d_AL_grow1_5 rfl hl (by decide) rfl (fun ls hl => ?_)
  refine lv_iload_n hx hb d_AL_grow1_6 rfl (lv_at hl 0 rfl) ?_
  refine lv_if_gt (tgt := 20) hx hb d_AL_grow1_7 (by decide) (fun c7 => ?_) (fun c7 => ?_)
  · refine lv_iload_n hx hb d_AL_grow1_20 rfl (lv_at hl 0 rfl) ?_
    refine lv_iload_n hx hb d_AL_grow1_21 rfl (lv_at hl 2 rfl) ?_
    refine lv_iload_n hx hb d_AL_grow1_22 rfl (lv_at hl 0 rfl) ?_
    refine lv_isub hx hb d_AL_grow1_23 ?_
    refine ad_top (y := .int (nI 1)) (congrArg Value.int ((pk_sub (by omega)).trans (congrArg nI (by omega)))) ?_
    refine lv_iload_n hx hb d_AL_grow1_24 rfl (lv_at hl 0 rfl) ?_
    refine lv_iconst (v := 1) hx hb d_AL_grow1_25 (by decide) ?_
    refine lv_ishr hx hb d_AL_grow1_26 ?_
    refine ad_top (y := .int (nI (cp / 2))) (congrArg Value.int (pk_shrN (by omega) _ 1 (by decide))) ?_
    refine ad_cPi S I (ad_ivS (As := [.int (nI cp), .int (nI 1), .int (nI (cp / 2))]) (rest := []) S Y_AS_newLength w_240 w_241 w_13 ⟨by decide, by decide, np_AS_newLength⟩ rfl d_AL_grow1_27) (c_AS_newLength l G lo hp cp hc2 (by omega)) Y_AS_newLength hl.1 ⟨Nat.le_of_ble_eq_true rfl, Nat.le_of_ble_eq_true rfl⟩ (Nat.le_of_ble_eq_true rfl) (Nat.le_of_ble_eq_true rfl) d_AL_grow1_27 ?_
    refine lv_istore_n (lv' := [(3, .int (nI (cp + cp / 2))), (2, .int (nI cp)), (0, .ref a), (1, .int (nI (cp + 1)))]) hx hb d_AL_grow1_30 rfl hl (by decide) rfl (fun ls hl => ?_)
    refine lv_aload_n hx hb d_AL_grow1_31 rfl (lv_at hl 2 rfl) ?_
    refine lv_aload_n hx hb d_AL_grow1_32 rfl (lv_at hl 2 rfl) ?_
    refine ad_get S I h K_AL 0 (by decide) w_55 rfl d_AL_grow1_33 ?_
    refine lv_iload_n hx hb d_AL_grow1_36 rfl (lv_at hl 0 rfl) ?_
    refine ad_cZq S I (ad_ivS (As := [.ref arr, .int (nI (cp + cp / 2))]) (rest := [.ref a]) S Y_AR_copyOf w_250 w_251 w_15 ⟨by decide, by decide, np_AR_copyOf⟩ rfl d_AL_grow1_37) (c_AR_copyOf l G lo hp arr cp (cp + cp / 2) f ci C T N ty0 h2 (by omega) (by omega) K hca hel) Y_AR_copyOf hl.1 ⟨Nat.le_of_ble_eq_true rfl, Nat.le_of_ble_eq_true rfl⟩ (Nat.le_of_ble_eq_true rfl) (Nat.le_of_ble_eq_true rfl) d_AL_grow1_37 (fun q1 hp1 H1 locs1 hA I => ?_)
    obtain ⟨n1, u1_0, k1⟩ := hA
    have ne_a_q1 : a ≠ q1 := ad_nn n1 h
    have fhp1_a := (k1 a ne_a_q1).trans h
    have ne_arr_q1 : arr ≠ q1 := ad_nn n1 h2
    have fhp1_arr := (k1 arr ne_arr_q1).trans h2
    refine lv_dup_x1 hx hb d_AL_grow1_40 rfl rfl ?_
    refine ad_put S I fhp1_a K_AL 0 (by decide) w_55 rfl rfl rfl (by simp) d_AL_grow1_41 (fun H1 locs1 I => ?_)
    obtain ⟨hp2, ehp2⟩ : ∃ z : ad_H, z = ad_up hp1 a (.inr (3, [.ref q1, .int sz, .int mv])) := ⟨_, rfl⟩
    have I : ad_I G lo s hp2 H1 locs1 := by rw [ehp2]; exact I
    have fhp2_a : hp2 a = some (.inr (3, [.ref q1, .int sz, .int mv])) := by rw [ehp2]; exact ad_up_s _ _ _
    have fhp2_arr := (show hp2 arr = hp1 arr by rw [ehp2]; exact ad_up_n _ (ad_ne fhp1_arr fhp1_a (by simp))).trans fhp1_arr
    have fhp2_q1 := (show hp2 q1 = hp1 q1 by rw [ehp2]; exact ad_up_n _ ((ne_a_q1).symm)).trans u1_0
    exact ad_aret M I (Or.inr ⟨_, rfl⟩) (Or.inr ⟨_, rfl⟩) (by omega) (by omega) (⟨q1, rfl, n1, fhp2_q1, fhp2_a, fun z h1 h2 => by rw [ehp2, ad_up_n _ h2]; exact k1 z h1⟩) d_AL_grow1_44
  · exact absurd (nI_lt (a := 0) (b := cp) (by omega) (by omega)) c7
