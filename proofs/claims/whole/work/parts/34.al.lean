def al_cl (f : Nat → Option Nat) (j : Nat) : Nat → Option Nat := fun i => if i < j then none else f i
theorem al_cl_s (f : Nat → Option Nat) (j : Nat) : va_up (al_cl f j) j none = al_cl f (j + 1) := by
  funext i
  unfold va_up al_cl
  by_cases h : i = j
  · subst h; simp
  · by_cases h2 : i < j
    · simp [h, h2, Nat.lt_succ_of_lt h2]
    · simp [h, h2, show ¬ i < j + 1 by omega]
theorem al_cl_0 (f : Nat → Option Nat) : al_cl f 0 = f := by
  funext i
  simp [al_cl]
set_option maxHeartbeats 4000000 in
set_option maxRecDepth 100000 in
theorem c_AL_clear (l : Launch) (G : ad_G) (lo : Nat) (hp : ad_H) (a arr cp len : Nat) (f : Nat → Option Nat) (mv : Int32) (h : hp a = some (.inr (3, [.ref arr, .int (nI len), .int mv]))) (h2 : hp arr = some (ad_ra G cp f)) (hn : len ≤ cp) (hc : cp ≤ 100) : ad_Ct l y_AL_clear b_AL_clear 4 rt_AL_clear hs_AL_clear 1 0 0 G lo hp [.ref a] (fun r hp' => r = .inl none ∧ hp' a = some (.inr (3, [.ref arr, .int 0, .int (mv + 1)])) ∧ hp' arr = some (ad_ra G cp (al_cl f len)) ∧ ∀ z, z ≠ arr → z ≠ a → hp' z = hp z) := by
  intro p e s m below meth c M hts hB hP
  have hx := M.1
  have hb := M.2.1
  have hml := M.2.2.1
  have hown : s.vm.findClass "java/util/ArrayList" = some m.cls := M.2.2.2.1
  have S : CallFix p m c b_AL_clear 4 s _ ad_T "java/util/ArrayList" := ⟨hx, hb, hml, hown, hts⟩
  have I : ad_I G lo s hp s.heap [] := ad_I.rf hB hP
  have hl := lv_entry ([.ref a]) (n := 4) (Nat.le_of_ble_eq_true rfl)
  rw [lg_entry_eq]
  generalize (lg_sl ([.ref a]) ++ List.replicate (4 - (lg_sl ([.ref a])).length) Slot.unset).toArray = ls at hl ⊢
  have hl : lv_has ls 4 [(0, .ref a)] := hl
  have loop : ∀ (n : Nat) (j : Nat) (hpj : ad_H) (H : Heap) (locs : List Loc), len < j + n ∧ j ≤ len → ad_I G lo s hpj H locs → hpj a = some (.inr (3, [.ref arr, .int 0, .int (mv + 1)])) → hpj arr = some (ad_ra G cp (al_cl f j)) → (∀ z, z ≠ arr → z ≠ a → hpj z = hp z) → ∀ ls : Array Slot, lv_has ls 4 [(1, .ref arr), (2, .int (nI len)), (3, .int (nI j))] → W p l e (ad_rm 1 0 0) s m ([.ref a] : List Value).toArray below meth c H locs 0 0 (ad_Z below G lo (fun r hp' => r = .inl none ∧ hp' a = some (.inr (3, [.ref arr, .int 0, .int (mv + 1)])) ∧ hp' arr = some (ad_ra G cp (al_cl f len)) ∧ ∀ z, z ≠ arr → z ≠ a → hp' z = hp z) s 0 0) (F0 m 27 ls []) := by
    intro n
    induction n with
    | zero => intro j hpj H locs h0; exact absurd h0 (by omega)
    | succ n ih =>
      intro j hpj H locs h0 I ja jr jk ls hl
      refine lv_iload_n hx hb d_AL_clear_27 rfl (lv_at hl 2 rfl) ?_
      refine lv_iload_n hx hb d_AL_clear_28 rfl (lv_at hl 1 rfl) ?_
      refine lv_icmp_ge (tgt := 42) hx hb d_AL_clear_29 (by decide) (fun c29 => ?_) (fun c29 => ?_)
      · obtain rfl : j = len := by have := ad_ge (j := j) (n := len) (by omega) (by omega) c29; omega
        exact ad_vret M I (by omega) (by omega) (⟨rfl, ja, jr, jk⟩) d_AL_clear_42
      · have hj : j < len := ad_lt (by omega) (by omega) c29
        refine lv_aload_n hx hb d_AL_clear_32 rfl (lv_at hl 0 rfl) ?_
        refine lv_iload_n hx hb d_AL_clear_33 rfl (lv_at hl 2 rfl) ?_
        refine lv_null hx hb d_AL_clear_34 ?_
        refine ad_aastN S I jr (vp_in_nI (show j < cp by omega) (by omega)) d_AL_clear_35 (fun H1 locs1 I => ?_)
        rw [show (nI j).toNatClampNeg = j from nI_clamp (by omega), al_cl_s] at I
        obtain ⟨hp101, ehp101⟩ : ∃ z : ad_H, z = ad_up hpj arr (ad_ra G cp (al_cl f (j + 1))) := ⟨_, rfl⟩
        have I : ad_I G lo s hp101 H1 locs1 := by rw [ehp101]; exact I
        have fhp101_a := (show hp101 a = hpj a by rw [ehp101]; exact ad_up_n _ (ad_ne ja jr (by simp))).trans ja
        have fhp101_arr : hp101 arr = some (ad_ra G cp (al_cl f (j + 1))) := by rw [ehp101]; exact ad_up_s _ _ _
        refine lv_iinc (v := (nI (j + 1))) (lv' := [(3, .int (nI (j + 1))), (1, .ref arr), (2, .int (nI len))]) hx hb d_AL_clear_36 hl (k := 2) rfl (nI_1 j) (by decide) rfl (fun ls hl => ?_)
        refine lv_goto (tgt := 27) hx hb d_AL_clear_39 (by decide) ?_
        exact ih (j + 1) hp101 H1 locs1 (by omega) I fhp101_a fhp101_arr (fun z h1 h2 => by rw [ehp101, ad_up_n _ h1]; exact jk z h1 h2) ls (lv_sub hl [1, 2, 0] rfl)
  refine lv_aload_n hx hb d_AL_clear_0 rfl (lv_at hl 0 rfl) ?_
  refine lv_dup hx hb d_AL_clear_1 rfl ?_
  refine ad_getU S I h K_AL 2 (by decide) w_58 w_sf rfl d_AL_clear_2 ?_
  refine lv_iconst (v := 1) hx hb d_AL_clear_5 (by decide) ?_
  refine lv_iadd hx hb d_AL_clear_6 ?_
  refine ad_putU S I h K_AL 2 (by decide) w_58 w_sf rfl rfl rfl (by simp) d_AL_clear_7 (fun H1 locs1 I => ?_)
  obtain ⟨hp1, ehp1⟩ : ∃ z : ad_H, z = ad_up hp a (.inr (3, [.ref arr, .int (nI len), .int (mv + 1)])) := ⟨_, rfl⟩
  have I : ad_I G lo s hp1 H1 locs1 := by rw [ehp1]; exact I
  have fhp1_a : hp1 a = some (.inr (3, [.ref arr, .int (nI len), .int (mv + 1)])) := by rw [ehp1]; exact ad_up_s _ _ _
  have fhp1_arr := (show hp1 arr = hp arr by rw [ehp1]; exact ad_up_n _ (ad_ne h2 h (by simp))).trans h2
  refine lv_aload_n hx hb d_AL_clear_10 rfl (lv_at hl 0 rfl) ?_
  refine ad_get S I fhp1_a K_AL 0 (by decide) w_55 rfl d_AL_clear_11 ?_
  refine lv_astore_n (lv' := [(1, .ref arr), (0, .ref a)]) hx hb d_AL_clear_14 rfl hl (by decide) rfl (fun ls hl => ?_)
  refine lv_aload_n hx hb d_AL_clear_15 rfl (lv_at hl 1 rfl) ?_
  refine ad_get S I fhp1_a K_AL 1 (by decide) w_56 rfl d_AL_clear_16 ?_
  refine lv_istore_n (lv' := [(2, .int (nI len)), (1, .ref arr), (0, .ref a)]) hx hb d_AL_clear_19 rfl hl (by decide) rfl (fun ls hl => ?_)
  refine lv_aload_n hx hb d_AL_clear_20 rfl (lv_at hl 2 rfl) ?_
  refine lv_iconst (v := 0) hx hb d_AL_clear_21 (by decide) ?_
  refine lv_dup_x1 hx hb d_AL_clear_22 rfl rfl ?_
  refine ad_put S I fhp1_a K_AL 1 (by decide) w_56 rfl rfl rfl (by simp) d_AL_clear_23 (fun H1 locs1 I => ?_)
  obtain ⟨hp2, ehp2⟩ : ∃ z : ad_H, z = ad_up hp1 a (.inr (3, [.ref arr, .int 0, .int (mv + 1)])) := ⟨_, rfl⟩
  have I : ad_I G lo s hp2 H1 locs1 := by rw [ehp2]; exact I
  have fhp2_a : hp2 a = some (.inr (3, [.ref arr, .int 0, .int (mv + 1)])) := by rw [ehp2]; exact ad_up_s _ _ _
  have fhp2_arr := (show hp2 arr = hp1 arr by rw [ehp2]; exact ad_up_n _ (ad_ne fhp1_arr fhp1_a (by simp))).trans fhp1_arr
  refine lv_istore_n (lv' := [(3, .int 0), (2, .int (nI len)), (1, .ref arr), (0, .ref a)]) hx hb d_AL_clear_26 rfl hl (by decide) rfl (fun ls hl => ?_)
  exact loop (len + 1) 0 hp2 H1 locs1 (by omega) I fhp2_a (by rw [al_cl_0]; exact fhp2_arr) (fun z h1 h2 => by rw [ehp2, ad_up_n _ h2, ehp1, ad_up_n _ h2]) ls (lv_sub hl [2, 1, 0] rfl)
set_option maxHeartbeats 4000000 in
set_option maxRecDepth 100000 in
theorem c_AL_clear0 (l : Launch) (G : ad_G) (lo : Nat) (hp : ad_H) (a : Nat) (mv : Int32) (h : hp a = some (.inr (3, [.ref (G.2.2 0), .int (nI 0), .int mv]))) : ad_Ct l y_AL_clear b_AL_clear 4 rt_AL_clear hs_AL_clear 1 0 0 G lo hp [.ref a] (fun r hp' => r = .inl none ∧ hp' a = some (.inr (3, [.ref (G.2.2 0), .int 0, .int (mv + 1)])) ∧ ∀ z, z ≠ a → hp' z = hp z) := by
  intro p e s m below meth c M hts hB hP
  have hx := M.1
  have hb := M.2.1
  have hml := M.2.2.1
  have hown : s.vm.findClass "java/util/ArrayList" = some m.cls := M.2.2.2.1
  have S : CallFix p m c b_AL_clear 4 s _ ad_T "java/util/ArrayList" := ⟨hx, hb, hml, hown, hts⟩
  have I : ad_I G lo s hp s.heap [] := ad_I.rf hB hP
  have hl := lv_entry ([.ref a]) (n := 4) (Nat.le_of_ble_eq_true rfl)
  rw [lg_entry_eq]
  generalize (lg_sl ([.ref a]) ++ List.replicate (4 - (lg_sl ([.ref a])).length) Slot.unset).toArray = ls at hl ⊢
  have hl : lv_has ls 4 [(0, .ref a)] := hl
  refine lv_aload_n hx hb d_AL_clear_0 rfl (lv_at hl 0 rfl) ?_
  refine lv_dup hx hb d_AL_clear_1 rfl ?_
  refine ad_getU S I h K_AL 2 (by decide) w_58 w_sf rfl d_AL_clear_2 ?_
  refine lv_iconst (v := 1) hx hb d_AL_clear_5 (by decide) ?_
  refine lv_iadd hx hb d_AL_clear_6 ?_
  refine ad_putU S I h K_AL 2 (by decide) w_58 w_sf rfl rfl rfl (by simp) d_AL_clear_7 (fun H1 locs1 I => ?_)
  obtain ⟨hp1, ehp1⟩ : ∃ z : ad_H, z = ad_up hp a (.inr (3, [.ref (G.2.2 0), .int (nI 0), .int (mv + 1)])) := ⟨_, rfl⟩
  have I : ad_I G lo s hp1 H1 locs1 := by rw [ehp1]; exact I
  have fhp1_a : hp1 a = some (.inr (3, [.ref (G.2.2 0), .int (nI 0), .int (mv + 1)])) := by rw [ehp1]; exact ad_up_s _ _ _
  refine lv_aload_n hx hb d_AL_clear_10 rfl (lv_at hl 0 rfl) ?_
  refine ad_get S I fhp1_a K_AL 0 (by decide) w_55 rfl d_AL_clear_11 ?_
  refine lv_astore_n (lv' := [(1, .ref (G.2.2 0)), (0, .ref a)]) hx hb d_AL_clear_14 rfl hl (by decide) rfl (fun ls hl => ?_)
  refine lv_aload_n hx hb d_AL_clear_15 rfl (lv_at hl 1 rfl) ?_
  refine ad_get S I fhp1_a K_AL 1 (by decide) w_56 rfl d_AL_clear_16 ?_
  refine lv_istore_n (lv' := [(2, .int (nI 0)), (1, .ref (G.2.2 0)), (0, .ref a)]) hx hb d_AL_clear_19 rfl hl (by decide) rfl (fun ls hl => ?_)
  refine lv_aload_n hx hb d_AL_clear_20 rfl (lv_at hl 2 rfl) ?_
  refine lv_iconst (v := 0) hx hb d_AL_clear_21 (by decide) ?_
  refine lv_dup_x1 hx hb d_AL_clear_22 rfl rfl ?_
  refine ad_put S I fhp1_a K_AL 1 (by decide) w_56 rfl rfl rfl (by simp) d_AL_clear_23 (fun H1 locs1 I => ?_)
  obtain ⟨hp2, ehp2⟩ : ∃ z : ad_H, z = ad_up hp1 a (.inr (3, [.ref (G.2.2 0), .int 0, .int (mv + 1)])) := ⟨_, rfl⟩
  have I : ad_I G lo s hp2 H1 locs1 := by rw [ehp2]; exact I
  have fhp2_a : hp2 a = some (.inr (3, [.ref (G.2.2 0), .int 0, .int (mv + 1)])) := by rw [ehp2]; exact ad_up_s _ _ _
  refine lv_istore_n (lv' := [(3, .int 0), (2, .int (nI 0)), (1, .ref (G.2.2 0)), (0, .ref a)]) hx hb d_AL_clear_26 rfl hl (by decide) rfl (fun ls hl => ?_)
  refine lv_iload_n hx hb d_AL_clear_27 rfl (lv_at hl 0 rfl) ?_
  refine lv_iload_n hx hb d_AL_clear_28 rfl (lv_at hl 1 rfl) ?_
  refine lv_icmp_ge (tgt := 42) hx hb d_AL_clear_29 (by decide) (fun c29 => ?_) (fun c29 => ?_)
  · exact ad_vret M I (by omega) (by omega) (⟨rfl, fhp2_a, fun z hz => by rw [ehp2, ad_up_n _ hz, ehp1, ad_up_n _ hz]⟩) d_AL_clear_42
  · exact absurd (by decide) c29
def al (G : ad_G) (hp : ad_H) (a : Nat) (xs : List Nat) : Prop := ∃ (arr cp : Nat) (f : Nat → Option Nat) (mv : Int32), hp a = some (.inr (3, [.ref arr, .int (nI xs.length), .int mv])) ∧ ((arr = G.2.2 0 ∧ hp arr = none ∧ xs = []) ∨ (hp arr = some (ad_ra G cp f) ∧ 2 ≤ cp ∧ xs.length ≤ cp ∧ cp ≤ 100 ∧ ∀ i, i < cp → f i = xs[i]?))
def al_b (hp : ad_H) (a z : Nat) : Prop := ∃ (s m : Value), hp a = some (.inr (3, [.ref z, s, m]))
theorem al_b.eq {hp : ad_H} {a z arr : Nat} {s m : Value} (h : al_b hp a z) (h2 : hp a = some (.inr (3, [.ref arr, s, m]))) : z = arr := by
  obtain ⟨s', m', h3⟩ := h
  rw [h3] at h2
  simp at h2
  exact h2.1
theorem c_ALsize (l : Launch) (G : ad_G) (lo : Nat) (hp : ad_H) (a : Nat) (xs : List Nat) (h : al G hp a xs) : ad_Cp l y_AL_size b_AL_size 1 rt_AL_size hs_AL_size 1 0 0 G lo hp [.ref a] (fun r => r = .inl (some (.int (nI xs.length)))) := by
  obtain ⟨arr, cp, f, mv, h1, -⟩ := h
  exact c_AL_size l G lo hp a arr _ mv h1
theorem c_ALget (l : Launch) (G : ad_G) (lo : Nat) (hp : ad_H) (a : Nat) (xs : List Nat) (k y : Nat) (h : al G hp a xs) (hk : xs[k]? = some y) : ad_Cp l y_AL_get b_AL_get 2 rt_AL_get hs_AL_get 3 0 0 G lo hp [.ref a, .int (nI k)] (fun r => r = .inl (some (.ref y))) := by
  have hkl : k < xs.length := (List.getElem?_eq_some_iff.mp hk).1
  obtain ⟨arr, cp, f, mv, h1, ⟨-, -, rfl⟩ | ⟨h2, h3, h4, h5, h6⟩⟩ := h
  · simp at hkl
  · have hcl : (nI k).toNatClampNeg = k := nI_clamp (by omega)
    exact c_AL_get l G lo hp a arr _ mv (nI k) cp f y h1 h2 (vp_in_nI (by omega) (by omega)) (nI_pos (by omega)) (nI_lt hkl (by omega)) (by rw [hcl, h6 k (by omega)]; exact hk)
theorem c_ALadd (l : Launch) (G : ad_G) (lo : Nat) (hp : ad_H) (a : Nat) (xs : List Nat) (v : Nat) (vs : List Value) (ci : Nat) (C : String) (T : u_T) (N : Nat) (ty0 : Nat → FieldType) (h : al G hp a xs) (hx : xs.length ≤ 65) (hv : hp v = some (.inr (ci, vs))) (hci : ci ≠ 3) (K : ad_K ci C T N ty0) (hca : Cond.castable C "java/lang/Object" ∈ ad_T) (hel : ∀ y ∈ xs, ∃ vs, hp y = some (.inr (ci, vs))) :
    ad_Ct l y_AL_add b_AL_add 2 rt_AL_add hs_AL_add 7 1 100 G lo hp [.ref a, .ref v] (fun r hp' => r = .inl (some (.int 1)) ∧ al G hp' a (xs ++ [v]) ∧ (∀ z, z ≠ a → ¬ al_b hp a z → hp z ≠ none → hp' z = hp z) ∧ ∀ z, al_b hp' a z → al_b hp a z ∨ hp z = none) := by
  obtain ⟨arr, cp, f, mv, h1, ⟨rfl, hE, rfl⟩ | ⟨h2, h3, h4, h5, h6⟩⟩ := h
  · refine (c_AL_add_first l G lo hp a mv v vs ci C T N ty0 h1 hv hci K hca).mono (fun r hp' hq => ?_)
    obtain ⟨hr, q, q0, q1, q2, q3⟩ := hq
    refine ⟨hr, ⟨q, 10, _, mv + 1, q2, Or.inr ⟨q1, by omega, by simp, by omega, fun i hi => ?_⟩⟩, fun z hz _ hn => q3 z (fun hh => hn (by rw [hh]; exact q0)) hz, fun z hz => Or.inr (by rw [hz.eq q2]; exact q0)⟩
    cases i with
    | zero => simp [va_up]
    | succ i => simp [va_up]
  · by_cases hlen : xs.length < cp
    · refine (c_AL_add_in l G lo hp a arr cp xs.length f mv v vs ci C T N ty0 h1 h2 hv hlen h5 hci K hca).mono (fun r hp' hq => ?_)
      obtain ⟨hr, q1, q2, q3⟩ := hq
      refine ⟨hr, ⟨arr, cp, _, mv + 1, by rw [List.length_append]; exact q2, Or.inr ⟨q1, h3, by simp; omega, h5, fun i hi => ?_⟩⟩, fun z hz hb _ => q3 z (fun hh => hb (by rw [hh]; exact ⟨_, _, h1⟩)) hz, fun z hz => Or.inl (by rw [hz.eq q2]; exact ⟨_, _, h1⟩)⟩
      by_cases hi2 : i = xs.length
      · subst hi2; simp [va_up]
      · simp only [va_up, hi2, if_false]
        rw [h6 i hi, List.getElem?_append]
        by_cases hi3 : i < xs.length
        · simp [hi3]
        · simp [hi3, show xs.length ≤ i by omega, show ¬ i - xs.length < 1 by omega]
    · have e0 : xs.length = cp := by omega
      rw [e0] at h1
      refine (c_AL_add_full l G lo hp a arr cp f mv v vs ci C T N ty0 h1 h2 h3 (by omega) K hca (fun i hi y hy => hel y (List.mem_of_getElem? ((h6 i hi).symm.trans hy))) hv hci).mono (fun r hp' hq => ?_)
      obtain ⟨hr, q, q0, q1, q2, q3⟩ := hq
      refine ⟨hr, ⟨q, cp + cp / 2, _, mv + 1, by rw [List.length_append, e0]; exact q2, Or.inr ⟨q1, by omega, by simp; omega, by omega, fun i hi => ?_⟩⟩, fun z hz _ hn => q3 z (fun hh => hn (by rw [hh]; exact q0)) hz, fun z hz => Or.inr (by rw [hz.eq q2]; exact q0)⟩
      by_cases hi2 : i = cp
      · subst hi2; rw [← e0]; simp [va_up]
      · simp only [va_up, hi2, if_false]
        rw [List.getElem?_append]
        by_cases hi3 : i < cp
        · rw [pk_cpy_in (by omega) (by omega)]
          simp only [Nat.zero_add, Nat.sub_zero]
          rw [h6 i hi3]
          simp [e0, hi3]
        · rw [pk_cpy_out (Or.inr (by omega))]
          simp [e0, hi3, show cp ≤ i by omega, show ¬ i - cp < 1 by omega]
theorem c_ALset (l : Launch) (G : ad_G) (lo : Nat) (hp : ad_H) (a : Nat) (xs : List Nat) (k y : Nat) (v : Nat) (vs : List Value) (ci : Nat) (C : String) (T : u_T) (N : Nat) (ty0 : Nat → FieldType) (h : al G hp a xs) (hk : xs[k]? = some y) (hv : hp v = some (.inr (ci, vs))) (K : ad_K ci C T N ty0) (hca : Cond.castable C "java/lang/Object" ∈ ad_T) :
    ad_Ct l y_AL_set b_AL_set 4 rt_AL_set hs_AL_set 3 0 0 G lo hp [.ref a, .int (nI k), .ref v] (fun r hp' => r = .inl (some (.ref y)) ∧ al G hp' a (xs.set k v) ∧ (∀ z, ¬ al_b hp a z → hp' z = hp z) ∧ ∀ z, al_b hp' a z → al_b hp a z) := by
  have hkl : k < xs.length := (List.getElem?_eq_some_iff.mp hk).1
  obtain ⟨arr, cp, f, mv, h1, ⟨-, -, rfl⟩ | ⟨h2, h3, h4, h5, h6⟩⟩ := h
  · simp at hkl
  · refine (c_AL_set l G lo hp a arr _ mv k cp f y v vs ci C T N ty0 h1 h2 (by omega) h5 (nI_lt hkl (by omega)) (by rw [h6 k (by omega)]; exact hk) hv K hca).mono (fun r hp' hq => ?_)
    obtain ⟨hr, q1, q3⟩ := hq
    have hna : a ≠ arr := ad_ne h1 h2 (by simp)
    have q2 : hp' a = _ := (q3 a hna).trans h1
    refine ⟨hr, ⟨arr, cp, _, mv, by rw [List.length_set]; exact q2, Or.inr ⟨q1, h3, by simp; omega, h5, fun i hi => ?_⟩⟩, fun z hb => q3 z (fun hh => hb (by rw [hh]; exact ⟨_, _, h1⟩)), fun z hz => by rw [hz.eq q2]; exact ⟨_, _, h1⟩⟩
    by_cases hi2 : i = k
    · subst hi2; simp [va_up, hkl]
    · simp only [va_up, hi2, if_false]
      rw [h6 i hi, List.getElem?_set_ne (Ne.symm hi2)]
theorem c_ALclear (l : Launch) (G : ad_G) (lo : Nat) (hp : ad_H) (a : Nat) (xs : List Nat) (h : al G hp a xs) :
    ad_Ct l y_AL_clear b_AL_clear 4 rt_AL_clear hs_AL_clear 1 0 0 G lo hp [.ref a] (fun r hp' => r = .inl none ∧ al G hp' a [] ∧ (∀ z, z ≠ a → ¬ al_b hp a z → hp' z = hp z) ∧ ∀ z, al_b hp' a z → al_b hp a z) := by
  obtain ⟨arr, cp, f, mv, h1, ⟨rfl, hE, rfl⟩ | ⟨h2, h3, h4, h5, h6⟩⟩ := h
  · refine (c_AL_clear0 l G lo hp a mv h1).mono (fun r hp' hq => ?_)
    obtain ⟨hr, q1, q2⟩ := hq
    exact ⟨hr, ⟨_, 0, fun _ => none, mv + 1, q1, Or.inl ⟨rfl, (q2 _ (fun hh => by rw [hh] at hE; rw [hE] at h1; cases h1)).trans hE, rfl⟩⟩, fun z hz _ => q2 z hz, fun z hz => by rw [hz.eq q1]; exact ⟨_, _, h1⟩⟩
  · refine (c_AL_clear l G lo hp a arr cp xs.length f mv h1 h2 h4 h5).mono (fun r hp' hq => ?_)
    obtain ⟨hr, q1, q2, q3⟩ := hq
    refine ⟨hr, ⟨arr, cp, _, mv + 1, q1, Or.inr ⟨q2, h3, by simp, h5, fun i hi => ?_⟩⟩, fun z hz hb => q3 z (fun hh => hb (by rw [hh]; exact ⟨_, _, h1⟩)) hz, fun z hz => by rw [hz.eq q1]; exact ⟨_, _, h1⟩⟩
    unfold al_cl
    by_cases hi2 : i < xs.length
    · simp [hi2]
    · rw [if_neg hi2, h6 i hi]
      simp; omega
