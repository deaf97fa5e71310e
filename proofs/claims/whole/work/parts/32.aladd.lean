theorem W.ad_mono {p : Program} {l : Launch} {e : Env} {R : Room} {s : State} {m : MethodId} {args : Array Value} {below : List Frame} {meth : Method} {c : Code} {H : Heap} {locs : List Loc} {cells slots : Nat} {Q Q2 : State → Prop} {g : JFrame} (h : ∀ t, Q t → Q2 t) (k : W p l e R s m args below meth c H locs cells slots Q g) : W p l e R s m args below meth c H locs cells slots Q2 g := fun T hT X => by
  obtain ⟨t, a, b⟩ := k T hT X
  exact ⟨t, a, h t b⟩
theorem ad_Ct.mono {l : Launch} {y : MethodName} {cc : ByteArray} {nL : Nat} {rt : Option FieldType} {hs : List (Nat × Nat × Nat × Nat)} {d mc ms : Nat} {G : ad_G} {lo : Nat} {hp : ad_H} {av : List Value} {Post Post2 : ad_R → ad_H → Prop} (K : ad_Ct l y cc nL rt hs d mc ms G lo hp av Post) (h : ∀ r hp', Post r hp' → Post2 r hp') : ad_Ct l y cc nL rt hs d mc ms G lo hp av Post2 := fun p e s m below meth c M hts hB hP => by
  refine W.ad_mono (fun t ht => ?_) (K p e s m below meth c M hts hB hP)
  obtain ⟨o, r, hp', h1, h2, h3, h4, h5, h6⟩ := ht
  exact ⟨o, r, hp', h1, h2, h3, h4, h _ _ h5, h6⟩
set_option maxHeartbeats 4000000 in
set_option maxRecDepth 100000 in
theorem c_AL_grow_first (l : Launch) (G : ad_G) (lo : Nat) (hp : ad_H) (a : Nat) (mv : Int32) (h : hp a = some (.inr (3, [.ref (G.2.2 0), .int (nI 0), .int mv]))) : ad_Ct l y_AL_grow b_AL_grow 1 rt_AL_grow hs_AL_grow 5 1 100 G lo hp [.ref a] (fun r hp' => ∃ q : Nat, r = .inl (some (.ref q)) ∧ hp q = none ∧ hp' q = some (ad_ra G 10 (fun _ => none)) ∧ hp' a = some (.inr (3, [.ref q, .int (nI 0), .int mv])) ∧ ∀ z, z ≠ q → z ≠ a → hp' z = hp z) := by
  intro p e s m below meth c M hts hB hP
  have hx := M.1
  have hb := M.2.1
  have hml := M.2.2.1
  have hown : s.vm.findClass "java/util/ArrayList" = some m.cls := M.2.2.2.1
  have S : CallFix p m c b_AL_grow 1 s _ ad_T "java/util/ArrayList" := ⟨hx, hb, hml, hown, hts⟩
  have I : ad_I G lo s hp s.heap [] := ad_I.rf hB hP
  have hl := lv_entry ([.ref a]) (n := 1) (Nat.le_of_ble_eq_true rfl)
  rw [lg_entry_eq]
  generalize (lg_sl ([.ref a]) ++ List.replicate (1 - (lg_sl ([.ref a])).length) Slot.unset).toArray = ls at hl ⊢
  have hl : lv_has ls 1 [(0, .ref a)] := hl
  refine lv_aload_n hx hb d_AL_grow_0 rfl (lv_at hl 0 rfl) ?_
  refine lv_aload_n hx hb d_AL_grow_1 rfl (lv_at hl 0 rfl) ?_
  refine ad_get S I h K_AL 1 (by decide) w_56 rfl d_AL_grow_2 ?_
  refine lv_iconst (v := 1) hx hb d_AL_grow_5 (by decide) ?_
  refine lv_iadd hx hb d_AL_grow_6 ?_
  refine ad_cZq S I (ad_ivV (As := [.int ((nI 0) + 1)]) (rest := []) S (ad_recv I h K_AL) w_236 w_238 sp_AL_grow1 Y_AL_grow1 ⟨by decide, by decide, np_AL_grow1⟩ rfl d_AL_grow_7) (c_AL_grow1_first l G lo hp a (nI 0) mv h) Y_AL_grow1 hl.1 ⟨Nat.le_of_ble_eq_true rfl, Nat.le_of_ble_eq_true rfl⟩ (Nat.le_of_ble_eq_true rfl) (Nat.le_of_ble_eq_true rfl) d_AL_grow_7 (fun q1 hp1 H1 locs1 hA I => ?_)
  obtain ⟨n1, u1_0, u1_1, k1⟩ := hA
  exact ad_aret M I (Or.inr ⟨_, rfl⟩) (Or.inr ⟨_, rfl⟩) (by omega) (by omega) (⟨q1, rfl, n1, u1_0, u1_1, k1⟩) d_AL_grow_10
set_option maxHeartbeats 4000000 in
set_option maxRecDepth 100000 in
theorem c_AL_grow_full (l : Launch) (G : ad_G) (lo : Nat) (hp : ad_H) (a arr cp : Nat) (f : Nat → Option Nat) (mv : Int32) (ci : Nat) (C : String) (T : u_T) (N : Nat) (ty0 : Nat → FieldType) (h : hp a = some (.inr (3, [.ref arr, .int (nI cp), .int mv]))) (h2 : hp arr = some (ad_ra G cp f)) (hc2 : 2 ≤ cp) (hc : cp ≤ 66) (K : ad_K ci C T N ty0) (hca : Cond.castable C "java/lang/Object" ∈ ad_T) (hel : ∀ i, i < cp → ∀ y, f i = some y → ∃ vs, hp y = some (.inr (ci, vs))) : ad_Ct l y_AL_grow b_AL_grow 1 rt_AL_grow hs_AL_grow 5 1 100 G lo hp [.ref a] (fun r hp' => ∃ q : Nat, r = .inl (some (.ref q)) ∧ hp q = none ∧ hp' q = some (ad_ra G (cp + cp / 2) (va_cpy f (fun _ => none) 0 0 cp)) ∧ hp' a = some (.inr (3, [.ref q, .int (nI cp), .int mv])) ∧ ∀ z, z ≠ q → z ≠ a → hp' z = hp z) := by
  intro p e s m below meth c M hts hB hP
  have hx := M.1
  have hb := M.2.1
  have hml := M.2.2.1
  have hown : s.vm.findClass "java/util/ArrayList" = some m.cls := M.2.2.2.1
  have S : CallFix p m c b_AL_grow 1 s _ ad_T "java/util/ArrayList" := ⟨hx, hb, hml, hown, hts⟩
  have I : ad_I G lo s hp s.heap [] := ad_I.rf hB hP
  have hl := lv_entry ([.ref a]) (n := 1) (Nat.le_of_ble_eq_true rfl)
  rw [lg_entry_eq]
  generalize (lg_sl ([.ref a]) ++ List.replicate (1 - (lg_sl ([.ref a])).length) Slot.unset).toArray = ls at hl ⊢
  have hl : lv_has ls 1 [(0, .ref a)] := hl
  refine lv_aload_n hx hb d_AL_grow_0 rfl (lv_at hl 0 rfl) ?_
  refine lv_aload_n hx hb d_AL_grow_1 rfl (lv_at hl 0 rfl) ?_
  refine ad_get S I h K_AL 1 (by decide) w_56 rfl d_AL_grow_2 ?_
  refine lv_iconst (v := 1) hx hb d_AL_grow_5 (by decide) ?_
  refine lv_iadd hx hb d_AL_grow_6 ?_
  refine ad_top (y := .int (nI (cp + 1))) (congrArg Value.int (nI_1 cp)) ?_
  refine ad_cZq S I (ad_ivV (As := [.int (nI (cp + 1))]) (rest := []) S (ad_recv I h K_AL) w_236 w_238 sp_AL_grow1 Y_AL_grow1 ⟨by decide, by decide, np_AL_grow1⟩ rfl d_AL_grow_7) (c_AL_grow1_full l G lo hp a arr cp f (nI cp) mv ci C T N ty0 h h2 hc2 hc K hca hel) Y_AL_grow1 hl.1 ⟨Nat.le_of_ble_eq_true rfl, Nat.le_of_ble_eq_true rfl⟩ (Nat.le_of_ble_eq_true rfl) (Nat.le_of_ble_eq_true rfl) d_AL_grow_7 (fun q1 hp1 H1 locs1 hA I => ?_)
  obtain ⟨n1, u1_0, u1_1, k1⟩ := hA
  have ne_arr_q1 : arr ≠ q1 := ad_nn n1 h2
  have fhp1_arr := (k1 arr ne_arr_q1 (ad_ne h2 h (by simp))).trans h2
  exact ad_aret M I (Or.inr ⟨_, rfl⟩) (Or.inr ⟨_, rfl⟩) (by omega) (by omega) (⟨q1, rfl, n1, u1_0, u1_1, k1⟩) d_AL_grow_10
set_option maxHeartbeats 4000000 in
set_option maxRecDepth 100000 in
theorem c_AL_add3_in (l : Launch) (G : ad_G) (lo : Nat) (hp : ad_H) (a arr cp n : Nat) (f : Nat → Option Nat) (mv : Int32) (v : Nat) (vs : List Value) (ci : Nat) (C : String) (T : u_T) (N : Nat) (ty0 : Nat → FieldType) (h : hp a = some (.inr (3, [.ref arr, .int (nI n), .int mv]))) (h2 : hp arr = some (ad_ra G cp f)) (hv : hp v = some (.inr (ci, vs))) (hn : n < cp) (hc : cp ≤ 100) (hna : v ≠ a) (K : ad_K ci C T N ty0) (hca : Cond.castable C "java/lang/Object" ∈ ad_T) : ad_Ct l y_AL_add3 b_AL_add3 4 rt_AL_add3 hs_AL_add3 6 1 100 G lo hp [.ref a, .ref v, .ref arr, .int (nI n)] (fun r hp' => r = .inl none ∧ hp' arr = some (ad_ra G cp (va_up f n (some v))) ∧ hp' a = some (.inr (3, [.ref arr, .int (nI (n + 1)), .int mv])) ∧ ∀ z, z ≠ arr → z ≠ a → hp' z = hp z) := by
  intro p e s m below meth c M hts hB hP
  have hx := M.1
  have hb := M.2.1
  have hml := M.2.2.1
  have hown : s.vm.findClass "java/util/ArrayList" = some m.cls := M.2.2.2.1
  have S : CallFix p m c b_AL_add3 4 s _ ad_T "java/util/ArrayList" := ⟨hx, hb, hml, hown, hts⟩
  have I : ad_I G lo s hp s.heap [] := ad_I.rf hB hP
  have hl := lv_entry ([.ref a, .ref v, .ref arr, .int (nI n)]) (n := 4) (Nat.le_of_ble_eq_true rfl)
  rw [lg_entry_eq]
  generalize (lg_sl ([.ref a, .ref v, .ref arr, .int (nI n)]) ++ List.replicate (4 - (lg_sl ([.ref a, .ref v, .ref arr, .int (nI n)])).length) Slot.unset).toArray = ls at hl ⊢
  have hl : lv_has ls 4 [(0, .ref a), (1, .ref v), (2, .ref arr), (3, .int (nI n))] := hl
  refine lv_iload_n hx hb d_AL_add3_0 rfl (lv_at hl 3 rfl) ?_
  refine lv_aload_n hx hb d_AL_add3_1 rfl (lv_at hl 2 rfl) ?_
  refine ad_alen (v := nI cp) S I h2 1 rfl rfl d_AL_add3_2 ?_
  refine lv_icmp_ne (tgt := 11) hx hb d_AL_add3_3 (by decide) (fun c3 => ?_) (fun c3 => ?_)
  · refine lv_aload_n hx hb d_AL_add3_11 rfl (lv_at hl 2 rfl) ?_
    refine lv_iload_n hx hb d_AL_add3_12 rfl (lv_at hl 3 rfl) ?_
    refine lv_aload_n hx hb d_AL_add3_13 rfl (lv_at hl 1 rfl) ?_
    refine ad_aast S I h2 hv K hca (vp_in_nI hn (by omega)) d_AL_add3_14 (fun H1 locs1 I => ?_)
    rw [show (nI n).toNatClampNeg = n from nI_clamp (by omega)] at I
    obtain ⟨hp1, ehp1⟩ : ∃ z : ad_H, z = ad_up hp arr (ad_ra G cp (va_up f n (some v))) := ⟨_, rfl⟩
    have I : ad_I G lo s hp1 H1 locs1 := by rw [ehp1]; exact I
    have fhp1_a := (show hp1 a = hp a by rw [ehp1]; exact ad_up_n _ (ad_ne h h2 (by simp))).trans h
    have fhp1_v := (show hp1 v = hp v by rw [ehp1]; exact ad_up_n _ (ad_ne hv h2 (by simp))).trans hv
    have fhp1_arr : hp1 arr = some (ad_ra G cp (va_up f n (some v))) := by rw [ehp1]; exact ad_up_s _ _ _
    refine lv_aload_n hx hb d_AL_add3_15 rfl (lv_at hl 0 rfl) ?_
    refine lv_iload_n hx hb d_AL_add3_16 rfl (lv_at hl 3 rfl) ?_
    refine lv_iconst (v := 1) hx hb d_AL_add3_17 (by decide) ?_
    refine lv_iadd hx hb d_AL_add3_18 ?_
    refine ad_top (y := .int (nI (n + 1))) (congrArg Value.int (nI_1 n)) ?_
    refine ad_put S I fhp1_a K_AL 1 (by decide) w_56 rfl rfl rfl (by simp) d_AL_add3_19 (fun H1 locs1 I => ?_)
    obtain ⟨hp2, ehp2⟩ : ∃ z : ad_H, z = ad_up hp1 a (.inr (3, [.ref arr, .int (nI (n + 1)), .int mv])) := ⟨_, rfl⟩
    have I : ad_I G lo s hp2 H1 locs1 := by rw [ehp2]; exact I
    have fhp2_a : hp2 a = some (.inr (3, [.ref arr, .int (nI (n + 1)), .int mv])) := by rw [ehp2]; exact ad_up_s _ _ _
    have fhp2_v := (show hp2 v = hp1 v by rw [ehp2]; exact ad_up_n _ (hna)).trans fhp1_v
    have fhp2_arr := (show hp2 arr = hp1 arr by rw [ehp2]; exact ad_up_n _ (ad_ne fhp1_arr fhp1_a (by simp))).trans fhp1_arr
    exact ad_vret M I (by omega) (by omega) (⟨rfl, fhp2_arr, fhp2_a, fun z h1 h2 => by rw [ehp2, ad_up_n _ h2, ehp1, ad_up_n _ h1]⟩) d_AL_add3_22
  · exact absurd ((nI_eq (by omega) (by omega)).mp c3) (by omega)
set_option maxHeartbeats 4000000 in
set_option maxRecDepth 100000 in
theorem c_AL_add3_first (l : Launch) (G : ad_G) (lo : Nat) (hp : ad_H) (a : Nat) (mv : Int32) (v : Nat) (vs : List Value) (ci : Nat) (C : String) (T : u_T) (N : Nat) (ty0 : Nat → FieldType) (h : hp a = some (.inr (3, [.ref (G.2.2 0), .int (nI 0), .int mv]))) (hv : hp v = some (.inr (ci, vs))) (hna : v ≠ a) (K : ad_K ci C T N ty0) (hca : Cond.castable C "java/lang/Object" ∈ ad_T) : ad_Ct l y_AL_add3 b_AL_add3 4 rt_AL_add3 hs_AL_add3 6 1 100 G lo hp [.ref a, .ref v, .ref (G.2.2 0), .int (nI 0)] (fun r hp' => r = .inl none ∧ ∃ q : Nat, hp q = none ∧ hp' q = some (ad_ra G 10 (va_up (fun _ => none) 0 (some v))) ∧ hp' a = some (.inr (3, [.ref q, .int (nI (0 + 1)), .int mv])) ∧ ∀ z, z ≠ q → z ≠ a → hp' z = hp z) := by
  intro p e s m below meth c M hts hB hP
  have hx := M.1
  have hb := M.2.1
  have hml := M.2.2.1
  have hown : s.vm.findClass "java/util/ArrayList" = some m.cls := M.2.2.2.1
  have S : CallFix p m c b_AL_add3 4 s _ ad_T "java/util/ArrayList" := ⟨hx, hb, hml, hown, hts⟩
  have I : ad_I G lo s hp s.heap [] := ad_I.rf hB hP
  have hl := lv_entry ([.ref a, .ref v, .ref (G.2.2 0), .int (nI 0)]) (n := 4) (Nat.le_of_ble_eq_true rfl)
  rw [lg_entry_eq]
  generalize (lg_sl ([.ref a, .ref v, .ref (G.2.2 0), .int (nI 0)]) ++ List.replicate (4 - (lg_sl ([.ref a, .ref v, .ref (G.2.2 0), .int (nI 0)])).length) Slot.unset).toArray = ls at hl ⊢
  have hl : lv_has ls 4 [(0, .ref a), (1, .ref v), (2, .ref (G.2.2 0)), (3, .int (nI 0))] := hl
  refine lv_iload_n hx hb d_AL_add3_0 rfl (lv_at hl 3 rfl) ?_
  refine lv_aload_n hx hb d_AL_add3_1 rfl (lv_at hl 2 rfl) ?_
  refine ad_alenE S I d_AL_add3_2 ?_
  refine lv_icmp_ne (tgt := 11) hx hb d_AL_add3_3 (by decide) (fun c3 => ?_) (fun c3 => ?_)
  · exact absurd rfl c3
  · refine lv_aload_n hx hb d_AL_add3_6 rfl (lv_at hl 0 rfl) ?_
    refine ad_cZq S I (ad_ivV (As := []) (rest := []) S (ad_recv I h K_AL) w_232 w_234 sp_AL_grow Y_AL_grow ⟨by decide, by decide, np_AL_grow⟩ rfl d_AL_add3_7) (c_AL_grow_first l G lo hp a mv h) Y_AL_grow hl.1 ⟨Nat.le_of_ble_eq_true rfl, Nat.le_of_ble_eq_true rfl⟩ (Nat.le_of_ble_eq_true rfl) (Nat.le_of_ble_eq_true rfl) d_AL_add3_7 (fun q1 hp1 H1 locs1 hA I => ?_)
    obtain ⟨n1, u1_0, u1_1, k1⟩ := hA
    have ne_v_q1 : v ≠ q1 := ad_nn n1 hv
    have fhp1_v := (k1 v ne_v_q1 (hna)).trans hv
    refine lv_astore_n (lv' := [(2, .ref q1), (0, .ref a), (1, .ref v), (3, .int (nI 0))]) hx hb d_AL_add3_10 rfl hl (by decide) rfl (fun ls hl => ?_)
    refine lv_aload_n hx hb d_AL_add3_11 rfl (lv_at hl 0 rfl) ?_
    refine lv_iload_n hx hb d_AL_add3_12 rfl (lv_at hl 3 rfl) ?_
    refine lv_aload_n hx hb d_AL_add3_13 rfl (lv_at hl 2 rfl) ?_
    refine ad_aast S I u1_0 fhp1_v K hca (vp_in_nI (by omega) (by omega)) d_AL_add3_14 (fun H1 locs1 I => ?_)
    rw [show (nI 0).toNatClampNeg = 0 from nI_clamp (by omega)] at I
    obtain ⟨hp2, ehp2⟩ : ∃ z : ad_H, z = ad_up hp1 q1 (ad_ra G 10 (va_up (fun _ => none) 0 (some v))) := ⟨_, rfl⟩
    have I : ad_I G lo s hp2 H1 locs1 := by rw [ehp2]; exact I
    have fhp2_a := (show hp2 a = hp1 a by rw [ehp2]; exact ad_up_n _ (ad_ne u1_1 u1_0 (by simp))).trans u1_1
    have fhp2_v := (show hp2 v = hp1 v by rw [ehp2]; exact ad_up_n _ (ne_v_q1)).trans fhp1_v
    have fhp2_q1 : hp2 q1 = some (ad_ra G 10 (va_up (fun _ => none) 0 (some v))) := by rw [ehp2]; exact ad_up_s _ _ _
    refine lv_aload_n hx hb d_AL_add3_15 rfl (lv_at hl 1 rfl) ?_
    refine lv_iload_n hx hb d_AL_add3_16 rfl (lv_at hl 3 rfl) ?_
    refine lv_iconst (v := 1) hx hb d_AL_add3_17 (by decide) ?_
    refine lv_iadd hx hb d_AL_add3_18 ?_
    refine ad_top (y := .int (nI (0 + 1))) (congrArg Value.int (nI_1 0)) ?_
    refine ad_put S I fhp2_a K_AL 1 (by decide) w_56 rfl rfl rfl (by simp) d_AL_add3_19 (fun H1 locs1 I => ?_)
    obtain ⟨hp3, ehp3⟩ : ∃ z : ad_H, z = ad_up hp2 a (.inr (3, [.ref q1, .int (nI (0 + 1)), .int mv])) := ⟨_, rfl⟩
    have I : ad_I G lo s hp3 H1 locs1 := by rw [ehp3]; exact I
    have fhp3_a : hp3 a = some (.inr (3, [.ref q1, .int (nI (0 + 1)), .int mv])) := by rw [ehp3]; exact ad_up_s _ _ _
    have fhp3_v := (show hp3 v = hp2 v by rw [ehp3]; exact ad_up_n _ (hna)).trans fhp2_v
    have fhp3_q1 := (show hp3 q1 = hp2 q1 by rw [ehp3]; exact ad_up_n _ (ad_ne fhp2_q1 fhp2_a (by simp))).trans fhp2_q1
    exact ad_vret M I (by omega) (by omega) (⟨rfl, q1, n1, fhp3_q1, fhp3_a, fun z h1 h2 => by rw [ehp3, ad_up_n _ h2, ehp2, ad_up_n _ h1]; exact k1 z h1 h2⟩) d_AL_add3_22
set_option maxHeartbeats 4000000 in
set_option maxRecDepth 100000 in
theorem c_AL_add3_full (l : Launch) (G : ad_G) (lo : Nat) (hp : ad_H) (a arr cp : Nat) (f : Nat → Option Nat) (mv : Int32) (v : Nat) (vs : List Value) (ci : Nat) (C : String) (T : u_T) (N : Nat) (ty0 : Nat → FieldType) (h : hp a = some (.inr (3, [.ref arr, .int (nI cp), .int mv]))) (h2 : hp arr = some (ad_ra G cp f)) (hc2 : 2 ≤ cp) (hc : cp ≤ 66) (K : ad_K ci C T N ty0) (hca : Cond.castable C "java/lang/Object" ∈ ad_T) (hel : ∀ i, i < cp → ∀ y, f i = some y → ∃ vs, hp y = some (.inr (ci, vs))) (hv : hp v = some (.inr (ci, vs))) (hna : v ≠ a) : ad_Ct l y_AL_add3 b_AL_add3 4 rt_AL_add3 hs_AL_add3 6 1 100 G lo hp [.ref a, .ref v, .ref arr, .int (nI cp)] (fun r hp' => r = .inl none ∧ ∃ q : Nat, hp q = none ∧ hp' q = some (ad_ra G (cp + cp / 2) (va_up (va_cpy f (fun _ => none) 0 0 cp) cp (some v))) ∧ hp' a = some (.inr (3, [.ref q, .int (nI (cp + 1)), .int mv])) ∧ ∀ z, z ≠ q → z ≠ a → hp' z = hp z) := by
  intro p e s m below meth c M hts hB hP
  have hx := M.1
  have hb := M.2.1
  have hml := M.2.2.1
  have hown : s.vm.findClass "java/util/ArrayList" = some m.cls := M.2.2.2.1
  have S : CallFix p m c b_AL_add3 4 s _ ad_T "java/util/ArrayList" := ⟨hx, hb, hml, hown, hts⟩
  have I : ad_I G lo s hp s.heap [] := ad_I.rf hB hP
  have hl := lv_entry ([.ref a, .ref v, .ref arr, .int (nI cp)]) (n := 4) (Nat.le_of_ble_eq_true rfl)
  rw [lg_entry_eq]
  generalize (lg_sl ([.ref a, .ref v, .ref arr, .int (nI cp)]) ++ List.replicate (4 - (lg_sl ([.ref a, .ref v, .ref arr, .int (nI cp)])).length) Slot.unset).toArray = ls at hl ⊢
  have hl : lv_has ls 4 [(0, .ref a), (1, .ref v), (2, .ref arr), (3, .int (nI cp))] := hl
  refine lv_iload_n hx hb d_AL_add3_0 rfl (lv_at hl 3 rfl) ?_
  refine lv_aload_n hx hb d_AL_add3_1 rfl (lv_at hl 2 rfl) ?_
  refine ad_alen (v := nI cp) S I h2 1 rfl rfl d_AL_add3_2 ?_
  refine lv_icmp_ne (tgt := 11) hx hb d_AL_add3_3 (by decide) (fun c3 => ?_) (fun c3 => ?_)
  · exact absurd rfl c3
  · refine lv_aload_n hx hb d_AL_add3_6 rfl (lv_at hl 0 rfl) ?_
    refine ad_cZq S I (ad_ivV (As := []) (rest := []) S (ad_recv I h K_AL) w_232 w_234 sp_AL_grow Y_AL_grow ⟨by decide, by decide, np_AL_grow⟩ rfl d_AL_add3_7) (c_AL_grow_full l G lo hp a arr cp f mv ci C T N ty0 h h2 hc2 hc K hca hel) Y_AL_grow hl.1 ⟨Nat.le_of_ble_eq_true rfl, Nat.le_of_ble_eq_true rfl⟩ (Nat.le_of_ble_eq_true rfl) (Nat.le_of_ble_eq_true rfl) d_AL_add3_7 (fun q1 hp1 H1 locs1 hA I => ?_)
    obtain ⟨n1, u1_0, u1_1, k1⟩ := hA
    have ne_v_q1 : v ≠ q1 := ad_nn n1 hv
    have fhp1_v := (k1 v ne_v_q1 (hna)).trans hv
    have ne_arr_q1 : arr ≠ q1 := ad_nn n1 h2
    have fhp1_arr := (k1 arr ne_arr_q1 (ad_ne h2 h (by simp))).trans h2
    refine lv_astore_n (lv' := [(2, .ref q1), (0, .ref a), (1, .ref v), (3, .int (nI cp))]) hx hb d_AL_add3_10 rfl hl (by decide) rfl (fun ls hl => ?_)
    refine lv_aload_n hx hb d_AL_add3_11 rfl (lv_at hl 0 rfl) ?_
    refine lv_iload_n hx hb d_AL_add3_12 rfl (lv_at hl 3 rfl) ?_
    refine lv_aload_n hx hb d_AL_add3_13 rfl (lv_at hl 2 rfl) ?_
    refine ad_aast S I u1_0 fhp1_v K hca (vp_in_nI (by omega) (by omega)) d_AL_add3_14 (fun H1 locs1 I => ?_)
    rw [show (nI cp).toNatClampNeg = cp from nI_clamp (by omega)] at I
    obtain ⟨hp2, ehp2⟩ : ∃ z : ad_H, z = ad_up hp1 q1 (ad_ra G (cp + cp / 2) (va_up (va_cpy f (fun _ => none) 0 0 cp) cp (some v))) := ⟨_, rfl⟩
    have I : ad_I G lo s hp2 H1 locs1 := by rw [ehp2]; exact I
    have fhp2_a := (show hp2 a = hp1 a by rw [ehp2]; exact ad_up_n _ (ad_ne u1_1 u1_0 (by simp))).trans u1_1
    have fhp2_v := (show hp2 v = hp1 v by rw [ehp2]; exact ad_up_n _ (ne_v_q1)).trans fhp1_v
    have fhp2_arr := (show hp2 arr = hp1 arr by rw [ehp2]; exact ad_up_n _ (ne_arr_q1)).trans fhp1_arr
    have fhp2_q1 : hp2 q1 = some (ad_ra G (cp + cp / 2) (va_up (va_cpy f (fun _ => none) 0 0 cp) cp (some v))) := by rw [ehp2]; exact ad_up_s _ _ _
    refine lv_aload_n hx hb d_AL_add3_15 rfl (lv_at hl 1 rfl) ?_
    refine lv_iload_n hx hb d_AL_add3_16 rfl (lv_at hl 3 rfl) ?_
    refine lv_iconst (v := 1) hx hb d_AL_add3_17 (by decide) ?_
    refine lv_iadd hx hb d_AL_add3_18 ?_
    refine ad_top (y := .int (nI (cp + 1))) (congrArg Value.int (nI_1 cp)) ?_
    refine ad_put S I fhp2_a K_AL 1 (by decide) w_56 rfl rfl rfl (by simp) d_AL_add3_19 (fun H1 locs1 I => ?_)
    obtain ⟨hp3, ehp3⟩ : ∃ z : ad_H, z = ad_up hp2 a (.inr (3, [.ref q1, .int (nI (cp + 1)), .int mv])) := ⟨_, rfl⟩
    have I : ad_I G lo s hp3 H1 locs1 := by rw [ehp3]; exact I
    have fhp3_a : hp3 a = some (.inr (3, [.ref q1, .int (nI (cp + 1)), .int mv])) := by rw [ehp3]; exact ad_up_s _ _ _
    have fhp3_v := (show hp3 v = hp2 v by rw [ehp3]; exact ad_up_n _ (hna)).trans fhp2_v
    have fhp3_arr := (show hp3 arr = hp2 arr by rw [ehp3]; exact ad_up_n _ (ad_ne fhp2_arr fhp2_a (by simp))).trans fhp2_arr
    have fhp3_q1 := (show hp3 q1 = hp2 q1 by rw [ehp3]; exact ad_up_n _ (ad_ne fhp2_q1 fhp2_a (by simp))).trans fhp2_q1
    exact ad_vret M I (by omega) (by omega) (⟨rfl, q1, n1, fhp3_q1, fhp3_a, fun z h1 h2 => by rw [ehp3, ad_up_n _ h2, ehp2, ad_up_n _ h1]; exact k1 z h1 h2⟩) d_AL_add3_22
