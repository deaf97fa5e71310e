section CRT
variable {G : ad_G} {hp hp1 hp2 : ad_H} {x dA tA lA rA gA sA : Nat} {ta ros : List Nat} {ts : List TH} {la lt rr rw : List Nat} {sd : Int64} {fg fs : Nat → Int32}
theorem CR.ra (C : CR G hp x dA tA lA rA gA sA ta ros ts la lt rr rw sd fg fs) {j y ra : Nat} {t : TH} (ht : ts[j]? = some t) (hy : ta[j]? = some y) (hty : hp y = some (oT j t ra)) : ros[j]? = some ra ∧ ro G hp ra t.2.2.2.2 := by
  obtain ⟨a, ra', q1, q2, q3, q4⟩ := C.th ht
  cases hy.symm.trans q1
  have hra : ra' = ra := by
    have := hty.symm.trans q3
    simp at this
    exact this.symm
  subst hra
  exact ⟨q2, q4⟩
theorem lk.grow {ta xs ws : List Nat} (h : lk ta xs ws) (q : Nat) : lk (ta ++ [q]) xs ws := ⟨h.1, fun j i hi => by
  obtain ⟨y, h1, h2⟩ := h.2 j i hi
  refine ⟨y, h1, ?_⟩
  rw [List.getElem?_append_left (List.getElem?_eq_some_iff.mp h2).1]
  exact h2⟩
theorem ex_fr (hk : ∀ z e, hp z = some e → hp1 z = some e) (gA sA : Nat) : fr gA sA hp hp1 := fun z e hz _ => hk z e hz
theorem CR.newT (C : CR G hp x dA tA lA rA gA sA ta ros ts la lt rr rw sd fg fs) {q q2 : Nat} {t : TH} (hk : ∀ z e, hp z = some e → hp1 z = some e) (h1 : hp1 q = some (oT ts.length t q2)) (h2 : hp1 q2 = some (.inr (3, [.ref (G.2.2 0), .int 0, .int 0]))) (h3 : hp q2 = none) (hr : t.2.2.2.2 = []) (hE1 : hp1 (G.2.2 0) = none) (h : Op hp1 hp2 tA) (h4 : al G hp2 tA (ta ++ [q])) (hE : hp2 (G.2.2 0) = none) (hn : ts.length < 64) :
    CR G hp2 x dA tA lA rA gA sA (ta ++ [q]) (ros ++ [q2]) (ts ++ [t]) la lt rr rw sd fg fs ∧ fr gA sA hp hp2 := by
  have hq2 : q2 ∉ tA :: lA :: rA :: ros := fun hm => by
    obtain ⟨ys, hy⟩ := C.all q2 hm
    obtain ⟨fs, hf⟩ := hy.self
    rw [h3] at hf; cases hf
  have a1 := (ex_al hk hE1 C.hA).1
  have a2 := (ex_al hk hE1 C.hLa).1
  have a3 := (ex_al hk hE1 C.hRr).1
  have a4 : al G hp1 q2 [] := ⟨_, 0, fun _ => none, 0, h2, Or.inl ⟨rfl, hE1, rfl⟩⟩
  have sp0 : Sep hp1 ((tA :: lA :: rA :: ros) ++ [q2]) := sep_new (ex_sep hk hE1 C.all C.sp) hq2 (fun z hz => by rw [hz.eq h2]; exact hE1)
  have sp1 : Sep hp1 (tA :: lA :: rA :: (ros ++ [q2])) := sp0
  have hall : ∀ b ∈ tA :: lA :: rA :: (ros ++ [q2]), ∃ ys, al G hp1 b ys := by
    intro b hb
    have hb : b ∈ (tA :: lA :: rA :: ros) ++ [q2] := hb
    rw [List.mem_append, List.mem_singleton] at hb
    rcases hb with hb | rfl
    · obtain ⟨ys, hy⟩ := C.all b hb
      exact ⟨ys, (ex_al hk hE1 hy).1⟩
    · exact ⟨_, a4⟩
  obtain ⟨⟨n1, n2, n3⟩, n4⟩ := C.nd
  have hl1 := C.2.2.2.2.2.2.2.2.1.1
  have hl2 := C.2.2.2.2.2.2.2.2.1.2
  refine ⟨⟨h.cell a1 (hk _ _ C.hX) trivial, h.cell a1 (hk _ _ C.hD) trivial, h.cell a1 (hk _ _ C.hg) trivial, h.cell a1 (hk _ _ C.hs) trivial, C.2.2.2.2.1, h4, (h.lst sp1 (by simp) (by simp) (Ne.symm n1) a1 a2 hE).1, (h.lst sp1 (by simp) (by simp) (Ne.symm n2) a1 a3 hE).1, by simp [hl1, hl2], fun i t2 ht2 => ?_, h.sep sp1 (by simp) hall hE, C.lkl.grow q, C.lkr.grow q, hE, by simp; omega⟩, (ex_fr hk gA sA).tr (h.frm a1 gA sA)⟩
  rw [List.getElem?_append] at ht2
  by_cases hi : i < ts.length
  · rw [if_pos hi] at ht2
    obtain ⟨a, ra, q1, q2', q3, q4⟩ := C.th ht2
    have hm : ra ∈ ros := List.mem_of_getElem? q2'
    refine ⟨a, ra, ?_, ?_, h.cell a1 (hk _ _ q3) trivial, h.row sp1 (by simp) (by simp [hm]) (n4 ra hm).1 a1 hE (ex_ro hk hE1 q4)⟩
    · rw [List.getElem?_append_left (by omega)]; exact q1
    · rw [List.getElem?_append_left (by omega)]; exact q2'
  · rw [if_neg hi] at ht2
    have : i - ts.length = 0 := by
      have := (List.getElem?_eq_some_iff.mp ht2).1
      simp at this; omega
    rw [this] at ht2
    simp at ht2
    subst ht2
    obtain rfl : i = ts.length := by omega
    refine ⟨q, q2, ?_, ?_, h.cell a1 h1 trivial, h.row sp1 (by simp) (by simp) (fun hh => hq2 (by simp [hh])) a1 hE (by rw [hr]; exact ⟨[], a4, rfl, fun k r hk => by simp at hk⟩)⟩
    · rw [List.getElem?_append_right (by omega)]; simp [hl1]
    · rw [List.getElem?_append_right (by omega)]; simp [hl2]
theorem CR.tag (C : CR G hp x dA tA lA rA gA sA ta ros ts la lt rr rw sd fg fs) {j y ra q : Nat} {t : TH} {r : R3} {sa : List Nat} (ht : ts[j]? = some t) (hy : ta[j]? = some y) (hty : hp y = some (oT j t ra)) (hsa : al G hp ra sa) (hsl : sa.length = t.2.2.2.2.length) (hse : ∀ (k : Nat) (r : R3), t.2.2.2.2[k]? = some r → ∃ y : Nat, sa[k]? = some y ∧ hp y = some (oS r))
    (hk : ∀ z e, hp z = some e → hp1 z = some e) (h1 : hp1 q = some (oS r)) (hE1 : hp1 (G.2.2 0) = none) (h : Op hp1 hp2 ra) (h4 : al G hp2 ra (sa ++ [q])) (hE : hp2 (G.2.2 0) = none) :
    CR G hp2 x dA tA lA rA gA sA ta ros (ts.set j (t.1, t.2.1, t.2.2.1, t.2.2.2.1, t.2.2.2.2 ++ [r])) la lt rr rw sd fg fs ∧ fr gA sA hp hp2 := by
  have hjl : j < ts.length := (List.getElem?_eq_some_iff.mp ht).1
  obtain ⟨hro, -⟩ := C.ra ht hy hty
  have hm : ra ∈ ros := List.mem_of_getElem? hro
  have hmL : ra ∈ tA :: lA :: rA :: ros := by simp [hm]
  have b1 := (ex_al hk hE1 C.hA).1
  have b2 := (ex_al hk hE1 C.hLa).1
  have b3 := (ex_al hk hE1 C.hRr).1
  have b4 := (ex_al hk hE1 hsa).1
  have sp1 := ex_sep hk hE1 C.all C.sp
  have hall : ∀ b ∈ tA :: lA :: rA :: ros, ∃ ys, al G hp1 b ys := fun b hb => by
    obtain ⟨ys, hy⟩ := C.all b hb
    exact ⟨ys, (ex_al hk hE1 hy).1⟩
  obtain ⟨⟨n1, n2, n3⟩, n4⟩ := C.nd
  obtain ⟨m1, m2, m3⟩ := n4 ra hm
  have hN : ros.Nodup := by
    have h := C.sp.1
    simp only [List.nodup_cons] at h
    exact h.2.2.2
  refine ⟨⟨h.cell b4 (hk _ _ C.hX) trivial, h.cell b4 (hk _ _ C.hD) trivial, h.cell b4 (hk _ _ C.hg) trivial, h.cell b4 (hk _ _ C.hs) trivial, C.2.2.2.2.1, (h.lst sp1 hmL (by simp) (Ne.symm m1) b4 b1 hE).1, (h.lst sp1 hmL (by simp) (Ne.symm m2) b4 b2 hE).1, (h.lst sp1 hmL (by simp) (Ne.symm m3) b4 b3 hE).1, by rw [List.length_set]; exact C.2.2.2.2.2.2.2.2.1, fun i t2 ht2 => ?_, h.sep sp1 hmL hall hE, C.lkl, C.lkr, hE, by rw [List.length_set]; exact C.hn⟩, (ex_fr hk gA sA).tr (h.frm b4 gA sA)⟩
  by_cases hij : i = j
  · subst hij
    rw [List.getElem?_set_self hjl] at ht2
    cases ht2
    refine ⟨y, ra, hy, hro, h.cell b4 (hk _ _ hty) trivial, sa ++ [q], h4, by simp [hsl], fun k r2 hr2 => ?_⟩
    have hr2 : (t.2.2.2.2 ++ [r])[k]? = some r2 := hr2
    rw [List.getElem?_append] at hr2
    by_cases hk2 : k < t.2.2.2.2.length
    · rw [if_pos hk2] at hr2
      obtain ⟨y2, g1, g2⟩ := hse k r2 hr2
      exact ⟨y2, by rw [List.getElem?_append_left (by omega)]; exact g1, h.cell b4 (hk _ _ g2) trivial⟩
    · rw [if_neg hk2] at hr2
      have : k - t.2.2.2.2.length = 0 := by
        have := (List.getElem?_eq_some_iff.mp hr2).1
        simp at this; omega
      rw [this] at hr2
      simp at hr2
      subst hr2
      exact ⟨q, by rw [List.getElem?_append_right (by omega)]; simp [hsl, this], h.cell b4 h1 trivial⟩
  · rw [List.getElem?_set_ne (Ne.symm hij)] at ht2
    obtain ⟨a, ra', q1, q2, q3, q4⟩ := C.th ht2
    have hm' : ra' ∈ ros := List.mem_of_getElem? q2
    have hne : ra' ≠ ra := fun hh => by
      subst hh
      obtain ⟨u1, e1⟩ := List.getElem?_eq_some_iff.mp q2
      obtain ⟨u2, e2⟩ := List.getElem?_eq_some_iff.mp hro
      rcases Nat.lt_or_gt_of_ne hij with h9 | h9
      · exact List.pairwise_iff_getElem.mp hN i j u1 u2 h9 (e1.trans e2.symm)
      · exact List.pairwise_iff_getElem.mp hN j i u2 u1 h9 (e2.trans e1.symm)
    exact ⟨a, ra', q1, q2, h.cell b4 (hk _ _ q3) trivial, h.row sp1 hmL (by simp [hm']) hne b4 hE (ex_ro hk hE1 q4)⟩
end CRT
theorem CR.start {G : ad_G} {hp : ad_H} {x dA tA lA rA gA sA : Nat} (hX : hp x = some (.inr (4, [.ref dA, .ref tA, .ref lA, .ref rA, .ref gA, .ref sA]))) (hD : hp dA = some (.inr (0, [.long 0]))) (h1 : hp tA = some (.inr (3, [.ref (G.2.2 0), .int 0, .int 0]))) (h2 : hp lA = some (.inr (3, [.ref (G.2.2 0), .int 0, .int 0]))) (h3 : hp rA = some (.inr (3, [.ref (G.2.2 0), .int 0, .int 0]))) (hg : hp gA = some (.inl (G.2.1 0, 6, .inl (fun _ => 0)))) (hs : hp sA = some (.inl (G.2.1 0, 6, .inl (fun _ => 0)))) (n1 : tA ≠ lA) (n2 : tA ≠ rA) (n3 : lA ≠ rA) (n4 : gA ≠ sA) (hE : hp (G.2.2 0) = none) : CR G hp x dA tA lA rA gA sA [] [] [] [] [] [] [] 0 (fun _ => 0) (fun _ => 0) := by
  refine ⟨hX, hD, hg, hs, n4, ⟨_, 0, fun _ => none, 0, h1, Or.inl ⟨rfl, hE, rfl⟩⟩, ⟨_, 0, fun _ => none, 0, h2, Or.inl ⟨rfl, hE, rfl⟩⟩, ⟨_, 0, fun _ => none, 0, h3, Or.inl ⟨rfl, hE, rfl⟩⟩, ⟨rfl, rfl⟩, fun i t h => by simp at h, ⟨by simp [n1, n2, n3], fun a ha b hb z e1 e2 hz => (hz ?_).elim⟩, lk.nil _, lk.nil _, hE, by simp⟩
  simp only [List.mem_cons, List.not_mem_nil, or_false] at ha
  rcases ha with rfl | rfl | rfl
  · rw [e1.eq h1]; exact hE
  · rw [e1.eq h2]; exact hE
  · rw [e1.eq h3]; exact hE
theorem ad_tn {hp hp1 : ad_H} {a q : Nat} (T : ∀ z, z ≠ a → hp z ≠ none → hp1 z = hp z) (h : a ≠ q) (n : hp1 q = none) : hp q = none := by
  cases hq : hp q with
  | none => rfl
  | some e =>
    have := T q (Ne.symm h) (by rw [hq]; simp)
    rw [n, hq] at this
    cases this
set_option maxHeartbeats 4000000 in
set_option maxRecDepth 100000 in
theorem c_A_init (l : Launch) (G : ad_G) (lo : Nat) (hp : ad_H) (a : Nat) (h : hp a = some (.inr (4, [.null, .null, .null, .null, .null, .null]))) : ad_Ct l y_A_init b_A_init 1 rt_A_init hs_A_init 4 6 22 G lo hp [.ref a] (fun r hp' => r = .inl none ∧ ∃ dA tA lA rA gA sA : Nat, CR G hp' a dA tA lA rA gA sA [] [] [] [] [] [] [] 0 (fun _ => 0) (fun _ => 0) ∧ hp gA = none ∧ hp sA = none ∧ ∀ z, z ≠ a → hp z ≠ none → hp' z = hp z) := by
  intro p e s m below meth c M hts hB hP
  have hx := M.1
  have hb := M.2.1
  have hml := M.2.2.1
  have hown : s.vm.findClass "AuditDraws" = some m.cls := M.2.2.2.1
  have S : CallFix p m c b_A_init 1 s _ ad_T "AuditDraws" := ⟨hx, hb, hml, hown, hts⟩
  have I : ad_I G lo s hp s.heap [] := ad_I.rf hB hP
  have hl := lv_entry ([.ref a]) (n := 1) (Nat.le_of_ble_eq_true rfl)
  rw [lg_entry_eq]
  generalize (lg_sl ([.ref a]) ++ List.replicate (1 - (lg_sl ([.ref a])).length) Slot.unset).toArray = ls at hl ⊢
  have hl : lv_has ls 1 [(0, .ref a)] := hl
  have hin : meth.name = "<init>" := M.2.2.2.2.2.2.2
  have T_hp : ∀ z, z ≠ a → hp z ≠ none → hp z = hp z := fun _ _ _ => rfl
  refine lv_aload_n hx hb d_A_init_0 rfl (lv_at hl 0 rfl) ?_
  refine W.objInit hx hb hown (hts _ w_27) (hts _ w_28) (hts _ w_29) rfl (by rw [hml]; exact hl.1) rfl d_A_init_1 (Nat.le_of_ble_eq_true rfl) (Nat.le_of_ble_eq_true rfl) ?_
  refine W.eq (g2 := F0 m 4 ls []) rfl ?_
  refine lv_aload_n hx hb d_A_init_4 rfl (lv_at hl 0 rfl) ?_
  refine ad_new S I K_Draw w_30 w_31 w_2 (fs := [.long 0]) (by decide) (Nat.le_of_ble_eq_true rfl) (Nat.le_of_ble_eq_true rfl) d_A_init_5 (fun da1 H1 n1 I => ?_)
  obtain ⟨hp1, ehp1⟩ : ∃ z : ad_H, z = ad_up hp da1 (.inr (0, [.long 0])) := ⟨_, rfl⟩
  rw [← ehp1] at I
  have u1_0 : hp1 da1 = some (.inr (0, [.long 0])) := by rw [ehp1]; exact ad_up_s _ _ _
  have k1 : ∀ z, z ≠ da1 → hp1 z = hp z := fun z hz => by rw [ehp1]; exact ad_up_n _ hz
  have ne_a_da1 : a ≠ da1 := ad_nn n1 h
  have fhp1_a := (k1 a ne_a_da1).trans h
  have F_da1 : ∀ z, z ≠ a → hp z ≠ none → z ≠ da1 := fun z hz h hh => h ((T_hp z hz h).symm.trans (by rw [hh]; exact n1))
  have N_da1 : hp da1 = none := ad_tn T_hp (ad_nn n1 h) n1
  have T_hp1 : ∀ z, z ≠ a → hp z ≠ none → hp1 z = hp z := fun z hz h => (k1 z (F_da1 z hz h)).trans (T_hp z hz h)
  refine lv_dup hx hb d_A_init_8 rfl ?_
  refine ad_cZi S I (ad_ivIN (As := []) (rest := [.ref da1, .ref a]) S (va_Nw.use rfl hB.2.2.2.2.2.2.2.2.1) w_33 w_34 rfl ⟨by decide, by decide, np_D_init⟩ rfl d_A_init_9) (c_D_init l G lo hp1 da1 u1_0) Y_D_init hl.1 ⟨Nat.le_of_ble_eq_true rfl, Nat.le_of_ble_eq_true rfl⟩ (Nat.le_of_ble_eq_true rfl) (Nat.le_of_ble_eq_true rfl) d_A_init_9 (fun hp2 H1 locs1 hA I => ?_)
  obtain ⟨u2_0, k2⟩ := hA
  have fhp2_a := (k2 a (ne_a_da1)).trans fhp1_a
  have T_hp2 : ∀ z, z ≠ a → hp z ≠ none → hp2 z = hp z := fun z hz h => (k2 z (F_da1 z hz h)).trans (T_hp1 z hz h)
  refine ad_putF S I fhp2_a K_AD 0 (by decide) w_67 rfl hin rfl rfl rfl (by simp) d_A_init_12 (fun H1 locs1 I => ?_)
  obtain ⟨hp3, ehp3⟩ : ∃ z : ad_H, z = ad_up hp2 a (.inr (4, [.ref da1, .null, .null, .null, .null, .null])) := ⟨_, rfl⟩
  have I : ad_I G lo s hp3 H1 locs1 := by rw [ehp3]; exact I
  have fhp3_a : hp3 a = some (.inr (4, [.ref da1, .null, .null, .null, .null, .null])) := by rw [ehp3]; exact ad_up_s _ _ _
  have fhp3_da1 := (show hp3 da1 = hp2 da1 by rw [ehp3]; exact ad_up_n _ ((ne_a_da1).symm)).trans u2_0
  have T_hp3 : ∀ z, z ≠ a → hp z ≠ none → hp3 z = hp z := fun z hz h => by rw [ehp3, ad_up_n _ hz]; exact T_hp2 z hz h
  refine lv_aload_n hx hb d_A_init_15 rfl (lv_at hl 0 rfl) ?_
  refine ad_new S I K_AL w_41 w_42 w_5 (fs := [.null, .int 0, .int 0]) (by decide) (Nat.le_of_ble_eq_true rfl) (Nat.le_of_ble_eq_true rfl) d_A_init_16 (fun ra4 H1 n4 I => ?_)
  obtain ⟨hp4, ehp4⟩ : ∃ z : ad_H, z = ad_up hp3 ra4 (.inr (3, [.null, .int 0, .int 0])) := ⟨_, rfl⟩
  rw [← ehp4] at I
  have u4_0 : hp4 ra4 = some (.inr (3, [.null, .int 0, .int 0])) := by rw [ehp4]; exact ad_up_s _ _ _
  have k4 : ∀ z, z ≠ ra4 → hp4 z = hp3 z := fun z hz => by rw [ehp4]; exact ad_up_n _ hz
  have ne_a_ra4 : a ≠ ra4 := ad_nn n4 fhp3_a
  have fhp4_a := (k4 a ne_a_ra4).trans fhp3_a
  have ne_da1_ra4 : da1 ≠ ra4 := ad_nn n4 fhp3_da1
  have fhp4_da1 := (k4 da1 ne_da1_ra4).trans fhp3_da1
  have F_ra4 : ∀ z, z ≠ a → hp z ≠ none → z ≠ ra4 := fun z hz h hh => h ((T_hp3 z hz h).symm.trans (by rw [hh]; exact n4))
  have N_ra4 : hp ra4 = none := ad_tn T_hp3 (ad_nn n4 fhp3_a) n4
  have T_hp4 : ∀ z, z ≠ a → hp z ≠ none → hp4 z = hp z := fun z hz h => (k4 z (F_ra4 z hz h)).trans (T_hp3 z hz h)
  refine lv_dup hx hb d_A_init_19 rfl ?_
  refine ad_cZi S I (ad_ivI (As := []) (rest := [.ref ra4, .ref a]) S w_43 w_44 w_45 rfl ⟨by decide, by decide, np_AL_init⟩ rfl d_A_init_20) (c_AL_init l G lo hp4 ra4 u4_0) Y_AL_init hl.1 ⟨Nat.le_of_ble_eq_true rfl, Nat.le_of_ble_eq_true rfl⟩ (Nat.le_of_ble_eq_true rfl) (Nat.le_of_ble_eq_true rfl) d_A_init_20 (fun hp5 H1 locs1 hA I => ?_)
  obtain ⟨u5_0, k5⟩ := hA
  have fhp5_a := (k5 a (ne_a_ra4)).trans fhp4_a
  have fhp5_da1 := (k5 da1 (ne_da1_ra4)).trans fhp4_da1
  have T_hp5 : ∀ z, z ≠ a → hp z ≠ none → hp5 z = hp z := fun z hz h => (k5 z (F_ra4 z hz h)).trans (T_hp4 z hz h)
  refine ad_putF S I fhp5_a K_AD 1 (by decide) w_68 rfl hin rfl rfl rfl (by simp) d_A_init_23 (fun H1 locs1 I => ?_)
  obtain ⟨hp6, ehp6⟩ : ∃ z : ad_H, z = ad_up hp5 a (.inr (4, [.ref da1, .ref ra4, .null, .null, .null, .null])) := ⟨_, rfl⟩
  have I : ad_I G lo s hp6 H1 locs1 := by rw [ehp6]; exact I
  have fhp6_a : hp6 a = some (.inr (4, [.ref da1, .ref ra4, .null, .null, .null, .null])) := by rw [ehp6]; exact ad_up_s _ _ _
  have fhp6_da1 := (show hp6 da1 = hp5 da1 by rw [ehp6]; exact ad_up_n _ ((ne_a_da1).symm)).trans fhp5_da1
  have fhp6_ra4 := (show hp6 ra4 = hp5 ra4 by rw [ehp6]; exact ad_up_n _ ((ne_a_ra4).symm)).trans u5_0
  have T_hp6 : ∀ z, z ≠ a → hp z ≠ none → hp6 z = hp z := fun z hz h => by rw [ehp6, ad_up_n _ hz]; exact T_hp5 z hz h
  refine lv_aload_n hx hb d_A_init_26 rfl (lv_at hl 0 rfl) ?_
  refine ad_new S I K_AL w_41 w_42 w_5 (fs := [.null, .int 0, .int 0]) (by decide) (Nat.le_of_ble_eq_true rfl) (Nat.le_of_ble_eq_true rfl) d_A_init_27 (fun ra7 H1 n7 I => ?_)
  obtain ⟨hp7, ehp7⟩ : ∃ z : ad_H, z = ad_up hp6 ra7 (.inr (3, [.null, .int 0, .int 0])) := ⟨_, rfl⟩
  rw [← ehp7] at I
  have u7_0 : hp7 ra7 = some (.inr (3, [.null, .int 0, .int 0])) := by rw [ehp7]; exact ad_up_s _ _ _
  have k7 : ∀ z, z ≠ ra7 → hp7 z = hp6 z := fun z hz => by rw [ehp7]; exact ad_up_n _ hz
  have ne_a_ra7 : a ≠ ra7 := ad_nn n7 fhp6_a
  have fhp7_a := (k7 a ne_a_ra7).trans fhp6_a
  have ne_da1_ra7 : da1 ≠ ra7 := ad_nn n7 fhp6_da1
  have fhp7_da1 := (k7 da1 ne_da1_ra7).trans fhp6_da1
  have ne_ra4_ra7 : ra4 ≠ ra7 := ad_nn n7 fhp6_ra4
  have fhp7_ra4 := (k7 ra4 ne_ra4_ra7).trans fhp6_ra4
  have F_ra7 : ∀ z, z ≠ a → hp z ≠ none → z ≠ ra7 := fun z hz h hh => h ((T_hp6 z hz h).symm.trans (by rw [hh]; exact n7))
  have N_ra7 : hp ra7 = none := ad_tn T_hp6 (ad_nn n7 fhp6_a) n7
  have T_hp7 : ∀ z, z ≠ a → hp z ≠ none → hp7 z = hp z := fun z hz h => (k7 z (F_ra7 z hz h)).trans (T_hp6 z hz h)
  refine lv_dup hx hb d_A_init_30 rfl ?_
  refine ad_cZi S I (ad_ivI (As := []) (rest := [.ref ra7, .ref a]) S w_43 w_44 w_45 rfl ⟨by decide, by decide, np_AL_init⟩ rfl d_A_init_31) (c_AL_init l G lo hp7 ra7 u7_0) Y_AL_init hl.1 ⟨Nat.le_of_ble_eq_true rfl, Nat.le_of_ble_eq_true rfl⟩ (Nat.le_of_ble_eq_true rfl) (Nat.le_of_ble_eq_true rfl) d_A_init_31 (fun hp8 H1 locs1 hA I => ?_)
  obtain ⟨u8_0, k8⟩ := hA
  have fhp8_a := (k8 a (ne_a_ra7)).trans fhp7_a
  have fhp8_da1 := (k8 da1 (ne_da1_ra7)).trans fhp7_da1
  have fhp8_ra4 := (k8 ra4 (ne_ra4_ra7)).trans fhp7_ra4
  have T_hp8 : ∀ z, z ≠ a → hp z ≠ none → hp8 z = hp z := fun z hz h => (k8 z (F_ra7 z hz h)).trans (T_hp7 z hz h)
  refine ad_putF S I fhp8_a K_AD 2 (by decide) w_69 rfl hin rfl rfl rfl (by simp) d_A_init_34 (fun H1 locs1 I => ?_)
  obtain ⟨hp9, ehp9⟩ : ∃ z : ad_H, z = ad_up hp8 a (.inr (4, [.ref da1, .ref ra4, .ref ra7, .null, .null, .null])) := ⟨_, rfl⟩
  have I : ad_I G lo s hp9 H1 locs1 := by rw [ehp9]; exact I
  have fhp9_a : hp9 a = some (.inr (4, [.ref da1, .ref ra4, .ref ra7, .null, .null, .null])) := by rw [ehp9]; exact ad_up_s _ _ _
  have fhp9_da1 := (show hp9 da1 = hp8 da1 by rw [ehp9]; exact ad_up_n _ ((ne_a_da1).symm)).trans fhp8_da1
  have fhp9_ra4 := (show hp9 ra4 = hp8 ra4 by rw [ehp9]; exact ad_up_n _ ((ne_a_ra4).symm)).trans fhp8_ra4
  have fhp9_ra7 := (show hp9 ra7 = hp8 ra7 by rw [ehp9]; exact ad_up_n _ ((ne_a_ra7).symm)).trans u8_0
  have T_hp9 : ∀ z, z ≠ a → hp z ≠ none → hp9 z = hp z := fun z hz h => by rw [ehp9, ad_up_n _ hz]; exact T_hp8 z hz h
  refine lv_aload_n hx hb d_A_init_37 rfl (lv_at hl 0 rfl) ?_
  refine ad_new S I K_AL w_41 w_42 w_5 (fs := [.null, .int 0, .int 0]) (by decide) (Nat.le_of_ble_eq_true rfl) (Nat.le_of_ble_eq_true rfl) d_A_init_38 (fun ra10 H1 n10 I => ?_)
  obtain ⟨hp10, ehp10⟩ : ∃ z : ad_H, z = ad_up hp9 ra10 (.inr (3, [.null, .int 0, .int 0])) := ⟨_, rfl⟩
  rw [← ehp10] at I
  have u10_0 : hp10 ra10 = some (.inr (3, [.null, .int 0, .int 0])) := by rw [ehp10]; exact ad_up_s _ _ _
  have k10 : ∀ z, z ≠ ra10 → hp10 z = hp9 z := fun z hz => by rw [ehp10]; exact ad_up_n _ hz
  have ne_a_ra10 : a ≠ ra10 := ad_nn n10 fhp9_a
  have fhp10_a := (k10 a ne_a_ra10).trans fhp9_a
  have ne_da1_ra10 : da1 ≠ ra10 := ad_nn n10 fhp9_da1
  have fhp10_da1 := (k10 da1 ne_da1_ra10).trans fhp9_da1
  have ne_ra4_ra10 : ra4 ≠ ra10 := ad_nn n10 fhp9_ra4
  have fhp10_ra4 := (k10 ra4 ne_ra4_ra10).trans fhp9_ra4
  have ne_ra7_ra10 : ra7 ≠ ra10 := ad_nn n10 fhp9_ra7
  have fhp10_ra7 := (k10 ra7 ne_ra7_ra10).trans fhp9_ra7
  have F_ra10 : ∀ z, z ≠ a → hp z ≠ none → z ≠ ra10 := fun z hz h hh => h ((T_hp9 z hz h).symm.trans (by rw [hh]; exact n10))
  have N_ra10 : hp ra10 = none := ad_tn T_hp9 (ad_nn n10 fhp9_a) n10
  have T_hp10 : ∀ z, z ≠ a → hp z ≠ none → hp10 z = hp z := fun z hz h => (k10 z (F_ra10 z hz h)).trans (T_hp9 z hz h)
  refine lv_dup hx hb d_A_init_41 rfl ?_
  refine ad_cZi S I (ad_ivI (As := []) (rest := [.ref ra10, .ref a]) S w_43 w_44 w_45 rfl ⟨by decide, by decide, np_AL_init⟩ rfl d_A_init_42) (c_AL_init l G lo hp10 ra10 u10_0) Y_AL_init hl.1 ⟨Nat.le_of_ble_eq_true rfl, Nat.le_of_ble_eq_true rfl⟩ (Nat.le_of_ble_eq_true rfl) (Nat.le_of_ble_eq_true rfl) d_A_init_42 (fun hp11 H1 locs1 hA I => ?_)
  obtain ⟨u11_0, k11⟩ := hA
  have fhp11_a := (k11 a (ne_a_ra10)).trans fhp10_a
  have fhp11_da1 := (k11 da1 (ne_da1_ra10)).trans fhp10_da1
  have fhp11_ra4 := (k11 ra4 (ne_ra4_ra10)).trans fhp10_ra4
  have fhp11_ra7 := (k11 ra7 (ne_ra7_ra10)).trans fhp10_ra7
  have T_hp11 : ∀ z, z ≠ a → hp z ≠ none → hp11 z = hp z := fun z hz h => (k11 z (F_ra10 z hz h)).trans (T_hp10 z hz h)
  refine ad_putF S I fhp11_a K_AD 3 (by decide) w_70 rfl hin rfl rfl rfl (by simp) d_A_init_45 (fun H1 locs1 I => ?_)
  obtain ⟨hp12, ehp12⟩ : ∃ z : ad_H, z = ad_up hp11 a (.inr (4, [.ref da1, .ref ra4, .ref ra7, .ref ra10, .null, .null])) := ⟨_, rfl⟩
  have I : ad_I G lo s hp12 H1 locs1 := by rw [ehp12]; exact I
  have fhp12_a : hp12 a = some (.inr (4, [.ref da1, .ref ra4, .ref ra7, .ref ra10, .null, .null])) := by rw [ehp12]; exact ad_up_s _ _ _
  have fhp12_da1 := (show hp12 da1 = hp11 da1 by rw [ehp12]; exact ad_up_n _ ((ne_a_da1).symm)).trans fhp11_da1
  have fhp12_ra4 := (show hp12 ra4 = hp11 ra4 by rw [ehp12]; exact ad_up_n _ ((ne_a_ra4).symm)).trans fhp11_ra4
  have fhp12_ra7 := (show hp12 ra7 = hp11 ra7 by rw [ehp12]; exact ad_up_n _ ((ne_a_ra7).symm)).trans fhp11_ra7
  have fhp12_ra10 := (show hp12 ra10 = hp11 ra10 by rw [ehp12]; exact ad_up_n _ ((ne_a_ra10).symm)).trans u11_0
  have T_hp12 : ∀ z, z ≠ a → hp z ≠ none → hp12 z = hp z := fun z hz h => by rw [ehp12, ad_up_n _ hz]; exact T_hp11 z hz h
  refine lv_aload_n hx hb d_A_init_48 rfl (lv_at hl 0 rfl) ?_
  refine lv_bipush (v := 6) hx hb d_A_init_49 (by decide) ?_
  refine ad_newa (atype := .int) S I w_86 rfl 0 rfl (fun _ => rfl) (a0 := (6, .inl (fun _ => 0))) rfl (by decide) (N' := 6) (by decide) (by decide) (Nat.le_of_ble_eq_true rfl) (Nat.le_of_ble_eq_true rfl) d_A_init_51 (fun ar13 H1 n13 I => ?_)
  obtain ⟨hp13, ehp13⟩ : ∃ z : ad_H, z = ad_up hp12 ar13 (.inl (G.2.1 0, 6, .inl (fun _ => 0))) := ⟨_, rfl⟩
  rw [← ehp13] at I
  have u13_0 : hp13 ar13 = some (.inl (G.2.1 0, 6, .inl (fun _ => 0))) := by rw [ehp13]; exact ad_up_s _ _ _
  have k13 : ∀ z, z ≠ ar13 → hp13 z = hp12 z := fun z hz => by rw [ehp13]; exact ad_up_n _ hz
  have ne_a_ar13 : a ≠ ar13 := ad_nn n13 fhp12_a
  have fhp13_a := (k13 a ne_a_ar13).trans fhp12_a
  have ne_da1_ar13 : da1 ≠ ar13 := ad_nn n13 fhp12_da1
  have fhp13_da1 := (k13 da1 ne_da1_ar13).trans fhp12_da1
  have ne_ra4_ar13 : ra4 ≠ ar13 := ad_nn n13 fhp12_ra4
  have fhp13_ra4 := (k13 ra4 ne_ra4_ar13).trans fhp12_ra4
  have ne_ra7_ar13 : ra7 ≠ ar13 := ad_nn n13 fhp12_ra7
  have fhp13_ra7 := (k13 ra7 ne_ra7_ar13).trans fhp12_ra7
  have ne_ra10_ar13 : ra10 ≠ ar13 := ad_nn n13 fhp12_ra10
  have fhp13_ra10 := (k13 ra10 ne_ra10_ar13).trans fhp12_ra10
  have F_ar13 : ∀ z, z ≠ a → hp z ≠ none → z ≠ ar13 := fun z hz h hh => h ((T_hp12 z hz h).symm.trans (by rw [hh]; exact n13))
  have N_ar13 : hp ar13 = none := ad_tn T_hp12 (ad_nn n13 fhp12_a) n13
  have T_hp13 : ∀ z, z ≠ a → hp z ≠ none → hp13 z = hp z := fun z hz h => (k13 z (F_ar13 z hz h)).trans (T_hp12 z hz h)
  refine ad_putF S I fhp13_a K_AD 4 (by decide) w_71 rfl hin rfl rfl rfl (by simp) d_A_init_53 (fun H1 locs1 I => ?_)
  obtain ⟨hp14, ehp14⟩ : ∃ z : ad_H, z = ad_up hp13 a (.inr (4, [.ref da1, .ref ra4, .ref ra7, .ref ra10, .ref ar13, .null])) := ⟨_, rfl⟩
  have I : ad_I G lo s hp14 H1 locs1 := by rw [ehp14]; exact I
  have fhp14_a : hp14 a = some (.inr (4, [.ref da1, .ref ra4, .ref ra7, .ref ra10, .ref ar13, .null])) := by rw [ehp14]; exact ad_up_s _ _ _
  have fhp14_da1 := (show hp14 da1 = hp13 da1 by rw [ehp14]; exact ad_up_n _ ((ne_a_da1).symm)).trans fhp13_da1
  have fhp14_ra4 := (show hp14 ra4 = hp13 ra4 by rw [ehp14]; exact ad_up_n _ ((ne_a_ra4).symm)).trans fhp13_ra4
  have fhp14_ra7 := (show hp14 ra7 = hp13 ra7 by rw [ehp14]; exact ad_up_n _ ((ne_a_ra7).symm)).trans fhp13_ra7
  have fhp14_ra10 := (show hp14 ra10 = hp13 ra10 by rw [ehp14]; exact ad_up_n _ ((ne_a_ra10).symm)).trans fhp13_ra10
  have fhp14_ar13 := (show hp14 ar13 = hp13 ar13 by rw [ehp14]; exact ad_up_n _ ((ne_a_ar13).symm)).trans u13_0
  have T_hp14 : ∀ z, z ≠ a → hp z ≠ none → hp14 z = hp z := fun z hz h => by rw [ehp14, ad_up_n _ hz]; exact T_hp13 z hz h
  refine lv_aload_n hx hb d_A_init_56 rfl (lv_at hl 0 rfl) ?_
  refine lv_bipush (v := 6) hx hb d_A_init_57 (by decide) ?_
  refine ad_newa (atype := .int) S I w_86 rfl 0 rfl (fun _ => rfl) (a0 := (6, .inl (fun _ => 0))) rfl (by decide) (N' := 6) (by decide) (by decide) (Nat.le_of_ble_eq_true rfl) (Nat.le_of_ble_eq_true rfl) d_A_init_59 (fun ar15 H1 n15 I => ?_)
  obtain ⟨hp15, ehp15⟩ : ∃ z : ad_H, z = ad_up hp14 ar15 (.inl (G.2.1 0, 6, .inl (fun _ => 0))) := ⟨_, rfl⟩
  rw [← ehp15] at I
  have u15_0 : hp15 ar15 = some (.inl (G.2.1 0, 6, .inl (fun _ => 0))) := by rw [ehp15]; exact ad_up_s _ _ _
  have k15 : ∀ z, z ≠ ar15 → hp15 z = hp14 z := fun z hz => by rw [ehp15]; exact ad_up_n _ hz
  have ne_a_ar15 : a ≠ ar15 := ad_nn n15 fhp14_a
  have fhp15_a := (k15 a ne_a_ar15).trans fhp14_a
  have ne_da1_ar15 : da1 ≠ ar15 := ad_nn n15 fhp14_da1
  have fhp15_da1 := (k15 da1 ne_da1_ar15).trans fhp14_da1
  have ne_ra4_ar15 : ra4 ≠ ar15 := ad_nn n15 fhp14_ra4
  have fhp15_ra4 := (k15 ra4 ne_ra4_ar15).trans fhp14_ra4
  have ne_ra7_ar15 : ra7 ≠ ar15 := ad_nn n15 fhp14_ra7
  have fhp15_ra7 := (k15 ra7 ne_ra7_ar15).trans fhp14_ra7
  have ne_ra10_ar15 : ra10 ≠ ar15 := ad_nn n15 fhp14_ra10
  have fhp15_ra10 := (k15 ra10 ne_ra10_ar15).trans fhp14_ra10
  have ne_ar13_ar15 : ar13 ≠ ar15 := ad_nn n15 fhp14_ar13
  have fhp15_ar13 := (k15 ar13 ne_ar13_ar15).trans fhp14_ar13
  have F_ar15 : ∀ z, z ≠ a → hp z ≠ none → z ≠ ar15 := fun z hz h hh => h ((T_hp14 z hz h).symm.trans (by rw [hh]; exact n15))
  have N_ar15 : hp ar15 = none := ad_tn T_hp14 (ad_nn n15 fhp14_a) n15
  have T_hp15 : ∀ z, z ≠ a → hp z ≠ none → hp15 z = hp z := fun z hz h => (k15 z (F_ar15 z hz h)).trans (T_hp14 z hz h)
  refine ad_putF S I fhp15_a K_AD 5 (by decide) w_72 rfl hin rfl rfl rfl (by simp) d_A_init_61 (fun H1 locs1 I => ?_)
  obtain ⟨hp16, ehp16⟩ : ∃ z : ad_H, z = ad_up hp15 a (.inr (4, [.ref da1, .ref ra4, .ref ra7, .ref ra10, .ref ar13, .ref ar15])) := ⟨_, rfl⟩
  have I : ad_I G lo s hp16 H1 locs1 := by rw [ehp16]; exact I
  have fhp16_a : hp16 a = some (.inr (4, [.ref da1, .ref ra4, .ref ra7, .ref ra10, .ref ar13, .ref ar15])) := by rw [ehp16]; exact ad_up_s _ _ _
  have fhp16_da1 := (show hp16 da1 = hp15 da1 by rw [ehp16]; exact ad_up_n _ ((ne_a_da1).symm)).trans fhp15_da1
  have fhp16_ra4 := (show hp16 ra4 = hp15 ra4 by rw [ehp16]; exact ad_up_n _ ((ne_a_ra4).symm)).trans fhp15_ra4
  have fhp16_ra7 := (show hp16 ra7 = hp15 ra7 by rw [ehp16]; exact ad_up_n _ ((ne_a_ra7).symm)).trans fhp15_ra7
  have fhp16_ra10 := (show hp16 ra10 = hp15 ra10 by rw [ehp16]; exact ad_up_n _ ((ne_a_ra10).symm)).trans fhp15_ra10
  have fhp16_ar13 := (show hp16 ar13 = hp15 ar13 by rw [ehp16]; exact ad_up_n _ ((ne_a_ar13).symm)).trans fhp15_ar13
  have fhp16_ar15 := (show hp16 ar15 = hp15 ar15 by rw [ehp16]; exact ad_up_n _ ((ne_a_ar15).symm)).trans u15_0
  have T_hp16 : ∀ z, z ≠ a → hp z ≠ none → hp16 z = hp z := fun z hz h => by rw [ehp16, ad_up_n _ hz]; exact T_hp15 z hz h
  exact ad_vret M I (by omega) (by omega) (⟨rfl, da1, ra4, ra7, ra10, ar13, ar15, CR.start fhp16_a fhp16_da1 fhp16_ra4 fhp16_ra7 fhp16_ra10 fhp16_ar13 fhp16_ar15 ne_ra4_ra7 ne_ra4_ra10 ne_ra7_ra10 ne_ar13_ar15 (ad_I.e I), N_ar13, N_ar15, T_hp16⟩) d_A_init_64
set_option maxHeartbeats 4000000 in
set_option maxRecDepth 100000 in
theorem c_A_thing (l : Launch) (G : ad_G) (lo : Nat) (hp : ad_H) (x dA tA lA rA gA sA : Nat) (ta ros : List Nat) (ts : List TH) (la lt rr rw : List Nat) (sd : Int64) (fg fs : Nat → Int32) (s0 p0 : Int32)  (hT : l.stackTraces = false) (C : CR G hp x dA tA lA rA gA sA ta ros ts la lt rr rw sd fg fs) : ad_Ct l y_A_thing b_A_thing 4 rt_A_thing hs_A_thing 8 3 109 G lo hp [.ref x, .int s0, .int p0] (fun r hp' => r = q_ans [ad_NSE, ad_ISE] (q_th ts s0 p0).1 ∧ ∃ ta' ros' : List Nat, CR G hp' x dA tA lA rA gA sA ta' ros' ((q_th ts s0 p0).2) la lt rr rw sd fg fs ∧ fr gA sA hp hp') := by
  intro p e s m below meth c M hts hB hP
  have hx := M.1
  have hb := M.2.1
  have hml := M.2.2.1
  have hown : s.vm.findClass "AuditDraws" = some m.cls := M.2.2.2.1
  have S : CallFix p m c b_A_thing 4 s _ ad_T "AuditDraws" := ⟨hx, hb, hml, hown, hts⟩
  have I : ad_I G lo s hp s.heap [] := ad_I.rf hB hP
  have hl := lv_entry ([.ref x, .int s0, .int p0]) (n := 4) (Nat.le_of_ble_eq_true rfl)
  rw [lg_entry_eq]
  generalize (lg_sl ([.ref x, .int s0, .int p0]) ++ List.replicate (4 - (lg_sl ([.ref x, .int s0, .int p0])).length) Slot.unset).toArray = ls at hl ⊢
  have hl : lv_has ls 4 [(0, .ref x), (1, .int s0), (2, .int p0)] := hl
  have hX := C.hX
  have hL := C.hA
  have hTT := C.htt
  have hn := C.hn
  have hD := C.hD
  obtain ⟨_, htA⟩ := C.hA.self
  refine lv_iload_n hx hb d_A_thing_0 rfl (lv_at hl 1 rfl) ?_
  refine lv_bipush (v := 6) hx hb d_A_thing_1 (by decide) ?_
  refine ad_cPg S I (ad_ivS (As := [.int s0, .int 6]) (rest := []) S Y_A_needBelow w_100 w_101 w_1 ⟨by decide, by decide, np_A_needBelow⟩ rfl d_A_thing_3) (c_A_needBelow l G lo hp s0 6 hT) Y_A_needBelow hl.1 ⟨Nat.le_of_ble_eq_true rfl, Nat.le_of_ble_eq_true rfl⟩ (Nat.le_of_ble_eq_true rfl) (Nat.le_of_ble_eq_true rfl) d_A_thing_3 (fun g3 => ?_) (fun g3 H1 x cell h1 h2 h3 h4 h5 => ?_)
  · refine lv_iload_n hx hb d_A_thing_6 rfl (lv_at hl 2 rfl) ?_
    refine lv_bipush (v := 16) hx hb d_A_thing_7 (by decide) ?_
    refine ad_cPg S I (ad_ivS (As := [.int p0, .int 16]) (rest := []) S Y_A_needBelow w_100 w_101 w_1 ⟨by decide, by decide, np_A_needBelow⟩ rfl d_A_thing_9) (c_A_needBelow l G lo hp p0 16 hT) Y_A_needBelow hl.1 ⟨Nat.le_of_ble_eq_true rfl, Nat.le_of_ble_eq_true rfl⟩ (Nat.le_of_ble_eq_true rfl) (Nat.le_of_ble_eq_true rfl) d_A_thing_9 (fun g9 => ?_) (fun g9 H1 x cell h1 h2 h3 h4 h5 => ?_)
    · refine lv_aload_n hx hb d_A_thing_12 rfl (lv_at hl 0 rfl) ?_
      refine ad_get S I hX K_AD 1 (by decide) w_68 rfl d_A_thing_13 ?_
      refine ad_cPi S I (ad_ivV (As := []) (rest := []) S (ad_recv I htA K_AL) w_171 w_172 w_173 Y_AL_size ⟨by decide, by decide, np_AL_size⟩ rfl d_A_thing_16) (c_ALsize l G lo hp tA ta hL) Y_AL_size hl.1 ⟨Nat.le_of_ble_eq_true rfl, Nat.le_of_ble_eq_true rfl⟩ (Nat.le_of_ble_eq_true rfl) (Nat.le_of_ble_eq_true rfl) d_A_thing_16 ?_
      refine ad_top (y := .int (nI ts.length)) (by rw [hTT.1]) ?_
      refine lv_bipush (v := 64) hx hb d_A_thing_19 (by decide) ?_
      refine lv_icmp_lt (tgt := 34) hx hb d_A_thing_21 (by decide) (fun c21 => ?_) (fun c21 => ?_)
      · have hlt : ts.length < 64 := (nI_ltI (by omega) (by omega)).mp c21
        refine lv_aload_n hx hb d_A_thing_34 rfl (lv_at hl 0 rfl) ?_
        refine ad_get S I hX K_AD 1 (by decide) w_68 rfl d_A_thing_35 ?_
        refine ad_cPi S I (ad_ivV (As := []) (rest := []) S (ad_recv I htA K_AL) w_171 w_172 w_173 Y_AL_size ⟨by decide, by decide, np_AL_size⟩ rfl d_A_thing_38) (c_ALsize l G lo hp tA ta hL) Y_AL_size hl.1 ⟨Nat.le_of_ble_eq_true rfl, Nat.le_of_ble_eq_true rfl⟩ (Nat.le_of_ble_eq_true rfl) (Nat.le_of_ble_eq_true rfl) d_A_thing_38 ?_
        refine ad_top (y := .int (nI ts.length)) (by rw [hTT.1]) ?_
        refine lv_istore_n (lv' := [(3, .int (nI ts.length)), (0, .ref x), (1, .int s0), (2, .int p0)]) hx hb d_A_thing_41 rfl hl (by decide) rfl (fun ls hl => ?_)
        refine lv_aload_n hx hb d_A_thing_42 rfl (lv_at hl 1 rfl) ?_
        refine ad_get S I hX K_AD 1 (by decide) w_68 rfl d_A_thing_43 ?_
        refine ad_new S I K_Thing w_191 w_192 w_12 (fs := [.int 0, .int 0, .null, .int 0, .int 0, .int 0]) (by decide) (Nat.le_of_ble_eq_true rfl) (Nat.le_of_ble_eq_true rfl) d_A_thing_46 (fun th1 H1 n1 I => ?_)
        obtain ⟨hp1, ehp1⟩ : ∃ z : ad_H, z = ad_up hp th1 (.inr (1, [.int 0, .int 0, .null, .int 0, .int 0, .int 0])) := ⟨_, rfl⟩
        rw [← ehp1] at I
        have u1_0 : hp1 th1 = some (.inr (1, [.int 0, .int 0, .null, .int 0, .int 0, .int 0])) := by rw [ehp1]; exact ad_up_s _ _ _
        have k1 : ∀ z, z ≠ th1 → hp1 z = hp z := fun z hz => by rw [ehp1]; exact ad_up_n _ hz
        have ne_x_th1 : x ≠ th1 := ad_nn n1 hX
        have fhp1_x := (k1 x ne_x_th1).trans hX
        have ne_tA_th1 : tA ≠ th1 := ad_nn n1 htA
        have fhp1_tA := (k1 tA ne_tA_th1).trans htA
        refine lv_dup hx hb d_A_thing_49 rfl ?_
        refine lv_iload_n hx hb d_A_thing_50 rfl (lv_at hl 0 rfl) ?_
        refine lv_iload_n hx hb d_A_thing_51 rfl (lv_at hl 2 rfl) ?_
        refine lv_iload_n hx hb d_A_thing_52 rfl (lv_at hl 3 rfl) ?_
        refine ad_cZi S I (ad_ivI (As := [.int (nI ts.length), .int s0, .int p0]) (rest := [.ref th1, .ref tA]) S w_193 w_194 w_195 rfl ⟨by decide, by decide, np_T_init⟩ rfl d_A_thing_53) (c_T_init l G lo hp1 th1 (nI ts.length) s0 p0 u1_0) Y_T_init hl.1 ⟨Nat.le_of_ble_eq_true rfl, Nat.le_of_ble_eq_true rfl⟩ (Nat.le_of_ble_eq_true rfl) (Nat.le_of_ble_eq_true rfl) d_A_thing_53 (fun hp2 H1 locs1 hA I => ?_)
        obtain ⟨ra, hra, u1, u2, k2⟩ := hA
        have kk : ∀ z e, hp z = some e → hp2 z = some e := fun z e hz => by
          have hzq : z ≠ th1 := ad_nn n1 hz
          have h1 : hp1 z = some e := (k1 z hzq).trans hz
          exact (k2 z hzq (ad_nn hra h1)).trans h1
        have hra0 : hp ra = none := by
          cases hq : hp ra with
          | none => rfl
          | some e =>
            have h1 : hp1 ra = some e := (k1 ra (ad_nn n1 hq)).trans hq
            rw [hra] at h1; cases h1
        have hE1 := ad_I.e I
        refine ad_cZi S I (ad_ivV (As := [.ref th1]) (rest := []) S (ad_recv I (kk _ _ htA) K_AL) w_224 w_225 w_226 Y_AL_add ⟨by decide, by decide, np_AL_add⟩ rfl d_A_thing_56) (c_ALadd l G lo hp2 tA ta th1 _ 1 _ _ _ _ (ex_al kk hE1 hL).1 (by have := hTT.1; omega) u1 (by decide) K_Thing w_732 (fun y hy => by obtain ⟨i, hi, ey⟩ := List.getElem_of_mem hy; obtain ⟨t9, ra9, -, -, h9, -⟩ := C.ty (i := i) (y := y) (by rw [List.getElem?_eq_getElem hi, ey]); exact ⟨_, kk _ _ h9⟩)) Y_AL_add hl.1 ⟨Nat.le_of_ble_eq_true rfl, Nat.le_of_ble_eq_true rfl⟩ (Nat.le_of_ble_eq_true rfl) (Nat.le_of_ble_eq_true rfl) d_A_thing_56 (fun hp3 H1 locs1 hA I => ?_)
        obtain ⟨a1, a2, a3⟩ := hA
        refine lv_pop hx hb d_A_thing_59 rfl ?_
        refine lv_iload_n hx hb d_A_thing_60 rfl (lv_at hl 0 rfl) ?_
        exact ad_iret M I rfl (by omega) (by omega) (⟨by rw [(show q_th ts s0 p0 = ((0, nI ts.length), ts ++ [(s0, p0, -1, 0, [])]) by simp only [q_th]; rw [if_pos ⟨g3, g9⟩, if_pos hlt])]; rfl, _, _, by rw [(show q_th ts s0 p0 = ((0, nI ts.length), ts ++ [(s0, p0, -1, 0, [])]) by simp only [q_th]; rw [if_pos ⟨g3, g9⟩, if_pos hlt])]; exact (C.newT (t := (s0, p0, -1, 0, [])) kk u1 u2 hra0 rfl hE1 ⟨a2, a3⟩ a1 (ad_I.e I) hlt).1, (C.newT (t := (s0, p0, -1, 0, [])) kk u1 u2 hra0 rfl hE1 ⟨a2, a3⟩ a1 (ad_I.e I) hlt).2⟩) d_A_thing_61
      · obtain ⟨q9, hq9⟩ := hB.2.2.2.2.2.2.1 (50, "there are 64 things") (by decide)
        refine ad_thr S hT (X := "java/lang/IllegalStateException") (Yn := "java/lang/RuntimeException") (names := ["java/lang/Exception"]) (ix := 7) (bx := prog_12_method_2_code) (ic := 52) w_175 w_176 w_11 hq9 (ad_hat hB hts at_ISE) (by decide +kernel) (by decide +kernel) (by decide +kernel) (by decide +kernel) (by decide +kernel) (by decide +kernel) (by decide +kernel) hl.1 d_A_thing_24 d_A_thing_27 d_A_thing_28 d_A_thing_30 d_A_thing_33 (by decide) (by decide) (by decide) (by decide) (fun H1 cell h1 h2 h3 h4 h5 => ?_)
        exact ad_out M (I.grown h1 h2) h3 h4 h5 (by decide) (by decide) (by decide) (⟨by rw [(show q_th ts s0 p0 = ((2, 0), ts) by simp only [q_th]; rw [if_pos ⟨g3, g9⟩, if_neg (fun h => c21 (nI_lt (b := 64) h (by omega)))])]; rfl, ta, ros, by rw [(show q_th ts s0 p0 = ((2, 0), ts) by simp only [q_th]; rw [if_pos ⟨g3, g9⟩, if_neg (fun h => c21 (nI_lt (b := 64) h (by omega)))])]; exact C, fr.rf _ _ _⟩)
    · exact ad_out M (I.grown h1 h2) h3 h4 h5 (by decide) (by decide) (by decide) (⟨by rw [(show q_th ts s0 p0 = ((1, 0), ts) by simp only [q_th]; rw [if_neg (fun h => g9 h.2)])]; rfl, ta, ros, by rw [(show q_th ts s0 p0 = ((1, 0), ts) by simp only [q_th]; rw [if_neg (fun h => g9 h.2)])]; exact C, fr.rf _ _ _⟩)
  · exact ad_out M (I.grown h1 h2) h3 h4 h5 (by decide) (by decide) (by decide) (⟨by rw [(show q_th ts s0 p0 = ((1, 0), ts) by simp only [q_th]; rw [if_neg (fun h => g3 h.1)])]; rfl, ta, ros, by rw [(show q_th ts s0 p0 = ((1, 0), ts) by simp only [q_th]; rw [if_neg (fun h => g3 h.1)])]; exact C, fr.rf _ _ _⟩)
set_option maxHeartbeats 4000000 in
set_option maxRecDepth 100000 in
theorem c_A_tag (l : Launch) (G : ad_G) (lo : Nat) (hp : ad_H) (x dA tA lA rA gA sA : Nat) (ta ros : List Nat) (ts : List TH) (la lt rr rw : List Nat) (sd : Int64) (fg fs : Nat → Int32) (v h0 p0 d0 : Int32)  (hT : l.stackTraces = false) (C : CR G hp x dA tA lA rA gA sA ta ros ts la lt rr rw sd fg fs) (hm : ∀ t ∈ ts, t.2.2.2.2.length ≤ 24) : ad_Ct l y_A_tag b_A_tag 6 rt_A_tag hs_A_tag 8 2 103 G lo hp [.ref x, .int v, .int h0, .int p0, .int d0] (fun r hp' => r = q_ans [ad_NSE, ad_IAE, ad_ISE] (q_tg ts v h0 p0 d0).1 ∧ CR G hp' x dA tA lA rA gA sA ta ros ((q_tg ts v h0 p0 d0).2) la lt rr rw sd fg fs ∧ fr gA sA hp hp') := by
  intro p e s m below meth c M hts hB hP
  have hx := M.1
  have hb := M.2.1
  have hml := M.2.2.1
  have hown : s.vm.findClass "AuditDraws" = some m.cls := M.2.2.2.1
  have S : CallFix p m c b_A_tag 6 s _ ad_T "AuditDraws" := ⟨hx, hb, hml, hown, hts⟩
  have I : ad_I G lo s hp s.heap [] := ad_I.rf hB hP
  have hl := lv_entry ([.ref x, .int v, .int h0, .int p0, .int d0]) (n := 6) (Nat.le_of_ble_eq_true rfl)
  rw [lg_entry_eq]
  generalize (lg_sl ([.ref x, .int v, .int h0, .int p0, .int d0]) ++ List.replicate (6 - (lg_sl ([.ref x, .int v, .int h0, .int p0, .int d0])).length) Slot.unset).toArray = ls at hl ⊢
  have hl : lv_has ls 6 [(0, .ref x), (1, .int v), (2, .int h0), (3, .int p0), (4, .int d0)] := hl
  have hX := C.hX
  have hL := C.hA
  have hTT := C.htt
  have hn := C.hn
  have hD := C.hD
  obtain ⟨_, htA⟩ := C.hA.self
  refine lv_aload_n hx hb d_A_tag_0 rfl (lv_at hl 0 rfl) ?_
  refine lv_iload_n hx hb d_A_tag_1 rfl (lv_at hl 1 rfl) ?_
  refine ad_cP S I (ad_ivV (As := [.int v]) (rest := []) S (ad_recv I hX K_AD) w_374 w_376 sp_A_existing Y_A_existing ⟨by decide, by decide, np_A_existing⟩ rfl d_A_tag_2) (c_A_existing l G lo hp x dA tA lA rA gA sA v ta ts hT hX hL hTT hn) Y_A_existing hl.1 ⟨Nat.le_of_ble_eq_true rfl, Nat.le_of_ble_eq_true rfl⟩ (Nat.le_of_ble_eq_true rfl) (Nat.le_of_ble_eq_true rfl) d_A_tag_2 (fun v9 h9 => ?_) (fun C9 H1 x9 cell h9 h1 h2 h3 h4 h5 => ?_)
  · obtain ⟨j, t, y, ra, hv, ht, hy, hty, hr9⟩ | ⟨-, hr9⟩ := h9
    case inr => cases hr9
    cases hr9
    refine lv_astore (lv' := [(5, .ref y), (0, .ref x), (1, .int v), (2, .int h0), (3, .int p0), (4, .int d0)]) hx hb d_A_tag_5 hl (by decide) rfl (fun ls hl => ?_)
    refine lv_iload_n hx hb d_A_tag_7 rfl (lv_at hl 4 rfl) ?_
    refine lv_bipush (v := 16) hx hb d_A_tag_8 (by decide) ?_
    refine ad_cPg S I (ad_ivS (As := [.int p0, .int 16]) (rest := []) S Y_A_needBelow w_100 w_101 w_1 ⟨by decide, by decide, np_A_needBelow⟩ rfl d_A_tag_10) (c_A_needBelow l G lo hp p0 16 hT) Y_A_needBelow hl.1 ⟨Nat.le_of_ble_eq_true rfl, Nat.le_of_ble_eq_true rfl⟩ (Nat.le_of_ble_eq_true rfl) (Nat.le_of_ble_eq_true rfl) d_A_tag_10 (fun g10 => ?_) (fun g10 H1 x cell h1 h2 h3 h4 h5 => ?_)
    · refine lv_iload_n hx hb d_A_tag_13 rfl (lv_at hl 3 rfl) ?_
      refine ad_cPg S I (ad_ivS (As := [.int h0]) (rest := []) S Y_A_needHour w_461 w_462 w_1 ⟨by decide, by decide, np_A_needHour⟩ rfl d_A_tag_14) (c_A_needHour l G lo hp h0 hT) Y_A_needHour hl.1 ⟨Nat.le_of_ble_eq_true rfl, Nat.le_of_ble_eq_true rfl⟩ (Nat.le_of_ble_eq_true rfl) (Nat.le_of_ble_eq_true rfl) d_A_tag_14 (fun g14 => ?_) (fun g14 H1 x cell h1 h2 h3 h4 h5 => ?_)
      · refine lv_iload hx hb d_A_tag_17 (lv_at hl 5 rfl) ?_
        refine ad_cPg S I (ad_ivS (As := [.int d0]) (rest := []) S Y_A_needHour w_461 w_462 w_1 ⟨by decide, by decide, np_A_needHour⟩ rfl d_A_tag_19) (c_A_needHour l G lo hp d0 hT) Y_A_needHour hl.1 ⟨Nat.le_of_ble_eq_true rfl, Nat.le_of_ble_eq_true rfl⟩ (Nat.le_of_ble_eq_true rfl) (Nat.le_of_ble_eq_true rfl) d_A_tag_19 (fun g19 => ?_) (fun g19 H1 x cell h1 h2 h3 h4 h5 => ?_)
        · refine lv_iload hx hb d_A_tag_22 (lv_at hl 5 rfl) ?_
          refine lv_iload_n hx hb d_A_tag_24 rfl (lv_at hl 3 rfl) ?_
          refine lv_icmp_ge (tgt := 38) hx hb d_A_tag_25 (by decide) (fun c25 => ?_) (fun c25 => ?_)
          · refine lv_aload hx hb d_A_tag_38 (lv_at hl 0 rfl) ?_
            obtain ⟨hro, sa, hsa, hsl, hse⟩ := C.ra ht hy hty
            obtain ⟨_, hra⟩ := hsa.self
            have hm24 : t.2.2.2.2.length ≤ 24 := hm t (List.mem_of_getElem? ht)
            refine ad_get S I hty K_Thing 2 (by decide) w_204 rfl d_A_tag_40 ?_
            refine ad_cPi S I (ad_ivV (As := []) (rest := []) S (ad_recv I hra K_AL) w_171 w_172 w_173 Y_AL_size ⟨by decide, by decide, np_AL_size⟩ rfl d_A_tag_43) (c_ALsize l G lo hp ra sa hsa) Y_AL_size hl.1 ⟨Nat.le_of_ble_eq_true rfl, Nat.le_of_ble_eq_true rfl⟩ (Nat.le_of_ble_eq_true rfl) (Nat.le_of_ble_eq_true rfl) d_A_tag_43 ?_
            refine ad_top (y := .int (nI t.2.2.2.2.length)) (by rw [hsl]) ?_
            refine lv_bipush (v := 24) hx hb d_A_tag_46 (by decide) ?_
            refine lv_icmp_lt (tgt := 61) hx hb d_A_tag_48 (by decide) (fun c48 => ?_) (fun c48 => ?_)
            · have hlt : t.2.2.2.2.length < 24 := (nI_ltI (by omega) (by omega)).mp c48
              refine lv_aload hx hb d_A_tag_61 (lv_at hl 0 rfl) ?_
              refine ad_get S I hty K_Thing 2 (by decide) w_204 rfl d_A_tag_63 ?_
              refine ad_new S I K_Sight w_468 w_469 w_21 (fs := [.int 0, .int 0, .int 0]) (by decide) (Nat.le_of_ble_eq_true rfl) (Nat.le_of_ble_eq_true rfl) d_A_tag_66 (fun sg1 H1 n1 I => ?_)
              obtain ⟨hp1, ehp1⟩ : ∃ z : ad_H, z = ad_up hp sg1 (.inr (2, [.int 0, .int 0, .int 0])) := ⟨_, rfl⟩
              rw [← ehp1] at I
              have u1_0 : hp1 sg1 = some (.inr (2, [.int 0, .int 0, .int 0])) := by rw [ehp1]; exact ad_up_s _ _ _
              have k1 : ∀ z, z ≠ sg1 → hp1 z = hp z := fun z hz => by rw [ehp1]; exact ad_up_n _ hz
              have ne_x_sg1 : x ≠ sg1 := ad_nn n1 hX
              have fhp1_x := (k1 x ne_x_sg1).trans hX
              have ne_tA_sg1 : tA ≠ sg1 := ad_nn n1 htA
              have fhp1_tA := (k1 tA ne_tA_sg1).trans htA
              have ne_y_sg1 : y ≠ sg1 := ad_nn n1 hty
              have fhp1_y := (k1 y ne_y_sg1).trans hty
              have ne_ra_sg1 : ra ≠ sg1 := ad_nn n1 hra
              have fhp1_ra := (k1 ra ne_ra_sg1).trans hra
              refine lv_dup hx hb d_A_tag_69 rfl ?_
              refine lv_iload_n hx hb d_A_tag_70 rfl (lv_at hl 3 rfl) ?_
              refine lv_iload_n hx hb d_A_tag_71 rfl (lv_at hl 4 rfl) ?_
              refine lv_iload hx hb d_A_tag_72 (lv_at hl 5 rfl) ?_
              refine ad_cZi S I (ad_ivI (As := [.int h0, .int p0, .int d0]) (rest := [.ref sg1, .ref ra]) S w_470 w_471 w_472 rfl ⟨by decide, by decide, np_S_init⟩ rfl d_A_tag_74) (c_S_init l G lo hp1 sg1 (h0, p0, d0) u1_0) Y_S_init hl.1 ⟨Nat.le_of_ble_eq_true rfl, Nat.le_of_ble_eq_true rfl⟩ (Nat.le_of_ble_eq_true rfl) (Nat.le_of_ble_eq_true rfl) d_A_tag_74 (fun hp2 H1 locs1 hA I => ?_)
              obtain ⟨u1, k2⟩ := hA
              have kk : ∀ z e, hp z = some e → hp2 z = some e := fun z e hz => by
                have hzq : z ≠ sg1 := ad_nn n1 hz
                exact (k2 z hzq).trans ((k1 z hzq).trans hz)
              have hE1 := ad_I.e I
              refine ad_cZi S I (ad_ivV (As := [.ref sg1]) (rest := []) S (ad_recv I (kk _ _ hra) K_AL) w_224 w_225 w_226 Y_AL_add ⟨by decide, by decide, np_AL_add⟩ rfl d_A_tag_77) (c_ALadd l G lo hp2 ra sa sg1 _ 2 _ _ _ _ (ex_al kk hE1 hsa).1 (by omega) u1 (by decide) K_Sight w_733 (fun y hy => by obtain ⟨i, hi, ey⟩ := List.getElem_of_mem hy; obtain ⟨y9, h8, h9⟩ := hse i _ (List.getElem?_eq_getElem (by omega)); have h7 : sa[i]? = some y := (by rw [List.getElem?_eq_getElem hi, ey]); cases h7.symm.trans h8; exact ⟨_, kk _ _ h9⟩)) Y_AL_add hl.1 ⟨Nat.le_of_ble_eq_true rfl, Nat.le_of_ble_eq_true rfl⟩ (Nat.le_of_ble_eq_true rfl) (Nat.le_of_ble_eq_true rfl) d_A_tag_77 (fun hp3 H1 locs1 hA I => ?_)
              obtain ⟨a1, a2, a3⟩ := hA
              have C2 := C.tag (r := (h0, p0, d0)) ht hy hty hsa hsl hse kk u1 hE1 ⟨a2, a3⟩ a1 (ad_I.e I)
              have hty2 : hp3 y = some (oT j t ra) := Op.cell ⟨a2, a3⟩ (ex_al kk hE1 hsa).1 (kk _ _ hty) trivial
              obtain ⟨_, hra2⟩ := a1.self
              refine lv_pop hx hb d_A_tag_80 rfl ?_
              refine lv_aload hx hb d_A_tag_81 (lv_at hl 0 rfl) ?_
              refine ad_get S I hty2 K_Thing 2 (by decide) w_204 rfl d_A_tag_83 ?_
              refine ad_cPi S I (ad_ivV (As := []) (rest := []) S (ad_recv I hra2 K_AL) w_171 w_172 w_173 Y_AL_size ⟨by decide, by decide, np_AL_size⟩ rfl d_A_tag_86) (c_ALsize l G lo hp3 ra (sa ++ [sg1]) a1) Y_AL_size hl.1 ⟨Nat.le_of_ble_eq_true rfl, Nat.le_of_ble_eq_true rfl⟩ (Nat.le_of_ble_eq_true rfl) (Nat.le_of_ble_eq_true rfl) d_A_tag_86 ?_
              refine ad_top (y := .int (nI (t.2.2.2.2.length + 1))) (by rw [List.length_append, hsl]; rfl) ?_
              exact ad_iret M I rfl (by omega) (by omega) (⟨by rw [(show q_tg ts v h0 p0 d0 = ((0, nI (t.2.2.2.2.length + 1)), ts.set j (t.1, t.2.1, t.2.2.1, t.2.2.2.1, t.2.2.2.2 ++ [(h0, p0, d0)])) by simp only [q_tg]; rw [sp_at_n hv ht hn]; simp only; rw [if_pos g10, if_pos ⟨g14, g19, Int32.not_lt.mpr c25⟩, if_pos hlt, q_j hv ht hn])]; rfl, by rw [(show q_tg ts v h0 p0 d0 = ((0, nI (t.2.2.2.2.length + 1)), ts.set j (t.1, t.2.1, t.2.2.1, t.2.2.2.1, t.2.2.2.2 ++ [(h0, p0, d0)])) by simp only [q_tg]; rw [sp_at_n hv ht hn]; simp only; rw [if_pos g10, if_pos ⟨g14, g19, Int32.not_lt.mpr c25⟩, if_pos hlt, q_j hv ht hn])]; exact C2.1, C2.2⟩) d_A_tag_89
            · obtain ⟨q9, hq9⟩ := hB.2.2.2.2.2.2.1 (139, "the thing has 24 rows") (by decide)
              refine ad_thr S hT (X := "java/lang/IllegalStateException") (Yn := "java/lang/RuntimeException") (names := ["java/lang/Exception"]) (ix := 7) (bx := prog_12_method_2_code) (ic := 52) w_175 w_176 w_11 hq9 (ad_hat hB hts at_ISE) (by decide +kernel) (by decide +kernel) (by decide +kernel) (by decide +kernel) (by decide +kernel) (by decide +kernel) (by decide +kernel) hl.1 d_A_tag_51 d_A_tag_54 d_A_tag_55 d_A_tag_57 d_A_tag_60 (by decide) (by decide) (by decide) (by decide) (fun H1 cell h1 h2 h3 h4 h5 => ?_)
              exact ad_out M (I.grown h1 h2) h3 h4 h5 (by decide) (by decide) (by decide) (⟨by rw [(show q_tg ts v h0 p0 d0 = ((3, 0), ts) by simp only [q_tg]; rw [sp_at_n hv ht hn]; simp only; rw [if_pos g10, if_pos ⟨g14, g19, Int32.not_lt.mpr c25⟩, if_neg (fun h => c48 (nI_lt (b := 24) h (by omega)))])]; rfl, by rw [(show q_tg ts v h0 p0 d0 = ((3, 0), ts) by simp only [q_tg]; rw [sp_at_n hv ht hn]; simp only; rw [if_pos g10, if_pos ⟨g14, g19, Int32.not_lt.mpr c25⟩, if_neg (fun h => c48 (nI_lt (b := 24) h (by omega)))])]; exact C, fr.rf _ _ _⟩)
          · obtain ⟨q9, hq9⟩ := hB.2.2.2.2.2.2.1 (134, "told ahead of its hour") (by decide)
            refine ad_thr S hT (X := "java/lang/IllegalArgumentException") (Yn := "java/lang/RuntimeException") (names := ["java/lang/Exception"]) (ix := 7) (bx := prog_11_method_2_code) (ic := 68) w_288 w_289 w_17 hq9 (ad_hat hB hts at_IAE) (by decide +kernel) (by decide +kernel) (by decide +kernel) (by decide +kernel) (by decide +kernel) (by decide +kernel) (by decide +kernel) hl.1 d_A_tag_28 d_A_tag_31 d_A_tag_32 d_A_tag_34 d_A_tag_37 (by decide) (by decide) (by decide) (by decide) (fun H1 cell h1 h2 h3 h4 h5 => ?_)
            exact ad_out M (I.grown h1 h2) h3 h4 h5 (by decide) (by decide) (by decide) (⟨by rw [(show q_tg ts v h0 p0 d0 = ((2, 0), ts) by simp only [q_tg]; rw [sp_at_n hv ht hn]; simp only; rw [if_pos g10, if_neg (fun h => c25 (Int32.not_lt.mp h.2.2))])]; rfl, by rw [(show q_tg ts v h0 p0 d0 = ((2, 0), ts) by simp only [q_tg]; rw [sp_at_n hv ht hn]; simp only; rw [if_pos g10, if_neg (fun h => c25 (Int32.not_lt.mp h.2.2))])]; exact C, fr.rf _ _ _⟩)
        · exact ad_out M (I.grown h1 h2) h3 h4 h5 (by decide) (by decide) (by decide) (⟨by rw [(show q_tg ts v h0 p0 d0 = ((2, 0), ts) by simp only [q_tg]; rw [sp_at_n hv ht hn]; simp only; rw [if_pos g10, if_neg (fun h => g19 h.2.1)])]; rfl, by rw [(show q_tg ts v h0 p0 d0 = ((2, 0), ts) by simp only [q_tg]; rw [sp_at_n hv ht hn]; simp only; rw [if_pos g10, if_neg (fun h => g19 h.2.1)])]; exact C, fr.rf _ _ _⟩)
      · exact ad_out M (I.grown h1 h2) h3 h4 h5 (by decide) (by decide) (by decide) (⟨by rw [(show q_tg ts v h0 p0 d0 = ((2, 0), ts) by simp only [q_tg]; rw [sp_at_n hv ht hn]; simp only; rw [if_pos g10, if_neg (fun h => g14 h.1)])]; rfl, by rw [(show q_tg ts v h0 p0 d0 = ((2, 0), ts) by simp only [q_tg]; rw [sp_at_n hv ht hn]; simp only; rw [if_pos g10, if_neg (fun h => g14 h.1)])]; exact C, fr.rf _ _ _⟩)
    · exact ad_out M (I.grown h1 h2) h3 h4 h5 (by decide) (by decide) (by decide) (⟨by rw [(show q_tg ts v h0 p0 d0 = ((1, 0), ts) by simp only [q_tg]; rw [sp_at_n hv ht hn]; simp only; rw [if_neg g10])]; rfl, by rw [(show q_tg ts v h0 p0 d0 = ((1, 0), ts) by simp only [q_tg]; rw [sp_at_n hv ht hn]; simp only; rw [if_neg g10])]; exact C, fr.rf _ _ _⟩)
  · obtain ⟨_, _, _, _, _, _, _, _, hr9⟩ | ⟨hno, hr9⟩ := h9
    case inl => cases hr9
    cases hr9
    exact ad_out M (I.grown h1 h2) h3 h4 h5 (by decide) (by decide) (by decide) (⟨by rw [(show q_tg ts v h0 p0 d0 = ((1, 0), ts) by simp only [q_tg]; rw [sp_at_0 hno hn])]; rfl, by rw [(show q_tg ts v h0 p0 d0 = ((1, 0), ts) by simp only [q_tg]; rw [sp_at_0 hno hn])]; exact C, fr.rf _ _ _⟩)
