section MAS
variable {ts : List TH} {lt : List Nat} {fs : Nat → Nat → Int32} {j : Nat} {t : TH}
theorem MA.gen {fs' : Nat → Nat → Int32} {t' : TH} (A : MA ts lt fs) (ht : ts[j]? = some t) (h1 : mt fs' j t') (h2 : ∀ i t2, i ≠ j → ts[i]? = some t2 → mt fs i t2 → mt fs' i t2) (h3 : ∀ i, i ≠ j → fs' 2 i = fs 2 i ∧ fs' 7 i = fs 7 i) (h4 : fs' 3 = fs 3) : MA (ts.set j t') lt fs' := by
  have hjl : j < ts.length := (List.getElem?_eq_some_iff.mp ht).1
  refine ⟨fun i t2 h => ?_, fun i hi hi2 => ?_, fun k i h => by rw [h4]; exact A.2.2 k i h⟩
  · by_cases hij : i = j
    · subst hij
      rw [List.getElem?_set_self hjl] at h
      cases h
      exact h1
    · rw [List.getElem?_set_ne (Ne.symm hij)] at h
      exact h2 i t2 hij h (A.1 i t2 h)
  · rw [List.length_set] at hi
    rw [(h3 i (by omega)).1, (h3 i (by omega)).2]
    exact A.2.1 i hi hi2
theorem MA.st (A : MA ts lt fs) (ht : ts[j]? = some t) (v : Int32) : MA (ts.set j (sst v t)) lt (updF fs 4 (upd (fs 4) j v)) := by
  have h := A.1 j t ht
  exact A.gen ht ⟨h.1, h.2.1, h.2.2.1, pk_us, h.2.2.2.2⟩ (fun i t2 hij _ h => ⟨h.1, h.2.1, h.2.2.1, (pk_un hij).trans h.2.2.2.1, h.2.2.2.2⟩) (fun i _ => ⟨rfl, rfl⟩) rfl
theorem MA.pl (A : MA ts lt fs) (ht : ts[j]? = some t) (v : Int32) : MA (ts.set j (t.1, v, t.2.2.1, t.2.2.2.1, t.2.2.2.2)) lt (updF fs 1 (upd (fs 1) j v)) := by
  have h := A.1 j t ht
  exact A.gen ht ⟨h.1, pk_us, h.2.2⟩ (fun i t2 hij _ h => ⟨h.1, (pk_un hij).trans h.2.1, h.2.2⟩) (fun i _ => ⟨rfl, rfl⟩) rfl
theorem MA.wt (A : MA ts lt fs) (ht : ts[j]? = some t) (v : Int32) : MA (ts.set j (t.1, t.2.1, t.2.2.1, v, t.2.2.2.2)) lt (updF fs 2 (upd (fs 2) j v)) := by
  have h := A.1 j t ht
  exact A.gen ht ⟨h.1, h.2.1, pk_us, h.2.2.2⟩ (fun i t2 hij _ h => ⟨h.1, h.2.1, (pk_un hij).trans h.2.2.1, h.2.2.2⟩) (fun i hij => ⟨pk_un hij, rfl⟩) rfl
theorem MA.ne (A : MA ts lt fs) (hn : ts.length < 64) (s0 p0 : Int32) : MA (ts ++ [(s0, p0, -1, 0, [])]) lt (updF (updF (updF fs 0 (upd (fs 0) ts.length s0)) 1 (upd (fs 1) ts.length p0)) 4 (upd (fs 4) ts.length (-1))) := by
  refine ⟨fun i t2 h => ?_, fun i hi hi2 => A.2.1 i (by simp at hi; omega) hi2, A.2.2⟩
  rw [List.getElem?_append] at h
  by_cases hi : i < ts.length
  · rw [if_pos hi] at h
    have h := A.1 i t2 h
    have hne : i ≠ ts.length := by omega
    exact ⟨(pk_un hne).trans h.1, (pk_un hne).trans h.2.1, h.2.2.1, (pk_un hne).trans h.2.2.2.1, h.2.2.2.2⟩
  · rw [if_neg hi] at h
    have : i - ts.length = 0 := by
      have := (List.getElem?_eq_some_iff.mp h).1
      simp at this; omega
    rw [this] at h
    simp at h
    subst h
    obtain rfl : i = ts.length := by omega
    have h := A.2.1 ts.length (Nat.le_refl _) hn
    exact ⟨pk_us, pk_us, h.1, pk_us, h.2, fun k r hr => by simp at hr⟩
end MAS
theorem ts_2 {ts : List TH} {n : Nat} {v : Int32} (hs : n = ts.length) (hn : ts.length ≤ 64) (h : sp_ok n v) : ∃ (j : Nat) (t : TH), j < ts.length ∧ v = nI j ∧ ts[j]? = some t := by
  subst hs
  obtain ⟨j, hj, e⟩ := ad_2 h.1 h.2 (by omega)
  exact ⟨j, _, hj, e, List.getElem?_eq_getElem hj⟩
set_option maxHeartbeats 4000000 in
set_option maxRecDepth 100000 in
theorem c_M_thing (l : Launch) (G : ad_G) (lo : Nat) (hp : ad_H) (m0 : Nat) (bs : Nat → Nat) (th : Int32) (sd : Int64) (fs : Nat → Nat → Int32) (ts : List TH) (lt : List Nat) (s0 p0 : Int32)  (C : MC G hp m0 bs th sd (nI ts.length) (nI lt.length) fs) (A : MA ts lt fs) (hn : ts.length ≤ 64) : ad_Ct l y_M_thing b_M_thing 3 rt_M_thing hs_M_thing 2 0 0 G lo hp [.ref m0, .int s0, .int p0] (fun r hp' => r = .inl (some (.int ((q_th ts s0 p0).1).2)) ∧ ∃ fs' : Nat → Nat → Int32, MC G hp' m0 bs (nI ((q_th ts s0 p0).1).1) sd (nI ((q_th ts s0 p0).2).length) (nI (lt).length) fs' ∧ MA ((q_th ts s0 p0).2) lt fs' ∧ mf m0 bs hp hp') := by
  intro p e s m below meth c M hts hB hP
  have hx := M.1
  have hb := M.2.1
  have hml := M.2.2.1
  have hown : s.vm.findClass "AuditDrawsModel" = some m.cls := M.2.2.2.1
  have S : CallFix p m c b_M_thing 3 s _ ad_T "AuditDrawsModel" := ⟨hx, hb, hml, hown, hts⟩
  have I : ad_I G lo s hp s.heap [] := ad_I.rf hB hP
  have hl := lv_entry ([.ref m0, .int s0, .int p0]) (n := 3) (Nat.le_of_ble_eq_true rfl)
  rw [lg_entry_eq]
  generalize (lg_sl ([.ref m0, .int s0, .int p0]) ++ List.replicate (3 - (lg_sl ([.ref m0, .int s0, .int p0])).length) Slot.unset).toArray = ls at hl ⊢
  have hl : lv_has ls 3 [(0, .ref m0), (1, .int s0), (2, .int p0)] := hl
  refine lv_aload_n hx hb d_M_thing_0 rfl (lv_at hl 0 rfl) ?_
  refine lv_iload_n hx hb d_M_thing_1 rfl (lv_at hl 1 rfl) ?_
  refine lv_i2l (v := s0.toInt64) hx hb d_M_thing_2 rfl ?_
  refine lv_lconst (v := 0) hx hb d_M_thing_3 (by decide) ?_
  refine lv_ldc2 (v := 5) hx hb hown (hts _ w_606) d_M_thing_4 ?_
  refine ad_cPi S I (ad_ivS (As := [.long s0.toInt64, .long 0, .long 5]) (rest := [.ref m0]) S Y_M_in w_607 w_608 w_6 ⟨by decide, by decide, np_M_in⟩ rfl d_M_thing_7) (c_M_in l G lo hp s0.toInt64 0 5) Y_M_in hl.1 ⟨Nat.le_of_ble_eq_true rfl, Nat.le_of_ble_eq_true rfl⟩ (Nat.le_of_ble_eq_true rfl) (Nat.le_of_ble_eq_true rfl) d_M_thing_7 ?_
  refine lv_if_eq (tgt := 25) hx hb d_M_thing_10 (by decide) (fun c10 => ?_) (fun c10 => ?_)
  · rw [in_ok s0 _ 6 (by decide)] at c10
    refine lv_iconst (v := 1) hx hb d_M_thing_25 (by decide) ?_
    refine lv_goto (tgt := 30) hx hb d_M_thing_26 (by decide) ?_
    refine lv_aload_n hx hb d_M_thing_30 rfl (lv_at hl 0 rfl) ?_
    refine ad_get S I C.1 K_Mod 2 (by decide) w_550 rfl d_M_thing_31 ?_
    refine lv_bipush (v := 64) hx hb d_M_thing_34 (by decide) ?_
    refine lv_icmp_ne (tgt := 43) hx hb d_M_thing_36 (by decide) (fun c36 => ?_) (fun c36 => ?_)
    · refine lv_iconst (v := 0) hx hb d_M_thing_43 (by decide) ?_
      refine lv_iconst (v := 0) hx hb d_M_thing_44 (by decide) ?_
      refine ad_cZi S I (ad_ivV (As := [.int 1, .int 0, .int 0]) (rest := []) S (ad_recv I C.1 K_Mod) w_611 w_613 sp_M_fails Y_M_fails ⟨by decide, by decide, np_M_fails⟩ rfl d_M_thing_45) (c_M_fails l G lo hp m0 bs th sd (nI ts.length) (nI lt.length) fs 1 0 0 C) Y_M_fails hl.1 ⟨Nat.le_of_ble_eq_true rfl, Nat.le_of_ble_eq_true rfl⟩ (Nat.le_of_ble_eq_true rfl) (Nat.le_of_ble_eq_true rfl) d_M_thing_45 (fun hp1 H1 locs1 hA I => ?_)
      obtain ⟨C1, F1⟩ := hA
      have C1 : MC G hp1 m0 bs 1 sd (nI ts.length) (nI lt.length) fs := C1
      refine ad_top (y := .int 1) (by rfl) ?_
      refine lv_if_eq (tgt := 53) hx hb d_M_thing_48 (by decide) (fun c48 => ?_) (fun c48 => ?_)
      · exact absurd c48 (by decide)
      · refine lv_iconst (v := 0) hx hb d_M_thing_51 (by decide) ?_
        exact ad_iret M I rfl (by omega) (by omega) (⟨by rw [(show q_th ts s0 p0 = ((1, 0), ts) by simp only [q_th]; rw [if_neg (fun h => c10 h.1)])], fs, by rw [(show q_th ts s0 p0 = ((1, 0), ts) by simp only [q_th]; rw [if_neg (fun h => c10 h.1)])]; exact C1, by rw [(show q_th ts s0 p0 = ((1, 0), ts) by simp only [q_th]; rw [if_neg (fun h => c10 h.1)])]; exact A, F1⟩) d_M_thing_52
    · refine lv_iconst (v := 1) hx hb d_M_thing_39 (by decide) ?_
      refine lv_goto (tgt := 44) hx hb d_M_thing_40 (by decide) ?_
      refine lv_iconst (v := 0) hx hb d_M_thing_44 (by decide) ?_
      refine ad_cZi S I (ad_ivV (As := [.int 1, .int 1, .int 0]) (rest := []) S (ad_recv I C.1 K_Mod) w_611 w_613 sp_M_fails Y_M_fails ⟨by decide, by decide, np_M_fails⟩ rfl d_M_thing_45) (c_M_fails l G lo hp m0 bs th sd (nI ts.length) (nI lt.length) fs 1 1 0 C) Y_M_fails hl.1 ⟨Nat.le_of_ble_eq_true rfl, Nat.le_of_ble_eq_true rfl⟩ (Nat.le_of_ble_eq_true rfl) (Nat.le_of_ble_eq_true rfl) d_M_thing_45 (fun hp2 H1 locs1 hA I => ?_)
      obtain ⟨C2, F2⟩ := hA
      have C2 : MC G hp2 m0 bs 1 sd (nI ts.length) (nI lt.length) fs := C2
      refine ad_top (y := .int 1) (by rfl) ?_
      refine lv_if_eq (tgt := 53) hx hb d_M_thing_48 (by decide) (fun c48 => ?_) (fun c48 => ?_)
      · exact absurd c48 (by decide)
      · refine lv_iconst (v := 0) hx hb d_M_thing_51 (by decide) ?_
        exact ad_iret M I rfl (by omega) (by omega) (⟨by rw [(show q_th ts s0 p0 = ((1, 0), ts) by simp only [q_th]; rw [if_neg (fun h => c10 h.1)])], fs, by rw [(show q_th ts s0 p0 = ((1, 0), ts) by simp only [q_th]; rw [if_neg (fun h => c10 h.1)])]; exact C2, by rw [(show q_th ts s0 p0 = ((1, 0), ts) by simp only [q_th]; rw [if_neg (fun h => c10 h.1)])]; exact A, F2⟩) d_M_thing_52
  · rw [in_ok s0 _ 6 (by decide), Decidable.not_not] at c10
    refine lv_iload_n hx hb d_M_thing_13 rfl (lv_at hl 2 rfl) ?_
    refine lv_i2l (v := p0.toInt64) hx hb d_M_thing_14 rfl ?_
    refine lv_lconst (v := 0) hx hb d_M_thing_15 (by decide) ?_
    refine lv_ldc2 (v := 15) hx hb hown (hts _ w_610) d_M_thing_16 ?_
    refine ad_cPi S I (ad_ivS (As := [.long p0.toInt64, .long 0, .long 15]) (rest := [.ref m0]) S Y_M_in w_607 w_608 w_6 ⟨by decide, by decide, np_M_in⟩ rfl d_M_thing_19) (c_M_in l G lo hp p0.toInt64 0 15) Y_M_in hl.1 ⟨Nat.le_of_ble_eq_true rfl, Nat.le_of_ble_eq_true rfl⟩ (Nat.le_of_ble_eq_true rfl) (Nat.le_of_ble_eq_true rfl) d_M_thing_19 ?_
    refine lv_if_ne (tgt := 29) hx hb d_M_thing_22 (by decide) (fun c22 => ?_) (fun c22 => ?_)
    · rw [in_ok p0 _ 16 (by decide), Decidable.not_not] at c22
      refine lv_iconst (v := 0) hx hb d_M_thing_29 (by decide) ?_
      refine lv_aload_n hx hb d_M_thing_30 rfl (lv_at hl 0 rfl) ?_
      refine ad_get S I C.1 K_Mod 2 (by decide) w_550 rfl d_M_thing_31 ?_
      refine lv_bipush (v := 64) hx hb d_M_thing_34 (by decide) ?_
      refine lv_icmp_ne (tgt := 43) hx hb d_M_thing_36 (by decide) (fun c36 => ?_) (fun c36 => ?_)
      · have hlt : ts.length < 64 := Nat.lt_of_le_of_ne hn (fun h => c36 (by rw [h]; rfl))
        refine lv_iconst (v := 0) hx hb d_M_thing_43 (by decide) ?_
        refine lv_iconst (v := 0) hx hb d_M_thing_44 (by decide) ?_
        refine ad_cZi S I (ad_ivV (As := [.int 0, .int 0, .int 0]) (rest := []) S (ad_recv I C.1 K_Mod) w_611 w_613 sp_M_fails Y_M_fails ⟨by decide, by decide, np_M_fails⟩ rfl d_M_thing_45) (c_M_fails l G lo hp m0 bs th sd (nI ts.length) (nI lt.length) fs 0 0 0 C) Y_M_fails hl.1 ⟨Nat.le_of_ble_eq_true rfl, Nat.le_of_ble_eq_true rfl⟩ (Nat.le_of_ble_eq_true rfl) (Nat.le_of_ble_eq_true rfl) d_M_thing_45 (fun hp3 H1 locs1 hA I => ?_)
        obtain ⟨C3, F3⟩ := hA
        have C3 : MC G hp3 m0 bs 0 sd (nI ts.length) (nI lt.length) fs := C3
        refine ad_top (y := .int 0) (by rfl) ?_
        refine lv_if_eq (tgt := 53) hx hb d_M_thing_48 (by decide) (fun c48 => ?_) (fun c48 => ?_)
        · refine lv_aload_n hx hb d_M_thing_53 rfl (lv_at hl 0 rfl) ?_
          refine ad_get S I C3.1 K_Mod 3 (by decide) w_551 rfl d_M_thing_54 ?_
          refine lv_aload_n hx hb d_M_thing_57 rfl (lv_at hl 0 rfl) ?_
          refine ad_get S I C3.1 K_Mod 2 (by decide) w_550 rfl d_M_thing_58 ?_
          refine lv_iload_n hx hb d_M_thing_61 rfl (lv_at hl 1 rfl) ?_
          refine ad_iast S I (C3.2.1 0 (by decide)) (vp_in_nI (show ts.length < 64 by omega) (by decide)) d_M_thing_62 (fun H1 locs1 I => ?_)
          rw [show (nI ts.length).toNatClampNeg = ts.length from nI_clamp (by omega)] at I
          obtain ⟨hp4, ehp4⟩ : ∃ z : ad_H, z = ad_up hp3 (bs 0) (.inl (G.2.1 0, 64, .inl (upd (fs 0) ts.length s0))) := ⟨_, rfl⟩
          have I : ad_I G lo s hp4 H1 locs1 := by rw [ehp4]; exact I
          obtain ⟨C4, F4⟩ := MC.arr (hp' := hp4) C3 0 (by decide) (by rw [ehp4]; exact ad_up_s _ _ _) (fun z hz => by rw [ehp4]; exact ad_up_n _ hz)
          refine lv_aload_n hx hb d_M_thing_63 rfl (lv_at hl 0 rfl) ?_
          refine ad_get S I C4.1 K_Mod 4 (by decide) w_552 rfl d_M_thing_64 ?_
          refine lv_aload_n hx hb d_M_thing_67 rfl (lv_at hl 0 rfl) ?_
          refine ad_get S I C4.1 K_Mod 2 (by decide) w_550 rfl d_M_thing_68 ?_
          refine lv_iload_n hx hb d_M_thing_71 rfl (lv_at hl 2 rfl) ?_
          refine ad_iast S I (C4.2.1 1 (by decide)) (vp_in_nI (show ts.length < 64 by omega) (by decide)) d_M_thing_72 (fun H1 locs1 I => ?_)
          rw [show (nI ts.length).toNatClampNeg = ts.length from nI_clamp (by omega)] at I
          obtain ⟨hp5, ehp5⟩ : ∃ z : ad_H, z = ad_up hp4 (bs 1) (.inl (G.2.1 0, 64, .inl (upd (fs 1) ts.length p0))) := ⟨_, rfl⟩
          have I : ad_I G lo s hp5 H1 locs1 := by rw [ehp5]; exact I
          obtain ⟨C5, F5⟩ := MC.arr (hp' := hp5) C4 1 (by decide) (by rw [ehp5]; exact ad_up_s _ _ _) (fun z hz => by rw [ehp5]; exact ad_up_n _ hz)
          refine lv_aload_n hx hb d_M_thing_73 rfl (lv_at hl 0 rfl) ?_
          refine ad_get S I C5.1 K_Mod 8 (by decide) w_556 rfl d_M_thing_74 ?_
          refine lv_aload_n hx hb d_M_thing_77 rfl (lv_at hl 0 rfl) ?_
          refine ad_get S I C5.1 K_Mod 2 (by decide) w_550 rfl d_M_thing_78 ?_
          refine lv_iconst (v := (-1)) hx hb d_M_thing_81 (by decide) ?_
          refine ad_iast S I (C5.2.1 4 (by decide)) (vp_in_nI (show ts.length < 64 by omega) (by decide)) d_M_thing_82 (fun H1 locs1 I => ?_)
          rw [show (nI ts.length).toNatClampNeg = ts.length from nI_clamp (by omega)] at I
          obtain ⟨hp6, ehp6⟩ : ∃ z : ad_H, z = ad_up hp5 (bs 4) (.inl (G.2.1 0, 64, .inl (upd (fs 4) ts.length (-1)))) := ⟨_, rfl⟩
          have I : ad_I G lo s hp6 H1 locs1 := by rw [ehp6]; exact I
          obtain ⟨C6, F6⟩ := MC.arr (hp' := hp6) C5 4 (by decide) (by rw [ehp6]; exact ad_up_s _ _ _) (fun z hz => by rw [ehp6]; exact ad_up_n _ hz)
          refine lv_aload_n hx hb d_M_thing_83 rfl (lv_at hl 0 rfl) ?_
          refine lv_dup hx hb d_M_thing_84 rfl ?_
          refine ad_get S I C6.1 K_Mod 2 (by decide) w_550 rfl d_M_thing_85 ?_
          refine lv_iconst (v := 1) hx hb d_M_thing_88 (by decide) ?_
          refine lv_iadd hx hb d_M_thing_89 ?_
          refine ad_top (y := .int (nI (ts.length + 1))) (congrArg Value.int (nI_1 _)) ?_
          refine ad_put S I C6.1 K_Mod 2 (by decide) w_550 rfl rfl rfl (by simp) d_M_thing_90 (fun H1 locs1 I => ?_)
          obtain ⟨hp7, ehp7⟩ : ∃ z : ad_H, z = ad_up hp6 m0 (.inr (5, [.int 0, .long sd, .int (nI (ts.length + 1)), .ref (bs 0), .ref (bs 1), .ref (bs 2), .int (nI lt.length), .ref (bs 3), .ref (bs 4), .ref (bs 5), .ref (bs 6), .ref (bs 7), .ref (bs 8), .ref (bs 9), .ref (bs 10)])) := ⟨_, rfl⟩
          have I : ad_I G lo s hp7 H1 locs1 := by rw [ehp7]; exact I
          obtain ⟨C7, F7⟩ := MC.fld (hp' := hp7) C6 (by rw [ehp7]; exact ad_up_s _ _ _) (fun z hz => by rw [ehp7]; exact ad_up_n _ hz)
          refine lv_aload_n hx hb d_M_thing_93 rfl (lv_at hl 0 rfl) ?_
          refine ad_get S I C7.1 K_Mod 2 (by decide) w_550 rfl d_M_thing_94 ?_
          refine lv_iconst (v := 1) hx hb d_M_thing_97 (by decide) ?_
          refine lv_isub hx hb d_M_thing_98 ?_
          refine ad_top (y := .int (nI ts.length)) (congrArg Value.int (nI_pred _)) ?_
          exact ad_iret M I rfl (by omega) (by omega) (⟨by rw [(show q_th ts s0 p0 = ((0, nI ts.length), ts ++ [(s0, p0, -1, 0, [])]) by simp only [q_th]; rw [if_pos ⟨c10, c22⟩, if_pos hlt])], (updF (updF (updF fs 0 (upd (fs 0) ts.length s0)) 1 (upd (fs 1) ts.length p0)) 4 (upd (fs 4) ts.length (-1))), by rw [(show q_th ts s0 p0 = ((0, nI ts.length), ts ++ [(s0, p0, -1, 0, [])]) by simp only [q_th]; rw [if_pos ⟨c10, c22⟩, if_pos hlt]), List.length_append]; exact C7, by rw [(show q_th ts s0 p0 = ((0, nI ts.length), ts ++ [(s0, p0, -1, 0, [])]) by simp only [q_th]; rw [if_pos ⟨c10, c22⟩, if_pos hlt])]; exact A.ne hlt s0 p0, ((((F3.tr F4).tr F5).tr F6).tr F7)⟩) d_M_thing_99
        · exact absurd c48 (by decide)
      · refine lv_iconst (v := 1) hx hb d_M_thing_39 (by decide) ?_
        refine lv_goto (tgt := 44) hx hb d_M_thing_40 (by decide) ?_
        refine lv_iconst (v := 0) hx hb d_M_thing_44 (by decide) ?_
        refine ad_cZi S I (ad_ivV (As := [.int 0, .int 1, .int 0]) (rest := []) S (ad_recv I C.1 K_Mod) w_611 w_613 sp_M_fails Y_M_fails ⟨by decide, by decide, np_M_fails⟩ rfl d_M_thing_45) (c_M_fails l G lo hp m0 bs th sd (nI ts.length) (nI lt.length) fs 0 1 0 C) Y_M_fails hl.1 ⟨Nat.le_of_ble_eq_true rfl, Nat.le_of_ble_eq_true rfl⟩ (Nat.le_of_ble_eq_true rfl) (Nat.le_of_ble_eq_true rfl) d_M_thing_45 (fun hp8 H1 locs1 hA I => ?_)
        obtain ⟨C8, F8⟩ := hA
        have C8 : MC G hp8 m0 bs 2 sd (nI ts.length) (nI lt.length) fs := C8
        refine ad_top (y := .int 1) (by rfl) ?_
        refine lv_if_eq (tgt := 53) hx hb d_M_thing_48 (by decide) (fun c48 => ?_) (fun c48 => ?_)
        · exact absurd c48 (by decide)
        · refine lv_iconst (v := 0) hx hb d_M_thing_51 (by decide) ?_
          exact ad_iret M I rfl (by omega) (by omega) (⟨by rw [(show q_th ts s0 p0 = ((2, 0), ts) by simp only [q_th]; rw [if_pos ⟨c10, c22⟩, if_neg (fun h => by rw [(nI_eq (b := 64) (by omega) (by omega)).mp c36] at h; exact absurd h (by decide))])], fs, by rw [(show q_th ts s0 p0 = ((2, 0), ts) by simp only [q_th]; rw [if_pos ⟨c10, c22⟩, if_neg (fun h => by rw [(nI_eq (b := 64) (by omega) (by omega)).mp c36] at h; exact absurd h (by decide))])]; exact C8, by rw [(show q_th ts s0 p0 = ((2, 0), ts) by simp only [q_th]; rw [if_pos ⟨c10, c22⟩, if_neg (fun h => by rw [(nI_eq (b := 64) (by omega) (by omega)).mp c36] at h; exact absurd h (by decide))])]; exact A, F8⟩) d_M_thing_52
    · rw [in_ok p0 _ 16 (by decide)] at c22
      refine lv_iconst (v := 1) hx hb d_M_thing_25 (by decide) ?_
      refine lv_goto (tgt := 30) hx hb d_M_thing_26 (by decide) ?_
      refine lv_aload_n hx hb d_M_thing_30 rfl (lv_at hl 0 rfl) ?_
      refine ad_get S I C.1 K_Mod 2 (by decide) w_550 rfl d_M_thing_31 ?_
      refine lv_bipush (v := 64) hx hb d_M_thing_34 (by decide) ?_
      refine lv_icmp_ne (tgt := 43) hx hb d_M_thing_36 (by decide) (fun c36 => ?_) (fun c36 => ?_)
      · refine lv_iconst (v := 0) hx hb d_M_thing_43 (by decide) ?_
        refine lv_iconst (v := 0) hx hb d_M_thing_44 (by decide) ?_
        refine ad_cZi S I (ad_ivV (As := [.int 1, .int 0, .int 0]) (rest := []) S (ad_recv I C.1 K_Mod) w_611 w_613 sp_M_fails Y_M_fails ⟨by decide, by decide, np_M_fails⟩ rfl d_M_thing_45) (c_M_fails l G lo hp m0 bs th sd (nI ts.length) (nI lt.length) fs 1 0 0 C) Y_M_fails hl.1 ⟨Nat.le_of_ble_eq_true rfl, Nat.le_of_ble_eq_true rfl⟩ (Nat.le_of_ble_eq_true rfl) (Nat.le_of_ble_eq_true rfl) d_M_thing_45 (fun hp9 H1 locs1 hA I => ?_)
        obtain ⟨C9, F9⟩ := hA
        have C9 : MC G hp9 m0 bs 1 sd (nI ts.length) (nI lt.length) fs := C9
        refine ad_top (y := .int 1) (by rfl) ?_
        refine lv_if_eq (tgt := 53) hx hb d_M_thing_48 (by decide) (fun c48 => ?_) (fun c48 => ?_)
        · exact absurd c48 (by decide)
        · refine lv_iconst (v := 0) hx hb d_M_thing_51 (by decide) ?_
          exact ad_iret M I rfl (by omega) (by omega) (⟨by rw [(show q_th ts s0 p0 = ((1, 0), ts) by simp only [q_th]; rw [if_neg (fun h => c22 h.2)])], fs, by rw [(show q_th ts s0 p0 = ((1, 0), ts) by simp only [q_th]; rw [if_neg (fun h => c22 h.2)])]; exact C9, by rw [(show q_th ts s0 p0 = ((1, 0), ts) by simp only [q_th]; rw [if_neg (fun h => c22 h.2)])]; exact A, F9⟩) d_M_thing_52
      · refine lv_iconst (v := 1) hx hb d_M_thing_39 (by decide) ?_
        refine lv_goto (tgt := 44) hx hb d_M_thing_40 (by decide) ?_
        refine lv_iconst (v := 0) hx hb d_M_thing_44 (by decide) ?_
        refine ad_cZi S I (ad_ivV (As := [.int 1, .int 1, .int 0]) (rest := []) S (ad_recv I C.1 K_Mod) w_611 w_613 sp_M_fails Y_M_fails ⟨by decide, by decide, np_M_fails⟩ rfl d_M_thing_45) (c_M_fails l G lo hp m0 bs th sd (nI ts.length) (nI lt.length) fs 1 1 0 C) Y_M_fails hl.1 ⟨Nat.le_of_ble_eq_true rfl, Nat.le_of_ble_eq_true rfl⟩ (Nat.le_of_ble_eq_true rfl) (Nat.le_of_ble_eq_true rfl) d_M_thing_45 (fun hp10 H1 locs1 hA I => ?_)
        obtain ⟨C10, F10⟩ := hA
        have C10 : MC G hp10 m0 bs 1 sd (nI ts.length) (nI lt.length) fs := C10
        refine ad_top (y := .int 1) (by rfl) ?_
        refine lv_if_eq (tgt := 53) hx hb d_M_thing_48 (by decide) (fun c48 => ?_) (fun c48 => ?_)
        · exact absurd c48 (by decide)
        · refine lv_iconst (v := 0) hx hb d_M_thing_51 (by decide) ?_
          exact ad_iret M I rfl (by omega) (by omega) (⟨by rw [(show q_th ts s0 p0 = ((1, 0), ts) by simp only [q_th]; rw [if_neg (fun h => c22 h.2)])], fs, by rw [(show q_th ts s0 p0 = ((1, 0), ts) by simp only [q_th]; rw [if_neg (fun h => c22 h.2)])]; exact C10, by rw [(show q_th ts s0 p0 = ((1, 0), ts) by simp only [q_th]; rw [if_neg (fun h => c22 h.2)])]; exact A, F10⟩) d_M_thing_52
def q_dw (lt : List Nat) (v : Int32) : Nat × Int32 := if okb v (nI lt.length) then (0, nI (lt.getD v.toNatClampNeg 0)) else (1, 0)
set_option maxHeartbeats 4000000 in
set_option maxRecDepth 100000 in
theorem c_M_drawn (l : Launch) (G : ad_G) (lo : Nat) (hp : ad_H) (m0 : Nat) (bs : Nat → Nat) (th : Int32) (sd : Int64) (fs : Nat → Nat → Int32) (ts : List TH) (lt : List Nat) (v : Int32)  (C : MC G hp m0 bs th sd (nI ts.length) (nI lt.length) fs) (A : MA ts lt fs) (hn : ts.length ≤ 64) (hm : lt.length ≤ 64) : ad_Ct l y_M_drawn b_M_drawn 2 rt_M_drawn hs_M_drawn 2 0 0 G lo hp [.ref m0, .int v] (fun r hp' => r = .inl (some (.int (q_dw lt v).2)) ∧ ∃ fs' : Nat → Nat → Int32, MC G hp' m0 bs (nI (q_dw lt v).1) sd (nI (ts).length) (nI (lt).length) fs' ∧ MA (ts) lt fs' ∧ mf m0 bs hp hp') := by
  intro p e s m below meth c M hts hB hP
  have hx := M.1
  have hb := M.2.1
  have hml := M.2.2.1
  have hown : s.vm.findClass "AuditDrawsModel" = some m.cls := M.2.2.2.1
  have S : CallFix p m c b_M_drawn 2 s _ ad_T "AuditDrawsModel" := ⟨hx, hb, hml, hown, hts⟩
  have I : ad_I G lo s hp s.heap [] := ad_I.rf hB hP
  have hl := lv_entry ([.ref m0, .int v]) (n := 2) (Nat.le_of_ble_eq_true rfl)
  rw [lg_entry_eq]
  generalize (lg_sl ([.ref m0, .int v]) ++ List.replicate (2 - (lg_sl ([.ref m0, .int v])).length) Slot.unset).toArray = ls at hl ⊢
  have hl : lv_has ls 2 [(0, .ref m0), (1, .int v)] := hl
  refine lv_aload_n hx hb d_M_drawn_0 rfl (lv_at hl 0 rfl) ?_
  refine lv_iload_n hx hb d_M_drawn_1 rfl (lv_at hl 1 rfl) ?_
  refine lv_i2l (v := v.toInt64) hx hb d_M_drawn_2 rfl ?_
  refine lv_lconst (v := 0) hx hb d_M_drawn_3 (by decide) ?_
  refine lv_aload_n hx hb d_M_drawn_4 rfl (lv_at hl 0 rfl) ?_
  refine ad_get S I C.1 K_Mod 6 (by decide) w_554 rfl d_M_drawn_5 ?_
  refine lv_iconst (v := 1) hx hb d_M_drawn_8 (by decide) ?_
  refine lv_isub hx hb d_M_drawn_9 ?_
  refine lv_i2l (v := ((nI lt.length) - 1).toInt64) hx hb d_M_drawn_10 rfl ?_
  refine ad_cPi S I (ad_ivS (As := [.long v.toInt64, .long 0, .long (((nI lt.length) - 1).toInt64)]) (rest := [.ref m0]) S Y_M_in w_607 w_608 w_6 ⟨by decide, by decide, np_M_in⟩ rfl d_M_drawn_11) (c_M_in l G lo hp v.toInt64 0 (((nI lt.length) - 1).toInt64)) Y_M_in hl.1 ⟨Nat.le_of_ble_eq_true rfl, Nat.le_of_ble_eq_true rfl⟩ (Nat.le_of_ble_eq_true rfl) (Nat.le_of_ble_eq_true rfl) d_M_drawn_11 ?_
  refine lv_if_ne (tgt := 21) hx hb d_M_drawn_14 (by decide) (fun c14 => ?_) (fun c14 => ?_)
  · rw [in_th hm, Classical.not_not] at c14
    obtain ⟨j, hj, rfl⟩ := ad_2 c14.1 c14.2 (by omega)
    refine lv_iconst (v := 0) hx hb d_M_drawn_21 (by decide) ?_
    refine lv_iconst (v := 0) hx hb d_M_drawn_22 (by decide) ?_
    refine lv_iconst (v := 0) hx hb d_M_drawn_23 (by decide) ?_
    refine ad_cZi S I (ad_ivV (As := [.int 0, .int 0, .int 0]) (rest := []) S (ad_recv I C.1 K_Mod) w_611 w_613 sp_M_fails Y_M_fails ⟨by decide, by decide, np_M_fails⟩ rfl d_M_drawn_24) (c_M_fails l G lo hp m0 bs th sd (nI ts.length) (nI lt.length) fs 0 0 0 C) Y_M_fails hl.1 ⟨Nat.le_of_ble_eq_true rfl, Nat.le_of_ble_eq_true rfl⟩ (Nat.le_of_ble_eq_true rfl) (Nat.le_of_ble_eq_true rfl) d_M_drawn_24 (fun hp1 H1 locs1 hA I => ?_)
    obtain ⟨C1, F1⟩ := hA
    have C1 : MC G hp1 m0 bs 0 sd (nI ts.length) (nI lt.length) fs := C1
    refine ad_top (y := .int 0) (by rfl) ?_
    refine lv_if_eq (tgt := 34) hx hb d_M_drawn_27 (by decide) (fun c27 => ?_) (fun c27 => ?_)
    · refine lv_aload_n hx hb d_M_drawn_34 rfl (lv_at hl 0 rfl) ?_
      refine ad_get S I C1.1 K_Mod 7 (by decide) w_555 rfl d_M_drawn_35 ?_
      refine lv_iload_n hx hb d_M_drawn_38 rfl (lv_at hl 1 rfl) ?_
      refine ad_iald S I (C1.2.1 3 (by decide)) (vp_in_nI (show j < 64 by omega) (by decide)) d_M_drawn_39 ?_
      refine ad_top (y := .int ((fs 3) j)) (congrArg (fun q => Value.int ((fs 3) q)) (show (nI j).toNatClampNeg = j from nI_clamp (by omega))) ?_
      exact ad_iret M I rfl (by omega) (by omega) (⟨by rw [(show q_dw lt (nI j) = (0, nI (lt.getD j 0)) by simp only [q_dw]; rw [if_pos (show okb (nI j) (nI lt.length) from c14), nI_clamp (by omega)]), A.2.2 j _ (gd_e hj)], fs, by rw [(show q_dw lt (nI j) = (0, nI (lt.getD j 0)) by simp only [q_dw]; rw [if_pos (show okb (nI j) (nI lt.length) from c14), nI_clamp (by omega)])]; exact C1, A, F1⟩) d_M_drawn_40
    · exact absurd c27 (by decide)
  · rw [in_th hm] at c14
    refine lv_iconst (v := 1) hx hb d_M_drawn_17 (by decide) ?_
    refine lv_goto (tgt := 22) hx hb d_M_drawn_18 (by decide) ?_
    refine lv_iconst (v := 0) hx hb d_M_drawn_22 (by decide) ?_
    refine lv_iconst (v := 0) hx hb d_M_drawn_23 (by decide) ?_
    refine ad_cZi S I (ad_ivV (As := [.int 1, .int 0, .int 0]) (rest := []) S (ad_recv I C.1 K_Mod) w_611 w_613 sp_M_fails Y_M_fails ⟨by decide, by decide, np_M_fails⟩ rfl d_M_drawn_24) (c_M_fails l G lo hp m0 bs th sd (nI ts.length) (nI lt.length) fs 1 0 0 C) Y_M_fails hl.1 ⟨Nat.le_of_ble_eq_true rfl, Nat.le_of_ble_eq_true rfl⟩ (Nat.le_of_ble_eq_true rfl) (Nat.le_of_ble_eq_true rfl) d_M_drawn_24 (fun hp2 H1 locs1 hA I => ?_)
    obtain ⟨C2, F2⟩ := hA
    have C2 : MC G hp2 m0 bs 1 sd (nI ts.length) (nI lt.length) fs := C2
    refine ad_top (y := .int 1) (by rfl) ?_
    refine lv_if_eq (tgt := 34) hx hb d_M_drawn_27 (by decide) (fun c27 => ?_) (fun c27 => ?_)
    · exact absurd c27 (by decide)
    · refine lv_iconst (v := 0) hx hb d_M_drawn_30 (by decide) ?_
      refine lv_goto (tgt := 40) hx hb d_M_drawn_31 (by decide) ?_
      exact ad_iret M I rfl (by omega) (by omega) (⟨by rw [(show q_dw lt v = (1, 0) from if_neg c14)], fs, by rw [(show q_dw lt v = (1, 0) from if_neg c14)]; exact C2, A, F2⟩) d_M_drawn_40
theorem st_neg {x : Int32} (h : x = -1 ∨ 0 ≤ x) (c : ¬ 0 ≤ x) : x = -1 := h.resolve_right c
theorem st_pos {x : Int32} (c : 0 ≤ x) : ¬ x = -1 := fun h => by rw [h] at c; exact absurd c (by decide)
theorem ck_2 {ts : List TH} {lt : List Nat} {fs : Nat → Nat → Int32} {j : Nat} {t : TH} (A : MA ts lt fs) (ht : ts[j]? = some t) (p0 : Int32) : MA (ts.set j (t.1, p0, 2, t.2.2.2.1, t.2.2.2.2)) lt (updF (updF fs 4 (upd (fs 4) j 2)) 1 (upd (fs 1) j p0)) := by
  have hjl : j < ts.length := (List.getElem?_eq_some_iff.mp ht).1
  have h := (A.st ht 2).pl (t := sst 2 t) (List.getElem?_set_self hjl) p0
  rw [List.set_set] at h
  exact h
theorem ck_1 {ts : List TH} {lt : List Nat} {fs : Nat → Nat → Int32} {j : Nat} {t : TH} {p0 : Int32} (A : MA ts lt fs) (ht : ts[j]? = some t) (hp : t.2.1 = p0) : MA (ts.set j (th_s t 1)) lt (updF (updF fs 4 (upd (fs 4) j 1)) 1 (upd (fs 1) j p0)) := by
  have hjl : j < ts.length := (List.getElem?_eq_some_iff.mp ht).1
  have h := (A.st ht 1).pl (t := sst 1 t) (List.getElem?_set_self hjl) p0
  rw [List.set_set, ← hp] at h
  rw [← hp]
  exact h
set_option maxHeartbeats 4000000 in
set_option maxRecDepth 100000 in
theorem c_M_check (l : Launch) (G : ad_G) (lo : Nat) (hp : ad_H) (m0 : Nat) (bs : Nat → Nat) (th : Int32) (sd : Int64) (fs : Nat → Nat → Int32) (ts : List TH) (lt : List Nat) (v a0 b0 p0 : Int32)  (C : MC G hp m0 bs th sd (nI ts.length) (nI lt.length) fs) (A : MA ts lt fs) (hn : ts.length ≤ 64) (hst : ∀ t ∈ ts, t.2.2.1 = -1 ∨ 0 ≤ t.2.2.1) : ad_Ct l y_M_check b_M_check 8 rt_M_check hs_M_check 3 0 0 G lo hp [.ref m0, .int v, .int a0, .int b0, .int p0] (fun r hp' => r = .inl (some (.int ((q_ck ts v a0 b0 p0).1).2)) ∧ ∃ fs' : Nat → Nat → Int32, MC G hp' m0 bs (nI ((q_ck ts v a0 b0 p0).1).1) sd (nI ((q_ck ts v a0 b0 p0).2).length) (nI (lt).length) fs' ∧ MA ((q_ck ts v a0 b0 p0).2) lt fs' ∧ mf m0 bs hp hp') := by
  intro p e s m below meth c M hts hB hP
  have hx := M.1
  have hb := M.2.1
  have hml := M.2.2.1
  have hown : s.vm.findClass "AuditDrawsModel" = some m.cls := M.2.2.2.1
  have S : CallFix p m c b_M_check 8 s _ ad_T "AuditDrawsModel" := ⟨hx, hb, hml, hown, hts⟩
  have I : ad_I G lo s hp s.heap [] := ad_I.rf hB hP
  have hl := lv_entry ([.ref m0, .int v, .int a0, .int b0, .int p0]) (n := 8) (Nat.le_of_ble_eq_true rfl)
  rw [lg_entry_eq]
  generalize (lg_sl ([.ref m0, .int v, .int a0, .int b0, .int p0]) ++ List.replicate (8 - (lg_sl ([.ref m0, .int v, .int a0, .int b0, .int p0])).length) Slot.unset).toArray = ls at hl ⊢
  have hl : lv_has ls 8 [(0, .ref m0), (1, .int v), (2, .int a0), (3, .int b0), (4, .int p0)] := hl
  refine lv_aload_n hx hb d_M_check_0 rfl (lv_at hl 0 rfl) ?_
  refine lv_iload_n hx hb d_M_check_1 rfl (lv_at hl 1 rfl) ?_
  refine ad_cPi S I (ad_ivV (As := [.int v]) (rest := []) S (ad_recv I C.1 K_Mod) w_649 w_651 sp_M_isThing Y_M_isThing ⟨by decide, by decide, np_M_isThing⟩ rfl d_M_check_2) (c_M_isThing l G lo hp m0 bs th sd (nI ts.length) (nI lt.length) fs v C) Y_M_isThing hl.1 ⟨Nat.le_of_ble_eq_true rfl, Nat.le_of_ble_eq_true rfl⟩ (Nat.le_of_ble_eq_true rfl) (Nat.le_of_ble_eq_true rfl) d_M_check_2 ?_
  refine lv_istore (lv' := [(5, .int (sp_in v.toInt64 0 (nI ts.length - 1).toInt64)), (0, .ref m0), (1, .int v), (2, .int a0), (3, .int b0), (4, .int p0)]) hx hb d_M_check_5 hl (by decide) rfl (fun ls hl => ?_)
  refine lv_iload hx hb d_M_check_7 (lv_at hl 0 rfl) ?_
  refine lv_if_eq (tgt := 49) hx hb d_M_check_9 (by decide) (fun c9 => ?_) (fun c9 => ?_)
  · rw [in_th hn] at c9
    refine lv_iconst (v := 1) hx hb d_M_check_49 (by decide) ?_
    refine lv_goto (tgt := 54) hx hb d_M_check_50 (by decide) ?_
    refine lv_istore (lv' := [(6, .int 1), (5, .int (sp_in v.toInt64 0 (nI ts.length - 1).toInt64)), (0, .ref m0), (1, .int v), (2, .int a0), (3, .int b0), (4, .int p0)]) hx hb d_M_check_54 hl (by decide) rfl (fun ls hl => ?_)
    refine lv_aload_n hx hb d_M_check_56 rfl (lv_at hl 2 rfl) ?_
    refine lv_iload hx hb d_M_check_57 (lv_at hl 0 rfl) ?_
    refine lv_iload hx hb d_M_check_59 (lv_at hl 1 rfl) ?_
    refine lv_if_eq (tgt := 77) hx hb d_M_check_61 (by decide) (fun c61 => ?_) (fun c61 => ?_)
    · refine lv_iconst (v := 0) hx hb d_M_check_77 (by decide) ?_
      refine lv_iconst (v := 0) hx hb d_M_check_78 (by decide) ?_
      refine ad_cZi S I (ad_ivV (As := [.int 1, .int 0, .int 0]) (rest := []) S (ad_recv I C.1 K_Mod) w_611 w_613 sp_M_fails Y_M_fails ⟨by decide, by decide, np_M_fails⟩ rfl d_M_check_79) (c_M_fails l G lo hp m0 bs th sd (nI ts.length) (nI lt.length) fs 1 0 0 C) Y_M_fails hl.1 ⟨Nat.le_of_ble_eq_true rfl, Nat.le_of_ble_eq_true rfl⟩ (Nat.le_of_ble_eq_true rfl) (Nat.le_of_ble_eq_true rfl) d_M_check_79 (fun hp1 H1 locs1 hA I => ?_)
      obtain ⟨C1, F1⟩ := hA
      have C1 : MC G hp1 m0 bs 1 sd (nI ts.length) (nI lt.length) fs := C1
      refine ad_top (y := .int 1) (by rfl) ?_
      refine lv_if_eq (tgt := 87) hx hb d_M_check_82 (by decide) (fun c82 => ?_) (fun c82 => ?_)
      · exact absurd c82 (by decide)
      · refine lv_iconst (v := 0) hx hb d_M_check_85 (by decide) ?_
        exact ad_iret M I rfl (by omega) (by omega) (⟨by rw [(show q_ck ts v a0 b0 p0 = ((1, 0), ts) by simp only [q_ck]; rw [sp_at_0 c9 hn])], fs, by rw [(show q_ck ts v a0 b0 p0 = ((1, 0), ts) by simp only [q_ck]; rw [sp_at_0 c9 hn])]; exact C1, by rw [(show q_ck ts v a0 b0 p0 = ((1, 0), ts) by simp only [q_ck]; rw [sp_at_0 c9 hn])]; exact A, F1⟩) d_M_check_86
    · exact absurd c61 (fun h => h ((in_th hn _).mpr c9))
  · rw [in_th hn, Classical.not_not] at c9
    obtain ⟨j, t, hj, rfl, ht⟩ := ts_2 rfl hn c9
    have hA := A.1 j t ht
    refine lv_iload_n hx hb d_M_check_12 rfl (lv_at hl 3 rfl) ?_
    refine lv_i2l (v := a0.toInt64) hx hb d_M_check_13 rfl ?_
    refine lv_lconst (v := 0) hx hb d_M_check_14 (by decide) ?_
    refine lv_ldc2 (v := 9) hx hb hown (hts _ w_653) d_M_check_15 ?_
    refine ad_cPi S I (ad_ivS (As := [.long a0.toInt64, .long 0, .long 9]) (rest := []) S Y_M_in w_607 w_608 w_6 ⟨by decide, by decide, np_M_in⟩ rfl d_M_check_18) (c_M_in l G lo hp a0.toInt64 0 9) Y_M_in hl.1 ⟨Nat.le_of_ble_eq_true rfl, Nat.le_of_ble_eq_true rfl⟩ (Nat.le_of_ble_eq_true rfl) (Nat.le_of_ble_eq_true rfl) d_M_check_18 ?_
    refine lv_if_eq (tgt := 49) hx hb d_M_check_21 (by decide) (fun c21 => ?_) (fun c21 => ?_)
    · rw [in_ok a0 _ 10 (by decide)] at c21
      refine lv_iconst (v := 1) hx hb d_M_check_49 (by decide) ?_
      refine lv_goto (tgt := 54) hx hb d_M_check_50 (by decide) ?_
      refine lv_istore (lv' := [(6, .int 1), (5, .int (sp_in (nI j).toInt64 0 (nI ts.length - 1).toInt64)), (0, .ref m0), (1, .int (nI j)), (2, .int a0), (3, .int b0), (4, .int p0)]) hx hb d_M_check_54 hl (by decide) rfl (fun ls hl => ?_)
      refine lv_aload_n hx hb d_M_check_56 rfl (lv_at hl 2 rfl) ?_
      refine lv_iload hx hb d_M_check_57 (lv_at hl 0 rfl) ?_
      refine lv_iload hx hb d_M_check_59 (lv_at hl 1 rfl) ?_
      refine lv_if_eq (tgt := 77) hx hb d_M_check_61 (by decide) (fun c61 => ?_) (fun c61 => ?_)
      · exact absurd ((in_th hn _).mp c61) (fun h => h c9)
      · refine lv_aload_n hx hb d_M_check_64 rfl (lv_at hl 2 rfl) ?_
        refine ad_get S I C.1 K_Mod 8 (by decide) w_556 rfl d_M_check_65 ?_
        refine lv_iload_n hx hb d_M_check_68 rfl (lv_at hl 3 rfl) ?_
        refine ad_iald S I (C.2.1 4 (by decide)) (vp_in_nI (show j < 64 by omega) (by decide)) d_M_check_69 ?_
        refine ad_top (y := .int ((fs 4) j)) (congrArg (fun q => Value.int ((fs 4) q)) (show (nI j).toNatClampNeg = j from nI_clamp (by omega))) ?_
        refine lv_if_ge (tgt := 77) hx hb d_M_check_70 (by decide) (fun c70 => ?_) (fun c70 => ?_)
        · rw [hA.2.2.2.1] at c70
          refine lv_iconst (v := 0) hx hb d_M_check_77 (by decide) ?_
          refine lv_iconst (v := 0) hx hb d_M_check_78 (by decide) ?_
          refine ad_cZi S I (ad_ivV (As := [.int 1, .int 0, .int 0]) (rest := []) S (ad_recv I C.1 K_Mod) w_611 w_613 sp_M_fails Y_M_fails ⟨by decide, by decide, np_M_fails⟩ rfl d_M_check_79) (c_M_fails l G lo hp m0 bs th sd (nI ts.length) (nI lt.length) fs 1 0 0 C) Y_M_fails hl.1 ⟨Nat.le_of_ble_eq_true rfl, Nat.le_of_ble_eq_true rfl⟩ (Nat.le_of_ble_eq_true rfl) (Nat.le_of_ble_eq_true rfl) d_M_check_79 (fun hp2 H1 locs1 hA I => ?_)
          obtain ⟨C2, F2⟩ := hA
          have C2 : MC G hp2 m0 bs 1 sd (nI ts.length) (nI lt.length) fs := C2
          refine ad_top (y := .int 1) (by rfl) ?_
          refine lv_if_eq (tgt := 87) hx hb d_M_check_82 (by decide) (fun c82 => ?_) (fun c82 => ?_)
          · exact absurd c82 (by decide)
          · refine lv_iconst (v := 0) hx hb d_M_check_85 (by decide) ?_
            exact ad_iret M I rfl (by omega) (by omega) (⟨by rw [(show q_ck ts (nI j) a0 b0 p0 = ((1, 0), ts) by simp only [q_ck]; rw [sp_at_n rfl ht hn]; simp only; rw [if_neg (fun h => c21 h.1)])], fs, by rw [(show q_ck ts (nI j) a0 b0 p0 = ((1, 0), ts) by simp only [q_ck]; rw [sp_at_n rfl ht hn]; simp only; rw [if_neg (fun h => c21 h.1)])]; exact C2, by rw [(show q_ck ts (nI j) a0 b0 p0 = ((1, 0), ts) by simp only [q_ck]; rw [sp_at_n rfl ht hn]; simp only; rw [if_neg (fun h => c21 h.1)])]; exact A, F2⟩) d_M_check_86
        · rw [hA.2.2.2.1] at c70
          refine lv_iconst (v := 1) hx hb d_M_check_73 (by decide) ?_
          refine lv_goto (tgt := 78) hx hb d_M_check_74 (by decide) ?_
          refine lv_iconst (v := 0) hx hb d_M_check_78 (by decide) ?_
          refine ad_cZi S I (ad_ivV (As := [.int 1, .int 1, .int 0]) (rest := []) S (ad_recv I C.1 K_Mod) w_611 w_613 sp_M_fails Y_M_fails ⟨by decide, by decide, np_M_fails⟩ rfl d_M_check_79) (c_M_fails l G lo hp m0 bs th sd (nI ts.length) (nI lt.length) fs 1 1 0 C) Y_M_fails hl.1 ⟨Nat.le_of_ble_eq_true rfl, Nat.le_of_ble_eq_true rfl⟩ (Nat.le_of_ble_eq_true rfl) (Nat.le_of_ble_eq_true rfl) d_M_check_79 (fun hp3 H1 locs1 hA I => ?_)
          obtain ⟨C3, F3⟩ := hA
          have C3 : MC G hp3 m0 bs 1 sd (nI ts.length) (nI lt.length) fs := C3
          refine ad_top (y := .int 1) (by rfl) ?_
          refine lv_if_eq (tgt := 87) hx hb d_M_check_82 (by decide) (fun c82 => ?_) (fun c82 => ?_)
          · exact absurd c82 (by decide)
          · refine lv_iconst (v := 0) hx hb d_M_check_85 (by decide) ?_
            exact ad_iret M I rfl (by omega) (by omega) (⟨by rw [(show q_ck ts (nI j) a0 b0 p0 = ((1, 0), ts) by simp only [q_ck]; rw [sp_at_n rfl ht hn]; simp only; rw [if_neg (fun h => c21 h.1)])], fs, by rw [(show q_ck ts (nI j) a0 b0 p0 = ((1, 0), ts) by simp only [q_ck]; rw [sp_at_n rfl ht hn]; simp only; rw [if_neg (fun h => c21 h.1)])]; exact C3, by rw [(show q_ck ts (nI j) a0 b0 p0 = ((1, 0), ts) by simp only [q_ck]; rw [sp_at_n rfl ht hn]; simp only; rw [if_neg (fun h => c21 h.1)])]; exact A, F3⟩) d_M_check_86
    · rw [in_ok a0 _ 10 (by decide), Decidable.not_not] at c21
      refine lv_iload_n hx hb d_M_check_24 rfl (lv_at hl 4 rfl) ?_
      refine lv_i2l (v := b0.toInt64) hx hb d_M_check_25 rfl ?_
      refine lv_lconst (v := 0) hx hb d_M_check_26 (by decide) ?_
      refine lv_ldc2 (v := 9) hx hb hown (hts _ w_653) d_M_check_27 ?_
      refine ad_cPi S I (ad_ivS (As := [.long b0.toInt64, .long 0, .long 9]) (rest := []) S Y_M_in w_607 w_608 w_6 ⟨by decide, by decide, np_M_in⟩ rfl d_M_check_30) (c_M_in l G lo hp b0.toInt64 0 9) Y_M_in hl.1 ⟨Nat.le_of_ble_eq_true rfl, Nat.le_of_ble_eq_true rfl⟩ (Nat.le_of_ble_eq_true rfl) (Nat.le_of_ble_eq_true rfl) d_M_check_30 ?_
      refine lv_if_eq (tgt := 49) hx hb d_M_check_33 (by decide) (fun c33 => ?_) (fun c33 => ?_)
      · rw [in_ok b0 _ 10 (by decide)] at c33
        refine lv_iconst (v := 1) hx hb d_M_check_49 (by decide) ?_
        refine lv_goto (tgt := 54) hx hb d_M_check_50 (by decide) ?_
        refine lv_istore (lv' := [(6, .int 1), (5, .int (sp_in (nI j).toInt64 0 (nI ts.length - 1).toInt64)), (0, .ref m0), (1, .int (nI j)), (2, .int a0), (3, .int b0), (4, .int p0)]) hx hb d_M_check_54 hl (by decide) rfl (fun ls hl => ?_)
        refine lv_aload_n hx hb d_M_check_56 rfl (lv_at hl 2 rfl) ?_
        refine lv_iload hx hb d_M_check_57 (lv_at hl 0 rfl) ?_
        refine lv_iload hx hb d_M_check_59 (lv_at hl 1 rfl) ?_
        refine lv_if_eq (tgt := 77) hx hb d_M_check_61 (by decide) (fun c61 => ?_) (fun c61 => ?_)
        · exact absurd ((in_th hn _).mp c61) (fun h => h c9)
        · refine lv_aload_n hx hb d_M_check_64 rfl (lv_at hl 2 rfl) ?_
          refine ad_get S I C.1 K_Mod 8 (by decide) w_556 rfl d_M_check_65 ?_
          refine lv_iload_n hx hb d_M_check_68 rfl (lv_at hl 3 rfl) ?_
          refine ad_iald S I (C.2.1 4 (by decide)) (vp_in_nI (show j < 64 by omega) (by decide)) d_M_check_69 ?_
          refine ad_top (y := .int ((fs 4) j)) (congrArg (fun q => Value.int ((fs 4) q)) (show (nI j).toNatClampNeg = j from nI_clamp (by omega))) ?_
          refine lv_if_ge (tgt := 77) hx hb d_M_check_70 (by decide) (fun c70 => ?_) (fun c70 => ?_)
          · rw [hA.2.2.2.1] at c70
            refine lv_iconst (v := 0) hx hb d_M_check_77 (by decide) ?_
            refine lv_iconst (v := 0) hx hb d_M_check_78 (by decide) ?_
            refine ad_cZi S I (ad_ivV (As := [.int 1, .int 0, .int 0]) (rest := []) S (ad_recv I C.1 K_Mod) w_611 w_613 sp_M_fails Y_M_fails ⟨by decide, by decide, np_M_fails⟩ rfl d_M_check_79) (c_M_fails l G lo hp m0 bs th sd (nI ts.length) (nI lt.length) fs 1 0 0 C) Y_M_fails hl.1 ⟨Nat.le_of_ble_eq_true rfl, Nat.le_of_ble_eq_true rfl⟩ (Nat.le_of_ble_eq_true rfl) (Nat.le_of_ble_eq_true rfl) d_M_check_79 (fun hp4 H1 locs1 hA I => ?_)
            obtain ⟨C4, F4⟩ := hA
            have C4 : MC G hp4 m0 bs 1 sd (nI ts.length) (nI lt.length) fs := C4
            refine ad_top (y := .int 1) (by rfl) ?_
            refine lv_if_eq (tgt := 87) hx hb d_M_check_82 (by decide) (fun c82 => ?_) (fun c82 => ?_)
            · exact absurd c82 (by decide)
            · refine lv_iconst (v := 0) hx hb d_M_check_85 (by decide) ?_
              exact ad_iret M I rfl (by omega) (by omega) (⟨by rw [(show q_ck ts (nI j) a0 b0 p0 = ((1, 0), ts) by simp only [q_ck]; rw [sp_at_n rfl ht hn]; simp only; rw [if_neg (fun h => c33 h.2.1)])], fs, by rw [(show q_ck ts (nI j) a0 b0 p0 = ((1, 0), ts) by simp only [q_ck]; rw [sp_at_n rfl ht hn]; simp only; rw [if_neg (fun h => c33 h.2.1)])]; exact C4, by rw [(show q_ck ts (nI j) a0 b0 p0 = ((1, 0), ts) by simp only [q_ck]; rw [sp_at_n rfl ht hn]; simp only; rw [if_neg (fun h => c33 h.2.1)])]; exact A, F4⟩) d_M_check_86
          · rw [hA.2.2.2.1] at c70
            refine lv_iconst (v := 1) hx hb d_M_check_73 (by decide) ?_
            refine lv_goto (tgt := 78) hx hb d_M_check_74 (by decide) ?_
            refine lv_iconst (v := 0) hx hb d_M_check_78 (by decide) ?_
            refine ad_cZi S I (ad_ivV (As := [.int 1, .int 1, .int 0]) (rest := []) S (ad_recv I C.1 K_Mod) w_611 w_613 sp_M_fails Y_M_fails ⟨by decide, by decide, np_M_fails⟩ rfl d_M_check_79) (c_M_fails l G lo hp m0 bs th sd (nI ts.length) (nI lt.length) fs 1 1 0 C) Y_M_fails hl.1 ⟨Nat.le_of_ble_eq_true rfl, Nat.le_of_ble_eq_true rfl⟩ (Nat.le_of_ble_eq_true rfl) (Nat.le_of_ble_eq_true rfl) d_M_check_79 (fun hp5 H1 locs1 hA I => ?_)
            obtain ⟨C5, F5⟩ := hA
            have C5 : MC G hp5 m0 bs 1 sd (nI ts.length) (nI lt.length) fs := C5
            refine ad_top (y := .int 1) (by rfl) ?_
            refine lv_if_eq (tgt := 87) hx hb d_M_check_82 (by decide) (fun c82 => ?_) (fun c82 => ?_)
            · exact absurd c82 (by decide)
            · refine lv_iconst (v := 0) hx hb d_M_check_85 (by decide) ?_
              exact ad_iret M I rfl (by omega) (by omega) (⟨by rw [(show q_ck ts (nI j) a0 b0 p0 = ((1, 0), ts) by simp only [q_ck]; rw [sp_at_n rfl ht hn]; simp only; rw [if_neg (fun h => c33 h.2.1)])], fs, by rw [(show q_ck ts (nI j) a0 b0 p0 = ((1, 0), ts) by simp only [q_ck]; rw [sp_at_n rfl ht hn]; simp only; rw [if_neg (fun h => c33 h.2.1)])]; exact C5, by rw [(show q_ck ts (nI j) a0 b0 p0 = ((1, 0), ts) by simp only [q_ck]; rw [sp_at_n rfl ht hn]; simp only; rw [if_neg (fun h => c33 h.2.1)])]; exact A, F5⟩) d_M_check_86
      · rw [in_ok b0 _ 10 (by decide), Decidable.not_not] at c33
        refine lv_iload hx hb d_M_check_36 (lv_at hl 5 rfl) ?_
        refine lv_i2l (v := p0.toInt64) hx hb d_M_check_38 rfl ?_
        refine lv_lconst (v := 0) hx hb d_M_check_39 (by decide) ?_
        refine lv_ldc2 (v := 15) hx hb hown (hts _ w_610) d_M_check_40 ?_
        refine ad_cPi S I (ad_ivS (As := [.long p0.toInt64, .long 0, .long 15]) (rest := []) S Y_M_in w_607 w_608 w_6 ⟨by decide, by decide, np_M_in⟩ rfl d_M_check_43) (c_M_in l G lo hp p0.toInt64 0 15) Y_M_in hl.1 ⟨Nat.le_of_ble_eq_true rfl, Nat.le_of_ble_eq_true rfl⟩ (Nat.le_of_ble_eq_true rfl) (Nat.le_of_ble_eq_true rfl) d_M_check_43 ?_
        refine lv_if_ne (tgt := 53) hx hb d_M_check_46 (by decide) (fun c46 => ?_) (fun c46 => ?_)
        · rw [in_ok p0 _ 16 (by decide), Decidable.not_not] at c46
          refine lv_iconst (v := 0) hx hb d_M_check_53 (by decide) ?_
          refine lv_istore (lv' := [(6, .int 0), (5, .int (sp_in (nI j).toInt64 0 (nI ts.length - 1).toInt64)), (0, .ref m0), (1, .int (nI j)), (2, .int a0), (3, .int b0), (4, .int p0)]) hx hb d_M_check_54 hl (by decide) rfl (fun ls hl => ?_)
          refine lv_aload_n hx hb d_M_check_56 rfl (lv_at hl 2 rfl) ?_
          refine lv_iload hx hb d_M_check_57 (lv_at hl 0 rfl) ?_
          refine lv_iload hx hb d_M_check_59 (lv_at hl 1 rfl) ?_
          refine lv_if_eq (tgt := 77) hx hb d_M_check_61 (by decide) (fun c61 => ?_) (fun c61 => ?_)
          · exact absurd ((in_th hn _).mp c61) (fun h => h c9)
          · refine lv_aload_n hx hb d_M_check_64 rfl (lv_at hl 2 rfl) ?_
            refine ad_get S I C.1 K_Mod 8 (by decide) w_556 rfl d_M_check_65 ?_
            refine lv_iload_n hx hb d_M_check_68 rfl (lv_at hl 3 rfl) ?_
            refine ad_iald S I (C.2.1 4 (by decide)) (vp_in_nI (show j < 64 by omega) (by decide)) d_M_check_69 ?_
            refine ad_top (y := .int ((fs 4) j)) (congrArg (fun q => Value.int ((fs 4) q)) (show (nI j).toNatClampNeg = j from nI_clamp (by omega))) ?_
            refine lv_if_ge (tgt := 77) hx hb d_M_check_70 (by decide) (fun c70 => ?_) (fun c70 => ?_)
            · rw [hA.2.2.2.1] at c70
              refine lv_iconst (v := 0) hx hb d_M_check_77 (by decide) ?_
              refine lv_iconst (v := 0) hx hb d_M_check_78 (by decide) ?_
              refine ad_cZi S I (ad_ivV (As := [.int 0, .int 0, .int 0]) (rest := []) S (ad_recv I C.1 K_Mod) w_611 w_613 sp_M_fails Y_M_fails ⟨by decide, by decide, np_M_fails⟩ rfl d_M_check_79) (c_M_fails l G lo hp m0 bs th sd (nI ts.length) (nI lt.length) fs 0 0 0 C) Y_M_fails hl.1 ⟨Nat.le_of_ble_eq_true rfl, Nat.le_of_ble_eq_true rfl⟩ (Nat.le_of_ble_eq_true rfl) (Nat.le_of_ble_eq_true rfl) d_M_check_79 (fun hp6 H1 locs1 hA I => ?_)
              obtain ⟨C6, F6⟩ := hA
              have C6 : MC G hp6 m0 bs 0 sd (nI ts.length) (nI lt.length) fs := C6
              refine ad_top (y := .int 0) (by rfl) ?_
              refine lv_if_eq (tgt := 87) hx hb d_M_check_82 (by decide) (fun c82 => ?_) (fun c82 => ?_)
              · refine lv_iload_n hx hb d_M_check_87 rfl (lv_at hl 4 rfl) ?_
                refine lv_iload_n hx hb d_M_check_88 rfl (lv_at hl 5 rfl) ?_
                refine lv_icmp_ne (tgt := 94) hx hb d_M_check_89 (by decide) (fun c89 => ?_) (fun c89 => ?_)
                · refine lv_aload_n hx hb d_M_check_94 rfl (lv_at hl 2 rfl) ?_
                  refine ad_get S I C6.1 K_Mod 4 (by decide) w_552 rfl d_M_check_95 ?_
                  refine lv_iload_n hx hb d_M_check_98 rfl (lv_at hl 3 rfl) ?_
                  refine ad_iald S I (C6.2.1 1 (by decide)) (vp_in_nI (show j < 64 by omega) (by decide)) d_M_check_99 ?_
                  refine ad_top (y := .int ((fs 1) j)) (congrArg (fun q => Value.int ((fs 1) q)) (show (nI j).toNatClampNeg = j from nI_clamp (by omega))) ?_
                  refine lv_iload hx hb d_M_check_100 (lv_at hl 6 rfl) ?_
                  refine lv_icmp_eq (tgt := 109) hx hb d_M_check_102 (by decide) (fun c102 => ?_) (fun c102 => ?_)
                  · rw [hA.2.1] at c102
                    refine lv_iconst (v := 0) hx hb d_M_check_109 (by decide) ?_
                    refine lv_istore (lv' := [(7, .int 0), (6, .int 0), (5, .int (sp_in (nI j).toInt64 0 (nI ts.length - 1).toInt64)), (0, .ref m0), (1, .int (nI j)), (2, .int a0), (3, .int b0), (4, .int p0)]) hx hb d_M_check_110 hl (by decide) rfl (fun ls hl => ?_)
                    refine lv_aload_n hx hb d_M_check_112 rfl (lv_at hl 3 rfl) ?_
                    refine ad_get S I C6.1 K_Mod 8 (by decide) w_556 rfl d_M_check_113 ?_
                    refine lv_iload_n hx hb d_M_check_116 rfl (lv_at hl 4 rfl) ?_
                    refine lv_iload hx hb d_M_check_117 (lv_at hl 0 rfl) ?_
                    refine lv_if_eq (tgt := 126) hx hb d_M_check_119 (by decide) (fun c119 => ?_) (fun c119 => ?_)
                    · refine lv_iconst (v := 1) hx hb d_M_check_126 (by decide) ?_
                      refine ad_iast S I (C6.2.1 4 (by decide)) (vp_in_nI (show j < 64 by omega) (by decide)) d_M_check_127 (fun H1 locs1 I => ?_)
                      rw [show (nI j).toNatClampNeg = j from nI_clamp (by omega)] at I
                      obtain ⟨hp7, ehp7⟩ : ∃ z : ad_H, z = ad_up hp6 (bs 4) (.inl (G.2.1 0, 64, .inl (upd (fs 4) j 1))) := ⟨_, rfl⟩
                      have I : ad_I G lo s hp7 H1 locs1 := by rw [ehp7]; exact I
                      obtain ⟨C7, F7⟩ := MC.arr (hp' := hp7) C6 4 (by decide) (by rw [ehp7]; exact ad_up_s _ _ _) (fun z hz => by rw [ehp7]; exact ad_up_n _ hz)
                      refine lv_aload_n hx hb d_M_check_128 rfl (lv_at hl 3 rfl) ?_
                      refine ad_get S I C7.1 K_Mod 4 (by decide) w_552 rfl d_M_check_129 ?_
                      refine lv_iload_n hx hb d_M_check_132 rfl (lv_at hl 4 rfl) ?_
                      refine lv_iload hx hb d_M_check_133 (lv_at hl 7 rfl) ?_
                      refine ad_iast S I (C7.2.1 1 (by decide)) (vp_in_nI (show j < 64 by omega) (by decide)) d_M_check_135 (fun H1 locs1 I => ?_)
                      rw [show (nI j).toNatClampNeg = j from nI_clamp (by omega)] at I
                      obtain ⟨hp8, ehp8⟩ : ∃ z : ad_H, z = ad_up hp7 (bs 1) (.inl (G.2.1 0, 64, .inl (upd (fs 1) j p0))) := ⟨_, rfl⟩
                      have I : ad_I G lo s hp8 H1 locs1 := by rw [ehp8]; exact I
                      obtain ⟨C8, F8⟩ := MC.arr (hp' := hp8) C7 1 (by decide) (by rw [ehp8]; exact ad_up_s _ _ _) (fun z hz => by rw [ehp8]; exact ad_up_n _ hz)
                      refine lv_iload hx hb d_M_check_136 (lv_at hl 0 rfl) ?_
                      refine lv_if_eq (tgt := 145) hx hb d_M_check_138 (by decide) (fun c138 => ?_) (fun c138 => ?_)
                      · refine lv_iconst (v := 0) hx hb d_M_check_145 (by decide) ?_
                        exact ad_iret M I rfl (by omega) (by omega) (⟨by rw [(show q_ck ts (nI j) a0 b0 p0 = ((0, 0), ts.set j (th_s t 1)) by simp only [q_ck]; rw [sp_at_n rfl ht hn]; simp only; rw [if_pos ⟨c21, c33, c46⟩, if_neg (st_pos c70), if_neg c89, if_pos c102, q_j rfl ht hn])], _, by rw [(show q_ck ts (nI j) a0 b0 p0 = ((0, 0), ts.set j (th_s t 1)) by simp only [q_ck]; rw [sp_at_n rfl ht hn]; simp only; rw [if_pos ⟨c21, c33, c46⟩, if_neg (st_pos c70), if_neg c89, if_pos c102, q_j rfl ht hn]), List.length_set]; exact C8, by rw [(show q_ck ts (nI j) a0 b0 p0 = ((0, 0), ts.set j (th_s t 1)) by simp only [q_ck]; rw [sp_at_n rfl ht hn]; simp only; rw [if_pos ⟨c21, c33, c46⟩, if_neg (st_pos c70), if_neg c89, if_pos c102, q_j rfl ht hn])]; exact ck_1 A ht c102, ((F6.tr F7).tr F8)⟩) d_M_check_146
                      · exact absurd c138 (by decide)
                    · exact absurd c119 (by decide)
                  · rw [hA.2.1] at c102
                    refine lv_iconst (v := 1) hx hb d_M_check_105 (by decide) ?_
                    refine lv_goto (tgt := 110) hx hb d_M_check_106 (by decide) ?_
                    refine lv_istore (lv' := [(7, .int 1), (6, .int 0), (5, .int (sp_in (nI j).toInt64 0 (nI ts.length - 1).toInt64)), (0, .ref m0), (1, .int (nI j)), (2, .int a0), (3, .int b0), (4, .int p0)]) hx hb d_M_check_110 hl (by decide) rfl (fun ls hl => ?_)
                    refine lv_aload_n hx hb d_M_check_112 rfl (lv_at hl 3 rfl) ?_
                    refine ad_get S I C6.1 K_Mod 8 (by decide) w_556 rfl d_M_check_113 ?_
                    refine lv_iload_n hx hb d_M_check_116 rfl (lv_at hl 4 rfl) ?_
                    refine lv_iload hx hb d_M_check_117 (lv_at hl 0 rfl) ?_
                    refine lv_if_eq (tgt := 126) hx hb d_M_check_119 (by decide) (fun c119 => ?_) (fun c119 => ?_)
                    · exact absurd c119 (by decide)
                    · refine lv_iconst (v := 2) hx hb d_M_check_122 (by decide) ?_
                      refine lv_goto (tgt := 127) hx hb d_M_check_123 (by decide) ?_
                      refine ad_iast S I (C6.2.1 4 (by decide)) (vp_in_nI (show j < 64 by omega) (by decide)) d_M_check_127 (fun H1 locs1 I => ?_)
                      rw [show (nI j).toNatClampNeg = j from nI_clamp (by omega)] at I
                      obtain ⟨hp9, ehp9⟩ : ∃ z : ad_H, z = ad_up hp6 (bs 4) (.inl (G.2.1 0, 64, .inl (upd (fs 4) j 2))) := ⟨_, rfl⟩
                      have I : ad_I G lo s hp9 H1 locs1 := by rw [ehp9]; exact I
                      obtain ⟨C9, F9⟩ := MC.arr (hp' := hp9) C6 4 (by decide) (by rw [ehp9]; exact ad_up_s _ _ _) (fun z hz => by rw [ehp9]; exact ad_up_n _ hz)
                      refine lv_aload_n hx hb d_M_check_128 rfl (lv_at hl 3 rfl) ?_
                      refine ad_get S I C9.1 K_Mod 4 (by decide) w_552 rfl d_M_check_129 ?_
                      refine lv_iload_n hx hb d_M_check_132 rfl (lv_at hl 4 rfl) ?_
                      refine lv_iload hx hb d_M_check_133 (lv_at hl 7 rfl) ?_
                      refine ad_iast S I (C9.2.1 1 (by decide)) (vp_in_nI (show j < 64 by omega) (by decide)) d_M_check_135 (fun H1 locs1 I => ?_)
                      rw [show (nI j).toNatClampNeg = j from nI_clamp (by omega)] at I
                      obtain ⟨hp10, ehp10⟩ : ∃ z : ad_H, z = ad_up hp9 (bs 1) (.inl (G.2.1 0, 64, .inl (upd (fs 1) j p0))) := ⟨_, rfl⟩
                      have I : ad_I G lo s hp10 H1 locs1 := by rw [ehp10]; exact I
                      obtain ⟨C10, F10⟩ := MC.arr (hp' := hp10) C9 1 (by decide) (by rw [ehp10]; exact ad_up_s _ _ _) (fun z hz => by rw [ehp10]; exact ad_up_n _ hz)
                      refine lv_iload hx hb d_M_check_136 (lv_at hl 0 rfl) ?_
                      refine lv_if_eq (tgt := 145) hx hb d_M_check_138 (by decide) (fun c138 => ?_) (fun c138 => ?_)
                      · exact absurd c138 (by decide)
                      · refine lv_iconst (v := 1) hx hb d_M_check_141 (by decide) ?_
                        refine lv_goto (tgt := 146) hx hb d_M_check_142 (by decide) ?_
                        exact ad_iret M I rfl (by omega) (by omega) (⟨by rw [(show q_ck ts (nI j) a0 b0 p0 = ((0, 1), ts.set j (t.1, p0, 2, t.2.2.2.1, t.2.2.2.2)) by simp only [q_ck]; rw [sp_at_n rfl ht hn]; simp only; rw [if_pos ⟨c21, c33, c46⟩, if_neg (st_pos c70), if_neg c89, if_neg c102, q_j rfl ht hn])], _, by rw [(show q_ck ts (nI j) a0 b0 p0 = ((0, 1), ts.set j (t.1, p0, 2, t.2.2.2.1, t.2.2.2.2)) by simp only [q_ck]; rw [sp_at_n rfl ht hn]; simp only; rw [if_pos ⟨c21, c33, c46⟩, if_neg (st_pos c70), if_neg c89, if_neg c102, q_j rfl ht hn]), List.length_set]; exact C10, by rw [(show q_ck ts (nI j) a0 b0 p0 = ((0, 1), ts.set j (t.1, p0, 2, t.2.2.2.1, t.2.2.2.2)) by simp only [q_ck]; rw [sp_at_n rfl ht hn]; simp only; rw [if_pos ⟨c21, c33, c46⟩, if_neg (st_pos c70), if_neg c89, if_neg c102, q_j rfl ht hn])]; exact ck_2 A ht p0, ((F6.tr F9).tr F10)⟩) d_M_check_146
                · refine lv_iconst (v := 2) hx hb d_M_check_92 (by decide) ?_
                  exact ad_iret M I rfl (by omega) (by omega) (⟨by rw [(show q_ck ts (nI j) a0 b0 p0 = ((0, 2), ts) by simp only [q_ck]; rw [sp_at_n rfl ht hn]; simp only; rw [if_pos ⟨c21, c33, c46⟩, if_neg (st_pos c70), if_pos c89])], fs, by rw [(show q_ck ts (nI j) a0 b0 p0 = ((0, 2), ts) by simp only [q_ck]; rw [sp_at_n rfl ht hn]; simp only; rw [if_pos ⟨c21, c33, c46⟩, if_neg (st_pos c70), if_pos c89])]; exact C6, by rw [(show q_ck ts (nI j) a0 b0 p0 = ((0, 2), ts) by simp only [q_ck]; rw [sp_at_n rfl ht hn]; simp only; rw [if_pos ⟨c21, c33, c46⟩, if_neg (st_pos c70), if_pos c89])]; exact A, F6⟩) d_M_check_93
              · exact absurd c82 (by decide)
            · rw [hA.2.2.2.1] at c70
              refine lv_iconst (v := 1) hx hb d_M_check_73 (by decide) ?_
              refine lv_goto (tgt := 78) hx hb d_M_check_74 (by decide) ?_
              refine lv_iconst (v := 0) hx hb d_M_check_78 (by decide) ?_
              refine ad_cZi S I (ad_ivV (As := [.int 0, .int 1, .int 0]) (rest := []) S (ad_recv I C.1 K_Mod) w_611 w_613 sp_M_fails Y_M_fails ⟨by decide, by decide, np_M_fails⟩ rfl d_M_check_79) (c_M_fails l G lo hp m0 bs th sd (nI ts.length) (nI lt.length) fs 0 1 0 C) Y_M_fails hl.1 ⟨Nat.le_of_ble_eq_true rfl, Nat.le_of_ble_eq_true rfl⟩ (Nat.le_of_ble_eq_true rfl) (Nat.le_of_ble_eq_true rfl) d_M_check_79 (fun hp11 H1 locs1 hA I => ?_)
              obtain ⟨C11, F11⟩ := hA
              have C11 : MC G hp11 m0 bs 2 sd (nI ts.length) (nI lt.length) fs := C11
              refine ad_top (y := .int 1) (by rfl) ?_
              refine lv_if_eq (tgt := 87) hx hb d_M_check_82 (by decide) (fun c82 => ?_) (fun c82 => ?_)
              · exact absurd c82 (by decide)
              · refine lv_iconst (v := 0) hx hb d_M_check_85 (by decide) ?_
                exact ad_iret M I rfl (by omega) (by omega) (⟨by rw [(show q_ck ts (nI j) a0 b0 p0 = ((2, 0), ts) by simp only [q_ck]; rw [sp_at_n rfl ht hn]; simp only; rw [if_pos ⟨c21, c33, c46⟩, if_pos (st_neg (hst t (List.mem_of_getElem? ht)) c70)])], fs, by rw [(show q_ck ts (nI j) a0 b0 p0 = ((2, 0), ts) by simp only [q_ck]; rw [sp_at_n rfl ht hn]; simp only; rw [if_pos ⟨c21, c33, c46⟩, if_pos (st_neg (hst t (List.mem_of_getElem? ht)) c70)])]; exact C11, by rw [(show q_ck ts (nI j) a0 b0 p0 = ((2, 0), ts) by simp only [q_ck]; rw [sp_at_n rfl ht hn]; simp only; rw [if_pos ⟨c21, c33, c46⟩, if_pos (st_neg (hst t (List.mem_of_getElem? ht)) c70)])]; exact A, F11⟩) d_M_check_86
        · rw [in_ok p0 _ 16 (by decide)] at c46
          refine lv_iconst (v := 1) hx hb d_M_check_49 (by decide) ?_
          refine lv_goto (tgt := 54) hx hb d_M_check_50 (by decide) ?_
          refine lv_istore (lv' := [(6, .int 1), (5, .int (sp_in (nI j).toInt64 0 (nI ts.length - 1).toInt64)), (0, .ref m0), (1, .int (nI j)), (2, .int a0), (3, .int b0), (4, .int p0)]) hx hb d_M_check_54 hl (by decide) rfl (fun ls hl => ?_)
          refine lv_aload_n hx hb d_M_check_56 rfl (lv_at hl 2 rfl) ?_
          refine lv_iload hx hb d_M_check_57 (lv_at hl 0 rfl) ?_
          refine lv_iload hx hb d_M_check_59 (lv_at hl 1 rfl) ?_
          refine lv_if_eq (tgt := 77) hx hb d_M_check_61 (by decide) (fun c61 => ?_) (fun c61 => ?_)
          · exact absurd ((in_th hn _).mp c61) (fun h => h c9)
          · refine lv_aload_n hx hb d_M_check_64 rfl (lv_at hl 2 rfl) ?_
            refine ad_get S I C.1 K_Mod 8 (by decide) w_556 rfl d_M_check_65 ?_
            refine lv_iload_n hx hb d_M_check_68 rfl (lv_at hl 3 rfl) ?_
            refine ad_iald S I (C.2.1 4 (by decide)) (vp_in_nI (show j < 64 by omega) (by decide)) d_M_check_69 ?_
            refine ad_top (y := .int ((fs 4) j)) (congrArg (fun q => Value.int ((fs 4) q)) (show (nI j).toNatClampNeg = j from nI_clamp (by omega))) ?_
            refine lv_if_ge (tgt := 77) hx hb d_M_check_70 (by decide) (fun c70 => ?_) (fun c70 => ?_)
            · rw [hA.2.2.2.1] at c70
              refine lv_iconst (v := 0) hx hb d_M_check_77 (by decide) ?_
              refine lv_iconst (v := 0) hx hb d_M_check_78 (by decide) ?_
              refine ad_cZi S I (ad_ivV (As := [.int 1, .int 0, .int 0]) (rest := []) S (ad_recv I C.1 K_Mod) w_611 w_613 sp_M_fails Y_M_fails ⟨by decide, by decide, np_M_fails⟩ rfl d_M_check_79) (c_M_fails l G lo hp m0 bs th sd (nI ts.length) (nI lt.length) fs 1 0 0 C) Y_M_fails hl.1 ⟨Nat.le_of_ble_eq_true rfl, Nat.le_of_ble_eq_true rfl⟩ (Nat.le_of_ble_eq_true rfl) (Nat.le_of_ble_eq_true rfl) d_M_check_79 (fun hp12 H1 locs1 hA I => ?_)
              obtain ⟨C12, F12⟩ := hA
              have C12 : MC G hp12 m0 bs 1 sd (nI ts.length) (nI lt.length) fs := C12
              refine ad_top (y := .int 1) (by rfl) ?_
              refine lv_if_eq (tgt := 87) hx hb d_M_check_82 (by decide) (fun c82 => ?_) (fun c82 => ?_)
              · exact absurd c82 (by decide)
              · refine lv_iconst (v := 0) hx hb d_M_check_85 (by decide) ?_
                exact ad_iret M I rfl (by omega) (by omega) (⟨by rw [(show q_ck ts (nI j) a0 b0 p0 = ((1, 0), ts) by simp only [q_ck]; rw [sp_at_n rfl ht hn]; simp only; rw [if_neg (fun h => c46 h.2.2)])], fs, by rw [(show q_ck ts (nI j) a0 b0 p0 = ((1, 0), ts) by simp only [q_ck]; rw [sp_at_n rfl ht hn]; simp only; rw [if_neg (fun h => c46 h.2.2)])]; exact C12, by rw [(show q_ck ts (nI j) a0 b0 p0 = ((1, 0), ts) by simp only [q_ck]; rw [sp_at_n rfl ht hn]; simp only; rw [if_neg (fun h => c46 h.2.2)])]; exact A, F12⟩) d_M_check_86
            · rw [hA.2.2.2.1] at c70
              refine lv_iconst (v := 1) hx hb d_M_check_73 (by decide) ?_
              refine lv_goto (tgt := 78) hx hb d_M_check_74 (by decide) ?_
              refine lv_iconst (v := 0) hx hb d_M_check_78 (by decide) ?_
              refine ad_cZi S I (ad_ivV (As := [.int 1, .int 1, .int 0]) (rest := []) S (ad_recv I C.1 K_Mod) w_611 w_613 sp_M_fails Y_M_fails ⟨by decide, by decide, np_M_fails⟩ rfl d_M_check_79) (c_M_fails l G lo hp m0 bs th sd (nI ts.length) (nI lt.length) fs 1 1 0 C) Y_M_fails hl.1 ⟨Nat.le_of_ble_eq_true rfl, Nat.le_of_ble_eq_true rfl⟩ (Nat.le_of_ble_eq_true rfl) (Nat.le_of_ble_eq_true rfl) d_M_check_79 (fun hp13 H1 locs1 hA I => ?_)
              obtain ⟨C13, F13⟩ := hA
              have C13 : MC G hp13 m0 bs 1 sd (nI ts.length) (nI lt.length) fs := C13
              refine ad_top (y := .int 1) (by rfl) ?_
              refine lv_if_eq (tgt := 87) hx hb d_M_check_82 (by decide) (fun c82 => ?_) (fun c82 => ?_)
              · exact absurd c82 (by decide)
              · refine lv_iconst (v := 0) hx hb d_M_check_85 (by decide) ?_
                exact ad_iret M I rfl (by omega) (by omega) (⟨by rw [(show q_ck ts (nI j) a0 b0 p0 = ((1, 0), ts) by simp only [q_ck]; rw [sp_at_n rfl ht hn]; simp only; rw [if_neg (fun h => c46 h.2.2)])], fs, by rw [(show q_ck ts (nI j) a0 b0 p0 = ((1, 0), ts) by simp only [q_ck]; rw [sp_at_n rfl ht hn]; simp only; rw [if_neg (fun h => c46 h.2.2)])]; exact C13, by rw [(show q_ck ts (nI j) a0 b0 p0 = ((1, 0), ts) by simp only [q_ck]; rw [sp_at_n rfl ht hn]; simp only; rw [if_neg (fun h => c46 h.2.2)])]; exact A, F13⟩) d_M_check_86
set_option maxHeartbeats 4000000 in
set_option maxRecDepth 100000 in
theorem c_M_gone (l : Launch) (G : ad_G) (lo : Nat) (hp : ad_H) (m0 : Nat) (bs : Nat → Nat) (th : Int32) (sd : Int64) (fs : Nat → Nat → Int32) (ts : List TH) (lt : List Nat) (v : Int32)  (C : MC G hp m0 bs th sd (nI ts.length) (nI lt.length) fs) (A : MA ts lt fs) (hn : ts.length ≤ 64) (hst : ∀ t ∈ ts, t.2.2.1 = -1 ∨ 0 ≤ t.2.2.1) : ad_Ct l y_M_gone b_M_gone 4 rt_M_gone hs_M_gone 3 0 0 G lo hp [.ref m0, .int v] (fun r hp' => r = .inl (some (.int ((q_gn ts v).1).2)) ∧ ∃ fs' : Nat → Nat → Int32, MC G hp' m0 bs (nI ((q_gn ts v).1).1) sd (nI ((q_gn ts v).2).length) (nI (lt).length) fs' ∧ MA ((q_gn ts v).2) lt fs' ∧ mf m0 bs hp hp') := by
  intro p e s m below meth c M hts hB hP
  have hx := M.1
  have hb := M.2.1
  have hml := M.2.2.1
  have hown : s.vm.findClass "AuditDrawsModel" = some m.cls := M.2.2.2.1
  have S : CallFix p m c b_M_gone 4 s _ ad_T "AuditDrawsModel" := ⟨hx, hb, hml, hown, hts⟩
  have I : ad_I G lo s hp s.heap [] := ad_I.rf hB hP
  have hl := lv_entry ([.ref m0, .int v]) (n := 4) (Nat.le_of_ble_eq_true rfl)
  rw [lg_entry_eq]
  generalize (lg_sl ([.ref m0, .int v]) ++ List.replicate (4 - (lg_sl ([.ref m0, .int v])).length) Slot.unset).toArray = ls at hl ⊢
  have hl : lv_has ls 4 [(0, .ref m0), (1, .int v)] := hl
  refine lv_aload_n hx hb d_M_gone_0 rfl (lv_at hl 0 rfl) ?_
  refine lv_iload_n hx hb d_M_gone_1 rfl (lv_at hl 1 rfl) ?_
  refine ad_cPi S I (ad_ivV (As := [.int v]) (rest := []) S (ad_recv I C.1 K_Mod) w_649 w_651 sp_M_isThing Y_M_isThing ⟨by decide, by decide, np_M_isThing⟩ rfl d_M_gone_2) (c_M_isThing l G lo hp m0 bs th sd (nI ts.length) (nI lt.length) fs v C) Y_M_isThing hl.1 ⟨Nat.le_of_ble_eq_true rfl, Nat.le_of_ble_eq_true rfl⟩ (Nat.le_of_ble_eq_true rfl) (Nat.le_of_ble_eq_true rfl) d_M_gone_2 ?_
  refine lv_istore_n (lv' := [(2, .int (sp_in v.toInt64 0 (nI ts.length - 1).toInt64)), (0, .ref m0), (1, .int v)]) hx hb d_M_gone_5 rfl hl (by decide) rfl (fun ls hl => ?_)
  refine lv_aload_n hx hb d_M_gone_6 rfl (lv_at hl 1 rfl) ?_
  refine lv_iload_n hx hb d_M_gone_7 rfl (lv_at hl 0 rfl) ?_
  refine lv_if_ne (tgt := 15) hx hb d_M_gone_8 (by decide) (fun c8 => ?_) (fun c8 => ?_)
  · rw [in_th hn, Classical.not_not] at c8
    obtain ⟨j, t, hj, rfl, ht⟩ := ts_2 rfl hn c8
    have hA := A.1 j t ht
    refine lv_iconst (v := 0) hx hb d_M_gone_15 (by decide) ?_
    refine lv_iload_n hx hb d_M_gone_16 rfl (lv_at hl 0 rfl) ?_
    refine lv_if_eq (tgt := 33) hx hb d_M_gone_17 (by decide) (fun c17 => ?_) (fun c17 => ?_)
    · exact absurd ((in_th hn _).mp c17) (fun h => h c8)
    · refine lv_aload_n hx hb d_M_gone_20 rfl (lv_at hl 1 rfl) ?_
      refine ad_get S I C.1 K_Mod 8 (by decide) w_556 rfl d_M_gone_21 ?_
      refine lv_iload_n hx hb d_M_gone_24 rfl (lv_at hl 2 rfl) ?_
      refine ad_iald S I (C.2.1 4 (by decide)) (vp_in_nI (show j < 64 by omega) (by decide)) d_M_gone_25 ?_
      refine ad_top (y := .int ((fs 4) j)) (congrArg (fun q => Value.int ((fs 4) q)) (show (nI j).toNatClampNeg = j from nI_clamp (by omega))) ?_
      refine lv_if_ge (tgt := 33) hx hb d_M_gone_26 (by decide) (fun c26 => ?_) (fun c26 => ?_)
      · rw [hA.2.2.2.1] at c26
        refine lv_iconst (v := 0) hx hb d_M_gone_33 (by decide) ?_
        refine lv_iconst (v := 0) hx hb d_M_gone_34 (by decide) ?_
        refine ad_cZi S I (ad_ivV (As := [.int 0, .int 0, .int 0]) (rest := []) S (ad_recv I C.1 K_Mod) w_611 w_613 sp_M_fails Y_M_fails ⟨by decide, by decide, np_M_fails⟩ rfl d_M_gone_35) (c_M_fails l G lo hp m0 bs th sd (nI ts.length) (nI lt.length) fs 0 0 0 C) Y_M_fails hl.1 ⟨Nat.le_of_ble_eq_true rfl, Nat.le_of_ble_eq_true rfl⟩ (Nat.le_of_ble_eq_true rfl) (Nat.le_of_ble_eq_true rfl) d_M_gone_35 (fun hp1 H1 locs1 hA I => ?_)
        obtain ⟨C1, F1⟩ := hA
        have C1 : MC G hp1 m0 bs 0 sd (nI ts.length) (nI lt.length) fs := C1
        refine ad_top (y := .int 0) (by rfl) ?_
        refine lv_if_eq (tgt := 43) hx hb d_M_gone_38 (by decide) (fun c38 => ?_) (fun c38 => ?_)
        · refine lv_aload_n hx hb d_M_gone_43 rfl (lv_at hl 1 rfl) ?_
          refine ad_get S I C1.1 K_Mod 8 (by decide) w_556 rfl d_M_gone_44 ?_
          refine lv_iload_n hx hb d_M_gone_47 rfl (lv_at hl 2 rfl) ?_
          refine ad_iald S I (C1.2.1 4 (by decide)) (vp_in_nI (show j < 64 by omega) (by decide)) d_M_gone_48 ?_
          refine ad_top (y := .int ((fs 4) j)) (congrArg (fun q => Value.int ((fs 4) q)) (show (nI j).toNatClampNeg = j from nI_clamp (by omega))) ?_
          refine lv_iconst (v := 3) hx hb d_M_gone_49 (by decide) ?_
          refine lv_icmp_eq (tgt := 57) hx hb d_M_gone_50 (by decide) (fun c50 => ?_) (fun c50 => ?_)
          · rw [hA.2.2.2.1] at c50
            refine lv_iconst (v := 0) hx hb d_M_gone_57 (by decide) ?_
            refine lv_istore_n (lv' := [(3, .int 0), (2, .int (sp_in (nI j).toInt64 0 (nI ts.length - 1).toInt64)), (0, .ref m0), (1, .int (nI j))]) hx hb d_M_gone_58 rfl hl (by decide) rfl (fun ls hl => ?_)
            refine lv_aload_n hx hb d_M_gone_59 rfl (lv_at hl 2 rfl) ?_
            refine ad_get S I C1.1 K_Mod 8 (by decide) w_556 rfl d_M_gone_60 ?_
            refine lv_iload_n hx hb d_M_gone_63 rfl (lv_at hl 3 rfl) ?_
            refine lv_iconst (v := 3) hx hb d_M_gone_64 (by decide) ?_
            refine ad_iast S I (C1.2.1 4 (by decide)) (vp_in_nI (show j < 64 by omega) (by decide)) d_M_gone_65 (fun H1 locs1 I => ?_)
            rw [show (nI j).toNatClampNeg = j from nI_clamp (by omega)] at I
            obtain ⟨hp2, ehp2⟩ : ∃ z : ad_H, z = ad_up hp1 (bs 4) (.inl (G.2.1 0, 64, .inl (upd (fs 4) j 3))) := ⟨_, rfl⟩
            have I : ad_I G lo s hp2 H1 locs1 := by rw [ehp2]; exact I
            obtain ⟨C2, F2⟩ := MC.arr (hp' := hp2) C1 4 (by decide) (by rw [ehp2]; exact ad_up_s _ _ _) (fun z hz => by rw [ehp2]; exact ad_up_n _ hz)
            refine lv_iload_n hx hb d_M_gone_66 rfl (lv_at hl 0 rfl) ?_
            exact ad_iret M I rfl (by omega) (by omega) (⟨by rw [(show q_gn ts (nI j) = ((0, 0), ts.set j (th_s t 3)) by simp only [q_gn]; rw [sp_at_n rfl ht hn]; simp only; rw [if_neg (st_pos c26), if_pos c50, q_j rfl ht hn])], _, by rw [(show q_gn ts (nI j) = ((0, 0), ts.set j (th_s t 3)) by simp only [q_gn]; rw [sp_at_n rfl ht hn]; simp only; rw [if_neg (st_pos c26), if_pos c50, q_j rfl ht hn]), List.length_set]; exact C2, by rw [(show q_gn ts (nI j) = ((0, 0), ts.set j (th_s t 3)) by simp only [q_gn]; rw [sp_at_n rfl ht hn]; simp only; rw [if_neg (st_pos c26), if_pos c50, q_j rfl ht hn])]; exact A.st ht 3, (F1.tr F2)⟩) d_M_gone_67
          · rw [hA.2.2.2.1] at c50
            refine lv_iconst (v := 1) hx hb d_M_gone_53 (by decide) ?_
            refine lv_goto (tgt := 58) hx hb d_M_gone_54 (by decide) ?_
            refine lv_istore_n (lv' := [(3, .int 1), (2, .int (sp_in (nI j).toInt64 0 (nI ts.length - 1).toInt64)), (0, .ref m0), (1, .int (nI j))]) hx hb d_M_gone_58 rfl hl (by decide) rfl (fun ls hl => ?_)
            refine lv_aload_n hx hb d_M_gone_59 rfl (lv_at hl 2 rfl) ?_
            refine ad_get S I C1.1 K_Mod 8 (by decide) w_556 rfl d_M_gone_60 ?_
            refine lv_iload_n hx hb d_M_gone_63 rfl (lv_at hl 3 rfl) ?_
            refine lv_iconst (v := 3) hx hb d_M_gone_64 (by decide) ?_
            refine ad_iast S I (C1.2.1 4 (by decide)) (vp_in_nI (show j < 64 by omega) (by decide)) d_M_gone_65 (fun H1 locs1 I => ?_)
            rw [show (nI j).toNatClampNeg = j from nI_clamp (by omega)] at I
            obtain ⟨hp3, ehp3⟩ : ∃ z : ad_H, z = ad_up hp1 (bs 4) (.inl (G.2.1 0, 64, .inl (upd (fs 4) j 3))) := ⟨_, rfl⟩
            have I : ad_I G lo s hp3 H1 locs1 := by rw [ehp3]; exact I
            obtain ⟨C3, F3⟩ := MC.arr (hp' := hp3) C1 4 (by decide) (by rw [ehp3]; exact ad_up_s _ _ _) (fun z hz => by rw [ehp3]; exact ad_up_n _ hz)
            refine lv_iload_n hx hb d_M_gone_66 rfl (lv_at hl 0 rfl) ?_
            exact ad_iret M I rfl (by omega) (by omega) (⟨by rw [(show q_gn ts (nI j) = ((0, 1), ts.set j (th_s t 3)) by simp only [q_gn]; rw [sp_at_n rfl ht hn]; simp only; rw [if_neg (st_pos c26), if_neg c50, q_j rfl ht hn])], _, by rw [(show q_gn ts (nI j) = ((0, 1), ts.set j (th_s t 3)) by simp only [q_gn]; rw [sp_at_n rfl ht hn]; simp only; rw [if_neg (st_pos c26), if_neg c50, q_j rfl ht hn]), List.length_set]; exact C3, by rw [(show q_gn ts (nI j) = ((0, 1), ts.set j (th_s t 3)) by simp only [q_gn]; rw [sp_at_n rfl ht hn]; simp only; rw [if_neg (st_pos c26), if_neg c50, q_j rfl ht hn])]; exact A.st ht 3, (F1.tr F3)⟩) d_M_gone_67
        · exact absurd c38 (by decide)
      · rw [hA.2.2.2.1] at c26
        refine lv_iconst (v := 1) hx hb d_M_gone_29 (by decide) ?_
        refine lv_goto (tgt := 34) hx hb d_M_gone_30 (by decide) ?_
        refine lv_iconst (v := 0) hx hb d_M_gone_34 (by decide) ?_
        refine ad_cZi S I (ad_ivV (As := [.int 0, .int 1, .int 0]) (rest := []) S (ad_recv I C.1 K_Mod) w_611 w_613 sp_M_fails Y_M_fails ⟨by decide, by decide, np_M_fails⟩ rfl d_M_gone_35) (c_M_fails l G lo hp m0 bs th sd (nI ts.length) (nI lt.length) fs 0 1 0 C) Y_M_fails hl.1 ⟨Nat.le_of_ble_eq_true rfl, Nat.le_of_ble_eq_true rfl⟩ (Nat.le_of_ble_eq_true rfl) (Nat.le_of_ble_eq_true rfl) d_M_gone_35 (fun hp4 H1 locs1 hA I => ?_)
        obtain ⟨C4, F4⟩ := hA
        have C4 : MC G hp4 m0 bs 2 sd (nI ts.length) (nI lt.length) fs := C4
        refine ad_top (y := .int 1) (by rfl) ?_
        refine lv_if_eq (tgt := 43) hx hb d_M_gone_38 (by decide) (fun c38 => ?_) (fun c38 => ?_)
        · exact absurd c38 (by decide)
        · refine lv_iconst (v := 0) hx hb d_M_gone_41 (by decide) ?_
          exact ad_iret M I rfl (by omega) (by omega) (⟨by rw [(show q_gn ts (nI j) = ((2, 0), ts) by simp only [q_gn]; rw [sp_at_n rfl ht hn]; simp only; rw [if_pos (st_neg (hst t (List.mem_of_getElem? ht)) c26)])], fs, by rw [(show q_gn ts (nI j) = ((2, 0), ts) by simp only [q_gn]; rw [sp_at_n rfl ht hn]; simp only; rw [if_pos (st_neg (hst t (List.mem_of_getElem? ht)) c26)])]; exact C4, by rw [(show q_gn ts (nI j) = ((2, 0), ts) by simp only [q_gn]; rw [sp_at_n rfl ht hn]; simp only; rw [if_pos (st_neg (hst t (List.mem_of_getElem? ht)) c26)])]; exact A, F4⟩) d_M_gone_42
  · rw [in_th hn] at c8
    refine lv_iconst (v := 1) hx hb d_M_gone_11 (by decide) ?_
    refine lv_goto (tgt := 16) hx hb d_M_gone_12 (by decide) ?_
    refine lv_iload_n hx hb d_M_gone_16 rfl (lv_at hl 0 rfl) ?_
    refine lv_if_eq (tgt := 33) hx hb d_M_gone_17 (by decide) (fun c17 => ?_) (fun c17 => ?_)
    · refine lv_iconst (v := 0) hx hb d_M_gone_33 (by decide) ?_
      refine lv_iconst (v := 0) hx hb d_M_gone_34 (by decide) ?_
      refine ad_cZi S I (ad_ivV (As := [.int 1, .int 0, .int 0]) (rest := []) S (ad_recv I C.1 K_Mod) w_611 w_613 sp_M_fails Y_M_fails ⟨by decide, by decide, np_M_fails⟩ rfl d_M_gone_35) (c_M_fails l G lo hp m0 bs th sd (nI ts.length) (nI lt.length) fs 1 0 0 C) Y_M_fails hl.1 ⟨Nat.le_of_ble_eq_true rfl, Nat.le_of_ble_eq_true rfl⟩ (Nat.le_of_ble_eq_true rfl) (Nat.le_of_ble_eq_true rfl) d_M_gone_35 (fun hp5 H1 locs1 hA I => ?_)
      obtain ⟨C5, F5⟩ := hA
      have C5 : MC G hp5 m0 bs 1 sd (nI ts.length) (nI lt.length) fs := C5
      refine ad_top (y := .int 1) (by rfl) ?_
      refine lv_if_eq (tgt := 43) hx hb d_M_gone_38 (by decide) (fun c38 => ?_) (fun c38 => ?_)
      · exact absurd c38 (by decide)
      · refine lv_iconst (v := 0) hx hb d_M_gone_41 (by decide) ?_
        exact ad_iret M I rfl (by omega) (by omega) (⟨by rw [(show q_gn ts v = ((1, 0), ts) by simp only [q_gn]; rw [sp_at_0 c8 hn])], fs, by rw [(show q_gn ts v = ((1, 0), ts) by simp only [q_gn]; rw [sp_at_0 c8 hn])]; exact C5, by rw [(show q_gn ts v = ((1, 0), ts) by simp only [q_gn]; rw [sp_at_0 c8 hn])]; exact A, F5⟩) d_M_gone_42
    · exact absurd c17 (fun h => h ((in_th hn _).mpr c8))
theorem in_wt (g0 : Int32) : sp_in g0.toInt64 1 1000000000 = 0 ↔ (g0 < 1 ∨ ¬ g0 ≤ 1000000000) := by
  rw [show sp_in g0.toInt64 1 1000000000 = sp_in g0.toInt64 (1 : Int32).toInt64 (1000000000 : Int32).toInt64 from rfl, in_32, ← Int32.not_lt (a := g0) (b := 1)]
  constructor
  · intro h
    by_cases h1 : g0 < 1
    · exact Or.inl h1
    · exact Or.inr (fun h2 => h ⟨h1, h2⟩)
  · rintro (h | h) ⟨h1, h2⟩
    · exact h1 h
    · exact h h2
theorem wt_sub {a b : Int32} (ha : 0 ≤ a ∧ a ≤ 1000000000) (hb : 0 ≤ b ∧ b ≤ 1000000000) : (a - b).toInt = a.toInt - b.toInt := by
  have z0 : (0 : Int32).toInt = 0 := by decide
  have z1 : (1000000000 : Int32).toInt = 1000000000 := by decide
  rw [Int32.le_iff_toInt_le, Int32.le_iff_toInt_le, z0, z1] at ha hb
  rw [Int32.toInt_sub]
  apply Int.bmod_eq_of_le <;> omega
theorem wt_ge {a b : Int32} (ha : 0 ≤ a ∧ a ≤ 1000000000) (hb : 0 ≤ b ∧ b ≤ 1000000000) : 0 ≤ a - b ↔ ¬ a < b := by
  have z0 : (0 : Int32).toInt = 0 := by decide
  rw [Int32.le_iff_toInt_le, wt_sub ha hb, Int32.lt_iff_toInt_lt, z0]
  omega
theorem wt_0 (g0 : Int32) : sp_abs (g0 - g0) = 0 := by simp [sp_abs]
theorem wt_p {g0 b : Int32} (ha : 0 ≤ g0 ∧ g0 ≤ 1000000000) (hb : 0 ≤ b ∧ b ≤ 1000000000) (c : b ≤ g0) : sp_abs (g0 - b) = g0 - b := by
  unfold sp_abs
  rw [if_pos ((wt_ge ha hb).mpr (Int32.not_lt.mpr c))]
theorem wt_n {g0 b : Int32} (ha : 0 ≤ g0 ∧ g0 ≤ 1000000000) (hb : 0 ≤ b ∧ b ≤ 1000000000) (c : ¬ b ≤ g0) : sp_abs (g0 - b) = b - g0 := by
  unfold sp_abs
  rw [if_neg (fun h => (wt_ge ha hb).mp h (Int32.not_le.mp c)), Int32.zero_sub, Int32.neg_sub]
theorem wt_r {g0 : Int32} (c : ¬ (g0 < 1 ∨ ¬ g0 ≤ 1000000000)) : 0 ≤ g0 ∧ g0 ≤ 1000000000 := by
  refine ⟨?_, Decidable.not_not.mp fun h => c (Or.inr h)⟩
  have h1 : ¬ g0 < 1 := fun h => c (Or.inl h)
  have z0 : (0 : Int32).toInt = 0 := by decide
  have z1 : (1 : Int32).toInt = 1 := by decide
  rw [Int32.lt_iff_toInt_lt, z1] at h1
  rw [Int32.le_iff_toInt_le, z0]
  omega
set_option maxHeartbeats 4000000 in
set_option maxRecDepth 100000 in
theorem c_M_weight (l : Launch) (G : ad_G) (lo : Nat) (hp : ad_H) (m0 : Nat) (bs : Nat → Nat) (th : Int32) (sd : Int64) (fs : Nat → Nat → Int32) (ts : List TH) (lt : List Nat) (v g0 : Int32)  (C : MC G hp m0 bs th sd (nI ts.length) (nI lt.length) fs) (A : MA ts lt fs) (hn : ts.length ≤ 64) (hgr : ∀ t ∈ ts, 0 ≤ t.2.2.2.1 ∧ t.2.2.2.1 ≤ 1000000000) : ad_Ct l y_M_weight b_M_weight 4 rt_M_weight hs_M_weight 3 0 0 G lo hp [.ref m0, .int v, .int g0] (fun r hp' => r = .inl (some (.int ((q_wt ts v g0).1).2)) ∧ ∃ fs' : Nat → Nat → Int32, MC G hp' m0 bs (nI ((q_wt ts v g0).1).1) sd (nI ((q_wt ts v g0).2).length) (nI (lt).length) fs' ∧ MA ((q_wt ts v g0).2) lt fs' ∧ mf m0 bs hp hp') := by
  intro p e s m below meth c M hts hB hP
  have hx := M.1
  have hb := M.2.1
  have hml := M.2.2.1
  have hown : s.vm.findClass "AuditDrawsModel" = some m.cls := M.2.2.2.1
  have S : CallFix p m c b_M_weight 4 s _ ad_T "AuditDrawsModel" := ⟨hx, hb, hml, hown, hts⟩
  have I : ad_I G lo s hp s.heap [] := ad_I.rf hB hP
  have hl := lv_entry ([.ref m0, .int v, .int g0]) (n := 4) (Nat.le_of_ble_eq_true rfl)
  rw [lg_entry_eq]
  generalize (lg_sl ([.ref m0, .int v, .int g0]) ++ List.replicate (4 - (lg_sl ([.ref m0, .int v, .int g0])).length) Slot.unset).toArray = ls at hl ⊢
  have hl : lv_has ls 4 [(0, .ref m0), (1, .int v), (2, .int g0)] := hl
  refine lv_aload_n hx hb d_M_weight_0 rfl (lv_at hl 0 rfl) ?_
  refine lv_aload_n hx hb d_M_weight_1 rfl (lv_at hl 0 rfl) ?_
  refine lv_iload_n hx hb d_M_weight_2 rfl (lv_at hl 1 rfl) ?_
  refine ad_cPi S I (ad_ivV (As := [.int v]) (rest := [.ref m0]) S (ad_recv I C.1 K_Mod) w_649 w_651 sp_M_isThing Y_M_isThing ⟨by decide, by decide, np_M_isThing⟩ rfl d_M_weight_3) (c_M_isThing l G lo hp m0 bs th sd (nI ts.length) (nI lt.length) fs v C) Y_M_isThing hl.1 ⟨Nat.le_of_ble_eq_true rfl, Nat.le_of_ble_eq_true rfl⟩ (Nat.le_of_ble_eq_true rfl) (Nat.le_of_ble_eq_true rfl) d_M_weight_3 ?_
  refine lv_if_ne (tgt := 13) hx hb d_M_weight_6 (by decide) (fun c6 => ?_) (fun c6 => ?_)
  · rw [in_th hn, Classical.not_not] at c6
    obtain ⟨j, t, hj, rfl, ht⟩ := ts_2 rfl hn c6
    have hA := A.1 j t ht
    refine lv_iconst (v := 0) hx hb d_M_weight_13 (by decide) ?_
    refine lv_iload_n hx hb d_M_weight_14 rfl (lv_at hl 2 rfl) ?_
    refine lv_i2l (v := g0.toInt64) hx hb d_M_weight_15 rfl ?_
    refine lv_lconst (v := 1) hx hb d_M_weight_16 (by decide) ?_
    refine lv_ldc2 (v := 1000000000) hx hb hown (hts _ w_711) d_M_weight_17 ?_
    refine ad_cPi S I (ad_ivS (As := [.long g0.toInt64, .long 1, .long 1000000000]) (rest := [.int 0, .ref m0]) S Y_M_in w_607 w_608 w_6 ⟨by decide, by decide, np_M_in⟩ rfl d_M_weight_20) (c_M_in l G lo hp g0.toInt64 1 1000000000) Y_M_in hl.1 ⟨Nat.le_of_ble_eq_true rfl, Nat.le_of_ble_eq_true rfl⟩ (Nat.le_of_ble_eq_true rfl) (Nat.le_of_ble_eq_true rfl) d_M_weight_20 ?_
    refine lv_if_ne (tgt := 30) hx hb d_M_weight_23 (by decide) (fun c23 => ?_) (fun c23 => ?_)
    · rw [in_wt] at c23
      have hg9 := wt_r c23
      have hw9 := hgr t (List.mem_of_getElem? ht)
      refine lv_iconst (v := 0) hx hb d_M_weight_30 (by decide) ?_
      refine lv_iconst (v := 0) hx hb d_M_weight_31 (by decide) ?_
      refine ad_cZi S I (ad_ivV (As := [.int 0, .int 0, .int 0]) (rest := []) S (ad_recv I C.1 K_Mod) w_611 w_613 sp_M_fails Y_M_fails ⟨by decide, by decide, np_M_fails⟩ rfl d_M_weight_32) (c_M_fails l G lo hp m0 bs th sd (nI ts.length) (nI lt.length) fs 0 0 0 C) Y_M_fails hl.1 ⟨Nat.le_of_ble_eq_true rfl, Nat.le_of_ble_eq_true rfl⟩ (Nat.le_of_ble_eq_true rfl) (Nat.le_of_ble_eq_true rfl) d_M_weight_32 (fun hp1 H1 locs1 hA I => ?_)
      obtain ⟨C1, F1⟩ := hA
      have C1 : MC G hp1 m0 bs 0 sd (nI ts.length) (nI lt.length) fs := C1
      refine ad_top (y := .int 0) (by rfl) ?_
      refine lv_if_eq (tgt := 40) hx hb d_M_weight_35 (by decide) (fun c35 => ?_) (fun c35 => ?_)
      · refine lv_aload_n hx hb d_M_weight_40 rfl (lv_at hl 0 rfl) ?_
        refine ad_get S I C1.1 K_Mod 5 (by decide) w_553 rfl d_M_weight_41 ?_
        refine lv_iload_n hx hb d_M_weight_44 rfl (lv_at hl 1 rfl) ?_
        refine ad_iald S I (C1.2.1 2 (by decide)) (vp_in_nI (show j < 64 by omega) (by decide)) d_M_weight_45 ?_
        refine ad_top (y := .int ((fs 2) j)) (congrArg (fun q => Value.int ((fs 2) q)) (show (nI j).toNatClampNeg = j from nI_clamp (by omega))) ?_
        refine lv_istore_n (lv' := [(3, .int ((fs 2) j)), (0, .ref m0), (1, .int (nI j)), (2, .int g0)]) hx hb d_M_weight_46 rfl hl (by decide) rfl (fun ls hl => ?_)
        refine lv_aload_n hx hb d_M_weight_47 rfl (lv_at hl 1 rfl) ?_
        refine ad_get S I C1.1 K_Mod 5 (by decide) w_553 rfl d_M_weight_48 ?_
        refine lv_iload_n hx hb d_M_weight_51 rfl (lv_at hl 2 rfl) ?_
        refine lv_iload_n hx hb d_M_weight_52 rfl (lv_at hl 3 rfl) ?_
        refine ad_iast S I (C1.2.1 2 (by decide)) (vp_in_nI (show j < 64 by omega) (by decide)) d_M_weight_53 (fun H1 locs1 I => ?_)
        rw [show (nI j).toNatClampNeg = j from nI_clamp (by omega)] at I
        obtain ⟨hp2, ehp2⟩ : ∃ z : ad_H, z = ad_up hp1 (bs 2) (.inl (G.2.1 0, 64, .inl (upd (fs 2) j g0))) := ⟨_, rfl⟩
        have I : ad_I G lo s hp2 H1 locs1 := by rw [ehp2]; exact I
        obtain ⟨C2, F2⟩ := MC.arr (hp' := hp2) C1 2 (by decide) (by rw [ehp2]; exact ad_up_s _ _ _) (fun z hz => by rw [ehp2]; exact ad_up_n _ hz)
        refine lv_iload_n hx hb d_M_weight_54 rfl (lv_at hl 0 rfl) ?_
        refine lv_if_ne (tgt := 62) hx hb d_M_weight_55 (by decide) (fun c55 => ?_) (fun c55 => ?_)
        · rw [hA.2.2.1] at c55
          refine lv_iload_n hx hb d_M_weight_62 rfl (lv_at hl 0 rfl) ?_
          refine lv_iload_n hx hb d_M_weight_63 rfl (lv_at hl 3 rfl) ?_
          refine lv_icmp_le (tgt := 73) hx hb d_M_weight_64 (by decide) (fun c64 => ?_) (fun c64 => ?_)
          · rw [hA.2.2.1] at c64
            refine lv_iload_n hx hb d_M_weight_73 rfl (lv_at hl 3 rfl) ?_
            refine lv_iload_n hx hb d_M_weight_74 rfl (lv_at hl 0 rfl) ?_
            refine lv_isub hx hb d_M_weight_75 ?_
            exact ad_iret M I rfl (by omega) (by omega) (⟨by rw [(show q_wt ts (nI j) g0 = ((0, g0 - t.2.2.2.1), ts.set j (t.1, t.2.1, t.2.2.1, g0, t.2.2.2.2)) by simp only [q_wt]; rw [sp_at_n rfl ht hn]; simp only; rw [if_neg c23, if_neg c55, q_j rfl ht hn, wt_p hg9 hw9 c64])]; rw [hA.2.2.1], _, by rw [(show q_wt ts (nI j) g0 = ((0, g0 - t.2.2.2.1), ts.set j (t.1, t.2.1, t.2.2.1, g0, t.2.2.2.2)) by simp only [q_wt]; rw [sp_at_n rfl ht hn]; simp only; rw [if_neg c23, if_neg c55, q_j rfl ht hn, wt_p hg9 hw9 c64]), List.length_set]; exact C2, by rw [(show q_wt ts (nI j) g0 = ((0, g0 - t.2.2.2.1), ts.set j (t.1, t.2.1, t.2.2.1, g0, t.2.2.2.2)) by simp only [q_wt]; rw [sp_at_n rfl ht hn]; simp only; rw [if_neg c23, if_neg c55, q_j rfl ht hn, wt_p hg9 hw9 c64])]; exact A.wt ht g0, (F1.tr F2)⟩) d_M_weight_76
          · rw [hA.2.2.1] at c64
            refine lv_iload_n hx hb d_M_weight_67 rfl (lv_at hl 0 rfl) ?_
            refine lv_iload_n hx hb d_M_weight_68 rfl (lv_at hl 3 rfl) ?_
            refine lv_isub hx hb d_M_weight_69 ?_
            refine lv_goto (tgt := 76) hx hb d_M_weight_70 (by decide) ?_
            exact ad_iret M I rfl (by omega) (by omega) (⟨by rw [(show q_wt ts (nI j) g0 = ((0, t.2.2.2.1 - g0), ts.set j (t.1, t.2.1, t.2.2.1, g0, t.2.2.2.2)) by simp only [q_wt]; rw [sp_at_n rfl ht hn]; simp only; rw [if_neg c23, if_neg c55, q_j rfl ht hn, wt_n hg9 hw9 c64])]; rw [hA.2.2.1], _, by rw [(show q_wt ts (nI j) g0 = ((0, t.2.2.2.1 - g0), ts.set j (t.1, t.2.1, t.2.2.1, g0, t.2.2.2.2)) by simp only [q_wt]; rw [sp_at_n rfl ht hn]; simp only; rw [if_neg c23, if_neg c55, q_j rfl ht hn, wt_n hg9 hw9 c64]), List.length_set]; exact C2, by rw [(show q_wt ts (nI j) g0 = ((0, t.2.2.2.1 - g0), ts.set j (t.1, t.2.1, t.2.2.1, g0, t.2.2.2.2)) by simp only [q_wt]; rw [sp_at_n rfl ht hn]; simp only; rw [if_neg c23, if_neg c55, q_j rfl ht hn, wt_n hg9 hw9 c64])]; exact A.wt ht g0, (F1.tr F2)⟩) d_M_weight_76
        · rw [hA.2.2.1] at c55
          refine lv_iconst (v := 0) hx hb d_M_weight_58 (by decide) ?_
          refine lv_goto (tgt := 76) hx hb d_M_weight_59 (by decide) ?_
          exact ad_iret M I rfl (by omega) (by omega) (⟨by rw [(show q_wt ts (nI j) g0 = ((0, 0), ts.set j (t.1, t.2.1, t.2.2.1, g0, t.2.2.2.2)) by simp only [q_wt]; rw [sp_at_n rfl ht hn]; simp only; rw [if_neg c23, if_pos c55, q_j rfl ht hn, wt_0])], _, by rw [(show q_wt ts (nI j) g0 = ((0, 0), ts.set j (t.1, t.2.1, t.2.2.1, g0, t.2.2.2.2)) by simp only [q_wt]; rw [sp_at_n rfl ht hn]; simp only; rw [if_neg c23, if_pos c55, q_j rfl ht hn, wt_0]), List.length_set]; exact C2, by rw [(show q_wt ts (nI j) g0 = ((0, 0), ts.set j (t.1, t.2.1, t.2.2.1, g0, t.2.2.2.2)) by simp only [q_wt]; rw [sp_at_n rfl ht hn]; simp only; rw [if_neg c23, if_pos c55, q_j rfl ht hn, wt_0])]; exact A.wt ht g0, (F1.tr F2)⟩) d_M_weight_76
      · exact absurd c35 (by decide)
    · rw [in_wt] at c23
      refine lv_iconst (v := 1) hx hb d_M_weight_26 (by decide) ?_
      refine lv_goto (tgt := 31) hx hb d_M_weight_27 (by decide) ?_
      refine lv_iconst (v := 0) hx hb d_M_weight_31 (by decide) ?_
      refine ad_cZi S I (ad_ivV (As := [.int 0, .int 1, .int 0]) (rest := []) S (ad_recv I C.1 K_Mod) w_611 w_613 sp_M_fails Y_M_fails ⟨by decide, by decide, np_M_fails⟩ rfl d_M_weight_32) (c_M_fails l G lo hp m0 bs th sd (nI ts.length) (nI lt.length) fs 0 1 0 C) Y_M_fails hl.1 ⟨Nat.le_of_ble_eq_true rfl, Nat.le_of_ble_eq_true rfl⟩ (Nat.le_of_ble_eq_true rfl) (Nat.le_of_ble_eq_true rfl) d_M_weight_32 (fun hp3 H1 locs1 hA I => ?_)
      obtain ⟨C3, F3⟩ := hA
      have C3 : MC G hp3 m0 bs 2 sd (nI ts.length) (nI lt.length) fs := C3
      refine ad_top (y := .int 1) (by rfl) ?_
      refine lv_if_eq (tgt := 40) hx hb d_M_weight_35 (by decide) (fun c35 => ?_) (fun c35 => ?_)
      · exact absurd c35 (by decide)
      · refine lv_iconst (v := 0) hx hb d_M_weight_38 (by decide) ?_
        exact ad_iret M I rfl (by omega) (by omega) (⟨by rw [(show q_wt ts (nI j) g0 = ((2, 0), ts) by simp only [q_wt]; rw [sp_at_n rfl ht hn]; simp only; rw [if_pos c23])], fs, by rw [(show q_wt ts (nI j) g0 = ((2, 0), ts) by simp only [q_wt]; rw [sp_at_n rfl ht hn]; simp only; rw [if_pos c23])]; exact C3, by rw [(show q_wt ts (nI j) g0 = ((2, 0), ts) by simp only [q_wt]; rw [sp_at_n rfl ht hn]; simp only; rw [if_pos c23])]; exact A, F3⟩) d_M_weight_39
  · rw [in_th hn] at c6
    refine lv_iconst (v := 1) hx hb d_M_weight_9 (by decide) ?_
    refine lv_goto (tgt := 14) hx hb d_M_weight_10 (by decide) ?_
    refine lv_iload_n hx hb d_M_weight_14 rfl (lv_at hl 2 rfl) ?_
    refine lv_i2l (v := g0.toInt64) hx hb d_M_weight_15 rfl ?_
    refine lv_lconst (v := 1) hx hb d_M_weight_16 (by decide) ?_
    refine lv_ldc2 (v := 1000000000) hx hb hown (hts _ w_711) d_M_weight_17 ?_
    refine ad_cPi S I (ad_ivS (As := [.long g0.toInt64, .long 1, .long 1000000000]) (rest := [.int 1, .ref m0]) S Y_M_in w_607 w_608 w_6 ⟨by decide, by decide, np_M_in⟩ rfl d_M_weight_20) (c_M_in l G lo hp g0.toInt64 1 1000000000) Y_M_in hl.1 ⟨Nat.le_of_ble_eq_true rfl, Nat.le_of_ble_eq_true rfl⟩ (Nat.le_of_ble_eq_true rfl) (Nat.le_of_ble_eq_true rfl) d_M_weight_20 ?_
    refine lv_if_ne (tgt := 30) hx hb d_M_weight_23 (by decide) (fun c23 => ?_) (fun c23 => ?_)
    · rw [in_wt] at c23
      refine lv_iconst (v := 0) hx hb d_M_weight_30 (by decide) ?_
      refine lv_iconst (v := 0) hx hb d_M_weight_31 (by decide) ?_
      refine ad_cZi S I (ad_ivV (As := [.int 1, .int 0, .int 0]) (rest := []) S (ad_recv I C.1 K_Mod) w_611 w_613 sp_M_fails Y_M_fails ⟨by decide, by decide, np_M_fails⟩ rfl d_M_weight_32) (c_M_fails l G lo hp m0 bs th sd (nI ts.length) (nI lt.length) fs 1 0 0 C) Y_M_fails hl.1 ⟨Nat.le_of_ble_eq_true rfl, Nat.le_of_ble_eq_true rfl⟩ (Nat.le_of_ble_eq_true rfl) (Nat.le_of_ble_eq_true rfl) d_M_weight_32 (fun hp4 H1 locs1 hA I => ?_)
      obtain ⟨C4, F4⟩ := hA
      have C4 : MC G hp4 m0 bs 1 sd (nI ts.length) (nI lt.length) fs := C4
      refine ad_top (y := .int 1) (by rfl) ?_
      refine lv_if_eq (tgt := 40) hx hb d_M_weight_35 (by decide) (fun c35 => ?_) (fun c35 => ?_)
      · exact absurd c35 (by decide)
      · refine lv_iconst (v := 0) hx hb d_M_weight_38 (by decide) ?_
        exact ad_iret M I rfl (by omega) (by omega) (⟨by rw [(show q_wt ts v g0 = ((1, 0), ts) by simp only [q_wt]; rw [sp_at_0 c6 hn])], fs, by rw [(show q_wt ts v g0 = ((1, 0), ts) by simp only [q_wt]; rw [sp_at_0 c6 hn])]; exact C4, by rw [(show q_wt ts v g0 = ((1, 0), ts) by simp only [q_wt]; rw [sp_at_0 c6 hn])]; exact A, F4⟩) d_M_weight_39
    · rw [in_wt] at c23
      refine lv_iconst (v := 1) hx hb d_M_weight_26 (by decide) ?_
      refine lv_goto (tgt := 31) hx hb d_M_weight_27 (by decide) ?_
      refine lv_iconst (v := 0) hx hb d_M_weight_31 (by decide) ?_
      refine ad_cZi S I (ad_ivV (As := [.int 1, .int 1, .int 0]) (rest := []) S (ad_recv I C.1 K_Mod) w_611 w_613 sp_M_fails Y_M_fails ⟨by decide, by decide, np_M_fails⟩ rfl d_M_weight_32) (c_M_fails l G lo hp m0 bs th sd (nI ts.length) (nI lt.length) fs 1 1 0 C) Y_M_fails hl.1 ⟨Nat.le_of_ble_eq_true rfl, Nat.le_of_ble_eq_true rfl⟩ (Nat.le_of_ble_eq_true rfl) (Nat.le_of_ble_eq_true rfl) d_M_weight_32 (fun hp5 H1 locs1 hA I => ?_)
      obtain ⟨C5, F5⟩ := hA
      have C5 : MC G hp5 m0 bs 1 sd (nI ts.length) (nI lt.length) fs := C5
      refine ad_top (y := .int 1) (by rfl) ?_
      refine lv_if_eq (tgt := 40) hx hb d_M_weight_35 (by decide) (fun c35 => ?_) (fun c35 => ?_)
      · exact absurd c35 (by decide)
      · refine lv_iconst (v := 0) hx hb d_M_weight_38 (by decide) ?_
        exact ad_iret M I rfl (by omega) (by omega) (⟨by rw [(show q_wt ts v g0 = ((1, 0), ts) by simp only [q_wt]; rw [sp_at_0 c6 hn])], fs, by rw [(show q_wt ts v g0 = ((1, 0), ts) by simp only [q_wt]; rw [sp_at_0 c6 hn])]; exact C5, by rw [(show q_wt ts v g0 = ((1, 0), ts) by simp only [q_wt]; rw [sp_at_0 c6 hn])]; exact A, F5⟩) d_M_weight_39
