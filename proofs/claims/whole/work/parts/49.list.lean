theorem sp_z_map (v : Int32) (ts : List TH) (i : Nat) : (sp_z v ts i).map (fun t => t.1) = ts.map (fun t => t.1) := by
  unfold sp_z
  cases h : ts[i]? with
  | none => rfl
  | some t =>
    obtain ⟨hi, e⟩ := List.getElem?_eq_some_iff.mp h
    apply List.ext_getElem?
    intro j
    simp only [List.getElem?_map, List.getElem?_set]
    by_cases hij : i = j
    · subst hij; simp [hi, e]
    · simp [hij]
theorem sp_zf_map (v : Int32) : ∀ (xs : List Nat) (ts : List TH), (xs.foldl (sp_z v) ts).map (fun t => t.1) = ts.map (fun t => t.1)
  | [], _ => rfl
  | x :: xs, ts => by
    rw [List.foldl_cons, sp_zf_map v xs, sp_z_map]
theorem st_len {ts us : List TH} (h : us.map (fun t => t.1) = ts.map (fun t => t.1)) : us.length = ts.length := by
  have := congrArg List.length h
  simpa using this
theorem st_cn {ts us : List TH} (h : us.map (fun t => t.1) = ts.map (fun t => t.1)) (k : Nat) : sp_cn us k = sp_cn ts k := by
  have e : ∀ xs : List TH, sp_cn xs k = (xs.map (fun t => t.1)).countP (fun x => decide (x = nI k)) := fun xs => by
    rw [List.countP_map]; rfl
  rw [e, e, h]
theorem st_row {ts us : List TH} (h : us.map (fun t => t.1) = ts.map (fun t => t.1)) (k : Nat) : ∀ j, sp_row us k j = sp_row ts k j
  | 0 => rfl
  | j + 1 => by
    have e : us[j]?.map (fun t => t.1) = ts[j]?.map (fun t => t.1) := by
      rw [← List.getElem?_map, ← List.getElem?_map, h]
    simp only [sp_row, st_row h k j, e]
theorem st_f {ts us : List TH} (h : us.map (fun t => t.1) = ts.map (fun t => t.1)) (n : Nat) : sp_f us n = sp_f ts n := by
  funext k; simp only [sp_f, st_cn h, st_len h]
theorem st_r {ts us : List TH} (h : us.map (fun t => t.1) = ts.map (fun t => t.1)) (n : Nat) : sp_r us n = sp_r ts n := by
  funext k; simp only [sp_r, st_cn h, st_len h]
theorem st_g {ts us : List TH} (h : us.map (fun t => t.1) = ts.map (fun t => t.1)) (n : Nat) : sp_g us n = sp_g ts n := by
  funext k; unfold sp_g sp_m; rw [st_f h, st_r h]
theorem st_wfs {ts us : List TH} (h : us.map (fun t => t.1) = ts.map (fun t => t.1)) (hw : wfs ts) : wfs us := by
  intro t ht
  have h1 : t.1 ∈ us.map (fun t => t.1) := List.mem_map_of_mem ht
  rw [h] at h1
  obtain ⟨t2, h2, h3⟩ := List.mem_map.mp h1
  obtain ⟨k, hk, e⟩ := hw t2 h2
  exact ⟨k, hk, by rw [← h3]; exact e⟩
def sp_ls (ts : List TH) (n : Nat) (d : Int64) : Nat → List Nat × Int64
  | 0 => ([], d)
  | k + 1 => ((sp_ls ts n d k).1 ++ (sp_tk (sp_row ts k ts.length) (sp_ls ts n d k).2 (sp_g ts n k)).2.1, (sp_tk (sp_row ts k ts.length) (sp_ls ts n d k).2 (sp_g ts n k)).2.2)
theorem sp_ls_l (ts : List TH) (n : Nat) (d : Int64) : ∀ k, (sp_ls ts n d k).1.length = sp_sm (sp_g ts n) k
  | 0 => rfl
  | k + 1 => by
    simp only [sp_ls, List.length_append, sp_ls_l ts n d k, (sp_tk_l _ _ _).2]
    rfl
abbrev AST : Type := List TH × List Nat × Int64
def q_ls (A : AST) (v : Int32) : (Nat × Int32) × AST := if ¬ v < 0 ∧ v ≤ nI A.1.length then ((0, v), ((sp_ls A.1 v.toNatClampNeg A.2.2 6).1.foldl (sp_z 0) (A.2.1.foldl (sp_z (-1)) A.1), (sp_ls A.1 v.toNatClampNeg A.2.2 6).1, (sp_ls A.1 v.toNatClampNeg A.2.2 6).2)) else ((1, 0), A)
theorem so_put {f r : Nat → Nat} {fg fs : Nat → Int32} {j : Nat} (h : ∀ s9, s9 < j → fg s9 = nI (f s9) ∧ fs s9 = nI (r s9)) : ∀ s9, s9 < j + 1 → upd fg j (nI (f j)) s9 = nI (f s9) ∧ upd fs j (nI (r j)) s9 = nI (r s9) := by
  intro s9 h9
  by_cases e : s9 = j
  · subst e; exact ⟨pk_us, pk_us⟩
  · rw [pk_un e, pk_un e]; exact h s9 (by omega)
theorem so_step {f r : Nat → Nat} {fg fs : Nat → Int32} {i b : Nat} (hb : b < 6) (hrb : sp_rk r b = i) (h : ∀ s9, s9 < 6 → fg s9 = nI (f s9 + if sp_rk r s9 < i then 1 else 0) ∧ fs s9 = if sp_rk r s9 < i then -1 else nI (r s9)) : ∀ s9, s9 < 6 → upd fg b (fg b + 1) s9 = nI (f s9 + if sp_rk r s9 < i + 1 then 1 else 0) ∧ upd fs b (-1) s9 = if sp_rk r s9 < i + 1 then -1 else nI (r s9) := by
  intro s9 h9
  by_cases e : s9 = b
  · subst e
    rw [pk_us, pk_us, if_pos (by omega), if_pos (by omega), (h s9 h9).1, if_neg (by omega)]
    exact ⟨nI_1 _, rfl⟩
  · rw [pk_un e, pk_un e]
    have hne : sp_rk r s9 ≠ i := fun hh => e (rk_inj (r := r) h9 hb (hh.trans hrb.symm))
    obtain ⟨h1, h2⟩ := h s9 h9
    by_cases hl : sp_rk r s9 < i
    · rw [if_pos (show sp_rk r s9 < i + 1 by omega), if_pos (show sp_rk r s9 < i + 1 by omega)]
      rw [if_pos hl] at h1 h2
      exact ⟨h1, h2⟩
    · rw [if_neg (show ¬ sp_rk r s9 < i + 1 by omega), if_neg (show ¬ sp_rk r s9 < i + 1 by omega)]
      rw [if_neg hl] at h1 h2
      exact ⟨h1, h2⟩
set_option maxHeartbeats 4000000 in
set_option maxRecDepth 100000 in
theorem c_A_shareOut (l : Launch) (G : ad_G) (lo : Nat) (hp : ad_H) (x dA tA lA rA gA sA : Nat) (ta ros : List Nat) (ts : List TH) (la lt rr rw : List Nat) (sd : Int64) (fg fs : Nat → Int32) (n0 : Nat)  (C : CR G hp x dA tA lA rA gA sA ta ros ts la lt rr rw sd fg fs) (hw : wfs ts) (hn0 : n0 ≤ ts.length) : ad_Ct l y_A_shareOut b_A_shareOut 4 rt_A_shareOut hs_A_shareOut 6 0 0 G lo hp [.ref x, .int (nI n0)] (fun r hp' => r = .inl none ∧ ∃ fg' fs' : Nat → Int32, CR G hp' x dA tA lA rA gA sA ta ros ts la lt rr rw sd fg' fs' ∧ fr gA sA hp hp' ∧ ∀ s9, s9 < 6 → fg' s9 = nI (sp_g ts n0 s9)) := by
  intro p e s m below meth c M hts hB hP
  have hx := M.1
  have hb := M.2.1
  have hml := M.2.2.1
  have hown : s.vm.findClass "AuditDraws" = some m.cls := M.2.2.2.1
  have S : CallFix p m c b_A_shareOut 4 s _ ad_T "AuditDraws" := ⟨hx, hb, hml, hown, hts⟩
  have I : ad_I G lo s hp s.heap [] := ad_I.rf hB hP
  have hl := lv_entry ([.ref x, .int (nI n0)]) (n := 4) (Nat.le_of_ble_eq_true rfl)
  rw [lg_entry_eq]
  generalize (lg_sl ([.ref x, .int (nI n0)]) ++ List.replicate (4 - (lg_sl ([.ref x, .int (nI n0)])).length) Slot.unset).toArray = ls at hl ⊢
  have hl : lv_has ls 4 [(0, .ref x), (1, .int (nI n0))] := hl
  have hn := C.hn
  have hm6 := m_6 hw hn0
  have hr30 : ∀ s9, s9 < 6 → sp_r ts n0 s9 < 2 ^ 30 := fun s9 _ => by have h8 := sp_cb s9 hn hn0; have h7 : sp_r ts n0 s9 ≤ n0 * sp_cn ts s9 := Nat.mod_le _ _; omega
  have loop2 : ∀ (n : Nat) (i : Nat) (hpj : ad_H) (fgj fsj : Nat → Int32) (H : Heap) (locs : List Loc), (sp_m ts n0 < i + n ∧ i ≤ sp_m ts n0) → ad_I G lo s hpj H locs → CR G hpj x dA tA lA rA gA sA ta ros ts la lt rr rw sd fgj fsj → fr gA sA hp hpj → (∀ s9, s9 < 6 → fgj s9 = nI (sp_f ts n0 s9 + if sp_rk (sp_r ts n0) s9 < i then 1 else 0) ∧ fsj s9 = if sp_rk (sp_r ts n0) s9 < i then -1 else nI (sp_r ts n0 s9)) → ∀ ls : Array Slot, lv_has ls 4 [(0, .ref x), (2, .int (nI (sp_m ts n0))), (3, .int (nI i))] → W p l e (ad_rm 6 0 0) s m ([.ref x, .int (nI n0)] : List Value).toArray below meth c H locs 0 0 (ad_Z below G lo (fun r hp' => r = .inl none ∧ ∃ fg' fs' : Nat → Int32, CR G hp' x dA tA lA rA gA sA ta ros ts la lt rr rw sd fg' fs' ∧ fr gA sA hp hp' ∧ ∀ s9, s9 < 6 → fg' s9 = nI (sp_g ts n0 s9)) s 0 0) (F0 m 33 ls []) := by
    intro n
    induction n with
    | zero => intro i hpj fgj fsj H locs h0; exact absurd h0 (by omega)
    | succ n ih =>
      intro i hpj fgj fsj H locs h0 I C F hfg ls hl
      refine lv_iload_n hx hb d_A_shareOut_33 rfl (lv_at hl 2 rfl) ?_
      refine lv_iload_n hx hb d_A_shareOut_34 rfl (lv_at hl 1 rfl) ?_
      refine lv_icmp_ge (tgt := 54) hx hb d_A_shareOut_35 (by decide) (fun c35 => ?_) (fun c35 => ?_)
      · obtain rfl : i = sp_m ts n0 := by have := ad_ge (j := i) (n := sp_m ts n0) (by omega) (by omega) c35; omega
        exact ad_vret M I (by omega) (by omega) (⟨rfl, fgj, fsj, C, F, fun s9 h9 => (hfg s9 h9).1⟩) d_A_shareOut_54
      · have hi : i < sp_m ts n0 := ad_lt (by omega) (by omega) c35
        refine lv_iload_n hx hb d_A_shareOut_38 rfl (lv_at hl 2 rfl) ?_
        refine lv_bipush (v := 6) hx hb d_A_shareOut_39 (by decide) ?_
        refine lv_icmp_ge (tgt := 54) hx hb d_A_shareOut_41 (by decide) (fun c41 => ?_) (fun c41 => ?_)
        · exact absurd c41 (nI_ge (a := i) (b := 6) (by omega) (by omega))
        · refine lv_aload_n hx hb d_A_shareOut_44 rfl (lv_at hl 0 rfl) ?_
          refine ad_cZi S I (ad_ivV (As := []) (rest := []) S (ad_recv I C.hX K_AD) w_338 w_340 sp_A_giveOneByGreatestRest Y_A_giveOneByGreatestRest ⟨by decide, by decide, np_A_giveOneByGreatestRest⟩ rfl d_A_shareOut_45) (c_A_giveOne l G lo hpj x dA tA lA rA gA sA ta ros ts la lt rr rw sd fgj fsj C) Y_A_giveOneByGreatestRest hl.1 ⟨Nat.le_of_ble_eq_true rfl, Nat.le_of_ble_eq_true rfl⟩ (Nat.le_of_ble_eq_true rfl) (Nat.le_of_ble_eq_true rfl) d_A_shareOut_45 (fun hp9 H1 locs1 hA I => ?_)
          obtain ⟨b, hb9, hbest, C9, F9⟩ := hA
          have hrb := rk_step (by omega) hr30 (fun s9 h9 => (hfg s9 h9).2) hb9 hbest
          refine lv_iinc (v := (nI (i + 1))) (lv' := [(3, .int (nI (i + 1))), (0, .ref x), (2, .int (nI (sp_m ts n0)))]) hx hb d_A_shareOut_48 hl (k := 2) rfl (nI_1 i) (by decide) rfl (fun ls hl => ?_)
          refine lv_goto (tgt := 33) hx hb d_A_shareOut_51 (by decide) ?_
          exact ih (i + 1) hp9 (upd fgj b (fgj b + 1)) (upd fsj b (-1)) H1 locs1 (by omega) I C9 (F.tr F9) (so_step hb9 hrb hfg) ls (lv_sub hl [1, 2, 0] rfl)
  have loop1 : ∀ (n : Nat) (j : Nat) (hpj : ad_H) (fgj fsj : Nat → Int32) (H : Heap) (locs : List Loc), (6 < j + n ∧ j ≤ 6) → ad_I G lo s hpj H locs → CR G hpj x dA tA lA rA gA sA ta ros ts la lt rr rw sd fgj fsj → fr gA sA hp hpj → (∀ s9, s9 < j → fgj s9 = nI (sp_f ts n0 s9) ∧ fsj s9 = nI (sp_r ts n0 s9)) → ∀ ls : Array Slot, lv_has ls 4 [(0, .ref x), (1, .int (nI n0)), (2, .int (nI (n0 - sp_sm (sp_f ts n0) j))), (3, .int (nI j))] → W p l e (ad_rm 6 0 0) s m ([.ref x, .int (nI n0)] : List Value).toArray below meth c H locs 0 0 (ad_Z below G lo (fun r hp' => r = .inl none ∧ ∃ fg' fs' : Nat → Int32, CR G hp' x dA tA lA rA gA sA ta ros ts la lt rr rw sd fg' fs' ∧ fr gA sA hp hp' ∧ ∀ s9, s9 < 6 → fg' s9 = nI (sp_g ts n0 s9)) s 0 0) (F0 m 4 ls []) := by
    intro n
    induction n with
    | zero => intro j hpj fgj fsj H locs h0; exact absurd h0 (by omega)
    | succ n ih =>
      intro j hpj fgj fsj H locs h0 I C F hfg ls hl
      refine lv_iload_n hx hb d_A_shareOut_4 rfl (lv_at hl 3 rfl) ?_
      refine lv_bipush (v := 6) hx hb d_A_shareOut_5 (by decide) ?_
      refine lv_icmp_ge (tgt := 31) hx hb d_A_shareOut_7 (by decide) (fun c7 => ?_) (fun c7 => ?_)
      · obtain rfl : j = 6 := by have := ad_ge (j := j) (n := 6) (by omega) (by omega) c7; omega
        refine lv_iconst (v := 0) hx hb d_A_shareOut_31 (by decide) ?_
        refine lv_istore_n (lv' := [(3, .int 0), (0, .ref x), (1, .int (nI n0)), (2, .int (nI (sp_m ts n0)))]) hx hb d_A_shareOut_32 rfl hl (by decide) rfl (fun ls hl => ?_)
        exact loop2 (sp_m ts n0 + 1) 0 hpj fgj fsj H locs (by omega) I C F (fun s9 h9 => by rw [if_neg (Nat.not_lt_zero _), if_neg (Nat.not_lt_zero _)]; exact hfg s9 (by omega)) ls (lv_sub hl [1, 3, 0] rfl)
      · have hj : j < 6 := ad_lt (n := 6) (by omega) (by omega) c7
        refine lv_aload_n hx hb d_A_shareOut_10 rfl (lv_at hl 0 rfl) ?_
        refine lv_iload_n hx hb d_A_shareOut_11 rfl (lv_at hl 3 rfl) ?_
        refine lv_iload_n hx hb d_A_shareOut_12 rfl (lv_at hl 1 rfl) ?_
        refine ad_cZi S I (ad_ivV (As := [.int (nI j), .int (nI n0)]) (rest := []) S (ad_recv I C.hX K_AD) w_330 w_332 sp_A_giveRoundedDown Y_A_giveRoundedDown ⟨by decide, by decide, np_A_giveRoundedDown⟩ rfl d_A_shareOut_13) (c_A_giveRoundedDown l G lo hpj x dA tA lA rA gA sA ta ros ts la lt rr rw sd fgj fsj j n0 C hj hn0) Y_A_giveRoundedDown hl.1 ⟨Nat.le_of_ble_eq_true rfl, Nat.le_of_ble_eq_true rfl⟩ (Nat.le_of_ble_eq_true rfl) (Nat.le_of_ble_eq_true rfl) d_A_shareOut_13 (fun hp9 H1 locs1 hA I => ?_)
        obtain ⟨C9, F9⟩ := hA
        refine lv_iload_n hx hb d_A_shareOut_16 rfl (lv_at hl 2 rfl) ?_
        refine lv_aload_n hx hb d_A_shareOut_17 rfl (lv_at hl 0 rfl) ?_
        refine ad_get S I C9.hX K_AD 4 (by decide) w_71 rfl d_A_shareOut_18 ?_
        refine lv_iload_n hx hb d_A_shareOut_21 rfl (lv_at hl 3 rfl) ?_
        refine ad_iald S I C9.hg (vp_in_nI (show j < 6 by omega) (by omega)) d_A_shareOut_22 ?_
        refine lv_isub hx hb d_A_shareOut_23 ?_
        have hs1 : sp_sm (sp_f ts n0) j + sp_f ts n0 j ≤ n0 := Nat.le_trans (sm_mono (sp_f ts n0) (i := j + 1) (by omega)) (f_sum hw hn0)
        refine ad_top (y := .int (nI (n0 - sp_sm (sp_f ts n0) (j + 1)))) (congrArg Value.int (by rw [show (nI j).toNatClampNeg = j from nI_clamp (by omega), pk_us, pk_sub (by omega)]; congr 1; show n0 - sp_sm (sp_f ts n0) j - sp_f ts n0 j = n0 - (sp_sm (sp_f ts n0) j + sp_f ts n0 j); omega)) ?_
        refine lv_istore_n (lv' := [(2, .int (nI (n0 - sp_sm (sp_f ts n0) (j + 1)))), (0, .ref x), (1, .int (nI n0)), (3, .int (nI j))]) hx hb d_A_shareOut_24 rfl hl (by decide) rfl (fun ls hl => ?_)
        refine lv_iinc (v := (nI (j + 1))) (lv' := [(3, .int (nI (j + 1))), (2, .int (nI (n0 - sp_sm (sp_f ts n0) (j + 1)))), (0, .ref x), (1, .int (nI n0))]) hx hb d_A_shareOut_25 hl (k := 3) rfl (nI_1 j) (by decide) rfl (fun ls hl => ?_)
        refine lv_goto (tgt := 4) hx hb d_A_shareOut_28 (by decide) ?_
        exact ih (j + 1) hp9 (upd fgj j (nI (sp_f ts n0 j))) (upd fsj j (nI (sp_r ts n0 j))) H1 locs1 (by omega) I C9 (F.tr F9) (so_put hfg) ls (lv_sub hl [2, 3, 1, 0] rfl)
  refine lv_iload_n hx hb d_A_shareOut_0 rfl (lv_at hl 1 rfl) ?_
  refine lv_istore_n (lv' := [(2, .int (nI n0)), (0, .ref x), (1, .int (nI n0))]) hx hb d_A_shareOut_1 rfl hl (by decide) rfl (fun ls hl => ?_)
  refine lv_iconst (v := 0) hx hb d_A_shareOut_2 (by decide) ?_
  refine lv_istore_n (lv' := [(3, .int 0), (2, .int (nI n0)), (0, .ref x), (1, .int (nI n0))]) hx hb d_A_shareOut_3 rfl hl (by decide) rfl (fun ls hl => ?_)
  exact loop1 7 0 hp fg fs s.heap [] (by omega) I C (fr.rf _ _ _) (fun s9 h9 => by omega) ls (lv_sub hl [2, 3, 1, 0] rfl)
set_option maxHeartbeats 4000000 in
set_option maxRecDepth 100000 in
theorem c_A_list (l : Launch) (G : ad_G) (lo : Nat) (hp : ad_H) (x dA tA lA rA gA sA : Nat) (ta ros : List Nat) (ts : List TH) (la lt rr rw : List Nat) (sd : Int64) (fg fs : Nat → Int32) (v : Int32)  (hT : l.stackTraces = false) (C : CR G hp x dA tA lA rA gA sA ta ros ts la lt rr rw sd fg fs) (hw : wfs ts) (hm : lt.length ≤ 64) : ad_Ct l y_A_list b_A_list 3 rt_A_list hs_A_list 9 128 12800 G lo hp [.ref x, .int v] (fun r hp' => r = q_ans [ad_IAE] (q_ls (ts, lt, sd) v).1 ∧ ∃ (la' rr' rw' : List Nat) (fg' fs' : Nat → Int32), CR G hp' x dA tA lA rA gA sA ta ros ((q_ls (ts, lt, sd) v).2.1) la' ((q_ls (ts, lt, sd) v).2.2.1) rr' rw' ((q_ls (ts, lt, sd) v).2.2.2) fg' fs' ∧ fr gA sA hp hp') := by
  intro p e s m below meth c M hts hB hP
  have hx := M.1
  have hb := M.2.1
  have hml := M.2.2.1
  have hown : s.vm.findClass "AuditDraws" = some m.cls := M.2.2.2.1
  have S : CallFix p m c b_A_list 3 s _ ad_T "AuditDraws" := ⟨hx, hb, hml, hown, hts⟩
  have I : ad_I G lo s hp s.heap [] := ad_I.rf hB hP
  have hl := lv_entry ([.ref x, .int v]) (n := 3) (Nat.le_of_ble_eq_true rfl)
  rw [lg_entry_eq]
  generalize (lg_sl ([.ref x, .int v]) ++ List.replicate (3 - (lg_sl ([.ref x, .int v])).length) Slot.unset).toArray = ls at hl ⊢
  have hl : lv_has ls 3 [(0, .ref x), (1, .int v)] := hl
  obtain ⟨_, htA⟩ := C.hA.self
  refine lv_iload_n hx hb d_A_list_0 rfl (lv_at hl 1 rfl) ?_
  refine lv_if_lt (tgt := 15) hx hb d_A_list_1 (by decide) (fun c1 => ?_) (fun c1 => ?_)
  · obtain ⟨q9, hq9⟩ := hB.2.2.2.2.2.2.1 (66, "not so many things") (by decide)
    refine ad_thr S hT (X := "java/lang/IllegalArgumentException") (Yn := "java/lang/RuntimeException") (names := ["java/lang/Exception"]) (ix := 7) (bx := prog_11_method_2_code) (ic := 68) w_288 w_289 w_17 hq9 (ad_hat hB hts at_IAE) (by decide +kernel) (by decide +kernel) (by decide +kernel) (by decide +kernel) (by decide +kernel) (by decide +kernel) (by decide +kernel) hl.1 d_A_list_15 d_A_list_18 d_A_list_19 d_A_list_21 d_A_list_24 (by decide) (by decide) (by decide) (by decide) (fun H1 cell h1 h2 h3 h4 h5 => ?_)
    exact ad_out M (I.grown h1 h2) h3 h4 h5 (by decide) (by decide) (by decide) (⟨by rw [(show q_ls (ts, lt, sd) v = ((1, 0), (ts, lt, sd)) by simp only [q_ls]; rw [if_neg (fun h => h.1 c1)])]; rfl, la, rr, rw, fg, fs, by rw [(show q_ls (ts, lt, sd) v = ((1, 0), (ts, lt, sd)) by simp only [q_ls]; rw [if_neg (fun h => h.1 c1)])]; exact C, fr.rf _ _ _⟩)
  · refine lv_iload_n hx hb d_A_list_4 rfl (lv_at hl 1 rfl) ?_
    refine lv_aload_n hx hb d_A_list_5 rfl (lv_at hl 0 rfl) ?_
    refine ad_get S I C.hX K_AD 1 (by decide) w_68 rfl d_A_list_6 ?_
    refine ad_cPi S I (ad_ivV (As := []) (rest := [.int v]) S (ad_recv I htA K_AL) w_171 w_172 w_173 Y_AL_size ⟨by decide, by decide, np_AL_size⟩ rfl d_A_list_9) (c_ALsize l G lo hp tA ta C.hA) Y_AL_size hl.1 ⟨Nat.le_of_ble_eq_true rfl, Nat.le_of_ble_eq_true rfl⟩ (Nat.le_of_ble_eq_true rfl) (Nat.le_of_ble_eq_true rfl) d_A_list_9 ?_
    refine ad_top (y := .int (nI ts.length)) (by rw [C.htt.1]) ?_
    refine lv_icmp_le (tgt := 25) hx hb d_A_list_12 (by decide) (fun c12 => ?_) (fun c12 => ?_)
    · obtain ⟨n0, hn31, rfl⟩ := nI_of c1
      have hn := C.hn
      have hn0 : n0 ≤ ts.length := (nI_leI hn31 (by omega)).mp c12
      have hcl : (nI n0).toNatClampNeg = n0 := nI_clamp hn31
      have hin9 : ¬ nI n0 < 0 ∧ nI n0 ≤ nI ts.length := ⟨c1, c12⟩
      refine lv_aload_n hx hb d_A_list_25 rfl (lv_at hl 0 rfl) ?_
      refine ad_cZi S I (ad_ivV (As := []) (rest := []) S (ad_recv I C.hX K_AD) w_304 w_306 sp_A_forgetLatest Y_A_forgetLatest ⟨by decide, by decide, np_A_forgetLatest⟩ rfl d_A_list_26) (c_A_forgetLatest l G lo hp x dA tA lA rA gA sA ta ros ts la lt rr rw sd fg fs C hm) Y_A_forgetLatest hl.1 ⟨Nat.le_of_ble_eq_true rfl, Nat.le_of_ble_eq_true rfl⟩ (Nat.le_of_ble_eq_true rfl) (Nat.le_of_ble_eq_true rfl) d_A_list_26 (fun hp1 H1 locs1 hA I => ?_)
      obtain ⟨C1, F1⟩ := hA
      have hmp := sp_zf_map (-1) lt ts
      refine lv_aload_n hx hb d_A_list_29 rfl (lv_at hl 0 rfl) ?_
      refine lv_iload_n hx hb d_A_list_30 rfl (lv_at hl 1 rfl) ?_
      refine ad_cZi S I (ad_ivV (As := [.int (nI n0)]) (rest := []) S (ad_recv I C1.hX K_AD) w_326 w_328 sp_A_shareOut Y_A_shareOut ⟨by decide, by decide, np_A_shareOut⟩ rfl d_A_list_31) (c_A_shareOut l G lo hp1 x dA tA lA rA gA sA ta ros _ [] [] rr rw sd fg fs n0 C1 (st_wfs hmp hw) (by rw [st_len hmp]; exact hn0)) Y_A_shareOut hl.1 ⟨Nat.le_of_ble_eq_true rfl, Nat.le_of_ble_eq_true rfl⟩ (Nat.le_of_ble_eq_true rfl) (Nat.le_of_ble_eq_true rfl) d_A_list_31 (fun hp2 H1 locs1 hA I => ?_)
      obtain ⟨fg2, fs2, C2, F2, hg2⟩ := hA
      rw [st_g hmp] at hg2
      refine lv_iconst (v := 0) hx hb d_A_list_34 (by decide) ?_
      refine lv_istore_n (lv' := [(2, .int 0), (0, .ref x), (1, .int (nI n0))]) hx hb d_A_list_35 rfl hl (by decide) rfl (fun ls hl => ?_)
      have loop : ∀ (n : Nat) (k : Nat) (fsj : Nat → Int32) (hpj : ad_H) (laj rrj rwj : List Nat) (cs ss : Nat) (H : Heap) (locs : List Loc), (6 < k + n ∧ k ≤ 6 ∧ cs = sp_sm (fun i => sp_cn ts i + sp_g ts n0 i) k ∧ ss = 100 * cs) → ad_I G lo s hpj H locs → CR G hpj x dA tA lA rA gA sA ta ros ((sp_ls ts n0 sd k).1.foldl (sp_z 0) (lt.foldl (sp_z (-1)) ts)) laj ((sp_ls ts n0 sd k).1) rrj rwj ((sp_ls ts n0 sd k).2) fg2 fsj → fr gA sA hp hpj → ∀ ls : Array Slot, lv_has ls 3 [(0, .ref x), (2, .int (nI k))] → W p l e (ad_rm 9 128 12800) s m ([.ref x, .int (nI n0)] : List Value).toArray below meth c H locs cs ss (ad_Z below G lo (fun r hp' => r = q_ans [ad_IAE] (q_ls (ts, lt, sd) (nI n0)).1 ∧ ∃ (la' rr' rw' : List Nat) (fg' fs' : Nat → Int32), CR G hp' x dA tA lA rA gA sA ta ros ((q_ls (ts, lt, sd) (nI n0)).2.1) la' ((q_ls (ts, lt, sd) (nI n0)).2.2.1) rr' rw' ((q_ls (ts, lt, sd) (nI n0)).2.2.2) fg' fs' ∧ fr gA sA hp hp') s 128 12800) (F0 m 36 ls []) := by
        intro n
        induction n with
        | zero => intro k fsj hpj laj rrj rwj cs ss H locs h0; exact absurd h0 (by omega)
        | succ n ih =>
          intro k fsj hpj laj rrj rwj cs ss H locs h0 I C F ls hl
          have hmk : ((sp_ls ts n0 sd k).1.foldl (sp_z 0) (lt.foldl (sp_z (-1)) ts)).map (fun t => t.1) = ts.map (fun t => t.1) := (sp_zf_map 0 _ _).trans hmp
          have ecn := st_cn hmk k
          have hll := sp_ls_l ts n0 sd k
          have hlm := sm_mono (sp_g ts n0) (i := k) (j := 6) (by omega)
          have hgs := g_sum hw hn0
          have hcsm := sm_mono (fun i => sp_cn ts i + sp_g ts n0 i) (i := k) (j := 6) (by omega)
          have hcs6 : sp_sm (fun i => sp_cn ts i + sp_g ts n0 i) 6 ≤ 128 := by rw [sm_add, cn_sum hw, hgs]; omega
          refine lv_iload_n hx hb d_A_list_36 rfl (lv_at hl 1 rfl) ?_
          refine lv_bipush (v := 6) hx hb d_A_list_37 (by decide) ?_
          refine lv_icmp_ge (tgt := 63) hx hb d_A_list_39 (by decide) (fun c39 => ?_) (fun c39 => ?_)
          · obtain rfl : k = 6 := by have := ad_ge (j := k) (n := 6) (by omega) (by omega) c39; omega
            refine lv_aload_n hx hb d_A_list_63 rfl (lv_at hl 0 rfl) ?_
            refine ad_get S I C.hX K_AD 2 (by decide) w_69 rfl d_A_list_64 ?_
            obtain ⟨_, hlA⟩ := C.hLa.self
            refine ad_cPi S I (ad_ivV (As := []) (rest := []) S (ad_recv I hlA K_AL) w_171 w_172 w_173 Y_AL_size ⟨by decide, by decide, np_AL_size⟩ rfl d_A_list_67) (c_ALsize l G lo hpj lA laj C.hLa) Y_AL_size hl.1 ⟨Nat.le_of_ble_eq_true rfl, Nat.le_of_ble_eq_true rfl⟩ (show cs + 0 ≤ 128 by omega) (show ss + 0 ≤ 12800 by omega) d_A_list_67 ?_
            refine ad_top (y := .int (nI n0)) (by rw [C.lkl.1, sp_ls_l, g_sum hw hn0]) ?_
            exact ad_iret M I rfl (by omega) (by omega) (⟨by rw [(show q_ls (ts, lt, sd) (nI n0) = ((0, nI n0), ((sp_ls ts n0 sd 6).1.foldl (sp_z 0) (lt.foldl (sp_z (-1)) ts), (sp_ls ts n0 sd 6).1, (sp_ls ts n0 sd 6).2)) by simp only [q_ls]; rw [if_pos hin9, hcl])]; rfl, laj, rrj, rwj, fg2, fsj, by rw [(show q_ls (ts, lt, sd) (nI n0) = ((0, nI n0), ((sp_ls ts n0 sd 6).1.foldl (sp_z 0) (lt.foldl (sp_z (-1)) ts), (sp_ls ts n0 sd 6).1, (sp_ls ts n0 sd 6).2)) by simp only [q_ls]; rw [if_pos hin9, hcl])]; exact C, F⟩) d_A_list_70
          · have hk : k < 6 := ad_lt (n := 6) (by omega) (by omega) c39
            have hgl := g_le hw hn0 k
            have hc1 := sm_mono (fun i => sp_cn ts i + sp_g ts n0 i) (i := k + 1) (j := 6) (by omega)
            have hg1 := sm_mono (sp_g ts n0) (i := k + 1) (j := 6) (by omega)
            have hcnl := sp_cn_le ts k
            simp only [sp_sm] at hc1 hg1
            have h024 := h0.2.2.1
            have h025 := h0.2.2.2
            simp only [sp_sm] at hcs6 hgs
            refine lv_aload_n hx hb d_A_list_42 rfl (lv_at hl 0 rfl) ?_
            refine lv_iload_n hx hb d_A_list_43 rfl (lv_at hl 1 rfl) ?_
            refine ad_cZi S I (ad_ivV (As := [.int (nI k)]) (rest := []) S (ad_recv I C.hX K_AD) w_342 w_344 sp_A_layRow Y_A_layRow ⟨by decide, by decide, np_A_layRow⟩ rfl d_A_list_44) (c_A_layRow l G lo hpj x dA tA lA rA gA sA ta ros _ laj (sp_ls ts n0 sd k).1 rrj rwj (sp_ls ts n0 sd k).2 fg2 fsj k C) Y_A_layRow hl.1 ⟨Nat.le_of_ble_eq_true rfl, Nat.le_of_ble_eq_true rfl⟩ (show cs + sp_cn ((sp_ls ts n0 sd k).1.foldl (sp_z 0) (lt.foldl (sp_z (-1)) ts)) k ≤ 128 by rw [ecn]; omega) (show ss + 100 * sp_cn ((sp_ls ts n0 sd k).1.foldl (sp_z 0) (lt.foldl (sp_z (-1)) ts)) k ≤ 12800 by rw [ecn]; omega) d_A_list_44 (fun hp3 H1 locs1 hA I => ?_)
            obtain ⟨rr3, C3, F3⟩ := hA
            rw [st_len hmk, st_row hmk] at C3
            refine lv_aload_n hx hb d_A_list_47 rfl (lv_at hl 0 rfl) ?_
            refine lv_aload_n hx hb d_A_list_48 rfl (lv_at hl 0 rfl) ?_
            refine ad_get S I C3.hX K_AD 4 (by decide) w_71 rfl d_A_list_49 ?_
            refine lv_iload_n hx hb d_A_list_52 rfl (lv_at hl 1 rfl) ?_
            refine ad_iald S I C3.hg (vp_in_nI (show k < 6 by omega) (by omega)) d_A_list_53 ?_
            refine ad_top (y := .int (nI (sp_g ts n0 k))) (congrArg Value.int (by rw [show (nI k).toNatClampNeg = k from nI_clamp (by omega)]; exact hg2 k hk)) ?_
            refine ad_cZi S I (ad_ivV (As := [.int (nI (sp_g ts n0 k))]) (rest := []) S (ad_recv I C3.hX K_AD) w_346 w_348 sp_A_takeFromRow Y_A_takeFromRow ⟨by decide, by decide, np_A_takeFromRow⟩ rfl d_A_list_54) (c_A_takeFromRow l G lo hp3 x dA tA lA rA gA sA ta ros _ laj (sp_ls ts n0 sd k).1 rr3 (sp_row ts k ts.length) (sp_ls ts n0 sd k).2 fg2 fsj (sp_g ts n0 k) C3 (by rw [sp_row_len]; exact hgl) (by rw [sp_row_len]; omega) (by omega)) Y_A_takeFromRow hl.1 ⟨Nat.le_of_ble_eq_true rfl, Nat.le_of_ble_eq_true rfl⟩ (show cs + sp_cn ((sp_ls ts n0 sd k).1.foldl (sp_z 0) (lt.foldl (sp_z (-1)) ts)) k + sp_g ts n0 k ≤ 128 by rw [ecn]; omega) (show ss + 100 * sp_cn ((sp_ls ts n0 sd k).1.foldl (sp_z 0) (lt.foldl (sp_z (-1)) ts)) k + 100 * sp_g ts n0 k ≤ 12800 by rw [ecn]; omega) d_A_list_54 (fun hp4 H1 locs1 hA I => ?_)
            obtain ⟨la4, rr4, C4, F4⟩ := hA
            rw [← List.foldl_append] at C4
            refine lv_iinc (v := (nI (k + 1))) (lv' := [(2, .int (nI (k + 1))), (0, .ref x)]) hx hb d_A_list_57 hl (k := 1) rfl (nI_1 k) (by decide) rfl (fun ls hl => ?_)
            refine lv_goto (tgt := 36) hx hb d_A_list_60 (by decide) ?_
            exact ih (k + 1) fsj hp4 la4 rr4 _ (cs + sp_cn ((sp_ls ts n0 sd k).1.foldl (sp_z 0) (lt.foldl (sp_z (-1)) ts)) k + sp_g ts n0 k) (ss + 100 * sp_cn ((sp_ls ts n0 sd k).1.foldl (sp_z 0) (lt.foldl (sp_z (-1)) ts)) k + 100 * sp_g ts n0 k) H1 locs1 ⟨by omega, by omega, by rw [ecn, h0.2.2.1]; simp only [sp_sm]; omega, by rw [h0.2.2.2]; omega⟩ I C4 ((F.tr F3).tr F4) ls (lv_sub hl [1, 0] rfl)
      exact loop 7 0 fs2 hp2 [] rr rw 0 0 H1 locs1 ⟨by omega, by omega, rfl, rfl⟩ I C2 (F1.tr F2) ls (lv_sub hl [1, 0] rfl)
    · obtain ⟨q9, hq9⟩ := hB.2.2.2.2.2.2.1 (66, "not so many things") (by decide)
      refine ad_thr S hT (X := "java/lang/IllegalArgumentException") (Yn := "java/lang/RuntimeException") (names := ["java/lang/Exception"]) (ix := 7) (bx := prog_11_method_2_code) (ic := 68) w_288 w_289 w_17 hq9 (ad_hat hB hts at_IAE) (by decide +kernel) (by decide +kernel) (by decide +kernel) (by decide +kernel) (by decide +kernel) (by decide +kernel) (by decide +kernel) hl.1 d_A_list_15 d_A_list_18 d_A_list_19 d_A_list_21 d_A_list_24 (by decide) (by decide) (by decide) (by decide) (fun H1 cell h1 h2 h3 h4 h5 => ?_)
      exact ad_out M (I.grown h1 h2) h3 h4 h5 (by decide) (by decide) (by decide) (⟨by rw [(show q_ls (ts, lt, sd) v = ((1, 0), (ts, lt, sd)) by simp only [q_ls]; rw [if_neg (fun h => c12 h.2)])]; rfl, la, rr, rw, fg, fs, by rw [(show q_ls (ts, lt, sd) v = ((1, 0), (ts, lt, sd)) by simp only [q_ls]; rw [if_neg (fun h => c12 h.2)])]; exact C, fr.rf _ _ _⟩)
