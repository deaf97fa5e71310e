theorem sp_z_get (v : Int32) (ts : List TH) (j i : Nat) : (sp_z v ts j)[i]? = ts[i]?.map (fun t => if i = j then sst v t else t) := by
  unfold sp_z
  cases h : ts[j]? with
  | none =>
    by_cases hij : i = j
    · subst hij; simp [h]
    · simp [hij]
  | some t =>
    obtain ⟨hj, e⟩ := List.getElem?_eq_some_iff.mp h
    by_cases hij : i = j
    · subst hij
      simp only [List.getElem?_set_self hj, h, Option.map_some, if_true]
    · simp only [List.getElem?_set_ne (Ne.symm hij), hij, if_false]
      simp
theorem zf_get (v : Int32) : ∀ (xs : List Nat) (ts : List TH) (i : Nat), (xs.foldl (sp_z v) ts)[i]? = ts[i]?.map (fun t => if i ∈ xs then sst v t else t)
  | [], ts, i => by simp
  | x :: xs, ts, i => by
    rw [List.foldl_cons, zf_get v xs, sp_z_get, Option.map_map]
    congr 1
    funext t
    simp only [Function.comp, List.mem_cons]
    by_cases h1 : i = x
    · by_cases h2 : i ∈ xs
      · simp [h1]
      · simp [h1]
    · simp [h1]
theorem zf_map {lt : List Nat} {ts : List TH} (h : ∀ (i : Nat) (t : TH), ts[i]? = some t → i ∉ lt → t.2.2.1 = -1) : lt.foldl (sp_z (-1)) ts = ts.map (sst (-1)) := by
  apply List.ext_getElem?
  intro i
  rw [zf_get, List.getElem?_map]
  cases e : ts[i]? with
  | none => rfl
  | some t =>
    simp only [Option.map_some]
    by_cases hi : i ∈ lt
    · rw [if_pos hi]
    · rw [if_neg hi]
      have := h i t e hi
      congr 1
      show t = (t.1, t.2.1, (-1 : Int32), t.2.2.2.1, t.2.2.2.2)
      rw [← this]
theorem rs_s {ts : List TH} {j : Nat} {t : TH} (h : ts[j]? = some t) : ((ts.take j).map (sst (-1)) ++ ts.drop j)[j]? = some t ∧ ((ts.take j).map (sst (-1)) ++ ts.drop j).set j (sst (-1) t) = (ts.take (j + 1)).map (sst (-1)) ++ ts.drop (j + 1) := by
  obtain ⟨hj, e⟩ := List.getElem?_eq_some_iff.mp h
  have hl : ((ts.take j).map (sst (-1))).length = j := by simp; omega
  rw [drop_s h, List.take_succ_eq_append_getElem hj, List.map_append, e]
  refine ⟨?_, ?_⟩
  · rw [List.getElem?_append_right (by omega), hl]; simp
  · rw [List.set_append_right _ _ (by omega), hl]; simp
theorem ls_0 (ts : List TH) (d : Int64) : ∀ k, sp_ls ts 0 d k = ([], d)
  | 0 => rfl
  | k + 1 => by
    have : sp_g ts 0 k = 0 := by simp [sp_g, sp_f, sp_m]
    simp [sp_ls, ls_0 ts d k, this, sp_tk]
theorem cl_le {v : Int32} {n : Nat} (h0 : ¬ v < 0) (h : v ≤ nI n) (hn : n ≤ 64) : v.toNatClampNeg ≤ n := by
  obtain ⟨j, hj, rfl⟩ := nI_of h0
  rw [nI_clamp hj]
  exact (nI_leI hj (by omega)).mp h
set_option maxHeartbeats 4000000 in
set_option maxRecDepth 100000 in
theorem c_M_list (l : Launch) (G : ad_G) (lo : Nat) (hp : ad_H) (m0 : Nat) (bs : Nat → Nat) (th : Int32) (sd : Int64) (fs : Nat → Nat → Int32) (ts : List TH) (lt : List Nat) (v : Int32)  (C : MC G hp m0 bs th sd (nI ts.length) (nI lt.length) fs) (A : MA ts lt fs) (hn : ts.length ≤ 64) (hw : wfs ts) (hwf : ∀ (i : Nat) (t : TH), ts[i]? = some t → i ∉ lt → t.2.2.1 = -1) : ad_Ct l y_M_list b_M_list 3 rt_M_list hs_M_list 4 0 0 G lo hp [.ref m0, .int v] (fun r hp' => r = .inl (some (.int ((q_ls (ts, lt, sd) v).1).2)) ∧ ∃ fs' : Nat → Nat → Int32, MC G hp' m0 bs (nI ((q_ls (ts, lt, sd) v).1).1) (q_ls (ts, lt, sd) v).2.2.2 (nI ((q_ls (ts, lt, sd) v).2.1).length) (nI ((q_ls (ts, lt, sd) v).2.2.1).length) fs' ∧ MA ((q_ls (ts, lt, sd) v).2.1) ((q_ls (ts, lt, sd) v).2.2.1) fs' ∧ mf m0 bs hp hp') := by
  intro p e s m below meth c M hts hB hP
  have hx := M.1
  have hb := M.2.1
  have hml := M.2.2.1
  have hown : s.vm.findClass "AuditDrawsModel" = some m.cls := M.2.2.2.1
  have S : CallFix p m c b_M_list 3 s _ ad_T "AuditDrawsModel" := ⟨hx, hb, hml, hown, hts⟩
  have I : ad_I G lo s hp s.heap [] := ad_I.rf hB hP
  have hl := lv_entry ([.ref m0, .int v]) (n := 3) (Nat.le_of_ble_eq_true rfl)
  rw [lg_entry_eq]
  generalize (lg_sl ([.ref m0, .int v]) ++ List.replicate (3 - (lg_sl ([.ref m0, .int v])).length) Slot.unset).toArray = ls at hl ⊢
  have hl : lv_has ls 3 [(0, .ref m0), (1, .int v)] := hl
  have hmp := sp_zf_map (-1) lt ts
  have loop : ∀ (n : Nat) (k : Nat) (hpj : ad_H) (fsj : Nat → Nat → Int32) (H : Heap) (locs : List Loc), (6 < k + n ∧ k ≤ 6) → ad_I G lo s hpj H locs → MC G hpj m0 bs 0 ((sp_ls ts v.toNatClampNeg sd k).2) (nI ts.length) (nI (sp_ls ts v.toNatClampNeg sd k).1.length) fsj → mf m0 bs hp hpj → MA ((sp_ls ts v.toNatClampNeg sd k).1.foldl (sp_z 0) (lt.foldl (sp_z (-1)) ts)) (sp_ls ts v.toNatClampNeg sd k).1 fsj → (∀ i, i < 6 → fsj 6 i = nI (sp_g ts v.toNatClampNeg i)) → (¬ v < 0 ∧ v ≤ nI ts.length) → ∀ ls : Array Slot, lv_has ls 3 [(0, .ref m0), (1, .int v), (2, .int (nI k))] → W p l e (ad_rm 4 0 0) s m ([.ref m0, .int v] : List Value).toArray below meth c H locs 0 0 (ad_Z below G lo (fun r hp' => r = .inl (some (.int ((q_ls (ts, lt, sd) v).1).2)) ∧ ∃ fs' : Nat → Nat → Int32, MC G hp' m0 bs (nI ((q_ls (ts, lt, sd) v).1).1) (q_ls (ts, lt, sd) v).2.2.2 (nI ((q_ls (ts, lt, sd) v).2.1).length) (nI ((q_ls (ts, lt, sd) v).2.2.1).length) fs' ∧ MA ((q_ls (ts, lt, sd) v).2.1) ((q_ls (ts, lt, sd) v).2.2.1) fs' ∧ mf m0 bs hp hp') s 0 0) (F0 m 69 ls []) := by
    intro n
    induction n with
    | zero => intro k hpj fsj H locs h0; exact absurd h0 (by omega)
    | succ n ih =>
      intro k hpj fsj H locs h0 I C F A hg hok ls hl
      refine lv_iload_n hx hb d_M_list_69 rfl (lv_at hl 2 rfl) ?_
      refine lv_bipush (v := 6) hx hb d_M_list_70 (by decide) ?_
      refine lv_icmp_ge (tgt := 86) hx hb d_M_list_72 (by decide) (fun c72 => ?_) (fun c72 => ?_)
      · obtain rfl : k = 6 := by have := ad_ge (j := k) (n := 6) (by omega) (by omega) c72; omega
        refine lv_iload_n hx hb d_M_list_86 rfl (lv_at hl 1 rfl) ?_
        exact ad_iret M I rfl (by omega) (by omega) (⟨by rw [(show q_ls (ts, lt, sd) v = ((0, v), ((sp_ls ts v.toNatClampNeg sd 6).1.foldl (sp_z 0) (lt.foldl (sp_z (-1)) ts), (sp_ls ts v.toNatClampNeg sd 6).1, (sp_ls ts v.toNatClampNeg sd 6).2)) from if_pos hok)], fsj, by rw [(show q_ls (ts, lt, sd) v = ((0, v), ((sp_ls ts v.toNatClampNeg sd 6).1.foldl (sp_z 0) (lt.foldl (sp_z (-1)) ts), (sp_ls ts v.toNatClampNeg sd 6).1, (sp_ls ts v.toNatClampNeg sd 6).2)) from if_pos hok)]; simp only []; rw [st_len ((sp_zf_map 0 _ _).trans hmp)]; exact C, by rw [(show q_ls (ts, lt, sd) v = ((0, v), ((sp_ls ts v.toNatClampNeg sd 6).1.foldl (sp_z 0) (lt.foldl (sp_z (-1)) ts), (sp_ls ts v.toNatClampNeg sd 6).1, (sp_ls ts v.toNatClampNeg sd 6).2)) from if_pos hok)]; exact A, F⟩) d_M_list_87
      · have hk : k < 6 := ad_lt (n := 6) (by omega) (by omega) c72
        refine lv_aload_n hx hb d_M_list_75 rfl (lv_at hl 0 rfl) ?_
        refine lv_iload_n hx hb d_M_list_76 rfl (lv_at hl 2 rfl) ?_
        have hmk : ((sp_ls ts v.toNatClampNeg sd k).1.foldl (sp_z 0) (lt.foldl (sp_z (-1)) ts)).map (fun t => t.1) = ts.map (fun t => t.1) := (sp_zf_map 0 _ _).trans hmp
        have hn0 := cl_le hok.1 hok.2 hn
        have hll := sp_ls_l ts v.toNatClampNeg sd k
        have hlm := sm_mono (sp_g ts v.toNatClampNeg) (i := k + 1) (j := 6) (by omega)
        have hgs := g_sum hw hn0
        have hgl := g_le hw hn0 k
        simp only [sp_sm] at hlm hgs
        refine ad_cZi S I (ad_ivV (As := [.int (nI k)]) (rest := []) S (ad_recv I C.1 K_Mod) w_631 w_633 sp_M_drawFrom Y_M_drawFrom ⟨by decide, by decide, np_M_drawFrom⟩ rfl d_M_list_77) (c_M_drawFrom l G lo hpj m0 bs 0 (sp_ls ts v.toNatClampNeg sd k).2 fsj ((sp_ls ts v.toNatClampNeg sd k).1.foldl (sp_z 0) (lt.foldl (sp_z (-1)) ts)) (sp_ls ts v.toNatClampNeg sd k).1 k (sp_g ts v.toNatClampNeg k) (by rw [st_len hmk]; exact C) A (by rw [st_len hmk]; exact hn) hk (hg k hk) (by rw [st_cn hmk]; exact hgl) (by omega)) Y_M_drawFrom hl.1 ⟨Nat.le_of_ble_eq_true rfl, Nat.le_of_ble_eq_true rfl⟩ (Nat.le_of_ble_eq_true rfl) (Nat.le_of_ble_eq_true rfl) d_M_list_77 (fun hp9 H1 locs1 hA I => ?_)
        obtain ⟨fs9, C9, A9, h69, F9⟩ := hA
        rw [st_len hmk, st_row hmk] at C9 A9
        rw [← List.foldl_append] at A9
        have C9 : MC G hp9 m0 bs 0 (sp_ls ts v.toNatClampNeg sd (k + 1)).2 (nI ts.length) (nI (sp_ls ts v.toNatClampNeg sd (k + 1)).1.length) fs9 := by rw [show (sp_ls ts v.toNatClampNeg sd (k + 1)).1.length = (sp_ls ts v.toNatClampNeg sd k).1.length + sp_g ts v.toNatClampNeg k by simp only [sp_ls, List.length_append, (sp_tk_l _ _ _).2]]; exact C9
        refine lv_iinc (v := (nI (k + 1))) (lv' := [(2, .int (nI (k + 1))), (0, .ref m0), (1, .int v)]) hx hb d_M_list_80 hl (k := 2) rfl (nI_1 k) (by decide) rfl (fun ls hl => ?_)
        refine lv_goto (tgt := 69) hx hb d_M_list_83 (by decide) ?_
        exact ih (k + 1) hp9 fs9 H1 locs1 (by omega) I C9 (F.tr F9) A9 (fun i hi => by rw [h69]; exact hg i hi) hok ls (lv_sub hl [1, 2, 0] rfl)
  have reset : ∀ (n : Nat) (j : Nat) (hpj : ad_H) (fsj : Nat → Nat → Int32) (H : Heap) (locs : List Loc), (ts.length < j + n ∧ j ≤ ts.length) → ad_I G lo s hpj H locs → MC G hpj m0 bs 0 sd (nI ts.length) 0 fsj → mf m0 bs hp hpj → MA ((ts.take j).map (sst (-1)) ++ ts.drop j) [] fsj → (¬ v < 0 ∧ v ≤ nI ts.length) → ∀ ls : Array Slot, lv_has ls 3 [(0, .ref m0), (1, .int v), (2, .int (nI j))] → W p l e (ad_rm 4 0 0) s m ([.ref m0, .int v] : List Value).toArray below meth c H locs 0 0 (ad_Z below G lo (fun r hp' => r = .inl (some (.int ((q_ls (ts, lt, sd) v).1).2)) ∧ ∃ fs' : Nat → Nat → Int32, MC G hp' m0 bs (nI ((q_ls (ts, lt, sd) v).1).1) (q_ls (ts, lt, sd) v).2.2.2 (nI ((q_ls (ts, lt, sd) v).2.1).length) (nI ((q_ls (ts, lt, sd) v).2.2.1).length) fs' ∧ MA ((q_ls (ts, lt, sd) v).2.1) ((q_ls (ts, lt, sd) v).2.2.1) fs' ∧ mf m0 bs hp hp') s 0 0) (F0 m 37 ls []) := by
    intro n
    induction n with
    | zero => intro j hpj fsj H locs h0; exact absurd h0 (by omega)
    | succ n ih =>
      intro j hpj fsj H locs h0 I C F A hok ls hl
      refine lv_iload_n hx hb d_M_list_37 rfl (lv_at hl 2 rfl) ?_
      refine lv_aload_n hx hb d_M_list_38 rfl (lv_at hl 0 rfl) ?_
      refine ad_get S I C.1 K_Mod 2 (by decide) w_550 rfl d_M_list_39 ?_
      refine lv_icmp_ge (tgt := 58) hx hb d_M_list_42 (by decide) (fun c42 => ?_) (fun c42 => ?_)
      · obtain rfl : j = ts.length := by have := ad_ge (j := j) (n := ts.length) (by omega) (by omega) c42; omega
        rw [List.take_length, List.drop_length, List.append_nil, ← zf_map hwf] at A
        refine lv_iload_n hx hb d_M_list_58 rfl (lv_at hl 1 rfl) ?_
        refine lv_if_le (tgt := 86) hx hb d_M_list_59 (by decide) (fun c59 => ?_) (fun c59 => ?_)
        · refine lv_iload_n hx hb d_M_list_86 rfl (lv_at hl 1 rfl) ?_
          exact ad_iret M I rfl (by omega) (by omega) (⟨by rw [(show q_ls (ts, lt, sd) v = ((0, v), ((sp_ls ts v.toNatClampNeg sd 6).1.foldl (sp_z 0) (lt.foldl (sp_z (-1)) ts), (sp_ls ts v.toNatClampNeg sd 6).1, (sp_ls ts v.toNatClampNeg sd 6).2)) from if_pos hok)], fsj, by rw [(show q_ls (ts, lt, sd) v = ((0, v), ((sp_ls ts v.toNatClampNeg sd 6).1.foldl (sp_z 0) (lt.foldl (sp_z (-1)) ts), (sp_ls ts v.toNatClampNeg sd 6).1, (sp_ls ts v.toNatClampNeg sd 6).2)) from if_pos hok), show v.toNatClampNeg = 0 from Nat.le_zero.mp ((nI_leI (b := 0) (cl_lt v) (by omega)).mp (by rw [← nI_cl hok.1]; exact c59)), ls_0]; simp only [List.foldl_nil]; rw [st_len hmp]; exact C, by rw [(show q_ls (ts, lt, sd) v = ((0, v), ((sp_ls ts v.toNatClampNeg sd 6).1.foldl (sp_z 0) (lt.foldl (sp_z (-1)) ts), (sp_ls ts v.toNatClampNeg sd 6).1, (sp_ls ts v.toNatClampNeg sd 6).2)) from if_pos hok), show v.toNatClampNeg = 0 from Nat.le_zero.mp ((nI_leI (b := 0) (cl_lt v) (by omega)).mp (by rw [← nI_cl hok.1]; exact c59)), ls_0]; exact A, F⟩) d_M_list_87
        · refine lv_aload_n hx hb d_M_list_62 rfl (lv_at hl 0 rfl) ?_
          refine lv_iload_n hx hb d_M_list_63 rfl (lv_at hl 1 rfl) ?_
          refine ad_top (y := .int (nI v.toNatClampNeg)) (congrArg Value.int (nI_cl hok.1)) ?_
          have hn0 := cl_le hok.1 hok.2 hn
          have hp9 : 0 < v.toNatClampNeg := Nat.pos_of_ne_zero (fun h => c59 (by rw [nI_cl hok.1, h]; decide))
          refine ad_cZi S I (ad_ivV (As := [.int (nI v.toNatClampNeg)]) (rest := []) S (ad_recv I C.1 K_Mod) w_619 w_621 sp_M_divide Y_M_divide ⟨by decide, by decide, np_M_divide⟩ rfl d_M_list_64) (c_M_divide l G lo hpj m0 bs 0 sd 0 fsj (lt.foldl (sp_z (-1)) ts) [] (by rw [st_len hmp]; exact C) A (by rw [st_len hmp]; exact hn) (st_wfs hmp hw) v.toNatClampNeg (by rw [st_len hmp]; exact hn0) (by rw [st_len hmp]; omega)) Y_M_divide hl.1 ⟨Nat.le_of_ble_eq_true rfl, Nat.le_of_ble_eq_true rfl⟩ (Nat.le_of_ble_eq_true rfl) (Nat.le_of_ble_eq_true rfl) d_M_list_64 (fun hp8 H1 locs1 hA I => ?_)
          obtain ⟨fs8, C8, h68, F8⟩ := hA
          rw [st_len hmp] at C8
          rw [st_g hmp] at h68
          have A8 := A
          refine lv_iconst (v := 0) hx hb d_M_list_67 (by decide) ?_
          refine lv_istore_n (lv' := [(2, .int 0), (0, .ref m0), (1, .int v)]) hx hb d_M_list_68 rfl hl (by decide) rfl (fun ls hl => ?_)
          exact loop 7 0 hp8 fs8 H1 locs1 (by omega) I C8 (F.tr F8) (A8.cong (fun k _ h => h68.1 k h)) h68.2 hok ls (lv_sub hl [1, 2, 0] rfl)
      · have hj : j < ts.length := ad_lt (by omega) (by omega) c42
        obtain ⟨t, ht⟩ : ∃ t, ts[j]? = some t := ⟨_, List.getElem?_eq_getElem hj⟩
        refine lv_aload_n hx hb d_M_list_45 rfl (lv_at hl 0 rfl) ?_
        refine ad_get S I C.1 K_Mod 8 (by decide) w_556 rfl d_M_list_46 ?_
        refine lv_iload_n hx hb d_M_list_49 rfl (lv_at hl 2 rfl) ?_
        refine lv_iconst (v := (-1)) hx hb d_M_list_50 (by decide) ?_
        refine ad_iast S I (C.2.1 4 (by decide)) (vp_in_nI (show j < 64 by omega) (by decide)) d_M_list_51 (fun H1 locs1 I => ?_)
        rw [show (nI j).toNatClampNeg = j from nI_clamp (by omega)] at I
        obtain ⟨hp101, ehp101⟩ : ∃ z : ad_H, z = ad_up hpj (bs 4) (.inl (G.2.1 0, 64, .inl (upd (fsj 4) j (-1)))) := ⟨_, rfl⟩
        have I : ad_I G lo s hp101 H1 locs1 := by rw [ehp101]; exact I
        obtain ⟨C101, F101⟩ := MC.arr (hp' := hp101) C 4 (by decide) (by rw [ehp101]; exact ad_up_s _ _ _) (fun z hz => by rw [ehp101]; exact ad_up_n _ hz)
        refine lv_iinc (v := (nI (j + 1))) (lv' := [(2, .int (nI (j + 1))), (0, .ref m0), (1, .int v)]) hx hb d_M_list_52 hl (k := 2) rfl (nI_1 j) (by decide) rfl (fun ls hl => ?_)
        refine lv_goto (tgt := 37) hx hb d_M_list_55 (by decide) ?_
        exact ih (j + 1) hp101 (updF fsj 4 (upd (fsj 4) j (-1))) H1 locs1 (by omega) I C101 (F.tr F101) (by rw [← (rs_s ht).2]; exact A.st (rs_s ht).1 (-1)) hok ls (lv_sub hl [1, 2, 0] rfl)
  refine lv_aload_n hx hb d_M_list_0 rfl (lv_at hl 0 rfl) ?_
  refine lv_iload_n hx hb d_M_list_1 rfl (lv_at hl 1 rfl) ?_
  refine lv_i2l (v := v.toInt64) hx hb d_M_list_2 rfl ?_
  refine lv_lconst (v := 0) hx hb d_M_list_3 (by decide) ?_
  refine lv_aload_n hx hb d_M_list_4 rfl (lv_at hl 0 rfl) ?_
  refine ad_get S I C.1 K_Mod 2 (by decide) w_550 rfl d_M_list_5 ?_
  refine lv_i2l (v := (nI ts.length).toInt64) hx hb d_M_list_8 rfl ?_
  refine ad_cPi S I (ad_ivS (As := [.long v.toInt64, .long 0, .long ((nI ts.length).toInt64)]) (rest := [.ref m0]) S Y_M_in w_607 w_608 w_6 ⟨by decide, by decide, np_M_in⟩ rfl d_M_list_9) (c_M_in l G lo hp v.toInt64 0 ((nI ts.length).toInt64)) Y_M_in hl.1 ⟨Nat.le_of_ble_eq_true rfl, Nat.le_of_ble_eq_true rfl⟩ (Nat.le_of_ble_eq_true rfl) (Nat.le_of_ble_eq_true rfl) d_M_list_9 ?_
  refine lv_if_ne (tgt := 19) hx hb d_M_list_12 (by decide) (fun c12 => ?_) (fun c12 => ?_)
  · rw [in_le _ _ (nI ts.length) (Int32.toInt_toInt64 _), Decidable.not_not] at c12
    refine lv_iconst (v := 0) hx hb d_M_list_19 (by decide) ?_
    refine lv_iconst (v := 0) hx hb d_M_list_20 (by decide) ?_
    refine lv_iconst (v := 0) hx hb d_M_list_21 (by decide) ?_
    refine ad_cZi S I (ad_ivV (As := [.int 0, .int 0, .int 0]) (rest := []) S (ad_recv I C.1 K_Mod) w_611 w_613 sp_M_fails Y_M_fails ⟨by decide, by decide, np_M_fails⟩ rfl d_M_list_22) (c_M_fails l G lo hp m0 bs th sd (nI ts.length) (nI lt.length) fs 0 0 0 C) Y_M_fails hl.1 ⟨Nat.le_of_ble_eq_true rfl, Nat.le_of_ble_eq_true rfl⟩ (Nat.le_of_ble_eq_true rfl) (Nat.le_of_ble_eq_true rfl) d_M_list_22 (fun hp1 H1 locs1 hA I => ?_)
    obtain ⟨C1, F1⟩ := hA
    have C1 : MC G hp1 m0 bs 0 sd (nI ts.length) (nI lt.length) fs := C1
    refine ad_top (y := .int 0) (by rfl) ?_
    refine lv_if_eq (tgt := 30) hx hb d_M_list_25 (by decide) (fun c25 => ?_) (fun c25 => ?_)
    · refine lv_aload_n hx hb d_M_list_30 rfl (lv_at hl 0 rfl) ?_
      refine lv_iconst (v := 0) hx hb d_M_list_31 (by decide) ?_
      refine ad_put S I C1.1 K_Mod 6 (by decide) w_554 rfl rfl rfl (by simp) d_M_list_32 (fun H1 locs1 I => ?_)
      obtain ⟨hp2, ehp2⟩ : ∃ z : ad_H, z = ad_up hp1 m0 (.inr (5, [.int 0, .long sd, .int (nI ts.length), .ref (bs 0), .ref (bs 1), .ref (bs 2), .int 0, .ref (bs 3), .ref (bs 4), .ref (bs 5), .ref (bs 6), .ref (bs 7), .ref (bs 8), .ref (bs 9), .ref (bs 10)])) := ⟨_, rfl⟩
      have I : ad_I G lo s hp2 H1 locs1 := by rw [ehp2]; exact I
      obtain ⟨C2, F2⟩ := MC.fld (hp' := hp2) C1 (by rw [ehp2]; exact ad_up_s _ _ _) (fun z hz => by rw [ehp2]; exact ad_up_n _ hz)
      refine lv_iconst (v := 0) hx hb d_M_list_35 (by decide) ?_
      refine lv_istore_n (lv' := [(2, .int 0), (0, .ref m0), (1, .int v)]) hx hb d_M_list_36 rfl hl (by decide) rfl (fun ls hl => ?_)
      exact reset (ts.length + 1) 0 hp2 fs H1 locs1 (by omega) I C2 (F1.tr F2) (by rw [show (ts.take 0).map (sst (-1)) ++ ts.drop 0 = ts by simp]; exact A.nil) c12 ls (lv_sub hl [1, 2, 0] rfl)
    · exact absurd c25 (by decide)
  · rw [in_le _ _ (nI ts.length) (Int32.toInt_toInt64 _)] at c12
    refine lv_iconst (v := 1) hx hb d_M_list_15 (by decide) ?_
    refine lv_goto (tgt := 20) hx hb d_M_list_16 (by decide) ?_
    refine lv_iconst (v := 0) hx hb d_M_list_20 (by decide) ?_
    refine lv_iconst (v := 0) hx hb d_M_list_21 (by decide) ?_
    refine ad_cZi S I (ad_ivV (As := [.int 1, .int 0, .int 0]) (rest := []) S (ad_recv I C.1 K_Mod) w_611 w_613 sp_M_fails Y_M_fails ⟨by decide, by decide, np_M_fails⟩ rfl d_M_list_22) (c_M_fails l G lo hp m0 bs th sd (nI ts.length) (nI lt.length) fs 1 0 0 C) Y_M_fails hl.1 ⟨Nat.le_of_ble_eq_true rfl, Nat.le_of_ble_eq_true rfl⟩ (Nat.le_of_ble_eq_true rfl) (Nat.le_of_ble_eq_true rfl) d_M_list_22 (fun hp3 H1 locs1 hA I => ?_)
    obtain ⟨C3, F3⟩ := hA
    have C3 : MC G hp3 m0 bs 1 sd (nI ts.length) (nI lt.length) fs := C3
    refine ad_top (y := .int 1) (by rfl) ?_
    refine lv_if_eq (tgt := 30) hx hb d_M_list_25 (by decide) (fun c25 => ?_) (fun c25 => ?_)
    · exact absurd c25 (by decide)
    · refine lv_iconst (v := 0) hx hb d_M_list_28 (by decide) ?_
      exact ad_iret M I rfl (by omega) (by omega) (⟨by rw [(show q_ls (ts, lt, sd) v = ((1, 0), (ts, lt, sd)) from if_neg c12)], fs, by rw [(show q_ls (ts, lt, sd) v = ((1, 0), (ts, lt, sd)) from if_neg c12)]; exact C3, by rw [(show q_ls (ts, lt, sd) v = ((1, 0), (ts, lt, sd)) from if_neg c12)]; exact A, F3⟩) d_M_list_29
