theorem cr_none {p : Nat → Bool} {x : Nat} : ∀ n, n ≤ x → (List.range n).countP (fun i => decide (i = x) && p i) = 0
  | 0, _ => rfl
  | n + 1, h => by
    rw [List.range_succ, List.countP_append, cr_none n (by omega), List.countP_singleton]
    simp [show ¬ n = x by omega]
theorem cr_one {p : Nat → Bool} {x : Nat} : ∀ n, x < n → (List.range n).countP (fun i => decide (i = x) && p i) = if p x then 1 else 0
  | 0, h => by omega
  | n + 1, h => by
    rw [List.range_succ, List.countP_append, List.countP_singleton]
    by_cases hx : n = x
    · subst hx
      rw [cr_none n (Nat.le_refl _)]
      simp
    · rw [cr_one n (by omega)]
      simp [hx]
theorem cr_nd {p : Nat → Bool} {n : Nat} : ∀ {L : List Nat}, L.Nodup → (∀ i ∈ L, i < n) → L.countP p = (List.range n).countP (fun i => decide (i ∈ L) && p i)
  | [], _, _ => by simp
  | x :: L, h, h2 => by
    rw [List.nodup_cons] at h
    rw [List.countP_cons, cr_nd h.2 (fun i hi => h2 i (List.mem_cons_of_mem _ hi))]
    have e : (List.range n).countP (fun i => decide (i ∈ x :: L) && p i) = (List.range n).countP (fun i => (decide (i ∈ L) && p i) || (decide (i = x) && p i)) := by
      refine List.countP_congr (fun i _ => ?_)
      simp only [List.mem_cons, Bool.and_eq_true, Bool.or_eq_true, decide_eq_true_eq]
      constructor
      · rintro ⟨q | q, r⟩
        · exact Or.inr ⟨q, r⟩
        · exact Or.inl ⟨q, r⟩
      · rintro (⟨q, r⟩ | ⟨q, r⟩)
        · exact ⟨Or.inr q, r⟩
        · exact ⟨Or.inl q, r⟩
    rw [e, cp_add (fun i _ hi => ?_), cr_one n (h2 x (List.mem_cons_self))]
    simp only [Bool.and_eq_true, decide_eq_true_eq] at hi
    rw [Bool.and_eq_false_iff]
    refine Or.inl (decide_eq_false_iff_not.mpr fun hh => h.1 (hh ▸ hi.1))
theorem lp_take {ts : List TH} {f : TH → Bool} : ∀ j, j ≤ ts.length → (List.range j).countP (sp_lp ts f) = (ts.take j).countP f
  | 0, _ => by simp
  | j + 1, h => by
    have ht : ts[j]? = some ts[j] := List.getElem?_eq_getElem (by omega)
    rw [List.range_succ, List.countP_append, lp_take j (by omega), cnt_s ht, List.countP_singleton, sp_lp_e ht]
def WF (A : AST) : Prop := wfs A.1 ∧ A.1.length ≤ 64 ∧ (∀ t ∈ A.1, t.2.2.1 = -1 ∨ 0 ≤ t.2.2.1) ∧ (∀ t ∈ A.1, t.2.2.2.2.length ≤ 24) ∧ (∀ t ∈ A.1, 0 ≤ t.2.2.2.1 ∧ t.2.2.2.1 ≤ 1000000000) ∧ A.2.1.length ≤ 64 ∧ A.2.1.Nodup ∧ ∀ i, i ∈ A.2.1 ↔ ∃ t, A.1[i]? = some t ∧ t.2.2.1 ≠ -1
theorem WF.cl {ts : List TH} {lt : List Nat} {d : Int64} (h : WF (ts, lt, d)) (s0 q0 : Int32) (hq : q0 ≠ -1) : sp_cl ts lt s0 q0 = cc ts s0 q0 := by
  obtain ⟨-, -, -, -, -, -, hnd, hm⟩ := h
  unfold sp_cl cc
  have hlt : ∀ i ∈ lt, i < ts.length := fun i hi => by
    obtain ⟨t, ht, -⟩ := (hm i).mp hi
    exact (List.getElem?_eq_some_iff.mp ht).1
  rw [cr_nd hnd hlt, show ts.countP _ = (ts.take ts.length).countP (fun t => decide (t.1 = s0 ∧ t.2.2.1 = q0)) by rw [List.take_length], ← lp_take ts.length (Nat.le_refl _)]
  refine List.countP_congr (fun i hi => ?_)
  have hi := List.mem_range.mp hi
  have ht : ts[i]? = some ts[i] := List.getElem?_eq_getElem hi
  rw [sp_lp_e ht]
  simp only [Bool.and_eq_true, decide_eq_true_eq]
  exact ⟨fun h => h.2, fun h => ⟨(hm i).mpr ⟨_, ht, by rw [h.2]; exact hq⟩, h⟩⟩
theorem WF.un {ts : List TH} {lt : List Nat} {d : Int64} (h : WF (ts, lt, d)) : ∀ (i : Nat) (t : TH), ts[i]? = some t → i ∉ lt → t.2.2.1 = -1 := by
  intro i t ht hi
  refine Decidable.byContradiction fun hne => hi ((h.2.2.2.2.2.2.2 i).mpr ⟨t, ht, hne⟩)
theorem set_mem {ts : List TH} {j : Nat} {t' t2 : TH} (h : t2 ∈ ts.set j t') : t2 ∈ ts ∨ t2 = t' := List.mem_or_eq_of_mem_set h
theorem WF.set {ts : List TH} {lt : List Nat} {d : Int64} (h : WF (ts, lt, d)) {j : Nat} {t t' : TH} (ht : ts[j]? = some t) (h1 : t'.1 = t.1) (h2 : t'.2.2.1 = -1 ∨ 0 ≤ t'.2.2.1) (h3 : t'.2.2.2.2.length ≤ 24) (h4 : 0 ≤ t'.2.2.2.1 ∧ t'.2.2.2.1 ≤ 1000000000) (h5 : t'.2.2.1 = -1 ↔ t.2.2.1 = -1) : WF (ts.set j t', lt, d) := by
  obtain ⟨w1, w2, w3, w4, w5, w6, w7, w8⟩ := h
  have hjl : j < ts.length := (List.getElem?_eq_some_iff.mp ht).1
  have hmt := List.mem_of_getElem? ht
  refine ⟨fun t2 h => ?_, by simp only [List.length_set]; exact w2, fun t2 h => ?_, fun t2 h => ?_, fun t2 h => ?_, w6, w7, fun i => ?_⟩
  · rcases set_mem h with h | h
    · exact w1 t2 h
    · rw [h, h1]; exact w1 t hmt
  · rcases set_mem h with h | h
    · exact w3 t2 h
    · rw [h]; exact h2
  · rcases set_mem h with h | h
    · exact w4 t2 h
    · rw [h]; exact h3
  · rcases set_mem h with h | h
    · exact w5 t2 h
    · rw [h]; exact h4
  · show i ∈ lt ↔ ∃ t2, (ts.set j t')[i]? = some t2 ∧ t2.2.2.1 ≠ -1
    rw [w8 i]
    by_cases hij : i = j
    · subst hij
      show (∃ t2, ts[i]? = some t2 ∧ _) ↔ _
      rw [List.getElem?_set_self hjl, ht]
      constructor
      · rintro ⟨t2, e, hh⟩
        cases e
        exact ⟨t', rfl, fun hq => hh (h5.mp hq)⟩
      · rintro ⟨t2, e, hh⟩
        cases e
        exact ⟨t, rfl, fun hq => hh (h5.mpr hq)⟩
    · rw [List.getElem?_set_ne (Ne.symm hij)]
theorem at_j {ts : List TH} {v : Int32} {t : TH} (h : sp_at ts v = some t) : ts[v.toNatClampNeg]? = some t := by
  unfold sp_at at h
  split at h
  · cases h
  · exact h
theorem WF.ck {ts : List TH} {lt : List Nat} {d : Int64} (h : WF (ts, lt, d)) (v a0 b0 p0 : Int32) : WF ((q_ck ts v a0 b0 p0).2, lt, d) := by
  unfold q_ck
  split
  · exact h
  · next t e =>
    have ht := at_j e
    have hm := List.mem_of_getElem? ht
    split
    · split
      · exact h
      · next hs =>
        split
        · exact h
        · split
          · exact h.set ht rfl (Or.inr (show (0 : Int32) ≤ 1 by decide)) (h.2.2.2.1 t hm) (h.2.2.2.2.1 t hm) ⟨fun q => absurd q (show ¬ (1 : Int32) = -1 by decide), fun q => absurd q hs⟩
          · exact h.set ht rfl (Or.inr (show (0 : Int32) ≤ 2 by decide)) (h.2.2.2.1 t hm) (h.2.2.2.2.1 t hm) ⟨fun q => absurd q (show ¬ (2 : Int32) = -1 by decide), fun q => absurd q hs⟩
    · exact h
theorem WF.gn {ts : List TH} {lt : List Nat} {d : Int64} (h : WF (ts, lt, d)) (v : Int32) : WF ((q_gn ts v).2, lt, d) := by
  unfold q_gn
  split
  · exact h
  · next t e =>
    have ht := at_j e
    have hm := List.mem_of_getElem? ht
    split
    · exact h
    · next hs => exact h.set ht rfl (Or.inr (show (0 : Int32) ≤ 3 by decide)) (h.2.2.2.1 t hm) (h.2.2.2.2.1 t hm) ⟨fun q => absurd q (show ¬ (3 : Int32) = -1 by decide), fun q => absurd q hs⟩
theorem WF.wt {ts : List TH} {lt : List Nat} {d : Int64} (h : WF (ts, lt, d)) (v g0 : Int32) : WF ((q_wt ts v g0).2, lt, d) := by
  unfold q_wt
  split
  · exact h
  · next t e =>
    have ht := at_j e
    have hm := List.mem_of_getElem? ht
    split
    · exact h
    · next hs => exact h.set ht rfl (h.2.2.1 t hm) (h.2.2.2.1 t hm) (wt_r hs) Iff.rfl
theorem WF.tg {ts : List TH} {lt : List Nat} {d : Int64} (h : WF (ts, lt, d)) (v h0 p0 d0 : Int32) : WF ((q_tg ts v h0 p0 d0).2, lt, d) := by
  unfold q_tg
  split
  · exact h
  · next t e =>
    have ht := at_j e
    have hm := List.mem_of_getElem? ht
    split
    · split
      · split
        · next hl => exact h.set ht rfl (h.2.2.1 t hm) (by simp; omega) (h.2.2.2.2.1 t hm) Iff.rfl
        · exact h
      · exact h
    · exact h
theorem WF.th {ts : List TH} {lt : List Nat} {d : Int64} (h : WF (ts, lt, d)) (s0 p0 : Int32) : WF ((q_th ts s0 p0).2, lt, d) := by
  unfold q_th
  split
  · next hok =>
    split
    · next hl =>
      obtain ⟨w1, w2, w3, w4, w5, w6, w7, w8⟩ := h
      have key : ∀ {P : TH → Prop}, (∀ t ∈ ts, P t) → P (s0, p0, -1, 0, []) → ∀ t ∈ ts ++ [(s0, p0, -1, 0, [])], P t := by
        intro P h1 h2 t ht
        rw [List.mem_append, List.mem_singleton] at ht
        rcases ht with ht | rfl
        · exact h1 t ht
        · exact h2
      refine ⟨key w1 ?_, by simp; omega, key w3 (Or.inl rfl), key w4 (by simp), key w5 (show (0 : Int32) ≤ 0 ∧ (0 : Int32) ≤ 1000000000 by decide), w6, w7, fun i => ?_⟩
      · obtain ⟨k, hk, e⟩ := ad_2 (n := 6) hok.1.1 hok.1.2 (by omega)
        exact ⟨k, hk, e⟩
      · show i ∈ lt ↔ ∃ t, (ts ++ [(s0, p0, -1, 0, [])])[i]? = some t ∧ t.2.2.1 ≠ -1
        rw [w8 i]
        show (∃ t, ts[i]? = some t ∧ _) ↔ _
        rw [List.getElem?_append]
        by_cases hi : i < ts.length
        · rw [if_pos hi]
        · rw [if_neg hi, List.getElem?_eq_none (by omega)]
          constructor
          · rintro ⟨t, e, -⟩; cases e
          · rintro ⟨t, e, hh⟩
            have : i - ts.length = 0 := by
              have := (List.getElem?_eq_some_iff.mp e).1
              simp at this; omega
            rw [this] at e
            simp at e
            subst e
            exact absurd rfl hh
    · exact h
  · exact h
def NI (l : List Nat) : Prop := ∀ a b x : Nat, l[a]? = some x → l[b]? = some x → a = b
theorem NI.nd {l : List Nat} (h : NI l) : l.Nodup := by
  unfold List.Nodup
  rw [List.pairwise_iff_getElem]
  intro i j hi hj hij e
  have := h i j _ (List.getElem?_eq_getElem hi) (by rw [List.getElem?_eq_getElem hj, e])
  omega
theorem NI.sw {l : List Nat} (h : NI l) {i o x y : Nat} (hi : l[i]? = some x) (ho : l[o]? = some y) : NI ((l.set o x).set i y) := by
  have h1 := (List.getElem?_eq_some_iff.mp hi).1
  have h2 := (List.getElem?_eq_some_iff.mp ho).1
  have e : ∀ q, ((l.set o x).set i y)[q]? = l[if q = i then o else if q = o then i else q]? := by
    intro q
    by_cases q1 : q = i
    · subst q1
      rw [if_pos rfl, List.getElem?_set_self (by simp; omega), ho]
    · rw [if_neg q1, List.getElem?_set_ne (Ne.symm q1)]
      by_cases q2 : q = o
      · subst q2
        rw [if_pos rfl, List.getElem?_set_self h2, hi]
      · rw [if_neg q2, List.getElem?_set_ne (Ne.symm q2)]
  intro a b z ha hb
  rw [e] at ha hb
  have := h _ _ z ha hb
  split at this <;> split at this <;> (try split at this) <;> (try split at this) <;> omega
theorem tk_ni {rw : List Nat} (d : Int64) (hl : rw.length < 2 ^ 31) (hN : NI rw) : ∀ i, i ≤ rw.length → NI (sp_tk rw d i).1 ∧ ∀ a, a < i → (sp_tk rw d i).2.1[a]? = (sp_tk rw d i).1[a]?
  | 0, _ => ⟨hN, fun a h => by omega⟩
  | i + 1, h => by
    obtain ⟨h1, h2⟩ := tk_ni d hl hN i (by omega)
    have hll := sp_tk_l rw d i
    have hix := (ix_n (sp_dr (sp_tk rw d i).2.2) (k := rw.length - i) (by omega) (by omega)).2
    obtain ⟨o9, ho⟩ : ∃ o9, o9 = i + ixN (sp_dr (sp_tk rw d i).2.2) (rw.length - i) := ⟨_, rfl⟩
    rw [sp_tk_s ho rfl rfl]
    have e1 := gd_e (xs := (sp_tk rw d i).1) (k := i) (by omega)
    have e2 := gd_e (xs := (sp_tk rw d i).1) (k := o9) (by omega)
    refine ⟨h1.sw e1 e2, fun a ha => ?_⟩
    show ((sp_tk rw d i).2.1 ++ [(sp_tk rw d i).1.getD o9 0])[a]? = (((sp_tk rw d i).1.set o9 ((sp_tk rw d i).1.getD i 0)).set i ((sp_tk rw d i).1.getD o9 0))[a]?
    by_cases hai : a = i
    · subst hai
      rw [List.getElem?_append_right (by omega), hll.2, List.getElem?_set_self (by simp; omega)]
      simp
    · rw [List.getElem?_append_left (by omega), List.getElem?_set_ne (by omega), List.getElem?_set_ne (by omega), h2 a (by omega)]
theorem tk_nd {rw : List Nat} (d : Int64) (hl : rw.length < 2 ^ 31) (hN : NI rw) (i : Nat) (hi : i ≤ rw.length) : (sp_tk rw d i).2.1.Nodup := by
  obtain ⟨h1, h2⟩ := tk_ni d hl hN i hi
  have hll := (sp_tk_l rw d i).2
  refine NI.nd (fun a b x ha hb => h1 a b x ?_ ?_)
  · rw [← h2 a (by have := (List.getElem?_eq_some_iff.mp ha).1; omega)]; exact ha
  · rw [← h2 b (by have := (List.getElem?_eq_some_iff.mp hb).1; omega)]; exact hb
theorem row_inc {ts : List TH} {k : Nat} : ∀ {j : Nat} {a b x y : Nat}, (sp_row ts k j)[a]? = some x → (sp_row ts k j)[b]? = some y → a < b → x < y
  | 0, a, b, x, y, h, _, _ => by simp [sp_row] at h
  | j + 1, a, b, x, y, h1, h2, hab => by
    simp only [sp_row] at h1 h2
    rw [List.getElem?_append] at h1 h2
    by_cases hb : b < (sp_row ts k j).length
    · rw [if_pos hb] at h2
      rw [if_pos (by omega)] at h1
      exact row_inc h1 h2 hab
    · rw [if_neg hb] at h2
      split at h2
      · have hy : y = j := by
          have h3 := List.mem_of_getElem? h2
          simpa using h3
        have hb2 : b - (sp_row ts k j).length = 0 := by
          have := (List.getElem?_eq_some_iff.mp h2).1
          simp at this; omega
        rw [if_pos (by omega)] at h1
        have := (row_mem (List.mem_of_getElem? h1)).1
        omega
      · simp at h2
theorem row_ni (ts : List TH) (k j : Nat) : NI (sp_row ts k j) := by
  intro a b x ha hb
  rcases Nat.lt_trichotomy a b with h | h | h
  · have := row_inc ha hb h; omega
  · exact h
  · have := row_inc hb ha h; omega
theorem ls_wf {ts : List TH} {n : Nat} (d : Int64) (hw : wfs ts) (hl : ts.length ≤ 64) (hn : n ≤ ts.length) : ∀ k, k ≤ 6 → (sp_ls ts n d k).1.Nodup ∧ ∀ x ∈ (sp_ls ts n d k).1, ∃ t, ts[x]? = some t ∧ ∃ q, q < k ∧ t.1 = nI q
  | 0, _ => ⟨by simp [sp_ls], fun x h => by simp [sp_ls] at h⟩
  | k + 1, hk => by
    obtain ⟨h1, h2⟩ := ls_wf d hw hl hn k (by omega)
    have hc := sp_cn_le ts k
    have hlr : (sp_row ts k ts.length).length = sp_cn ts k := sp_row_len ts k
    have hg := g_le hw hn k
    have hm := (tk_mem (sp_ls ts n d k).2 (rw := sp_row ts k ts.length) (by omega) (sp_g ts n k) (by omega)).2
    refine ⟨?_, fun x hx => ?_⟩
    · simp only [sp_ls]
      rw [List.nodup_append]
      refine ⟨h1, tk_nd _ (by omega) (row_ni ts k _) _ (by omega), fun x hx y hy e => ?_⟩
      subst e
      obtain ⟨t, ht, q, hq, hs⟩ := h2 x hx
      obtain ⟨-, t2, ht2, hs2⟩ := row_mem (hm x hy)
      cases ht.symm.trans ht2
      have := (nI_eq (by omega) (by omega)).mp (hs.symm.trans hs2)
      omega
    · simp only [sp_ls, List.mem_append] at hx
      rcases hx with hx | hx
      · obtain ⟨t, ht, q, hq, hs⟩ := h2 x hx
        exact ⟨t, ht, q, by omega, hs⟩
      · obtain ⟨-, t2, ht2, hs2⟩ := row_mem (hm x hx)
        exact ⟨t2, ht2, k, by omega, hs2⟩
theorem WF.ls {A : AST} (h : WF A) (v : Int32) : WF (q_ls A v).2 := by
  unfold q_ls
  split
  · next hok =>
    obtain ⟨w1, w2, w3, w4, w5, w6, w7, w8⟩ := id h
    have hn := cl_le hok.1 hok.2 w2
    obtain ⟨g1, g2⟩ := ls_wf A.2.2 w1 w2 hn 6 (Nat.le_refl _)
    have hun : ∀ (i : Nat) (t : TH), A.1[i]? = some t → i ∉ A.2.1 → t.2.2.1 = -1 := WF.un (ts := A.1) (lt := A.2.1) (d := A.2.2) h
    have hget : ∀ i, ((sp_ls A.1 v.toNatClampNeg A.2.2 6).1.foldl (sp_z 0) (A.2.1.foldl (sp_z (-1)) A.1))[i]? = A.1[i]?.map (fun t => if i ∈ (sp_ls A.1 v.toNatClampNeg A.2.2 6).1 then sst 0 t else sst (-1) t) := by
      intro i
      rw [zf_get, zf_map hun, List.getElem?_map, Option.map_map]
      congr 1
    have hmem : ∀ {P : TH → Prop}, (∀ t ∈ A.1, P (sst 0 t) ∧ P (sst (-1) t)) → ∀ t2 ∈ (sp_ls A.1 v.toNatClampNeg A.2.2 6).1.foldl (sp_z 0) (A.2.1.foldl (sp_z (-1)) A.1), P t2 := by
      intro P hP t2 ht2
      obtain ⟨i, hi, e⟩ := List.getElem_of_mem ht2
      have e2 : ((sp_ls A.1 v.toNatClampNeg A.2.2 6).1.foldl (sp_z 0) (A.2.1.foldl (sp_z (-1)) A.1))[i]? = some t2 := by rw [List.getElem?_eq_getElem hi, e]
      rw [hget] at e2
      cases e3 : A.1[i]? with
      | none => rw [e3] at e2; cases e2
      | some t =>
        rw [e3] at e2
        have hm := hP t (List.mem_of_getElem? e3)
        simp only [Option.map_some, Option.some.injEq] at e2
        rw [← e2]
        split
        · exact hm.1
        · exact hm.2
    have hlen : ((sp_ls A.1 v.toNatClampNeg A.2.2 6).1.foldl (sp_z 0) (A.2.1.foldl (sp_z (-1)) A.1)).length = A.1.length := st_len ((sp_zf_map 0 _ _).trans (sp_zf_map (-1) _ _))
    refine ⟨hmem (fun t ht => ⟨w1 t ht, w1 t ht⟩), by show List.length _ ≤ 64; rw [hlen]; exact w2, hmem (fun t ht => ⟨Or.inr (show (0 : Int32) ≤ 0 by decide), Or.inl rfl⟩), hmem (fun t ht => ⟨w4 t ht, w4 t ht⟩), hmem (fun t ht => ⟨w5 t ht, w5 t ht⟩), ?_, g1, fun i => ?_⟩
    · show (sp_ls A.1 v.toNatClampNeg A.2.2 6).1.length ≤ 64
      rw [sp_ls_l, g_sum w1 hn]
      omega
    · show i ∈ (sp_ls A.1 v.toNatClampNeg A.2.2 6).1 ↔ ∃ t, ((sp_ls A.1 v.toNatClampNeg A.2.2 6).1.foldl (sp_z 0) (A.2.1.foldl (sp_z (-1)) A.1))[i]? = some t ∧ t.2.2.1 ≠ -1
      rw [hget]
      constructor
      · intro hi
        obtain ⟨t, ht, -⟩ := g2 i hi
        refine ⟨sst 0 t, by rw [ht]; simp [hi], show (0 : Int32) ≠ -1 by decide⟩
      · rintro ⟨t, e, hne⟩
        cases e3 : A.1[i]? with
        | none => rw [e3] at e; cases e
        | some t0 =>
          rw [e3] at e
          simp only [Option.map_some, Option.some.injEq] at e
          by_cases hi : i ∈ (sp_ls A.1 v.toNatClampNeg A.2.2 6).1
          · exact hi
          · rw [if_neg hi] at e
            rw [← e] at hne
            exact absurd rfl hne
  · exact h
