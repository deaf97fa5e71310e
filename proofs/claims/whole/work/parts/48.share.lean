def sp_sm (f : Nat → Nat) : Nat → Nat
  | 0 => 0
  | j + 1 => sp_sm f j + f j
theorem sm_mono (f : Nat → Nat) {i j : Nat} (h : i ≤ j) : sp_sm f i ≤ sp_sm f j := by
  induction h with
  | refl => exact Nat.le_refl _
  | step _ ih => exact Nat.le_trans ih (Nat.le_add_right _ _)
theorem sm_add (f g : Nat → Nat) : ∀ j, sp_sm (fun i => f i + g i) j = sp_sm f j + sp_sm g j
  | 0 => rfl
  | j + 1 => by
    have := sm_add f g j
    simp only [sp_sm]
    omega
theorem sm_mul (c : Nat) (f : Nat → Nat) : ∀ j, sp_sm (fun i => c * f i) j = c * sp_sm f j
  | 0 => rfl
  | j + 1 => by
    have := sm_mul c f j
    simp only [sp_sm, Nat.mul_add]
    omega
theorem sm_le {f g : Nat → Nat} (h : ∀ i, f i ≤ g i) : ∀ j, sp_sm f j ≤ sp_sm g j
  | 0 => Nat.le_refl _
  | j + 1 => Nat.add_le_add (sm_le h j) (h j)
theorem sm_eq {f g : Nat → Nat} : ∀ {j : Nat}, (∀ i, i < j → f i = g i) → sp_sm f j = sp_sm g j
  | 0, _ => rfl
  | j + 1, h => by
    simp only [sp_sm]
    rw [sm_eq (fun i hi => h i (by omega)), h j (by omega)]
theorem sm_cnt (p : Nat → Bool) : ∀ j, sp_sm (fun i => if p i then 1 else 0) j = (List.range j).countP p
  | 0 => rfl
  | j + 1 => by
    rw [List.range_succ, List.countP_append, ← sm_cnt p j, List.countP_singleton]
    rfl
theorem cp_lt {α : Type} {p q : α → Bool} : ∀ {L : List α}, (∀ x ∈ L, p x = true → q x = true) → (∃ x ∈ L, q x = true ∧ p x = false) → L.countP p < L.countP q
  | [], _, h => by obtain ⟨x, hx, -⟩ := h; cases hx
  | y :: L, h1, h2 => by
    have hle : L.countP p ≤ L.countP q := List.countP_mono_left (fun x hx => h1 x (List.mem_cons_of_mem _ hx))
    rw [List.countP_cons, List.countP_cons]
    obtain ⟨x, hx, hq, hp⟩ := h2
    rcases List.mem_cons.mp hx with rfl | hx
    · simp [hq, hp]; omega
    · have := cp_lt (fun x hx => h1 x (List.mem_cons_of_mem _ hx)) ⟨x, hx, hq, hp⟩
      have h3 := h1 y (List.mem_cons_self)
      by_cases hy : p y = true
      · simp [hy, h3 hy]; omega
      · simp [hy]; omega
theorem cp_add {α : Type} {p q : α → Bool} : ∀ {L : List α}, (∀ x ∈ L, p x = true → q x = false) → L.countP (fun x => p x || q x) = L.countP p + L.countP q
  | [], _ => rfl
  | y :: L, h => by
    rw [List.countP_cons, List.countP_cons, List.countP_cons, cp_add (fun x hx => h x (List.mem_cons_of_mem _ hx))]
    have h3 := h y (List.mem_cons_self)
    by_cases hy : p y = true
    · simp [hy, h3 hy]; omega
    · simp [hy]; omega
def sp_ah (r : Nat → Nat) (o s : Nat) : Bool := decide (r s < r o ∨ (r o = r s ∧ o < s))
def sp_rk (r : Nat → Nat) (s : Nat) : Nat := (List.range 6).countP (fun o => sp_ah r o s)
section RK
variable {r : Nat → Nat}
theorem ah_tr {x o s : Nat} (h1 : sp_ah r x o = true) (h2 : sp_ah r o s = true) : sp_ah r x s = true := by
  simp only [sp_ah, decide_eq_true_eq] at h1 h2 ⊢
  omega
theorem ah_tot {o s : Nat} (h : o ≠ s) : sp_ah r o s = true ∨ sp_ah r s o = true := by
  simp only [sp_ah, decide_eq_true_eq]
  omega
theorem ah_irr (o : Nat) : sp_ah r o o = false := by
  simp [sp_ah]
theorem rk_lt {o s : Nat} (ho : o < 6) (h : sp_ah r o s = true) : sp_rk r o < sp_rk r s :=
  cp_lt (fun x _ hx => ah_tr hx h) ⟨o, List.mem_range.mpr ho, h, ah_irr o⟩
theorem rk_inj {o s : Nat} (ho : o < 6) (hs : s < 6) (h : sp_rk r o = sp_rk r s) : o = s := by
  by_cases hos : o = s
  · exact hos
  · rcases ah_tot (r := r) hos with q | q
    · have := rk_lt ho q; omega
    · have := rk_lt hs q; omega
theorem ex_min (P : Nat → Prop) (f : Nat → Nat) : ∀ (b : Nat) (s : Nat), f s ≤ b → P s → ∃ m, P m ∧ ∀ x, P x → f m ≤ f x
  | 0, s, h, hs => ⟨s, hs, fun x _ => by omega⟩
  | b + 1, s, h, hs => by
    by_cases hx : ∃ x, P x ∧ f x < f s
    · obtain ⟨x, h1, h2⟩ := hx
      exact ex_min P f b x (by omega) h1
    · exact ⟨s, hs, fun x hp => Nat.not_lt.mp fun hlt => hx ⟨x, hp, hlt⟩⟩
theorem rk_c : ∀ m, m ≤ 6 → (List.range 6).countP (fun s => decide (sp_rk r s < m)) = m ∧ ∀ i, i < m → ∃ b, b < 6 ∧ sp_rk r b = i
  | 0, _ => ⟨by simp, fun i hi => by omega⟩
  | m + 1, h => by
    obtain ⟨h1, h2⟩ := rk_c m (by omega)
    obtain ⟨s, hs, hs2⟩ : ∃ s, s < 6 ∧ m ≤ sp_rk r s := by
      by_cases hx : ∃ s, s < 6 ∧ m ≤ sp_rk r s
      · exact hx
      · have : (List.range 6).countP (fun s => decide (sp_rk r s < m)) = (List.range 6).length := by
          rw [List.countP_eq_length]
          intro x hx2
          rw [decide_eq_true_eq]
          exact Nat.not_le.mp fun hle => hx ⟨x, List.mem_range.mp hx2, hle⟩
        rw [h1, List.length_range] at this
        omega
    obtain ⟨b, ⟨hb1, hb2⟩, hb3⟩ := ex_min (fun x => x < 6 ∧ m ≤ sp_rk r x) (sp_rk r) _ s (Nat.le_refl _) ⟨hs, hs2⟩
    have hb : sp_rk r b = m := by
      rw [← h1]
      refine List.countP_congr (fun o ho => ?_)
      have ho := List.mem_range.mp ho
      rw [decide_eq_true_eq]
      constructor
      · intro hah
        have h3 := rk_lt ho hah
        exact Nat.not_le.mp fun hle => by have := hb3 o ⟨ho, hle⟩; omega
      · intro hlt
        rcases ah_tot (r := r) (show o ≠ b from fun hh => by rw [hh] at hlt; omega) with q | q
        · exact q
        · have := rk_lt hb1 q; omega
    have e1 : (List.range 6).countP (fun s => decide (s = b)) = 1 := by
      have : b = 0 ∨ b = 1 ∨ b = 2 ∨ b = 3 ∨ b = 4 ∨ b = 5 := by omega
      rcases this with rfl | rfl | rfl | rfl | rfl | rfl <;> decide
    refine ⟨?_, fun i hi => ?_⟩
    · have e2 : (List.range 6).countP (fun s => decide (sp_rk r s < m + 1)) = (List.range 6).countP (fun s => decide (sp_rk r s < m) || decide (s = b)) := by
        refine List.countP_congr (fun s hs => ?_)
        have hs := List.mem_range.mp hs
        simp only [decide_eq_true_eq, Bool.or_eq_true]
        constructor
        · intro hlt
          by_cases hlt2 : sp_rk r s < m
          · exact Or.inl hlt2
          · exact Or.inr (rk_inj (r := r) hs hb1 (by omega))
        · rintro (q | rfl)
          · omega
          · omega
      rw [e2, cp_add (fun x hx hp => ?_), h1, e1]
      rw [decide_eq_true_eq] at hp
      rw [decide_eq_false_iff_not]
      intro hh
      rw [hh, hb] at hp
      omega
    · by_cases him : i = m
      · exact ⟨b, hb1, by rw [hb, him]⟩
      · exact h2 i (by omega)
end RK
theorem rk_step {r : Nat → Nat} {fs : Nat → Int32} {m b : Nat} (hm : m < 6) (hr : ∀ s, s < 6 → r s < 2 ^ 30) (hfs : ∀ s, s < 6 → fs s = if sp_rk r s < m then -1 else nI (r s)) (hb : b < 6) (hbest : ∀ o9, o9 < 6 → fs o9 < fs b ∨ (fs o9 = fs b ∧ b ≤ o9)) : sp_rk r b = m := by
  obtain ⟨s, hs, hsr⟩ := (rk_c (r := r) 6 (Nat.le_refl _)).2 m hm
  have e1 : fs s = nI (r s) := by rw [hfs s hs, if_neg (by omega)]
  have hrs := hr s hs
  have hrb := hr b hb
  have hge : ¬ sp_rk r b < m := fun hlt => by
    have e2 : fs b = -1 := by rw [hfs b hb, if_pos hlt]
    have hm1 : ((-1 : Int32)).toInt = -1 := by decide
    have h4 := nI_toInt (n := r s) (by omega)
    rcases hbest s hs with q | ⟨q, -⟩
    · rw [e1, e2, Int32.lt_iff_toInt_lt, hm1, h4] at q
      omega
    · rw [e1, e2] at q
      have := congrArg Int32.toInt q
      rw [hm1, h4] at this
      omega
  have e2 : fs b = nI (r b) := by rw [hfs b hb, if_neg hge]
  by_cases hbs : b = s
  · rw [hbs]; exact hsr
  · have hah : sp_ah r b s = true := by
      simp only [sp_ah, decide_eq_true_eq]
      rcases hbest s hs with q | ⟨q, q2⟩
      · rw [e1, e2] at q
        exact Or.inl ((nI_ltI (by omega) (by omega)).mp q)
      · rw [e1, e2] at q
        have := (nI_eq (by omega) (by omega)).mp q
        exact Or.inr ⟨this.symm, by omega⟩
    have := rk_lt hb hah
    omega
def sp_m (ts : List TH) (n : Nat) : Nat := n - sp_sm (sp_f ts n) 6
def sp_g (ts : List TH) (n k : Nat) : Nat := sp_f ts n k + if sp_rk (sp_r ts n) k < sp_m ts n then 1 else 0
def wfs (ts : List TH) : Prop := ∀ t ∈ ts, ∃ k, k < 6 ∧ t.1 = nI k
theorem cn_sum : ∀ {ts : List TH}, wfs ts → sp_sm (sp_cn ts) 6 = ts.length
  | [], _ => rfl
  | t :: ts, h => by
    have ih := cn_sum (ts := ts) (fun x hx => h x (List.mem_cons_of_mem _ hx))
    obtain ⟨k, hk, e⟩ := h t (List.mem_cons_self)
    have e1 : ∀ i, i < 6 → sp_cn (t :: ts) i = sp_cn ts i + if i = k then 1 else 0 := by
      intro i hi
      unfold sp_cn
      rw [List.countP_cons]
      congr 1
      rw [e]
      by_cases hik : i = k
      · subst hik; simp
      · rw [if_neg hik, if_neg]
        rw [decide_eq_true_eq, nI_eq (by omega) (by omega)]
        omega
    have h0 := e1 0 (by omega)
    have h1 := e1 1 (by omega)
    have h2 := e1 2 (by omega)
    have h3 := e1 3 (by omega)
    have h4 := e1 4 (by omega)
    have h5 := e1 5 (by omega)
    simp only [sp_sm] at ih ⊢
    rw [h0, h1, h2, h3, h4, h5, List.length_cons]
    have : k = 0 ∨ k = 1 ∨ k = 2 ∨ k = 3 ∨ k = 4 ∨ k = 5 := by omega
    rcases this with rfl | rfl | rfl | rfl | rfl | rfl <;> simp <;> omega
section SHR
variable {ts : List TH} {n : Nat}
theorem nc_sum (hw : wfs ts) : sp_sm (fun i => n * sp_cn ts i) 6 = n * ts.length := by rw [sm_mul, cn_sum hw]
theorem f_sum (hw : wfs ts) (hn : n ≤ ts.length) : sp_sm (sp_f ts n) 6 ≤ n := by
  rcases Nat.eq_zero_or_pos ts.length with h0 | hp
  · have hf : sp_f ts n = fun _ => 0 := by funext i; simp [sp_f, h0]
    rw [hf]
    exact Nat.zero_le _
  · refine Nat.le_of_mul_le_mul_left ?_ hp
    rw [← sm_mul, Nat.mul_comm ts.length n, ← nc_sum hw]
    exact sm_le (fun i => Nat.mul_div_le _ _) 6
theorem m_r (hw : wfs ts) : ts.length * sp_m ts n = sp_sm (sp_r ts n) 6 := by
  have h1 : sp_sm (fun i => ts.length * sp_f ts n i + sp_r ts n i) 6 = n * ts.length := by
    rw [← nc_sum hw]
    exact sm_eq (fun i _ => Nat.div_add_mod _ _)
  rw [sm_add, sm_mul] at h1
  unfold sp_m
  rw [Nat.mul_sub, Nat.mul_comm ts.length n]
  omega
theorem m_P (hw : wfs ts) (hp : 0 < ts.length) : sp_m ts n ≤ (List.range 6).countP (fun k => decide (0 < sp_r ts n k)) := by
  refine Nat.le_of_mul_le_mul_left ?_ hp
  rw [m_r hw, ← sm_cnt, ← sm_mul]
  refine sm_le (fun i => ?_) 6
  have h := Nat.mod_lt (n * sp_cn ts i) hp
  have h2 : sp_r ts n i < ts.length := h
  by_cases h3 : 0 < sp_r ts n i
  · simp [h3]; omega
  · simp [h3]; omega
theorem m_6 (hw : wfs ts) (hn : n ≤ ts.length) : sp_m ts n ≤ 6 := by
  rcases Nat.eq_zero_or_pos ts.length with h0 | hp
  · unfold sp_m; omega
  · exact Nat.le_trans (m_P hw hp) List.countP_le_length
theorem g_sum (hw : wfs ts) (hn : n ≤ ts.length) : sp_sm (sp_g ts n) 6 = n := by
  have e : sp_g ts n = fun k => sp_f ts n k + (if (fun k => decide (sp_rk (sp_r ts n) k < sp_m ts n)) k then 1 else 0) := by
    funext k
    simp [sp_g]
  rw [e, sm_add, sm_cnt, (rk_c (r := sp_r ts n) _ (m_6 hw hn)).1]
  have := f_sum hw hn
  unfold sp_m
  omega
theorem g_le (hw : wfs ts) (hn : n ≤ ts.length) (k : Nat) : sp_g ts n k ≤ sp_cn ts k := by
  rcases Nat.eq_zero_or_pos ts.length with h0 | hp
  · have : n = 0 := by omega
    simp [sp_g, sp_f, sp_m, this]
  · have hfc : sp_f ts n k ≤ sp_cn ts k := by
      refine Nat.le_of_mul_le_mul_left (Nat.le_trans (Nat.mul_div_le (n * sp_cn ts k) ts.length) ?_) hp
      exact Nat.mul_le_mul_right _ hn
    unfold sp_g
    by_cases hx : sp_rk (sp_r ts n) k < sp_m ts n
    · rw [if_pos hx]
      have hpos : 0 < sp_r ts n k := by
        refine Nat.pos_of_ne_zero (fun hz => ?_)
        have h1 := m_P (n := n) hw hp
        have h2 : (List.range 6).countP (fun k => decide (0 < sp_r ts n k)) ≤ sp_rk (sp_r ts n) k := by
          refine List.countP_mono_left (fun o _ ho => ?_)
          simp only [decide_eq_true_eq] at ho
          simp only [sp_ah, decide_eq_true_eq]
          omega
        omega
      have h3 : ts.length * sp_f ts n k + sp_r ts n k = n * sp_cn ts k := Nat.div_add_mod _ _
      have h4 : n * sp_cn ts k ≤ ts.length * sp_cn ts k := Nat.mul_le_mul_right _ hn
      have h5 : ts.length * sp_f ts n k < ts.length * sp_cn ts k := by omega
      have h6 := Nat.lt_of_mul_lt_mul_left h5
      omega
    · rw [if_neg hx]
      exact hfc
end SHR
