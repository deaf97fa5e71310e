theorem ad_I.e {G : ad_G} {lo : Nat} {s : State} {hp : ad_H} {H : Heap} {locs : List Loc} (I : ad_I G lo s hp H locs) : hp (G.2.2 0) = none := by
  cases h : hp (G.2.2 0) with
  | none => rfl
  | some e =>
    have h1 := (I.2.1 _ _ h).1
    have h2 : G.2.2 0 < lo := I.1.2.2.2.2.2.2.2.2.2.2.1.1
    omega
def nl (e : va_E) : Prop := match e with
  | .inr (3, _) => False
  | .inl (_, _, .inr (.inr (.inr (.inr _)))) => False
  | _ => True
def Op (hp hp' : ad_H) (a : Nat) : Prop := (∀ z, z ≠ a → ¬ al_b hp a z → hp z ≠ none → hp' z = hp z) ∧ ∀ z, al_b hp' a z → al_b hp a z ∨ hp z = none
def Sep (hp : ad_H) (L : List Nat) : Prop := L.Nodup ∧ ∀ a ∈ L, ∀ b ∈ L, ∀ z, al_b hp a z → al_b hp b z → hp z ≠ none → a = b
def lk (ta la lt : List Nat) : Prop := la.length = lt.length ∧ ∀ (j i : Nat), lt[j]? = some i → ∃ y : Nat, la[j]? = some y ∧ ta[i]? = some y
section REP
variable {G : ad_G} {hp hp' : ad_H} {a b z : Nat} {xs ys : List Nat} {L : List Nat}
theorem al.self (h : al G hp a xs) : ∃ fs, hp a = some (.inr (3, fs)) := by
  obtain ⟨arr, cp, f, mv, h1, -⟩ := h
  exact ⟨_, h1⟩
theorem al.bk (h : al G hp a xs) (hb : al_b hp a z) : (z = G.2.2 0 ∧ hp z = none) ∨ ∃ n f, hp z = some (ad_ra G n f) := by
  obtain ⟨arr, cp, f, mv, h1, h2⟩ := h
  have := hb.eq h1
  subst this
  rcases h2 with ⟨h3, h4, -⟩ | ⟨h3, -⟩
  · exact Or.inl ⟨h3, h4⟩
  · exact Or.inr ⟨_, _, h3⟩
theorem al.keep (h : al G hp a xs) (h1 : hp' a = hp a) (h2 : ∀ z, al_b hp a z → hp z ≠ none → hp' z = hp z) (h3 : hp' (G.2.2 0) = none) : al G hp' a xs := by
  obtain ⟨arr, cp, f, mv, q1, q2⟩ := h
  refine ⟨arr, cp, f, mv, by rw [h1]; exact q1, ?_⟩
  rcases q2 with ⟨rfl, -, rfl⟩ | ⟨q2, q3⟩
  · exact Or.inl ⟨rfl, h3, rfl⟩
  · exact Or.inr ⟨by rw [h2 arr ⟨_, _, q1⟩ (by rw [q2]; simp)]; exact q2, q3⟩
theorem al_b.same (h : hp' a = hp a) : al_b hp' a z ↔ al_b hp a z := by unfold al_b; rw [h]
theorem nl_ne {e : va_E} (hn : nl e) (h : al G hp a xs) (hz : hp z = some e) : z ≠ a ∧ ¬ al_b hp a z := by
  refine ⟨fun hh => ?_, fun hb => ?_⟩
  · subst hh
    obtain ⟨fs, h1⟩ := h.self
    cases hz.symm.trans h1
    exact hn
  · rcases h.bk hb with ⟨-, h1⟩ | ⟨n, f, h1⟩
    · rw [h1] at hz; cases hz
    · cases hz.symm.trans h1
      exact hn
theorem Op.cell (h : Op hp hp' a) (ha : al G hp a xs) {e : va_E} (hz : hp z = some e) (he : nl e) : hp' z = some e := by
  obtain ⟨h1, h2⟩ := nl_ne he ha hz
  rw [h.1 z h1 h2 (by rw [hz]; simp)]
  exact hz
theorem Op.lst (h : Op hp hp' a) (hs : Sep hp L) (haL : a ∈ L) (hbL : b ∈ L) (hne : b ≠ a) (hA : al G hp a xs) (hB : al G hp b ys) (hE : hp' (G.2.2 0) = none) : al G hp' b ys ∧ hp' b = hp b := by
  have h1 : hp' b = hp b := by
    obtain ⟨fs, hfs⟩ := hB.self
    refine h.1 b hne (fun hb => ?_) (by rw [hfs]; simp)
    rcases hA.bk hb with ⟨-, q⟩ | ⟨n, f, q⟩ <;> (rw [q] at hfs; cases hfs)
  refine ⟨hB.keep h1 (fun z hz hn => ?_) hE, h1⟩
  refine h.1 z (fun hh => ?_) (fun hb => hne (hs.2 b hbL a haL z hz hb hn)) hn
  subst hh
  obtain ⟨fs, hfs⟩ := hA.self
  rcases hB.bk hz with ⟨-, q⟩ | ⟨n, f, q⟩ <;> (rw [q] at hfs; cases hfs)
theorem Op.sep (h : Op hp hp' a) (hs : Sep hp L) (haL : a ∈ L) (hall : ∀ b ∈ L, ∃ ys, al G hp b ys) (hE : hp' (G.2.2 0) = none) : Sep hp' L := by
  obtain ⟨xs, hA⟩ := hall a haL
  have key : ∀ b ∈ L, b ≠ a → ∀ z, al_b hp' a z → al_b hp' b z → hp' z ≠ none → False := by
    intro b hb hne z hz1 hz2 hn
    obtain ⟨ys, hB⟩ := hall b hb
    rw [al_b.same (h.lst hs haL hb hne hA hB hE).2] at hz2
    have hzn : hp z ≠ none := by
      intro hz0
      rcases hB.bk hz2 with ⟨q, -⟩ | ⟨n, f, q⟩
      · rw [q] at hn; exact hn hE
      · rw [q] at hz0; cases hz0
    rcases h.2 z hz1 with q | q
    · exact hne (hs.2 b hb a haL z hz2 q hzn)
    · exact hzn q
  refine ⟨hs.1, fun c hc b hb z h1 h2 hn => ?_⟩
  by_cases hca : c = a
  · by_cases hba : b = a
    · rw [hca, hba]
    · subst hca; exact (key b hb hba z h1 h2 hn).elim
  · by_cases hba : b = a
    · subst hba; exact (key c hc hca z h2 h1 hn).elim
    · obtain ⟨ys, hB⟩ := hall b hb
      obtain ⟨zs, hC⟩ := hall c hc
      rw [al_b.same (h.lst hs haL hb hba hA hB hE).2] at h2
      rw [al_b.same (h.lst hs haL hc hca hA hC hE).2] at h1
      refine hs.2 c hc b hb z h1 h2 (fun hz0 => ?_)
      rcases hB.bk h2 with ⟨q, -⟩ | ⟨n, f, q⟩
      · rw [q] at hn; exact hn hE
      · rw [q] at hz0; cases hz0
theorem ce_al {z0 : Nat} {e0 : va_E} (hk : ∀ z, z ≠ z0 → hp' z = hp z) (h0 : hp z0 = some e0) (n0 : nl e0) (hE : hp' (G.2.2 0) = none) (h : al G hp a xs) : al G hp' a xs ∧ hp' a = hp a := by
  have q := nl_ne n0 h h0
  exact ⟨h.keep (hk a (Ne.symm q.1)) (fun z hz _ => hk z (fun hh => q.2 (hh ▸ hz))) hE, hk a (Ne.symm q.1)⟩
theorem ce_ro {z0 : Nat} {e0 : va_E} (hk : ∀ z, z ≠ z0 → hp' z = hp z) (h0 : hp z0 = some e0) (n0 : nl e0) (hS : ∀ r, e0 ≠ oS r) (hE : hp' (G.2.2 0) = none) {rs : List R3} (h : ro G hp a rs) : ro G hp' a rs := by
  obtain ⟨sa, h1, h2, h3⟩ := h
  refine ⟨sa, (ce_al hk h0 n0 hE h1).1, h2, fun k r hr => ?_⟩
  obtain ⟨y, q1, q2⟩ := h3 k r hr
  exact ⟨y, q1, (hk y (ad_ne q2 h0 (fun hh => hS r hh.symm))).trans q2⟩
theorem ce_sep {z0 : Nat} {e0 : va_E} (hk : ∀ z, z ≠ z0 → hp' z = hp z) (h0 : hp z0 = some e0) (n0 : nl e0) (hE : hp' (G.2.2 0) = none) (hall : ∀ b ∈ L, ∃ ys, al G hp b ys) (hs : Sep hp L) : Sep hp' L := by
  refine ⟨hs.1, fun c hc b hb z h1 h2 hn => ?_⟩
  obtain ⟨ys, hB⟩ := hall b hb
  obtain ⟨zs, hC⟩ := hall c hc
  rw [al_b.same (ce_al hk h0 n0 hE hB).2] at h2
  rw [al_b.same (ce_al hk h0 n0 hE hC).2] at h1
  refine hs.2 c hc b hb z h1 h2 (fun hz0 => ?_)
  rcases hB.bk h2 with ⟨q, -⟩ | ⟨n, f, q⟩
  · rw [q] at hn; exact hn hE
  · rw [q] at hz0; cases hz0
theorem Op.row (h : Op hp hp' a) (hs : Sep hp L) (haL : a ∈ L) (hbL : b ∈ L) (hne : b ≠ a) (hA : al G hp a xs) (hE : hp' (G.2.2 0) = none) {rs : List R3} (hr : ro G hp b rs) : ro G hp' b rs := by
  obtain ⟨sa, h1, h2, h3⟩ := hr
  refine ⟨sa, (h.lst hs haL hbL hne hA h1 hE).1, h2, fun k r hr => ?_⟩
  obtain ⟨y, q1, q2⟩ := h3 k r hr
  exact ⟨y, q1, h.cell hA q2 trivial⟩
theorem ex_al (hk : ∀ z e, hp z = some e → hp' z = some e) (hE : hp' (G.2.2 0) = none) (h : al G hp a xs) : al G hp' a xs ∧ hp' a = hp a := by
  obtain ⟨fs, hfs⟩ := h.self
  have e1 : hp' a = hp a := by rw [hfs]; exact hk _ _ hfs
  refine ⟨h.keep e1 (fun z _ hn => ?_) hE, e1⟩
  cases hz : hp z with
  | none => exact (hn hz).elim
  | some e => exact hk z e hz
theorem ex_ro (hk : ∀ z e, hp z = some e → hp' z = some e) (hE : hp' (G.2.2 0) = none) {rs : List R3} (h : ro G hp a rs) : ro G hp' a rs := by
  obtain ⟨sa, h1, h2, h3⟩ := h
  refine ⟨sa, (ex_al hk hE h1).1, h2, fun k r hr => ?_⟩
  obtain ⟨y, q1, q2⟩ := h3 k r hr
  exact ⟨y, q1, hk _ _ q2⟩
theorem ex_sep (hk : ∀ z e, hp z = some e → hp' z = some e) (hE : hp' (G.2.2 0) = none) (hall : ∀ b ∈ L, ∃ ys, al G hp b ys) (hs : Sep hp L) : Sep hp' L := by
  refine ⟨hs.1, fun c hc b hb z h1 h2 hn => ?_⟩
  obtain ⟨ys, hB⟩ := hall b hb
  obtain ⟨zs, hC⟩ := hall c hc
  rw [al_b.same (ex_al hk hE hB).2] at h2
  rw [al_b.same (ex_al hk hE hC).2] at h1
  refine hs.2 c hc b hb z h1 h2 (fun hz0 => ?_)
  rcases hB.bk h2 with ⟨q, -⟩ | ⟨n, f, q⟩
  · rw [q] at hn; exact hn hE
  · rw [q] at hz0; cases hz0
theorem sep_new (hs : Sep hp L) {q : Nat} (hq : q ∉ L) (hb : ∀ z, al_b hp q z → hp z = none) : Sep hp (L ++ [q]) := by
  refine ⟨?_, fun c hc b hb2 z h1 h2 hn => ?_⟩
  · rw [List.nodup_append]
    refine ⟨hs.1, by simp, fun c hc b hb2 => ?_⟩
    rw [List.mem_singleton] at hb2
    exact fun hh => hq (by rw [← hb2, ← hh]; exact hc)
  · rw [List.mem_append, List.mem_singleton] at hc hb2
    rcases hc with hc | rfl
    · rcases hb2 with hb2 | rfl
      · exact hs.2 c hc b hb2 z h1 h2 hn
      · exact (hn (hb z h2)).elim
    · exact (hn (hb z h1)).elim
end REP
def fo (gA sA z : Nat) (e : va_E) : Prop := match e with
  | .inr (5, _) => True
  | .inl (_, _, .inl _) => z ≠ gA ∧ z ≠ sA
  | .inl (_, _, .inr (.inl _)) => True
  | _ => False
def fr (gA sA : Nat) (hp hp' : ad_H) : Prop := ∀ z e, hp z = some e → fo gA sA z e → hp' z = some e
theorem fr.rf (gA sA : Nat) (hp : ad_H) : fr gA sA hp hp := fun _ _ h _ => h
theorem fr.tr {gA sA : Nat} {hp hp1 hp2 : ad_H} (h : fr gA sA hp hp1) (h2 : fr gA sA hp1 hp2) : fr gA sA hp hp2 := fun z e hz hf => h2 z e (h z e hz hf) hf
theorem fo.nl {gA sA z : Nat} {e : va_E} (h : fo gA sA z e) : nl e := by
  unfold fo at h
  split at h <;> first | trivial | exact h.elim
theorem Op.frm {G : ad_G} {hp hp' : ad_H} {a : Nat} {xs : List Nat} (h : Op hp hp' a) (ha : al G hp a xs) (gA sA : Nat) : fr gA sA hp hp' := fun z e hz hf => h.cell ha hz (fo.nl hf)
theorem ce_fr {hp hp' : ad_H} {gA sA z0 : Nat} {e0 : va_E} (hk : ∀ z, z ≠ z0 → hp' z = hp z) (h0 : hp z0 = some e0) (n0 : ¬ fo gA sA z0 e0) : fr gA sA hp hp' := fun z e hz hf => by
  rw [hk z (fun hh => by subst hh; cases hz.symm.trans h0; exact n0 hf)]; exact hz
def CR (G : ad_G) (hp : ad_H) (x dA tA lA rA gA sA : Nat) (ta ros : List Nat) (ts : List TH) (la lt rr rw : List Nat) (sd : Int64) (fg fs : Nat → Int32) : Prop :=
  hp x = some (.inr (4, [.ref dA, .ref tA, .ref lA, .ref rA, .ref gA, .ref sA])) ∧ hp dA = some (.inr (0, [.long sd])) ∧
  hp gA = some (.inl (G.2.1 0, 6, .inl fg)) ∧ hp sA = some (.inl (G.2.1 0, 6, .inl fs)) ∧ gA ≠ sA ∧ al G hp tA ta ∧ al G hp lA la ∧ al G hp rA rr ∧ (ta.length = ts.length ∧ ros.length = ts.length) ∧
  (∀ (i : Nat) (t : TH), ts[i]? = some t → ∃ a ra : Nat, ta[i]? = some a ∧ ros[i]? = some ra ∧ hp a = some (oT i t ra) ∧ ro G hp ra t.2.2.2.2) ∧
  Sep hp (tA :: lA :: rA :: ros) ∧ lk ta la lt ∧ lk ta rr rw ∧ hp (G.2.2 0) = none ∧ ts.length ≤ 64
section CRS
variable {G : ad_G} {hp hp' : ad_H} {x dA tA lA rA gA sA : Nat} {ta ros : List Nat} {ts : List TH} {la lt rr rw : List Nat} {sd : Int64} {fg fs : Nat → Int32}
theorem CR.hX (C : CR G hp x dA tA lA rA gA sA ta ros ts la lt rr rw sd fg fs) : hp x = some (.inr (4, [.ref dA, .ref tA, .ref lA, .ref rA, .ref gA, .ref sA])) := C.1
theorem CR.hD (C : CR G hp x dA tA lA rA gA sA ta ros ts la lt rr rw sd fg fs) : hp dA = some (.inr (0, [.long sd])) := C.2.1
theorem CR.hg (C : CR G hp x dA tA lA rA gA sA ta ros ts la lt rr rw sd fg fs) : hp gA = some (.inl (G.2.1 0, 6, .inl fg)) := C.2.2.1
theorem CR.hs (C : CR G hp x dA tA lA rA gA sA ta ros ts la lt rr rw sd fg fs) : hp sA = some (.inl (G.2.1 0, 6, .inl fs)) := C.2.2.2.1
theorem CR.hA (C : CR G hp x dA tA lA rA gA sA ta ros ts la lt rr rw sd fg fs) : al G hp tA ta := C.2.2.2.2.2.1
theorem CR.hLa (C : CR G hp x dA tA lA rA gA sA ta ros ts la lt rr rw sd fg fs) : al G hp lA la := C.2.2.2.2.2.2.1
theorem CR.hRr (C : CR G hp x dA tA lA rA gA sA ta ros ts la lt rr rw sd fg fs) : al G hp rA rr := C.2.2.2.2.2.2.2.1
theorem CR.hn (C : CR G hp x dA tA lA rA gA sA ta ros ts la lt rr rw sd fg fs) : ts.length ≤ 64 := C.2.2.2.2.2.2.2.2.2.2.2.2.2.2
theorem CR.lkl (C : CR G hp x dA tA lA rA gA sA ta ros ts la lt rr rw sd fg fs) : lk ta la lt := C.2.2.2.2.2.2.2.2.2.2.2.1
theorem CR.lkr (C : CR G hp x dA tA lA rA gA sA ta ros ts la lt rr rw sd fg fs) : lk ta rr rw := C.2.2.2.2.2.2.2.2.2.2.2.2.1
theorem CR.th (C : CR G hp x dA tA lA rA gA sA ta ros ts la lt rr rw sd fg fs) {i : Nat} {t : TH} (h : ts[i]? = some t) : ∃ a ra : Nat, ta[i]? = some a ∧ ros[i]? = some ra ∧ hp a = some (oT i t ra) ∧ ro G hp ra t.2.2.2.2 := C.2.2.2.2.2.2.2.2.2.1 i t h
theorem CR.htt (C : CR G hp x dA tA lA rA gA sA ta ros ts la lt rr rw sd fg fs) : tt hp ta ts := ⟨C.2.2.2.2.2.2.2.2.1.1, fun i t h => by obtain ⟨a, ra, h1, h2, h3, h4⟩ := C.th h; exact ⟨a, ra, h1, h3⟩⟩
theorem CR.ty (C : CR G hp x dA tA lA rA gA sA ta ros ts la lt rr rw sd fg fs) {i y : Nat} (h : ta[i]? = some y) : ∃ (t : TH) (ra : Nat), ts[i]? = some t ∧ ros[i]? = some ra ∧ hp y = some (oT i t ra) ∧ ro G hp ra t.2.2.2.2 := by
  have hi : i < ts.length := by rw [← C.htt.1]; exact (List.getElem?_eq_some_iff.mp h).1
  have ht : ts[i]? = some ts[i] := List.getElem?_eq_getElem hi
  obtain ⟨a, ra, h1, h2, h3, h4⟩ := C.th ht
  cases h.symm.trans h1
  exact ⟨_, ra, ht, h2, h3, h4⟩
theorem CR.lx (C : CR G hp x dA tA lA rA gA sA ta ros ts la lt rr rw sd fg fs) {xs ws : List Nat} (h : lk ta xs ws) {y : Nat} (hy : y ∈ xs) : ∃ vs, hp y = some (.inr (1, vs)) := by
  obtain ⟨j, hj, e⟩ := List.getElem_of_mem hy
  have h1 : ws[j]? = some (ws[j]'(by rw [← h.1]; exact hj)) := List.getElem?_eq_getElem _
  obtain ⟨y', h2, h3⟩ := h.2 j _ h1
  have h4 : xs[j]? = some y := by rw [List.getElem?_eq_getElem hj, e]
  cases h4.symm.trans h2
  obtain ⟨t, ra, -, -, h5, -⟩ := C.ty h3
  exact ⟨_, h5⟩
theorem CR.hll (C : CR G hp x dA tA lA rA gA sA ta ros ts la lt rr rw sd fg fs) : ll hp la lt ts := ⟨C.lkl.1, fun j i h => by
  obtain ⟨y, h1, h2⟩ := C.lkl.2 j i h
  obtain ⟨t, ra, h3, -, h4, -⟩ := C.ty h2
  exact ⟨t, y, ra, h1, h3, h4⟩⟩
theorem CR.sp (C : CR G hp x dA tA lA rA gA sA ta ros ts la lt rr rw sd fg fs) : Sep hp (tA :: lA :: rA :: ros) := C.2.2.2.2.2.2.2.2.2.2.1
theorem CR.all (C : CR G hp x dA tA lA rA gA sA ta ros ts la lt rr rw sd fg fs) : ∀ b ∈ tA :: lA :: rA :: ros, ∃ ys, al G hp b ys := by
  intro b hb
  simp only [List.mem_cons] at hb
  rcases hb with rfl | rfl | rfl | hb
  · exact ⟨_, C.hA⟩
  · exact ⟨_, C.hLa⟩
  · exact ⟨_, C.hRr⟩
  · obtain ⟨i, hi, e⟩ := List.getElem_of_mem hb
    have hi2 : i < ts.length := by rw [← C.2.2.2.2.2.2.2.2.1.2]; exact hi
    obtain ⟨a, ra, h1, h2, h3, sa, h4, -⟩ := C.th (List.getElem?_eq_getElem hi2)
    have h5 : ros[i]? = some b := by rw [List.getElem?_eq_getElem hi, e]
    cases h5.symm.trans h2
    exact ⟨_, h4⟩
theorem CR.ce (C : CR G hp x dA tA lA rA gA sA ta ros ts la lt rr rw sd fg fs) {z0 : Nat} {e0 : va_E} (hk : ∀ z, z ≠ z0 → hp' z = hp z) (h0 : hp z0 = some e0) (n0 : nl e0) (hS : ∀ r, e0 ≠ oS r) (hE : hp' (G.2.2 0) = none) :
    al G hp' tA ta ∧ al G hp' lA la ∧ al G hp' rA rr ∧ (∀ ra rs, ro G hp ra rs → ro G hp' ra rs) ∧ Sep hp' (tA :: lA :: rA :: ros) :=
  ⟨(ce_al hk h0 n0 hE C.hA).1, (ce_al hk h0 n0 hE C.hLa).1, (ce_al hk h0 n0 hE C.hRr).1, fun _ _ h => ce_ro hk h0 n0 hS hE h, ce_sep hk h0 n0 hE C.all C.sp⟩
theorem CR.draw (C : CR G hp x dA tA lA rA gA sA ta ros ts la lt rr rw sd fg fs) {sd' : Int64} (hk : ∀ z, z ≠ dA → hp' z = hp z) (h1 : hp' dA = some (.inr (0, [.long sd']))) (hE : hp' (G.2.2 0) = none) : CR G hp' x dA tA lA rA gA sA ta ros ts la lt rr rw sd' fg fs ∧ fr gA sA hp hp' := by
  obtain ⟨b1, b2, b3, b4, b5⟩ := C.ce hk C.hD trivial (fun r => by simp) hE
  refine ⟨⟨(hk x (ad_ne C.hX C.hD (by simp))).trans C.hX, h1, (hk gA (ad_ne C.hg C.hD (by simp))).trans C.hg, (hk sA (ad_ne C.hs C.hD (by simp))).trans C.hs, C.2.2.2.2.1, b1, b2, b3, C.2.2.2.2.2.2.2.2.1, fun i t ht => ?_, b5, C.lkl, C.lkr, hE, C.hn⟩, ce_fr hk C.hD (fun h => h)⟩
  obtain ⟨a, ra, q1, q2, q3, q4⟩ := C.th ht
  exact ⟨a, ra, q1, q2, (hk a (ad_ne q3 C.hD (by simp))).trans q3, b4 _ _ q4⟩
theorem CR.give (C : CR G hp x dA tA lA rA gA sA ta ros ts la lt rr rw sd fg fs) {fg' : Nat → Int32} (hk : ∀ z, z ≠ gA → hp' z = hp z) (h1 : hp' gA = some (.inl (G.2.1 0, 6, .inl fg'))) (hE : hp' (G.2.2 0) = none) : CR G hp' x dA tA lA rA gA sA ta ros ts la lt rr rw sd fg' fs ∧ fr gA sA hp hp' := by
  obtain ⟨b1, b2, b3, b4, b5⟩ := C.ce hk C.hg trivial (fun r => by simp) hE
  refine ⟨⟨(hk x (ad_ne C.hX C.hg (by simp))).trans C.hX, (hk dA (ad_ne C.hD C.hg (by simp))).trans C.hD, h1, (hk sA (Ne.symm C.2.2.2.2.1)).trans C.hs, C.2.2.2.2.1, b1, b2, b3, C.2.2.2.2.2.2.2.2.1, fun i t ht => ?_, b5, C.lkl, C.lkr, hE, C.hn⟩, ce_fr hk C.hg (fun h => h.1 rfl)⟩
  obtain ⟨a, ra, q1, q2, q3, q4⟩ := C.th ht
  exact ⟨a, ra, q1, q2, (hk a (ad_ne q3 C.hg (by simp))).trans q3, b4 _ _ q4⟩
theorem CR.rest (C : CR G hp x dA tA lA rA gA sA ta ros ts la lt rr rw sd fg fs) {fs' : Nat → Int32} (hk : ∀ z, z ≠ sA → hp' z = hp z) (h1 : hp' sA = some (.inl (G.2.1 0, 6, .inl fs'))) (hE : hp' (G.2.2 0) = none) : CR G hp' x dA tA lA rA gA sA ta ros ts la lt rr rw sd fg fs' ∧ fr gA sA hp hp' := by
  obtain ⟨b1, b2, b3, b4, b5⟩ := C.ce hk C.hs trivial (fun r => by simp) hE
  refine ⟨⟨(hk x (ad_ne C.hX C.hs (by simp))).trans C.hX, (hk dA (ad_ne C.hD C.hs (by simp))).trans C.hD, (hk gA C.2.2.2.2.1).trans C.hg, h1, C.2.2.2.2.1, b1, b2, b3, C.2.2.2.2.2.2.2.2.1, fun i t ht => ?_, b5, C.lkl, C.lkr, hE, C.hn⟩, ce_fr hk C.hs (fun h => h.2 rfl)⟩
  obtain ⟨a, ra, q1, q2, q3, q4⟩ := C.th ht
  exact ⟨a, ra, q1, q2, (hk a (ad_ne q3 C.hs (by simp))).trans q3, b4 _ _ q4⟩
theorem CR.thing (C : CR G hp x dA tA lA rA gA sA ta ros ts la lt rr rw sd fg fs) {j y ra : Nat} {t t' : TH} (ht : ts[j]? = some t) (hy : ta[j]? = some y) (hty : hp y = some (oT j t ra)) (hr : t'.2.2.2.2 = t.2.2.2.2) (hk : ∀ z, z ≠ y → hp' z = hp z) (h1 : hp' y = some (oT j t' ra)) (hE : hp' (G.2.2 0) = none) : CR G hp' x dA tA lA rA gA sA ta ros (ts.set j t') la lt rr rw sd fg fs ∧ fr gA sA hp hp' := by
  obtain ⟨b1, b2, b3, b4, b5⟩ := C.ce hk hty trivial (fun r => by simp) hE
  have hjl : j < ts.length := (List.getElem?_eq_some_iff.mp ht).1
  refine ⟨⟨(hk x (ad_ne C.hX hty (by simp))).trans C.hX, (hk dA (ad_ne C.hD hty (by simp))).trans C.hD, (hk gA (ad_ne C.hg hty (by simp))).trans C.hg, (hk sA (ad_ne C.hs hty (by simp))).trans C.hs, C.2.2.2.2.1, b1, b2, b3, by rw [List.length_set]; exact C.2.2.2.2.2.2.2.2.1, fun i t2 ht2 => ?_, b5, C.lkl, C.lkr, hE, by rw [List.length_set]; exact C.hn⟩, ce_fr hk hty (fun h => h)⟩
  by_cases hij : i = j
  · subst hij
    rw [List.getElem?_set_self hjl] at ht2
    cases ht2
    obtain ⟨a, ra', q1, q2, q3, q4⟩ := C.th ht
    cases hy.symm.trans q1
    have hra : ra' = ra := by
      have := hty.symm.trans q3
      simp at this
      exact this.symm
    subst hra
    exact ⟨_, ra', q1, q2, h1, by rw [hr]; exact b4 _ _ q4⟩
  · rw [List.getElem?_set_ne (Ne.symm hij)] at ht2
    obtain ⟨a, ra', q1, q2, q3, q4⟩ := C.th ht2
    have hn := C.hn
    have hil : i < ts.length := (List.getElem?_eq_some_iff.mp ht2).1
    refine ⟨a, ra', q1, q2, (hk a (ad_ne q3 hty (fun hh => hij ?_))).trans q3, b4 _ _ q4⟩
    simp at hh
    exact (nI_eq (by omega) (by omega)).mp hh.1
theorem CR.nd (C : CR G hp x dA tA lA rA gA sA ta ros ts la lt rr rw sd fg fs) : (tA ≠ lA ∧ tA ≠ rA ∧ lA ≠ rA) ∧ ∀ ra ∈ ros, ra ≠ tA ∧ ra ≠ lA ∧ ra ≠ rA := by
  have h := C.sp.1
  simp only [List.nodup_cons, List.mem_cons, not_or] at h
  obtain ⟨⟨h1, h2, h3⟩, ⟨h4, h5⟩, h6, -⟩ := h
  exact ⟨⟨h1, h2, h4⟩, fun ra hra => ⟨fun hh => h3 (hh ▸ hra), fun hh => h5 (hh ▸ hra), fun hh => h6 (hh ▸ hra)⟩⟩
theorem CR.opL (C : CR G hp x dA tA lA rA gA sA ta ros ts la lt rr rw sd fg fs) {la' lt' : List Nat} (h : Op hp hp' lA) (h1 : al G hp' lA la') (hE : hp' (G.2.2 0) = none) (hl : lk ta la' lt') : CR G hp' x dA tA lA rA gA sA ta ros ts la' lt' rr rw sd fg fs ∧ fr gA sA hp hp' := by
  obtain ⟨⟨n1, n2, n3⟩, n4⟩ := C.nd
  refine ⟨⟨h.cell C.hLa C.hX trivial, h.cell C.hLa C.hD trivial, h.cell C.hLa C.hg trivial, h.cell C.hLa C.hs trivial, C.2.2.2.2.1, (h.lst C.sp (by simp) (by simp) n1 C.hLa C.hA hE).1, h1, (h.lst C.sp (by simp) (by simp) (Ne.symm n3) C.hLa C.hRr hE).1, C.2.2.2.2.2.2.2.2.1, fun i t ht => ?_, h.sep C.sp (by simp) C.all hE, hl, C.lkr, hE, C.hn⟩, h.frm C.hLa gA sA⟩
  obtain ⟨a, ra, q1, q2, q3, q4⟩ := C.th ht
  have hm : ra ∈ ros := List.mem_of_getElem? q2
  exact ⟨a, ra, q1, q2, h.cell C.hLa q3 trivial, h.row C.sp (by simp) (by simp [hm]) (n4 ra hm).2.1 C.hLa hE q4⟩
theorem CR.opR (C : CR G hp x dA tA lA rA gA sA ta ros ts la lt rr rw sd fg fs) {rr' rw' : List Nat} (h : Op hp hp' rA) (h1 : al G hp' rA rr') (hE : hp' (G.2.2 0) = none) (hl : lk ta rr' rw') : CR G hp' x dA tA lA rA gA sA ta ros ts la lt rr' rw' sd fg fs ∧ fr gA sA hp hp' := by
  obtain ⟨⟨n1, n2, n3⟩, n4⟩ := C.nd
  refine ⟨⟨h.cell C.hRr C.hX trivial, h.cell C.hRr C.hD trivial, h.cell C.hRr C.hg trivial, h.cell C.hRr C.hs trivial, C.2.2.2.2.1, (h.lst C.sp (by simp) (by simp) n2 C.hRr C.hA hE).1, (h.lst C.sp (by simp) (by simp) n3 C.hRr C.hLa hE).1, h1, C.2.2.2.2.2.2.2.2.1, fun i t ht => ?_, h.sep C.sp (by simp) C.all hE, C.lkl, hl, hE, C.hn⟩, h.frm C.hRr gA sA⟩
  obtain ⟨a, ra, q1, q2, q3, q4⟩ := C.th ht
  have hm : ra ∈ ros := List.mem_of_getElem? q2
  exact ⟨a, ra, q1, q2, h.cell C.hRr q3 trivial, h.row C.sp (by simp) (by simp [hm]) (n4 ra hm).2.2 C.hRr hE q4⟩
theorem lk.nil (ta : List Nat) : lk ta [] [] := ⟨rfl, fun j i h => by simp at h⟩
theorem lk.app {ta xs ws : List Nat} (h : lk ta xs ws) {i y : Nat} (hy : ta[i]? = some y) : lk ta (xs ++ [y]) (ws ++ [i]) := by
  refine ⟨by simp [h.1], fun j k hk => ?_⟩
  rw [List.getElem?_append] at hk ⊢
  by_cases hj : j < ws.length
  · rw [if_pos hj] at hk
    rw [h.1, if_pos hj]
    exact h.2 j k hk
  · rw [if_neg hj] at hk
    rw [h.1, if_neg hj]
    have : j - ws.length = 0 := by
      have := (List.getElem?_eq_some_iff.mp hk).1
      simp at this; omega
    rw [this] at hk ⊢
    simp at hk
    subst hk
    exact ⟨y, rfl, hy⟩
theorem lk.set {ta xs ws : List Nat} (h : lk ta xs ws) {k i y : Nat} (hy : ta[i]? = some y) : lk ta (xs.set k y) (ws.set k i) := by
  refine ⟨by simp [h.1], fun j m hm => ?_⟩
  by_cases hjk : k = j
  · subst hjk
    have hk : k < ws.length := by
      have := (List.getElem?_eq_some_iff.mp hm).1
      simpa using this
    rw [List.getElem?_set_self hk] at hm
    cases hm
    exact ⟨y, List.getElem?_set_self (by rw [h.1]; exact hk), hy⟩
  · rw [List.getElem?_set_ne hjk] at hm ⊢
    exact h.2 j m hm
end CRS
