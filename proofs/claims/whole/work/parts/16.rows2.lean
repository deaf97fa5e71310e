theorem w_sf : (Cond.sameField "java/util/ArrayList" "java/util/AbstractList" "modCount" "I" : Cond) ∈ ad_T := ad_in (List.mem_of_getElem? (i := 59) (by decide +kernel)) (by rfl)
abbrev ad_ra (G : ad_G) (n : Nat) (f : Nat → Option Nat) : va_E := .inl (G.2.1 1, n, .inr (.inr (.inr (.inr f))))
section ADR
variable {p : Program} {l : Launch} {e : Env} {R : Room} {s : State} {m : MethodId} {args : Array Value} {below : List Frame} {meth : Method} {c : Code} {H : Heap} {locs : List Loc} {cells slots : Nat} {Q : State → Prop}
variable {cc : ByteArray} {nL pc : Nat} {ls : Array Slot} {rest : List Value} {own : String} {G : ad_G} {lo : Nat} {hp : ad_H} {a : Nat}
theorem ad_I.S (I : ad_I G lo s hp H locs) : va_S (fun q => lo ≤ q) s.heap H locs := ⟨I.2.2.1, fun q _ h2 => I.2.2.2.1 q (Nat.not_le.mp h2), I.2.2.2.2⟩
theorem ad_getU (S : CallFix p m c cc nL s args ad_T own) (I : ad_I G lo s hp H locs) {ci : Nat} {fs : List Value} (he : hp a = some (.inr (ci, fs))) {C : String} {T : u_T} {N : Nat} {ty0 : Nat → FieldType} (K : ad_K ci C T N ty0) (k : Nat) (hk : k < N) {ref : String} {index : Nat} (hlink : Cond.fieldLink own index ref (T k).2.1 (T k).2.2.1 ∈ ad_T) (hsf : Cond.sameField ref (T k).1 (T k).2.1 (T k).2.2.1 ∈ ad_T) {v : Value} (hv : fs[k]? = some v) (hdg : decode cc pc = .ok (.getfield index, 3))
    (kk : W p l e R s m args below meth c H locs cells slots Q (F0 m (pc + 3) ls (v :: rest))) : W p l e R s m args below meth c H locs cells slots Q (F0 m pc ls (.ref a :: rest)) := by
  obtain ⟨hx, hb, -, hown, hts⟩ := S
  exact va_get (D := G.1) (cl := vwCl) (ws := [(a, .inr (ci, fs))]) hx hb hts K.2.1 hown I.1.2.1 (I.2.1.one he) 0 rfl K.1 k hk (hts _ hlink) (fun x h => u_same (hts _ hsf) x h) hv hdg kk
theorem ad_putU (S : CallFix p m c cc nL s args ad_T own) (I : ad_I G lo s hp H locs) {ci : Nat} {fs : List Value} (he : hp a = some (.inr (ci, fs))) {C : String} {T : u_T} {N : Nat} {ty0 : Nat → FieldType} (K : ad_K ci C T N ty0) (k : Nat) (hk : k < N) {ref : String} {index : Nat} (hlink : Cond.fieldLink own index ref (T k).2.1 (T k).2.2.1 ∈ ad_T) (hsf : Cond.sameField ref (T k).1 (T k).2.1 (T k).2.2.1 ∈ ad_T) (hfin : (T k).2.2.2 = false) {v : Value} (hn : narrow (ty0 k) v = v) (hfit : fits (ty0 k) v = true) (hl : k < fs.length) (hdg : decode cc pc = .ok (.putfield index, 3))
    (kk : ∀ (H1 : Heap) (locs1 : List Loc), ad_I G lo s (ad_up hp a (.inr (ci, fs.set k v))) H1 locs1 → W p l e R s m args below meth c H1 locs1 cells slots Q (F0 m (pc + 3) ls rest)) : W p l e R s m args below meth c H locs cells slots Q (F0 m pc ls (v :: .ref a :: rest)) := by
  obtain ⟨hx, hb, -, hown, hts⟩ := S
  obtain ⟨hB, hP, hz, hlo, hL⟩ := I
  obtain ⟨hc, hin, hty, hnm⟩ := K
  have hap := va_apart (own := own) hts hin ty0 hty hnm hB.2.1 hc
  obtain ⟨hla, r, h1, cell, q1, q2, q3, q4⟩ := hP a _ he
  have hr : r = (C, T, N) := Option.some.inj (h1.symm.trans hc)
  subst hr
  obtain ⟨hS, hfc, kC, hkC, hkind⟩ := hB.2.1.1 ci _ hc
  obtain ⟨cf, kf, fi, f, hi, hsl⟩ := hS k hk
  have hlay := hts _ (hin _ (u_in_lay hk))
  unfold u_lay at hlay
  rw [if_neg (by rw [hfin]; decide)] at hlay
  have hst := (u_facts hfc hkC (u_lays hts hin hk) hi).1
  have h6 := u_store hfc hkC hkind hlay hi (hty k hk) hn hfit
  refine W.putK hx hb (f := f) ⟨hown, hts _ hlink, ⟨_, _, _, u_same (hts _ hsf) _ hi⟩, hst⟩ (by rw [q2]; exact h6) q1 q3 (by rw [hsl]; exact k2_hasslot (q4 k hk)) rfl rfl hdg fun H' e1 e2 e3 => ?_
  rw [hsl] at e1 ⊢
  exact kk H' _ ⟨hB, hP.set he ⟨_, hc, t_OB.to (V := updV (vp_V fs) k v) ⟨_, e1, q2, q3, t_set q4 hap hk v⟩ (fun j _ => vp_updV_set hl v j)⟩ e3, by rw [e2]; exact hz, fun q hq => (e3 q (Nat.ne_of_lt (Nat.lt_of_lt_of_le hq hla))).trans (hlo q hq), t_lc hL hla⟩
theorem ad_aald (S : CallFix p m c cc nL s args ad_T own) (I : ad_I G lo s hp H locs) {n : Nat} {f : Nat → Option Nat} (he : hp a = some (ad_ra G n f)) {i : Int32} (hin : vp_in i n) (hdg : decode cc pc = .ok (.aaload, 1))
    (kk : W p l e R s m args below meth c H locs cells slots Q (F0 m (pc + 1) ls (va_rf (f i.toNatClampNeg) :: rest))) : W p l e R s m args below meth c H locs cells slots Q (F0 m pc ls (.int i :: .ref a :: rest)) := by
  obtain ⟨hx, hb, -, hown, hts⟩ := S
  exact va_aldq (D := G.1) (cl := vwCl) (ws := [(a, _)]) hx hb I.1.2.1 (I.2.1.one he) 0 1 rfl rfl hin hdg kk
theorem ad_aast (S : CallFix p m c cc nL s args ad_T own) (I : ad_I G lo s hp H locs) {n : Nat} {f : Nat → Option Nat} (he : hp a = some (ad_ra G n f)) {v ci : Nat} {vs : List Value} (hv : hp v = some (.inr (ci, vs))) {C : String} {T : u_T} {N : Nat} {ty0 : Nat → FieldType} (K : ad_K ci C T N ty0) (hca : Cond.castable C "java/lang/Object" ∈ ad_T) {i : Int32} (hin : vp_in i n) (hdg : decode cc pc = .ok (.aastore, 1))
    (kk : ∀ (H1 : Heap) (locs1 : List Loc), ad_I G lo s (ad_up hp a (ad_ra G n (va_up f i.toNatClampNeg (some v)))) H1 locs1 → W p l e R s m args below meth c H1 locs1 cells slots Q (F0 m (pc + 1) ls rest)) : W p l e R s m args below meth c H locs cells slots Q (F0 m pc ls (.ref v :: .int i :: .ref a :: rest)) := by
  obtain ⟨hx, hb, -, hown, hts⟩ := S
  obtain ⟨hB, hP, hz, hlo, hL⟩ := I
  obtain ⟨hla, hat⟩ := hP a _ he
  obtain ⟨-, r', hr', cellV, g1, g2, g3, -⟩ := hP v _ hv
  have hcls := (hB.2.1.1 ci _ K.1).2
  obtain ⟨kA, comp, k1, k2, k3, -⟩ := (hB.2.1.2 1 (G.2.1 1, .object "java/lang/Object") rfl).2
  obtain ⟨kc, hkc, -⟩ := Vm.findClass_spec k3
  obtain ⟨hfc, kV, hkV, -⟩ := hcls
  obtain ⟨c3, c4, hc3, hc4, hasg⟩ := Cond.castable_spec (hts _ hca)
  cases hc3.symm.trans hfc
  cases hc4.symm.trans k3
  have hlt : i.toNatClampNeg < n := Nat.not_le.mp fun q => hin (Or.inr q)
  refine W.aast hx hb (cell := arrV (G.2.1 1) n (fun j => va_rf (f j))) hat (fun q h => by cases h) (fun h => by cases h) k1 k2 rfl hkc ⟨fun q => hin (Or.inl q), by rw [arrV_size]; exact hlt⟩ g1 (fun q h => by rw [g3] at h; cases h) (by rw [g2]; exact hkV) (by rw [g2]; exact hasg) rfl rfl hdg fun H1 e1 e2 e3 => ?_
  refine kk H1 _ ⟨hB, hP.set he ?_ e3, by rw [e2]; exact hz, fun q hq => (e3 q (Nat.ne_of_lt (Nat.lt_of_lt_of_le hq hla))).trans (hlo q hq), t_lc hL hla⟩
  show H1[a]? = some (vp_cell _ _)
  rw [e1, vp_cell_q, arrV_store]
  congr 2
  funext q
  by_cases hq : q = i.toNatClampNeg
  · subst hq; simp [updV, va_up, va_rf]
  · simp [updV, va_up, hq]
theorem ad_aastN (S : CallFix p m c cc nL s args ad_T own) (I : ad_I G lo s hp H locs) {n : Nat} {f : Nat → Option Nat} (he : hp a = some (ad_ra G n f)) {i : Int32} (hin : vp_in i n) (hdg : decode cc pc = .ok (.aastore, 1))
    (kk : ∀ (H1 : Heap) (locs1 : List Loc), ad_I G lo s (ad_up hp a (ad_ra G n (va_up f i.toNatClampNeg none))) H1 locs1 → W p l e R s m args below meth c H1 locs1 cells slots Q (F0 m (pc + 1) ls rest)) : W p l e R s m args below meth c H locs cells slots Q (F0 m pc ls (.null :: .int i :: .ref a :: rest)) := by
  obtain ⟨hx, hb, -, hown, hts⟩ := S
  obtain ⟨hB, hP, hz, hlo, hL⟩ := I
  obtain ⟨hla, hat⟩ := hP a _ he
  refine va_WaastN hx hb (cell := arrV (G.2.1 1) n (fun j => va_rf (f j))) hat ((hB.2.1.2 1 (G.2.1 1, .object "java/lang/Object") rfl).1 n (fun j => va_rf (f j))) (fun h => by cases h) (by rw [arrV_size]; exact hin) rfl rfl hdg fun H1 e1 e2 e3 => ?_
  refine kk H1 _ ⟨hB, hP.set he ?_ e3, by rw [e2]; exact hz, fun q hq => (e3 q (Nat.ne_of_lt (Nat.lt_of_lt_of_le hq hla))).trans (hlo q hq), t_lc hL hla⟩
  show H1[a]? = some (vp_cell _ _)
  rw [e1, vp_cell_q, arrV_store]
  congr 2
  funext q
  by_cases hq : q = i.toNatClampNeg
  · subst hq; simp [updV, va_up, va_rf]
  · simp [updV, va_up, hq]
theorem ad_anew (S : CallFix p m c cc nL s args ad_T own) (I : ad_I G lo s hp H locs) {index : Nat} (hcl : Cond.classLink own index "java/lang/Object" ∈ ad_T) {n : Nat} (hn : n < 100000) (hcells : cells + 1 ≤ R.cells) (hslots : slots + n ≤ R.slots) (hdg : decode cc pc = .ok (.anewarray index, 3))
    (kk : ∀ (q : Nat) (H1 : Heap), hp q = none → q = H.size → ad_I G lo s (ad_up hp q (ad_ra G n (fun _ => none))) H1 locs → W p l e R s m args below meth c H1 locs (cells + 1) (slots + n) Q (F0 m (pc + 3) ls (.ref q :: rest))) : W p l e R s m args below meth c H locs cells slots Q (F0 m pc ls (.int (nI n) :: rest)) := by
  obtain ⟨hx, hb, -, hown, hts⟩ := S
  obtain ⟨hB, hP, hz, hlo, hL⟩ := I
  have hlz : lo ≤ H.size := Nat.le_trans hB.1 hz
  have hcl2 : (nI n).toNatClampNeg = n := nI_clamp (by omega)
  refine W.anew hx hb hown (hts _ hcl) (hts _ w_270) rfl hdg rfl (nI_pos (by omega)) (by rw [hcl2]; omega) hcells (by rw [hcl2]; exact hslots) fun cA kA comp h1 h2 h3 h4 => ?_
  rw [hcl2]
  obtain ⟨-, -, -, -, -, h9⟩ := (hB.2.1.2 1 (G.2.1 1, .object "java/lang/Object") rfl).2
  cases h1.symm.trans h9
  refine kk H.size _ hP.fresh rfl ⟨hB, hP.new hlz ?_ (fun q hq => by rw [Array.getElem?_push, if_neg (Nat.ne_of_lt hq)]), by simp; omega, fun q hq => by rw [Array.getElem?_push, if_neg (Nat.ne_of_lt (Nat.lt_of_lt_of_le hq hlz))]; exact hlo q hq, hL⟩
  show (H.push _)[H.size]? = some (vp_cell _ _)
  rw [vp_cell_q, arrV_new]
  simp [va_rf]
theorem ad_gete (S : CallFix p m c cc nL s args ad_T own) (I : ad_I G lo s hp H locs) {index : Nat} (hlink : Cond.fieldLink own index "java/util/ArrayList" "DEFAULTCAPACITY_EMPTY_ELEMENTDATA" "[Ljava/lang/Object;" ∈ ad_T) (hdg : decode cc pc = .ok (.getstatic index, 3))
    (kk : W p l e R s m args below meth c H locs cells slots Q (F0 m (pc + 3) ls (.ref (G.2.2 0) :: rest))) : W p l e R s m args below meth c H locs cells slots Q (F0 m pc ls rest) := by
  obtain ⟨hx, hb, -, hown, hts⟩ := S
  exact va_gets hx hb I.1.2.2.2.2.2.2.2.2.2.1 I.S hown (hts _ hlink) (fun _ h => h) hdg kk
theorem ad_alenE (S : CallFix p m c cc nL s args ad_T own) (I : ad_I G lo s hp H locs) (hdg : decode cc pc = .ok (.arraylength, 1))
    (kk : W p l e R s m args below meth c H locs cells slots Q (F0 m (pc + 1) ls (.int 0 :: rest))) : W p l e R s m args below meth c H locs cells slots Q (F0 m pc ls (.ref (G.2.2 0) :: rest)) := by
  obtain ⟨hx, hb, -, hown, hts⟩ := S
  obtain ⟨g1, cell, g2, g3, g4, g5⟩ := I.1.2.2.2.2.2.2.2.2.2.2.1
  have hA : s.isArrayOf cell (.object "java/lang/Object") := ⟨g4, by rw [g3]; exact ((I.1.2.1.2 1 (G.2.1 1, .object "java/lang/Object") rfl).1 0 (fun _ => .null)).2⟩
  refine W.alen (n := 0) (ty := .object "java/lang/Object") hx hb (a := G.2.2 0) (cell := cell) (by rw [I.2.2.2.1 _ g1]; exact g2) hA (by rw [g5]; rfl) rfl rfl hdg kk
end ADR
