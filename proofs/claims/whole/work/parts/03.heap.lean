def ad_K (ci : Nat) (C : String) (T : u_T) (N : Nat) (ty0 : Nat → FieldType) : Prop := vwCl[ci]? = some (C, T, N) ∧ (∀ w ∈ u_ws C T N, w ∈ ad_T) ∧ (∀ k, k < N → parseFieldDescriptor (T k).2.2.1 = some (ty0 k)) ∧ (∀ a, a < N → ∀ b, b < N → a ≠ b → (T a).2.1 ≠ (T b).2.1)
section ADW
variable {p : Program} {l : Launch} {e : Env} {R : Room} {s : State} {m : MethodId} {args : Array Value} {below : List Frame} {meth : Method} {c : Code} {H : Heap} {locs : List Loc} {cells slots : Nat} {Q : State → Prop}
variable {cc : ByteArray} {nL pc : Nat} {ls : Array Slot} {rest : List Value} {own : String} {G : ad_G} {lo : Nat} {hp : ad_H} {a : Nat}
theorem ad_get (S : CallFix p m c cc nL s args ad_T own) (I : ad_I G lo s hp H locs) {ci : Nat} {fs : List Value} (he : hp a = some (.inr (ci, fs))) {C : String} {T : u_T} {N : Nat} {ty0 : Nat → FieldType} (K : ad_K ci C T N ty0) (k : Nat) (hk : k < N) {index : Nat} (hlink : Cond.fieldLink own index (T k).1 (T k).2.1 (T k).2.2.1 ∈ ad_T) {v : Value} (hv : fs[k]? = some v) (hdg : decode cc pc = .ok (.getfield index, 3))
    (kk : W p l e R s m args below meth c H locs cells slots Q (F0 m (pc + 3) ls (v :: rest))) : W p l e R s m args below meth c H locs cells slots Q (F0 m pc ls (.ref a :: rest)) := by
  obtain ⟨hx, hb, -, hown, hts⟩ := S
  exact va_get (D := G.1) (cl := vwCl) (ws := [(a, .inr (ci, fs))]) hx hb hts K.2.1 hown I.1.2.1 (I.2.1.one he) 0 rfl K.1 k hk (hts _ hlink) (fun _ h => h) hv hdg kk
theorem ad_put (S : CallFix p m c cc nL s args ad_T own) (I : ad_I G lo s hp H locs) {ci : Nat} {fs : List Value} (he : hp a = some (.inr (ci, fs))) {C : String} {T : u_T} {N : Nat} {ty0 : Nat → FieldType} (K : ad_K ci C T N ty0) (k : Nat) (hk : k < N) {index : Nat} (hlink : Cond.fieldLink own index (T k).1 (T k).2.1 (T k).2.2.1 ∈ ad_T) (hfin : (T k).2.2.2 = false) {v : Value} (hn : narrow (ty0 k) v = v) (hfit : fits (ty0 k) v = true) (hl : k < fs.length) (hdg : decode cc pc = .ok (.putfield index, 3))
    (kk : ∀ (H1 : Heap) (locs1 : List Loc), ad_I G lo s (ad_up hp a (.inr (ci, fs.set k v))) H1 locs1 → W p l e R s m args below meth c H1 locs1 cells slots Q (F0 m (pc + 3) ls rest)) : W p l e R s m args below meth c H locs cells slots Q (F0 m pc ls (v :: .ref a :: rest)) := by
  obtain ⟨hx, hb, -, hown, hts⟩ := S
  obtain ⟨hB, hP, hz, hlo, hL⟩ := I
  obtain ⟨hc, hin, hty, hnm⟩ := K
  have hap := va_apart (own := own) hts hin ty0 hty hnm hB.2.1 hc
  obtain ⟨hla, r, h1, cell, q1, q2, q3, q4⟩ := hP a _ he
  have hr : r = (C, T, N) := Option.some.inj (h1.symm.trans hc)
  subst hr
  obtain ⟨hS, hfc, kC, hkC, hkind⟩ := hB.2.1.1 ci _ hc
  obtain ⟨cf, kf, fi, f, hi, hsl⟩ := hS k hk
  have hlay := hts _ (hin _ (u_in_lay hk))
  unfold u_lay at hlay
  rw [if_neg (by rw [hfin]; decide)] at hlay
  have hst := (u_facts hfc hkC (u_lays hts hin hk) hi).1
  have h6 := u_store hfc hkC hkind hlay hi (hty k hk) hn hfit
  refine W.putK hx hb (f := f) ⟨hown, hts _ hlink, ⟨_, _, _, hi⟩, hst⟩ (by rw [q2]; exact h6) q1 q3 (by rw [hsl]; exact k2_hasslot (q4 k hk)) rfl rfl hdg fun H' e1 e2 e3 => ?_
  rw [hsl] at e1 ⊢
  exact kk H' _ ⟨hB, hP.set he ⟨_, hc, t_OB.to (V := updV (vp_V fs) k v) ⟨_, e1, q2, q3, t_set q4 hap hk v⟩ (fun j _ => vp_updV_set hl v j)⟩ e3, by rw [e2]; exact hz, fun q hq => (e3 q (Nat.ne_of_lt (Nat.lt_of_lt_of_le hq hla))).trans (hlo q hq), t_lc hL hla⟩
theorem ad_putF (S : CallFix p m c cc nL s args ad_T own) (I : ad_I G lo s hp H locs) {ci : Nat} {fs : List Value} (he : hp a = some (.inr (ci, fs))) {C : String} {T : u_T} {N : Nat} {ty0 : Nat → FieldType} (K : ad_K ci C T N ty0) (k : Nat) (hk : k < N) {index : Nat} (hlink : Cond.fieldLink own index (T k).1 (T k).2.1 (T k).2.2.1 ∈ ad_T) (hfin : (T k).2.2.2 = true) (hin2 : meth.name = "<init>") (hdecl : (T k).1 = own) {v : Value} (hn : narrow (ty0 k) v = v) (hfit : fits (ty0 k) v = true) (hl : k < fs.length) (hdg : decode cc pc = .ok (.putfield index, 3))
    (kk : ∀ (H1 : Heap) (locs1 : List Loc), ad_I G lo s (ad_up hp a (.inr (ci, fs.set k v))) H1 locs1 → W p l e R s m args below meth c H1 locs1 cells slots Q (F0 m (pc + 3) ls rest)) : W p l e R s m args below meth c H locs cells slots Q (F0 m pc ls (v :: .ref a :: rest)) := by
  obtain ⟨hx, hb, -, hown, hts⟩ := S
  obtain ⟨hB, hP, hz, hlo, hL⟩ := I
  obtain ⟨hc, hin, hty, hnm⟩ := K
  have hap := va_apart (own := own) hts hin ty0 hty hnm hB.2.1 hc
  obtain ⟨hla, r, h1, cell, q1, q2, q3, q4⟩ := hP a _ he
  have hr : r = (C, T, N) := Option.some.inj (h1.symm.trans hc)
  subst hr
  obtain ⟨hS, hfc, kC, hkC, hkind⟩ := hB.2.1.1 ci _ hc
  obtain ⟨cf, kf, fi, f, hi, hsl⟩ := hS k hk
  have hlay := hts _ (hin _ (u_in_lay hk))
  unfold u_lay at hlay
  rw [if_pos hfin] at hlay
  have hst := (u_facts hfc hkC (u_lays hts hin hk) hi).1
  have hcf : m.cls = cf := by
    obtain ⟨_, _, c', _, _, _, -, -, hf', -, -, -, hown2, -⟩ := Cond.laysFinal_spec hlay
    have e1 : c' = cf := by have := hi.symm.trans hf'; simp at this; exact this.1.symm
    rw [hdecl] at hown2
    rw [← e1]; exact Option.some.inj (hown.symm.trans hown2)
  have h6 := u_fits hfc hkC hkind (Or.inr hlay) hi (hty k hk) hn hfit
  refine W.putFinK hx hb hown (hts _ hlink) hi hst hcf hin2 (by rw [q2]; exact h6) q1 q3 (by rw [hsl]; exact k2_hasslot (q4 k hk)) rfl rfl hdg fun H' e1 e2 e3 => ?_
  rw [hsl] at e1 ⊢
  exact kk H' _ ⟨hB, hP.set he ⟨_, hc, t_OB.to (V := updV (vp_V fs) k v) ⟨_, e1, q2, q3, t_set q4 hap hk v⟩ (fun j _ => vp_updV_set hl v j)⟩ e3, by rw [e2]; exact hz, fun q hq => (e3 q (Nat.ne_of_lt (Nat.lt_of_lt_of_le hq hla))).trans (hlo q hq), t_lc hL hla⟩
theorem ad_new (S : CallFix p m c cc nL s args ad_T own) (I : ad_I G lo s hp H locs) {ci : Nat} {C : String} {T : u_T} {N : Nat} {ty0 : Nat → FieldType} (K : ad_K ci C T N ty0) {index : Nat} (hcl : Cond.classLink own index C ∈ ad_T) (hinst : Cond.instantiable C N ∈ ad_T) (hini : Cond.initialized C ∈ ad_T) {fs : List Value} (hfs : ∀ j, j < N → defaultValue (ty0 j) = vp_V fs j) (hcells : cells + 1 ≤ R.cells) (hslots : slots + N ≤ R.slots) (hdg : decode cc pc = .ok (.new index, 3))
    (kk : ∀ (q : Nat) (H1 : Heap), hp q = none → ad_I G lo s (ad_up hp q (.inr (ci, fs))) H1 locs → W p l e R s m args below meth c H1 locs (cells + 1) (slots + N) Q (F0 m (pc + 3) ls (.ref q :: rest))) : W p l e R s m args below meth c H locs cells slots Q (F0 m pc ls rest) := by
  obtain ⟨hx, hb, -, hown, hts⟩ := S
  obtain ⟨hB, hP, hz, hlo, hL⟩ := I
  obtain ⟨hc, hin, hty, hnm⟩ := K
  have hKn := hB.2.1.1 ci _ hc
  have hlz : lo ≤ H.size := Nat.le_trans hB.1 hz
  refine W.newcK hx hb hown (hts _ hcl) (hts _ hinst) (hts _ hini) rfl hdg hcells hslots hKn.2.1 rfl fun H1 kC hkC e1 z1 o1 => ?_
  exact kk H.size H1 hP.fresh ⟨hB, hP.new hlz ⟨_, hc, (u_born ty0 hts hin hKn hkC e1 hty).to hfs⟩ o1, by omega, fun q hq => (o1 q (by omega)).trans (hlo q hq), hL⟩
theorem ad_iald (S : CallFix p m c cc nL s args ad_T own) (I : ad_I G lo s hp H locs) {n : Nat} {f : Nat → Int32} (he : hp a = some (.inl (G.2.1 0, n, .inl f))) {i : Int32} (hin : vp_in i n) (hdg : decode cc pc = .ok (.iaload, 1))
    (kk : W p l e R s m args below meth c H locs cells slots Q (F0 m (pc + 1) ls (.int (f i.toNatClampNeg) :: rest))) : W p l e R s m args below meth c H locs cells slots Q (F0 m pc ls (.int i :: .ref a :: rest)) := by
  obtain ⟨hx, hb, -, hown, hts⟩ := S
  exact va_iald (D := G.1) (cl := vwCl) (ws := [(a, _)]) hx hb I.1.2.1 (I.2.1.one he) 0 0 rfl rfl hin hdg kk
theorem ad_iast (S : CallFix p m c cc nL s args ad_T own) (I : ad_I G lo s hp H locs) {n : Nat} {f : Nat → Int32} (he : hp a = some (.inl (G.2.1 0, n, .inl f))) {i x : Int32} (hin : vp_in i n) (hdg : decode cc pc = .ok (.iastore, 1))
    (kk : ∀ (H1 : Heap) (locs1 : List Loc), ad_I G lo s (ad_up hp a (.inl (G.2.1 0, n, .inl (upd f i.toNatClampNeg x)))) H1 locs1 → W p l e R s m args below meth c H1 locs1 cells slots Q (F0 m (pc + 1) ls rest)) : W p l e R s m args below meth c H locs cells slots Q (F0 m pc ls (.int x :: .int i :: .ref a :: rest)) := by
  obtain ⟨hx, hb, -, hown, hts⟩ := S
  obtain ⟨hB, hP, hz, hlo, hL⟩ := I
  obtain ⟨hla, hat⟩ := hP a _ he
  refine W.iast hx hb hat ((hB.2.1.2 0 (G.2.1 0, .int) rfl).1 n (fun j => .int (f j))) (fun q => by cases q) (by show ¬ (i < 0 ∨ (arrV _ _ _).slots.size ≤ _); rw [arrV_size]; exact hin) rfl rfl hdg fun H1 e1 e2 e3 => ?_
  refine kk H1 _ ⟨hB, hP.set he ?_ e3, by rw [e2]; exact hz, fun q hq => (e3 q (Nat.ne_of_lt (Nat.lt_of_lt_of_le hq hla))).trans (hlo q hq), t_lc hL hla⟩
  show H1[a]? = some (vp_cell _ _)
  rw [e1, vp_cell_i, vp_cell_i, arrV_store]
  congr 2
  funext q
  by_cases hq : q = i.toNatClampNeg
  · subst hq; simp [updV, upd]
  · simp [updV, upd, hq]
theorem ad_lald (S : CallFix p m c cc nL s args ad_T own) (I : ad_I G lo s hp H locs) {n : Nat} {f : Nat → Int64} (he : hp a = some (.inl (G.2.1 2, n, .inr (.inl f)))) {i : Int32} (hin : vp_in i n) (hdg : decode cc pc = .ok (.laload, 1))
    (kk : W p l e R s m args below meth c H locs cells slots Q (F0 m (pc + 1) ls (.long (f i.toNatClampNeg) :: rest))) : W p l e R s m args below meth c H locs cells slots Q (F0 m pc ls (.int i :: .ref a :: rest)) := by
  obtain ⟨hx, hb, -, hown, hts⟩ := S
  exact va_lald (D := G.1) (cl := vwCl) (ws := [(a, _)]) hx hb I.1.2.1 (I.2.1.one he) 0 2 rfl rfl hin hdg kk
theorem ad_last (S : CallFix p m c cc nL s args ad_T own) (I : ad_I G lo s hp H locs) {n : Nat} {f : Nat → Int64} (he : hp a = some (.inl (G.2.1 2, n, .inr (.inl f)))) {i : Int32} {x : Int64} (hin : vp_in i n) (hdg : decode cc pc = .ok (.lastore, 1))
    (kk : ∀ (H1 : Heap) (locs1 : List Loc), ad_I G lo s (ad_up hp a (.inl (G.2.1 2, n, .inr (.inl (vp_updL f i.toNatClampNeg x))))) H1 locs1 → W p l e R s m args below meth c H1 locs1 cells slots Q (F0 m (pc + 1) ls rest)) : W p l e R s m args below meth c H locs cells slots Q (F0 m pc ls (.long x :: .int i :: .ref a :: rest)) := by
  obtain ⟨hx, hb, -, hown, hts⟩ := S
  obtain ⟨hB, hP, hz, hlo, hL⟩ := I
  obtain ⟨hla, hat⟩ := hP a _ he
  refine W.last hx hb hat ((hB.2.1.2 2 (G.2.1 2, .long) rfl).1 n (fun j => .long (f j))) (fun q => by cases q) (by show ¬ (i < 0 ∨ (arrV _ _ _).slots.size ≤ _); rw [arrV_size]; exact hin) rfl rfl hdg fun H1 e1 e2 e3 => ?_
  refine kk H1 _ ⟨hB, hP.set he ?_ e3, by rw [e2]; exact hz, fun q hq => (e3 q (Nat.ne_of_lt (Nat.lt_of_lt_of_le hq hla))).trans (hlo q hq), t_lc hL hla⟩
  show H1[a]? = some (vp_cell _ _)
  rw [e1, vp_cell_l, vp_cell_l, arrV_store]
  congr 2
  funext q
  by_cases hq : q = i.toNatClampNeg
  · subst hq; simp [updV, vp_updL]
  · simp [updV, vp_updL, hq]
theorem ad_alen (S : CallFix p m c cc nL s args ad_T own) (I : ad_I G lo s hp H locs) {cA : ClassId} {x : vp_A} (he : hp a = some (.inl (cA, x))) (t0 : Nat) {ty : FieldType} (ht : (ad_tys G)[t0]? = some (cA, ty)) {v : Int32} (hv : Int32.ofNat x.1 = v) (hdg : decode cc pc = .ok (.arraylength, 1))
    (kk : W p l e R s m args below meth c H locs cells slots Q (F0 m (pc + 1) ls (.int v :: rest))) : W p l e R s m args below meth c H locs cells slots Q (F0 m pc ls (.ref a :: rest)) := by
  obtain ⟨hx, hb, -, hown, hts⟩ := S
  exact va_alen (D := G.1) (cl := vwCl) (ws := [(a, _)]) hx hb I.1.2.1 (I.2.1.one he) 0 t0 rfl ht hv hdg kk
theorem ad_newa (S : CallFix p m c cc nL s args ad_T own) (I : ad_I G lo s hp H locs) {atype : ArrayType} (harr : Cond.arrayClass (newarray.typeOf atype) ∈ ad_T) {ty : FieldType} (hty : newarray.typeOf atype = ty) (t0 : Nat) {cA : ClassId} (ht : (ad_tys G)[t0]? = some (cA, ty)) (hRA : ∀ U, va_RA U cA ty = (U.vm.findClass ("[" ++ ty.toString) = some cA))
    {n : Int32} {N' : Nat} {a0 : vp_A} (ha : vp_cell cA a0 = arrV cA N' (fun _ => defaultValue ty)) (hn : ¬ n < 0) (hN : n.toNatClampNeg = N') (hbytes : N' * componentBytes ty ≤ 536870912) (hcells : cells + 1 ≤ R.cells) (hslots : slots + N' ≤ R.slots) (hdg : decode cc pc = .ok (.newarray atype, 2))
    (kk : ∀ (q : Nat) (H1 : Heap), hp q = none → ad_I G lo s (ad_up hp q (.inl (cA, a0))) H1 locs → W p l e R s m args below meth c H1 locs (cells + 1) (slots + N') Q (F0 m (pc + 2) ls (.ref q :: rest))) : W p l e R s m args below meth c H locs cells slots Q (F0 m pc ls (.int n :: rest)) := by
  subst hty
  obtain ⟨hx, hb, -, hown, hts⟩ := S
  obtain ⟨hB, hP, hz, hlo, hL⟩ := I
  have hlz : lo ≤ H.size := Nat.le_trans hB.1 hz
  have hcA := (hB.2.1.2 t0 _ ht).2
  rw [hRA] at hcA
  refine va_newaK hx hb (hts _ harr) rfl hdg rfl hn hN hbytes hcells hslots rfl fun H1 cA' e1 z1 o1 hAr hNm => ?_
  cases hNm.symm.trans hcA
  refine kk H.size H1 hP.fresh ⟨hB, hP.new hlz ?_ o1, by omega, fun q hq => (o1 q (by omega)).trans (hlo q hq), hL⟩
  show H1[H.size]? = some (vp_cell _ _)
  rw [ha]
  exact e1
end ADW
