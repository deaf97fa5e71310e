section ADV
variable {p : Program} {l : Launch} {e : Env} {R : Room} {s : State} {m : MethodId} {args : Array Value} {below : List Frame} {meth : Method} {c : Code} {H : Heap} {locs : List Loc} {cells slots : Nat} {Q : State → Prop}
variable {cc : ByteArray} {nL pc : Nat} {ls : Array Slot} {rest st : List Value} {own : String} {G : ad_G} {lo : Nat} {hp : ad_H}
variable {y : MethodName} {cy : ByteArray} {ny : Nat} {rt : Option FieldType} {hs : List (Nat × Nat × Nat × Nat)} {d mc ms : Nat} {As : List Value}
def ad_Iv (p : Program) (l : Launch) (e : Env) (R : Room) (s : State) (m : MethodId) (args : Array Value) (below : List Frame) (meth : Method) (c : Code) (H : Heap) (locs : List Loc) (cells slots : Nat) (pc : Nat) (ls : Array Slot) (st rest : List Value) (y : MethodName) (Av : List Value) : Prop :=
  ∀ T : State, T.heap = H → Stand p l e R s m args below meth c T locs cells slots → ∃ vm₁, Stand p l e R s m args below meth c (T.setVm vm₁) locs cells slots ∧ ∀ (mk : MethodId), s.methodNamed? y = some mk → ∀ target, (∀ acts, Steps p.tables e below (doInvoke e ((T.setVm vm₁).setTop (F0 m pc ls rest)) acts mk Av.toArray).1 target) → Steps p.tables e below (T.setTop (F0 m pc ls st)) target
theorem ad_np {y : MethodName} {n : Nat} (h : (parseMethodDescriptor y.desc).map (fun d => d.parameters.length) = some n) {sig : MethodDescriptor} (hs : parseMethodDescriptor y.desc = some sig) : n = sig.parameters.length := by
  rw [hs] at h
  exact (Option.some.inj h).symm
theorem ad_ivS (S : CallFix p m c cc nL s args ad_T own) (Y : ad_Y y cy ny rt hs) {index : Nat} (hlink : Cond.methodLink own index y ∈ ad_T) (hstat : Cond.static y ∈ ad_T) (hini : Cond.initialized y.cls ∈ ad_T)
    (hd : y.cls ≠ "java/lang/invoke/MethodHandle" ∧ y.cls ≠ "java/lang/invoke/VarHandle" ∧ (parseMethodDescriptor y.desc).map (fun d => d.parameters.length) = some As.length) (hst : st = As.reverse ++ rest) (hdg : decode cc pc = .ok (.invokestatic index, 3)) :
    ad_Iv p l e R s m args below meth c H locs cells slots pc ls st rest y As := by
  obtain ⟨hx, hb, -, hown, hts⟩ := S
  intro T hT X
  obtain ⟨mk0, methk, ck, hn, hmk, -, -, -, -, -, -, hsk⟩ := Y.at hts
  obtain ⟨kP, hkP, -⟩ := className_of_methodNamed hn
  obtain ⟨vm₁, X₁, hstep⟩ := X.invokestatic hx hown (hts _ hlink) hn hmk (Cond.static_spec hn hmk (hts _ hstat)) hkP (Cond.initialized_spec (findClass_of_methodNamed hn) hkP (hts _ hini)) ⟨hd.1, hd.2.1⟩ (g := F0 m pc ls st) rfl (argsL := As) (rest := rest) (ad_np hd.2.2 hsk) hst (by rw [hb]; exact hdg)
  refine ⟨vm₁, X₁, fun mk hmk2 target h => ?_⟩
  cases hn.symm.trans hmk2
  exact hstep target h
theorem ad_ivV (S : CallFix p m c cc nL s args ad_T own) {b : Addr} {C : String} (hrec : ∃ cellB : Cell, H[b]? = some cellB ∧ cellB.vm.isStatics = false ∧ s.vm.findClass C = some cellB.cls) {index : Nat} (hlink : Cond.methodLink own index y ∈ ad_T) (hinst : Cond.instanceMethod y ∈ ad_T) (hsel : Cond.selects C y y ∈ ad_T) (Y : ad_Y y cy ny rt hs)
    (hd : y.cls ≠ "java/lang/invoke/MethodHandle" ∧ y.cls ≠ "java/lang/invoke/VarHandle" ∧ (parseMethodDescriptor y.desc).map (fun d => d.parameters.length) = some As.length) (hst : st = As.reverse ++ .ref b :: rest) (hdg : decode cc pc = .ok (.invokevirtual index, 3)) :
    ad_Iv p l e R s m args below meth c H locs cells slots pc ls st rest y (.ref b :: As) := by
  obtain ⟨hx, hb, -, hown, hts⟩ := S
  obtain ⟨cellB, hcB, hoB, hclB⟩ := hrec
  intro T hT X
  obtain ⟨mk, methM, hnamed, hmethM, hstM, habM⟩ := Cond.instanceMethod_spec (hts _ hinst)
  obtain ⟨mk0, methk, ck, hn, hmk, -, -, -, -, -, -, hsk⟩ := Y.at hts
  cases hnamed.symm.trans hn
  cases hmethM.symm.trans hmk
  have hy : y.cls ≠ "java/lang/invoke/MethodHandle" ∧ y.cls ≠ "java/lang/invoke/VarHandle" := ⟨hd.1, hd.2.1⟩
  obtain ⟨c2, r2, m2, q1, q2, q3, q4, kP, hkP, hkPi⟩ := Cond.selects_spec (hts _ hsel)
  cases hclB.symm.trans q1
  cases (State.methodFound?_of_named hnamed hy).symm.trans q2
  cases hnamed.symm.trans q3
  have hselP : selectMethod e.platform s.vm cellB.cls mk = .method mk := by rw [Launch.admits_selectMethod X.admits]; exact q4
  obtain ⟨vm₁, X₁, hstep⟩ := X.invokevirtual hx hown (hts _ hlink) hnamed hmethM hstM hkP hkPi hy (a := b) (cell := cellB) (by rw [hT]; exact hcB)
    (fun z h => by rw [h] at hoB; cases hoB) hselP hmethM habM hkP hkPi (g := F0 m pc ls st) rfl (argsL := As) (rest := rest) (ad_np hd.2.2 hsk) hst (by rw [hb]; exact hdg)
  refine ⟨vm₁, X₁, fun mk2 hmk2 target h => ?_⟩
  cases hnamed.symm.trans hmk2
  exact hstep target h
theorem ad_ivI (S : CallFix p m c cc nL s args ad_T own) {b : Addr} {index : Nat} (hlink : Cond.methodLink own index y ∈ ad_T) (hinst : Cond.instanceMethod y ∈ ad_T) (hcode : Cond.code y cy ny none ∈ ad_T) (hin : y.name = "<init>")
    (hd : y.cls ≠ "java/lang/invoke/MethodHandle" ∧ y.cls ≠ "java/lang/invoke/VarHandle" ∧ (parseMethodDescriptor y.desc).map (fun d => d.parameters.length) = some As.length) (hst : st = As.reverse ++ .ref b :: rest) (hdg : decode cc pc = .ok (.invokespecial index, 3)) :
    ad_Iv p l e R s m args below meth c H locs cells slots pc ls st rest y (.ref b :: As) := by
  obtain ⟨hx, hb, -, hown, hts⟩ := S
  intro T hT X
  have hpl : e.platform.magicAccessors = ({} : Platform).magicAccessors := by rw [X.admits.platform]
  obtain ⟨tm, methM, cM, kP, vm₁, hnamed, -, -, -, -, -, -, -, hW₁, hstep⟩ := Steps.initColdArgs (e := e) X.here hx X.warmed hpl hown hin ⟨hd.1, hd.2.1⟩ (hts _ hlink) (hts _ hinst) (hts _ hcode) (f := F0 m pc ls st) rfl (argsL := As) (rest := rest) (fun sig h => ad_np hd.2.2 h) hst (by rw [hb]; exact hdg)
  refine ⟨vm₁, X.noted hW₁, fun mk2 hmk2 target h => ?_⟩
  cases hnamed.symm.trans hmk2
  exact hstep target h
theorem ad_cZ (S : CallFix p m c cc nL s args ad_T own) (I : ad_I G lo s hp H locs) (iv : ad_Iv p l e R s m args below meth c H locs cells slots pc ls st rest y As) {Post : ad_R → ad_H → Prop} (K : ad_Ct l y cy ny rt hs d mc ms G lo hp As Post) (Y : ad_Y y cy ny rt hs) (hls : ls.size = nL)
    (hR : d + 1 ≤ R.frames ∧ (rest.map fun v => v.category).sum + (ny + 11) + 37 * d ≤ R.locals) (hcells : cells + mc ≤ R.cells) (hslots : slots + ms ≤ R.slots) {ig : Instr} (hdg : decode cc pc = .ok (ig, 3))
    (k1 : ∀ (v : Option Value) (hp' : ad_H) (H1 : Heap) (locs1 : List Loc), Post (.inl v) hp' → ad_I G lo s hp' H1 locs1 → W p l e R s m args below meth c H1 locs1 (cells + mc) (slots + ms) Q (F0 m (pc + 3) ls (v.toList ++ rest)))
    (k2 : ∀ (C : String) (hp' : ad_H) (H1 : Heap) (locs1 : List Loc) (x : Addr) (cell : Cell), Post (.inr C) hp' → ad_I G lo s hp' H1 locs1 → H1[x]? = some cell → cell.vm = .none → s.vm.findClass C = some cell.cls → ad_WT p l e R s m args below meth c H1 locs1 (cells + mc) (slots + ms) Q (F0 m pc ls rest) x) :
    W p l e R s m args below meth c H locs cells slots Q (F0 m pc ls st) := by
  obtain ⟨hx, hb, hml, hown, hts⟩ := S
  intro T hT X
  obtain ⟨vm₁, X₁, hstep⟩ := iv T hT X
  obtain ⟨mk, methk, T', r, hp', L, hn, -, -, XT, hq, I', hr⟩ := ad_callZ X₁ (H := H) (show (T.setVm vm₁).heap = H from hT) I hx hts (g := F0 m pc ls rest) rfl (hls.trans hml.symm) (by rw [hb]; exact hdg) K Y ⟨hR.1, by show 2 * 0 + (rest.map fun v => v.category).sum + _ + _ ≤ _; omega⟩ hcells hslots
  cases r with
  | inl v =>
    obtain ⟨t, a1, b1⟩ := k1 v hp' T'.heap _ hq I' T' rfl XT
    exact ⟨t, hstep mk hn t (fun acts => (hr acts).trans a1), b1⟩
  | inr C =>
    obtain ⟨x, cell, g1, g2, g3, g4⟩ := hr
    obtain ⟨t, a1, b1⟩ := k2 C hp' T'.heap _ x cell hq I' g1 g2 g3 T' rfl XT
    exact ⟨t, hstep mk hn t (fun acts => (g4 acts).trans a1), b1⟩
theorem ad_cP (S : CallFix p m c cc nL s args ad_T own) (I : ad_I G lo s hp H locs) (iv : ad_Iv p l e R s m args below meth c H locs cells slots pc ls st rest y As) {Post : ad_R → Prop} (K : ad_Cp l y cy ny rt hs d mc ms G lo hp As Post) (Y : ad_Y y cy ny rt hs) (hls : ls.size = nL)
    (hR : d + 1 ≤ R.frames ∧ (rest.map fun v => v.category).sum + (ny + 11) + 37 * d ≤ R.locals) (hcells : cells + mc ≤ R.cells) (hslots : slots + ms ≤ R.slots) {ig : Instr} (hdg : decode cc pc = .ok (ig, 3))
    (k1 : ∀ v : Option Value, Post (.inl v) → W p l e R s m args below meth c H locs cells slots Q (F0 m (pc + 3) ls (v.toList ++ rest)))
    (k2 : ∀ (C : String) (H1 : Heap) (x : Addr) (cell : Cell), Post (.inr C) → H.size ≤ H1.size → (∀ q : Nat, q < H.size → H1[q]? = H[q]?) → H1[x]? = some cell → cell.vm = .none → s.vm.findClass C = some cell.cls → ad_WT p l e R s m args below meth c H1 locs (cells + mc) (slots + ms) Q (F0 m pc ls rest) x) :
    W p l e R s m args below meth c H locs cells slots Q (F0 m pc ls st) := by
  obtain ⟨hx, hb, hml, hown, hts⟩ := S
  intro T hT X
  obtain ⟨vm₁, X₁, hstep⟩ := iv T hT X
  obtain ⟨mk, methk, T', r, hn, -, -, hq, hr⟩ := ad_callP X₁ (H := H) (show (T.setVm vm₁).heap = H from hT) I hx hts (g := F0 m pc ls rest) rfl (hls.trans hml.symm) (by rw [hb]; exact hdg) K Y ⟨hR.1, by show 2 * 0 + (rest.map fun v => v.category).sum + _ + _ ≤ _; omega⟩ hcells hslots
  cases r with
  | inl v =>
    obtain ⟨h1, XT, h2⟩ := hr
    obtain ⟨t, a1, b1⟩ := k1 v hq T' h1 XT
    exact ⟨t, hstep mk hn t (fun acts => (h2 acts).trans a1), b1⟩
  | inr C =>
    obtain ⟨z1, z2, XT, x, cell, g1, g2, g3, g4⟩ := hr
    obtain ⟨t, a1, b1⟩ := k2 C T'.heap x cell hq z1 z2 g1 g2 g3 T' rfl XT
    exact ⟨t, hstep mk hn t (fun acts => (g4 acts).trans a1), b1⟩
theorem ad_recv (I : ad_I G lo s hp H locs) {a ci : Nat} {fs : List Value} (he : hp a = some (.inr (ci, fs))) {C : String} {T : u_T} {N : Nat} {ty0 : Nat → FieldType} (K : ad_K ci C T N ty0) : ∃ cell : Cell, H[a]? = some cell ∧ cell.vm.isStatics = false ∧ s.vm.findClass C = some cell.cls :=
  va_recv (q := (C, T, N)) (ws := [(a, .inr (ci, fs))]) (q0 := 0) I.1.2.1 (I.2.1.one he) K.1 rfl
end ADV
