def ad_Y (y : MethodName) (cc : ByteArray) (nL : Nat) (rt : Option FieldType) (hs : List (Nat × Nat × Nat × Nat)) : Prop := plainName y.cls = true ∧ ((Cond.code y cc nL rt ∈ ad_T ∧ hs = []) ∨ Cond.codeWith y cc nL rt hs ∈ ad_T)
theorem ad_Y.at {y : MethodName} {cc : ByteArray} {nL : Nat} {rt : Option FieldType} {hs : List (Nat × Nat × Nat × Nat)} (h : ad_Y y cc nL rt hs) {s : State} {args : Array Value} (hts : ∀ w ∈ ad_T, w.before args s = true) :
    ∃ (mk : MethodId) (meth : Method) (c : Code), s.methodNamed? y = some mk ∧ s.vm.method? mk = some meth ∧ meth.code = some c ∧ c.code = cc ∧ c.maxLocals = nL ∧ meth.sig.returnType = rt ∧ meth.locks = false ∧ c.exceptionTable.toList = tableOf hs ∧ parseMethodDescriptor y.desc = some meth.sig := by
  obtain ⟨-, ⟨h1, rfl⟩ | h1⟩ := h
  · have hc := hts _ h1
    obtain ⟨mk, hn⟩ := Cond.code_named hc
    obtain ⟨meth, c, a1, a2, a3, a4, a5, a6, a7, a8⟩ := Cond.code_spec hn hc
    refine ⟨mk, meth, c, hn, a1, a2, a3, a4, a5, a6, ?_, a8⟩
    have h0 : c.exceptionTable = #[] := by simpa using a7
    rw [h0]; rfl
  · obtain ⟨mk, meth, c, hn, a1, a2, a3, a4, a5, a6, a7, a8⟩ := Cond.codeWith_spec (hts _ h1)
    exact ⟨mk, meth, c, hn, a1, a2, a3, a4, a6, a7, by rw [← a5, table_eq], a8⟩
section ADC
variable {p : Program} {l : Launch} {e : Env} {R : Room} {s : State} {m : MethodId} {args : Array Value} {below : List Frame} {meth : Method} {c : Code} {H : Heap} {locs : List Loc} {cells slots : Nat} {Q : State → Prop}
variable {cc : ByteArray} {nL pc : Nat} {ls : Array Slot} {rest : List Value} {own : String} {G : ad_G} {lo : Nat} {hp : ad_H}
variable {y : MethodName} {cy : ByteArray} {ny : Nat} {rt : Option FieldType} {hs : List (Nat × Nat × Nat × Nat)} {d mc ms : Nat} {As : List Value}
theorem ad_into {T₁ : State} (X₁ : Stand p l e R s m args below meth c T₁ locs cells slots) (hexec : p.tables.exec = Jvm.exec) (hts : ∀ w ∈ ad_T, w.before args s = true) {g : JFrame} (hg : g.method = m) (hsize : g.locals.size = c.maxLocals) {ig : Instr} {len : Nat} (hdg : decode c.code g.pc = .ok (ig, len))
    (Y : ad_Y y cy ny rt hs) (hR : d + 1 ≤ R.frames ∧ 2 * g.monitorRoom + (g.stack.map fun v => v.category).sum + (ny + 11) + 37 * d ≤ R.locals) (hcells : cells + mc ≤ R.cells) (hslots : slots + ms ≤ R.slots) :
    ∃ (mk : MethodId) (methk : Method) (ck : Code), s.methodNamed? y = some mk ∧ s.vm.method? mk = some methk ∧ parseMethodDescriptor y.desc = some methk.sig ∧ ad_M y cy ny rt hs p (T₁.calling g mk As.toArray) mk methk ck ∧ (∀ w ∈ ad_T, w.before As.toArray (T₁.calling g mk As.toArray) = true) ∧
      Stand p l e (ad_rm d mc ms) (T₁.calling g mk As.toArray) mk As.toArray (.java g :: below) methk ck ((T₁.setTop g).pushFrame (.java (entryFrame mk As.toArray ck.maxLocals))) [] 0 0 ∧
      ∀ acts, (doInvoke e (T₁.setTop g) acts mk As.toArray).1 = ((T₁.setTop g).pushFrame (.java (entryFrame mk As.toArray ck.maxLocals))).setTop (entryFrame mk As.toArray ck.maxLocals) := by
  obtain ⟨mk, methk, ck, hn, hmk, hck, hbk, hlk, hrk, hlock, htk, hsk⟩ := Y.at hts
  have hmT : T₁.vm.method? mk = some methk := by rw [X₁.warmed.alike.method?]; exact hmk
  have hpl : T₁.plainMethod mk := by
    refine State.plainMethod.of_name ?_
    intro k hk
    obtain ⟨k', hk', hnm⟩ := className_of_methodNamed (X₁.named hn)
    cases hk.symm.trans hk'
    rw [hnm]; exact Y.1
  obtain ⟨Yk, hdo⟩ := X₁.into (R' := ad_rm d mc ms) hg hsize hdg As.toArray hmT hck hlock hpl (show d + 1 ≤ R.frames from hR.1) (by rw [hlk]; exact hR.2) (show cells + mc ≤ R.cells from hcells) (show slots + ms ≤ R.slots from hslots)
  refine ⟨mk, methk, ck, hn, hmk, hsk, ⟨hexec, hbk, hlk, ?_, hrk, hlock, htk, (name_of_methodNamed hn hmk).1⟩, ad_words hts (U := T₁.calling g mk As.toArray) X₁.warmed, Yk, hdo⟩
  show T₁.vm.findClass y.cls = some mk.cls
  rw [X₁.warmed.alike.findClass]
  exact findClass_of_methodNamed hn
theorem ad_callZ {T₁ : State} (X₁ : Stand p l e R s m args below meth c T₁ locs cells slots) (hT : T₁.heap = H) (I : ad_I G lo s hp H locs) (hexec : p.tables.exec = Jvm.exec) (hts : ∀ w ∈ ad_T, w.before args s = true) {g : JFrame} (hg : g.method = m) (hsize : g.locals.size = c.maxLocals) {ig : Instr} {len : Nat} (hdg : decode c.code g.pc = .ok (ig, len))
    {Post : ad_R → ad_H → Prop} (K : ad_Ct l y cy ny rt hs d mc ms G lo hp As Post) (Y : ad_Y y cy ny rt hs) (hR : d + 1 ≤ R.frames ∧ 2 * g.monitorRoom + (g.stack.map fun v => v.category).sum + (ny + 11) + 37 * d ≤ R.locals) (hcells : cells + mc ≤ R.cells) (hslots : slots + ms ≤ R.slots) :
    ∃ (mk : MethodId) (methk : Method) (T' : State) (r : ad_R) (hp' : ad_H) (L : List Loc), s.methodNamed? y = some mk ∧ s.vm.method? mk = some methk ∧ parseMethodDescriptor y.desc = some methk.sig ∧ Stand p l e R s m args below meth c T' (locs ++ L) (cells + mc) (slots + ms) ∧ Post r hp' ∧ ad_I G lo s hp' T'.heap (locs ++ L) ∧
      match r with
      | .inl v => ∀ acts, Steps p.tables e below (doInvoke e (T₁.setTop g) acts mk As.toArray).1 (T'.setTop { g with pc := g.pc + len, stack := v.toList ++ g.stack })
      | .inr C => ∃ (x : Addr) (cell : Cell), T'.heap[x]? = some cell ∧ cell.vm = .none ∧ s.vm.findClass C = some cell.cls ∧ ∀ acts, Steps p.tables e below (doInvoke e (T₁.setTop g) acts mk As.toArray).1 ((T'.setTop g).pushFrame (.throwing x)) := by
  obtain ⟨mk, methk, ck, hn, hmk, hsk, hM, hw, Yk, hdo⟩ := ad_into (As := As) (d := d) (mc := mc) (ms := ms) X₁ hexec hts hg hsize hdg Y hR hcells hslots
  obtain ⟨hB, hP, hz, hlo, hL⟩ := I
  have hB' : ad_B G lo (T₁.calling g mk As.toArray) := ad_B.move hB (show s.WarmedH T₁.vm from X₁.warmed) (by show lo ≤ T₁.heap.size; rw [hT]; exact Nat.le_trans hB.1 hz) (fun q hq => by show T₁.heap[q]? = _; rw [hT]; exact hlo q hq)
  obtain ⟨t, hst, o, r, hp', h1, h2, h3, ⟨L, h4, h5⟩, h6, h7, h8, h9, h10⟩ := K p e _ mk (.java g :: below) methk ck hM hw hB' (by show ad_P G lo hp T₁.heap; rw [hT]; exact hP) ((T₁.setTop g).pushFrame (.java (entryFrame mk As.toArray ck.maxLocals))) rfl Yk
  rw [← hM.2.2.1] at hst
  have hs9 : T₁.heap.size ≤ t.heap.size := h9
  have hs10 : ∀ q : Nat, q < lo → t.heap[q]? = T₁.heap[q]? := h10
  rw [hT] at hs9 hs10
  refine ⟨mk, methk, ?_⟩
  cases r with
  | inl v =>
    have ho : o = .returned v := h7
    subst ho
    obtain ⟨T', XT, -, -, et⟩ := X₁.outOf hg hdg h2 h3 h4
    have eh : T'.heap = t.heap := by rw [et]; rfl
    refine ⟨T', .inl v, hp', L, hn, hmk, hsk, XT, h6, ⟨hB, by rw [eh]; exact h8, by rw [eh]; omega, fun q hq => by rw [eh, hs10 q hq]; exact hlo q hq, t_lL hL h5⟩, fun acts => ?_⟩
    rw [hdo acts, ← et]
    exact ad_pop hst
  | inr C =>
    obtain ⟨x, cell, rfl, g1, g2, g3⟩ := h7
    obtain ⟨T', XT, -, -, et⟩ := X₁.outOfThrown hg h2 h3 h4
    have eh : T'.heap = t.heap := by rw [et, Stand.throwing_heap]
    have ev : T'.vm = t.vm := by rw [et, Stand.throwing_vm]
    refine ⟨T', .inr C, hp', L, hn, hmk, hsk, XT, h6, ⟨hB, by rw [eh]; exact h8, by rw [eh]; omega, fun q hq => by rw [eh, hs10 q hq]; exact hlo q hq, t_lL hL h5⟩, x, cell, by rw [eh]; exact g1, g2, by rw [← XT.warmed.alike.findClass, ev]; exact g3, fun acts => ?_⟩
    rw [hdo acts, ← et]
    exact ad_pop hst
theorem ad_callP {T₁ : State} (X₁ : Stand p l e R s m args below meth c T₁ locs cells slots) (hT : T₁.heap = H) (I : ad_I G lo s hp H locs) (hexec : p.tables.exec = Jvm.exec) (hts : ∀ w ∈ ad_T, w.before args s = true) {g : JFrame} (hg : g.method = m) (hsize : g.locals.size = c.maxLocals) {ig : Instr} {len : Nat} (hdg : decode c.code g.pc = .ok (ig, len))
    {Post : ad_R → Prop} (K : ad_Cp l y cy ny rt hs d mc ms G lo hp As Post) (Y : ad_Y y cy ny rt hs) (hR : d + 1 ≤ R.frames ∧ 2 * g.monitorRoom + (g.stack.map fun v => v.category).sum + (ny + 11) + 37 * d ≤ R.locals) (hcells : cells + mc ≤ R.cells) (hslots : slots + ms ≤ R.slots) :
    ∃ (mk : MethodId) (methk : Method) (T' : State) (r : ad_R), s.methodNamed? y = some mk ∧ s.vm.method? mk = some methk ∧ parseMethodDescriptor y.desc = some methk.sig ∧ Post r ∧
      match r with
      | .inl v => T'.heap = H ∧ Stand p l e R s m args below meth c T' locs cells slots ∧ ∀ acts, Steps p.tables e below (doInvoke e (T₁.setTop g) acts mk As.toArray).1 (T'.setTop { g with pc := g.pc + len, stack := v.toList ++ g.stack })
      | .inr C => H.size ≤ T'.heap.size ∧ (∀ q : Nat, q < H.size → T'.heap[q]? = H[q]?) ∧ Stand p l e R s m args below meth c T' locs (cells + mc) (slots + ms) ∧ ∃ (x : Addr) (cell : Cell), T'.heap[x]? = some cell ∧ cell.vm = .none ∧ s.vm.findClass C = some cell.cls ∧ ∀ acts, Steps p.tables e below (doInvoke e (T₁.setTop g) acts mk As.toArray).1 ((T'.setTop g).pushFrame (.throwing x)) := by
  obtain ⟨mk, methk, ck, hn, hmk, hsk, hM, hw, Yk, hdo⟩ := ad_into (As := As) (d := d) (mc := mc) (ms := ms) X₁ hexec hts hg hsize hdg Y hR hcells hslots
  obtain ⟨hB, hP, hz, hlo, hL⟩ := I
  have hB' : ad_B G lo (T₁.calling g mk As.toArray) := ad_B.move hB (show s.WarmedH T₁.vm from X₁.warmed) (by show lo ≤ T₁.heap.size; rw [hT]; exact Nat.le_trans hB.1 hz) (fun q hq => by show T₁.heap[q]? = _; rw [hT]; exact hlo q hq)
  obtain ⟨t, hst, o, r, h1, h2, h3, h6, h7, h9, h10, h11⟩ := K p e _ mk (.java g :: below) methk ck hM hw hB' (by show ad_P G lo hp T₁.heap; rw [hT]; exact hP) ((T₁.setTop g).pushFrame (.java (entryFrame mk As.toArray ck.maxLocals))) rfl Yk
  rw [← hM.2.2.1] at hst
  have hs9 : T₁.heap.size ≤ t.heap.size := h9
  have hs10 : ∀ q : Nat, q < T₁.heap.size → t.heap[q]? = T₁.heap[q]? := h10
  rw [hT] at hs9 hs10
  refine ⟨mk, methk, ?_⟩
  cases r with
  | inl v =>
    have ho : o = .returned v := h7
    subst ho
    obtain ⟨h12, h4⟩ := h11
    obtain ⟨T', XT, -, -, et⟩ := X₁.outOf hg hdg h2 h3 h4
    have eh : T'.heap = t.heap := by rw [et]; rfl
    refine ⟨T', .inl v, hn, hmk, hsk, h6, by rw [eh, h12]; exact hT, by simpa using XT, fun acts => ?_⟩
    rw [hdo acts, ← et]
    exact ad_pop hst
  | inr C =>
    obtain ⟨x, cell, rfl, g1, g2, g3⟩ := h7
    obtain ⟨T', XT, -, -, et⟩ := X₁.outOfThrown hg h2 h3 h11
    have eh : T'.heap = t.heap := by rw [et, Stand.throwing_heap]
    have ev : T'.vm = t.vm := by rw [et, Stand.throwing_vm]
    refine ⟨T', .inr C, hn, hmk, hsk, h6, by rw [eh]; exact hs9, fun q hq => by rw [eh]; exact hs10 q hq, by simpa using XT, x, cell, by rw [eh]; exact g1, g2, by rw [← XT.warmed.alike.findClass, ev]; exact g3, fun acts => ?_⟩
    rw [hdo acts, ← et]
    exact ad_pop hst
end ADC
