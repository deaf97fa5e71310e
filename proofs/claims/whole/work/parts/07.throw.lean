def ad_fnd (pl : Platform) (s : State) (dc : ClassId) (pc : Nat) (k : ClassId) : List ExceptionTableEntry → Nat → Prop
  | [], _ => False
  | x :: t, h => (covers x pc = false ∧ ad_fnd pl s dc pc k t h) ∨ (covers x pc = true ∧ x.catchType ≠ 0 ∧ ∃ c, s.vm.ClassLinks pl dc x.catchType c ∧ ((s.vm.assignable k c = true ∧ x.handlerPc = h) ∨ (s.vm.assignable k c = false ∧ ad_fnd pl s dc pc k t h)))
theorem ad_go {e : Env} {s : State} {f : JFrame} {a : Addr} {cell : Cell} (hobj : ∀ k, cell.vm ≠ .statics k) (hk0 : ∃ k, s.vm.classes[cell.cls]? = some k) :
    ∀ (es : List ExceptionTableEntry) (h : Nat), ad_fnd e.platform s f.method.cls f.pc cell.cls es h → ∀ (U : State), s.WarmedH U.vm → U.heap[a]? = some cell →
      ∃ vm', s.WarmedH vm' ∧ ∀ (Q : Handler → Pre) (E : CtlPost) (d : Bool) (acts : List Action), wp (findHandler.go f a es) Q E e d acts U ↔ Q (.found h) d acts (U.setVm vm') := by
  intro es
  induction es with
  | nil => intro h hf; exact hf.elim
  | cons x t ih =>
    intro h hf U hW hcell
    rcases hf with ⟨hx, hf⟩ | ⟨hx, h0, c, hl, hf⟩
    · obtain ⟨vm', hW', hq⟩ := ih h hf U hW hcell
      exact ⟨vm', hW', fun Q E d acts => by rw [W.findHandler_go_skip hx]; exact hq Q E d acts⟩
    · obtain ⟨dk, _, _, kt, hd, _, _, _, _, hkt, _, hopen⟩ := hl.here
      have hW2 : s.WarmedH (U.vm.noted f.method.cls x.catchType (.cls c)) := hW.noted hd hopen (State.rightAt_cls hl)
      obtain ⟨k0, hk0⟩ := hk0
      obtain ⟨k1, hk1, -⟩ := hW2.alike.2.2 _ _ hk0
      obtain ⟨k2, hk2, -⟩ := hW2.alike.2.2 _ _ hkt
      obtain ⟨ha, ht⟩ := (resolveClass_links e.toSetting (hW.classLinks hl)).op (op := VmOp.resolveClass f.method.cls x.catchType) rfl
      have hx' := hx
      simp only [covers] at hx'
      rcases hf with ⟨hfit, rfl⟩ | ⟨hno, hf⟩
      · have hfit' : (U.vm.noted f.method.cls x.catchType (.cls c)).assignable cell.cls c = true := by rw [hW2.alike.assignable]; exact hfit
        refine ⟨_, hW2, fun Q E d acts => ?_⟩
        simp [findHandler.go, hx', h0, ha, ht, hcell, hobj, hk1, hk2, hfit', VmOp.dirties, VmOp.acts]
      · have hno' : (U.vm.noted f.method.cls x.catchType (.cls c)).assignable cell.cls c = false := by rw [hW2.alike.assignable]; exact hno
        obtain ⟨vm', hW', hq⟩ := ih h hf (U.setVm (U.vm.noted f.method.cls x.catchType (.cls c))) hW2 hcell
        refine ⟨vm', hW', fun Q E d acts => ?_⟩
        have h3 := hq Q E d acts
        simp [findHandler.go, hx', h0, ha, ht, hcell, hobj, hk1, hk2, hno', VmOp.dirties, VmOp.acts] at h3 ⊢
        exact h3
section ADT
variable {p : Program} {l : Launch} {e : Env} {R : Room} {s : State} {m : MethodId} {args : Array Value} {below : List Frame} {meth : Method} {c : Code} {H : Heap} {locs : List Loc} {cells slots : Nat} {Q : State → Prop}
variable {cc : ByteArray} {nL pc : Nat} {ls : Array Slot} {rest st : List Value} {own : String} {G : ad_G} {lo : Nat} {hp : ad_H} {y : MethodName} {rt : Option FieldType} {hs : List (Nat × Nat × Nat × Nat)} {mc ms : Nat}
theorem ad_catch (M : ad_M y cc nL rt hs p s m meth c) {x : Addr} {cell : Cell} {C : String} (hx : H[x]? = some cell) (hv : cell.vm = .none) (hC : s.vm.findClass C = some cell.cls) {h : Nat} (hf : ad_fnd e.platform s m.cls pc cell.cls (tableOf hs) h)
    (kk : W p l e R s m args below meth c H locs cells slots Q (F0 m h ls [.ref x])) : ad_WT p l e R s m args below meth c H locs cells slots Q (F0 m pc ls st) x := by
  obtain ⟨hexec, hb, -, -, hr, hlocks, htab, -⟩ := M
  intro T hT X
  obtain ⟨k0, hk0, -⟩ := Vm.findClass_spec hC
  have hc0 : (((T.setTop (F0 m pc ls st)).pushFrame (.throwing x)) : State).heap[x]? = some cell := by rw [Stand.throwing_heap, hT]; exact hx
  obtain ⟨vm', hW', hq⟩ := ad_go (e := e) (s := s) (f := F0 m pc ls st) (a := x) (cell := cell) (fun k h => by rw [hv] at h; cases h) ⟨k0, hk0⟩ (tableOf hs) h hf ((T.setTop (F0 m pc ls st)).pushFrame (.throwing x)) (by rw [Stand.throwing_vm]; exact X.warmed) hc0
  obtain ⟨t, a1, b1⟩ := kk (T.setVm vm') hT (X.noted hW')
  refine ⟨t, ?_, b1⟩
  have hAt : At T (F0 m pc ls st).method c below := X.here
  obtain ⟨hgo, hw⟩ := hAt.throwing x
  refine Steps.head hgo hw ?_
  rw [stepThread_throwing (frames_entered hAt.top _)]
  have hstep : (stepThrowing e ((T.setTop (F0 m pc ls st)).pushFrame (.throwing x)) x (.java (F0 m pc ls st) :: T.frames.tail)).1 = (((T.setTop (F0 m pc ls st)).pushFrame (.throwing x)).setVm vm').setFrames (.java { F0 m pc ls st with pc := h, stack := [.ref x] } :: T.frames.tail) := by
    have hfind : ∀ (Q : Handler → Pre) (E : CtlPost) (d : Bool) (acts : List Action), wp (findHandler (F0 m pc ls st) x) Q E e d acts ((T.setTop (F0 m pc ls st)).pushFrame (.throwing x)) ↔ Q (.found h) d acts (((T.setTop (F0 m pc ls st)).pushFrame (.throwing x)).setVm vm') := by
      intro Q E d acts
      rw [W.findHandler_eq (meth := meth) (code := c) (by rw [Stand.throwing_vm]; exact X.method') X.code, htab]
      exact hq Q E d acts
    simp only [stepThrowing, searchFrame, vmDo]
    generalize hres : Sem.go _ e false [] _ = res
    obtain ⟨as, rfl, ha⟩ := Sem.eq_ok_of hres (a := Handler.found h) (s' := ((T.setTop (F0 m pc ls st)).pushFrame (.throwing x)).setVm vm') (acts' := []) (by simp [hfind])
    rfl
  rw [hstep]
  obtain ⟨g₀, hfr⟩ := X.frames_eq
  have e1 : ((((T.setTop (F0 m pc ls st)).pushFrame (.throwing x)).setVm vm').setFrames (.java { F0 m pc ls st with pc := h, stack := [.ref x] } :: T.frames.tail)) = (T.setVm vm').setTop (F0 m h ls [.ref x]) := by
    have hfr' : (T.setVm vm').frames = .java g₀ :: below := hfr
    rw [State.setTop_of_frames _ hfr', State.pushFrame, State.setTop_of_frames _ hfr, hfr]
    have z : ∀ (u : State) (F F2 : List Frame), ((u.setFrames F).setVm vm').setFrames F2 = (u.setVm vm').setFrames F2 := fun u F F2 => by
      have h1 : (u.setFrames F).setVm vm' = (u.setVm vm').setFrames F := rfl
      rw [h1, State.setFrames_setFrames]
    rw [z, z]
    rfl
  rw [e1]
  exact a1
theorem ad_thrP (S : CallFix p m c cc nL s args ad_T own) (M : ad_M y cc nL rt hs p s m meth c) (hl : l.stackTraces = false) {X : String} {names : List String} {i0 i4 ic q : Nat} {tx : String}
    (hclk : Cond.classLink own i0 X ∈ ad_T) (hinst : Cond.instantiable X 6 ∈ ad_T) (hini : Cond.initialized X ∈ ad_T) (hstr : vk_R own i4 tx q s) (hat : ∀ a ∈ Bundle.ownAtoms own ic X names, a.before args s = true) (hcls : Bundle.fit X = true) (hnames : ∀ n ∈ names, Bundle.fit n = true) (hls : ls.size = nL)
    (d0 : decode cc pc = .ok (.new i0, 3)) (d3 : decode cc (pc + 3) = .ok (.dup, 1)) (d4 : decode cc (pc + 3 + 1) = .ok (.ldc i4, 2)) (d6 : decode cc (pc + 3 + 1 + 2) = .ok (.invokespecial ic, 3)) (d9 : decode cc (pc + 3 + 1 + 2 + 3) = .ok (.athrow, 1))
    (hout : (tableOf hs).all (fun x => !covers x (pc + 3 + 1 + 2 + 3)) = true) (hRf : names.length + 3 < R.frames) (hRl : (st.map fun v => v.category).sum + 1 + (13 * (names.length + 1) + 42) ≤ R.locals) (hRc : 1 ≤ R.cells) (hRs : 6 ≤ R.slots) (hc : 1 ≤ mc) (hms : 6 ≤ ms) {Post : ad_R → Prop} (hq : Post (.inr X)) :
    W p l e R s m args below meth c s.heap [] 0 0 (ad_Zp below Post s mc ms) (F0 m pc ls st) := by
  obtain ⟨hx, hb, hml, hown, hts⟩ := S
  obtain ⟨-, -, -, -, hr, hlocks, htab, -⟩ := M
  refine W.newc hx hb hown (hts _ hclk) (hts _ hinst) (hts _ hini) rfl d0 (by omega) (by omega) fun cX kX hfX hkX hord hn6 => ?_
  refine W.eq (g2 := F0 m (pc + 3) ls (.ref s.heap.size :: st)) rfl ?_
  refine lv_dup hx hb d3 rfl ?_
  refine va_ldcS hx hb hown hstr d4 ?_
  intro T hT X0
  have htr : e.platform.stackTraces = false := by
    have h := X0.admits.2.2.2.2.1
    rw [h]
    exact hl
  have hcell : T.heap[s.heap.size]? = some (freshCell cX kX) := by
    rw [hT]
    simp [freshCell]
  obtain ⟨U, hsteps, hrun, hend, hW, hsame, ce, hce, K⟩ := X0.ctorThrowS hx htr hown hcls hnames hat (fun y hy => by cases hy) hfX hkX hcell (Nat.le_refl _) (msg := .ref q) rfl (g := F0 m (pc + 3 + 1 + 2) ls (.ref q :: .ref s.heap.size :: .ref s.heap.size :: st)) rfl (hls.trans hml.symm) rfl rfl (rest := st) rfl (by rw [hb]; exact d6) (by rw [hb]; exact d9) (outside_of_table htab hout) hRf (by
      show 2 * 0 + ((Value.ref s.heap.size).category + (st.map fun v => v.category).sum) + _ ≤ _
      have : (Value.ref s.heap.size).category = 1 := rfl
      omega) hlocks
  have hsame2 := State.sameButNew.mono hsame (show 0 + 1 ≤ mc by omega) (show 0 + 6 ≤ ms by omega)
  refine ⟨U, hsteps, .threw s.heap.size, .inr X, hrun, hend, hW, hq, ⟨s.heap.size, ce, rfl, hce, K.vm, by rw [hW.alike.findClass]; exact K.cls⟩, hsame.2.1, fun q hq => ?_, hsame2⟩
  have h1 : s.heap[q]? = some s.heap[q] := Array.getElem?_eq_getElem hq
  rw [h1]
  exact State.sameButNew.old_cell hsame h1
end ADT
