def ad_oA (own : String) (ic : Nat) (X Y : String) (ix : Nat) (bx : ByteArray) (names : List String) : List Cond :=
  Bundle.throwableAtoms ++ Bundle.throwableSAtoms ++ Bundle.passSAtoms X Y ix bx ++ Bundle.chainSAtoms Y names ++
  [.methodLink own ic (Bundle.initS X), .instantiable X 6, .selects X Bundle.tFill0 Bundle.tFill0, .selects X Bundle.tFill Bundle.tFill,
   .lays X Bundle.tN "cause" "Ljava/lang/Throwable;", .lays X Bundle.tN "stackTrace" Bundle.steD, .lays X Bundle.tN "suppressedExceptions" Bundle.listD, .lays X Bundle.tN "detailMessage" "Ljava/lang/String;",
   .isRef (.static Bundle.tN "UNASSIGNED_STACK" Bundle.steD), .isRef (.static Bundle.tN "SUPPRESSED_SENTINEL" Bundle.listD),
   .fieldLink Bundle.tN 198 Bundle.tN "backtrace" "Ljava/lang/Object;", .lays Bundle.tN Bundle.tN "backtrace" "Ljava/lang/Object;", .lays X Bundle.tN "backtrace" "Ljava/lang/Object;"]
section ADN
variable {p : Program} {l : Launch} {e : Env} {R : Room} {s : State} {m : MethodId} {args : Array Value} {below : List Frame} {meth : Method} {c : Code} {H : Heap} {locs : List Loc} {cells slots : Nat} {Q : State → Prop}
set_option maxHeartbeats 4000000 in
theorem ad_ctorS {T' : State} (X : Stand p l e R s m args below meth c T' locs cells slots) (hexec : p.tables.exec = Jvm.exec) (htr : e.platform.stackTraces = false) {own cls Yn : String} {names : List String} {ic ix : Nat} {bx : ByteArray}
    (hown : s.vm.findClass own = some m.cls) (hcls : Bundle.fit cls = true) (hYn : Bundle.fit Yn = true) (hnames : ∀ n ∈ names, Bundle.fit n = true)
    (k0 : decode bx 0 = .ok (.aload_n 0, 1)) (k1 : decode bx 1 = .ok (.aload_n 1, 1)) (k2 : decode bx 2 = .ok (.invokespecial ix, 3)) (k5 : decode bx 5 = .ok (.return_, 1))
    (h : ∀ a ∈ ad_oA own ic cls Yn ix bx names, a.before args s = true) (hlocs : ∀ x ∈ locs, ∀ cell, s.heap[x.base]? = some cell → cell.vm.isStatics = false)
    {a : Addr} {cX : ClassId} {kX : Class} (hfoundX : s.vm.findClass cls = some cX) (hkX : s.vm.classes[cX]? = some kX) (hcell : T'.heap[a]? = some (freshCell cX kX)) (hnew : s.heap.size ≤ a)
    {msg : Value} (hmsg : msg.isRef = true) {g : JFrame} (hg : g.method = m) (hsize : g.locals.size = c.maxLocals) {rest : List Value} (hstack : g.stack = msg :: .ref a :: rest) (hd6 : decode c.code g.pc = .ok (.invokespecial ic, 3))
    (hRframes : names.length + 4 < R.frames) (hRlocals : 2 * g.monitorRoom + (rest.map fun v => v.category).sum + (13 * (names.length + 2) + 42) ≤ R.locals) :
    ∃ (vm' : Vm) (ce : Cell) (L : List Loc), ce.cls = cX ∧ ce.vm = .none ∧ (∀ x ∈ L, x.base = a) ∧ Stand p l e R s m args below meth c ((T'.setVm vm').setCell a ce) (locs ++ L) cells slots ∧
      ∀ target, Steps p.tables e below (((T'.setVm vm').setCell a ce).setTop { g with pc := g.pc + 3, stack := rest }) target → Steps p.tables e below (T'.setTop g) target := by
  have howns : e.platform.frameOwnsMonitors = true := by rw [X.admits.platform]
  have hfin : e.platform.finalization = false := by rw [X.admits.platform]
  have hpl : e.platform.magicAccessors = ({} : Platform).magicAccessors := by rw [X.admits.platform]
  have a' : ∀ x, x ∈ ad_oA own ic cls Yn ix bx names → x.holds args s none s [] = true := fun x hx => h x hx
  obtain ⟨T, Z0, L, -, Y⟩ := ThrowableC.of_atoms (args := args) howns hfin hpl (fun x hx => h x (by simp [ad_oA, hx]))
  obtain ⟨Z, M, LZ, LM, hnZ⟩ := Init0T.ofS_atoms (args := args) hpl L Y (fun x hx => h x (by simp [ad_oA, hx]))
  obtain ⟨P1, L1, hP1m, hP1s⟩ := PassC.ofS_atoms (args := args) (s := s) hpl (X := cls) (Y := Yn) (Bundle.fit_spec hcls).1 (Bundle.fit_spec hYn).2 k0 k1 k2 k5 (fun x hx => h x (by simp [ad_oA, hx]))
  obtain ⟨P2, Ps, hlen, L2, hL, hP2m, hlink2, hlink⟩ := Bundle.chainS (args := args) hpl hnZ names Yn hYn hnames (fun x hx => h x (by simp [ad_oA, hx]))
  have h12 : P1.sup = P2.m := Option.some.inj (hP1s.symm.trans hP2m)
  have hfound : s.vm.findClass cls = some P1.m.cls := findClass_of_methodNamed hP1m
  cases Option.some.inj (hfoundX.symm.trans hfound)
  obtain ⟨c1, kX', hc1, hk, hord, -, -, hn6⟩ := Cond.instantiable_spec (a' (.instantiable cls 6) (by simp [ad_oA]))
  cases Option.some.inj (hc1.symm.trans hfound)
  cases Option.some.inj (hkX.symm.trans hk)
  have hsel0 : selectMethod e.platform s.vm P1.m.cls T.fill0 = .method T.fill0 := by
    obtain ⟨c2, r2, m2, q1, q2, q3, q4, -⟩ := Cond.selects_spec (a' (.selects cls Bundle.tFill0 Bundle.tFill0) (by simp [ad_oA]))
    cases Option.some.inj (q1.symm.trans hfound)
    cases Option.some.inj (q2.symm.trans (State.methodFound?_of_named Y.fill0 (by decide)))
    cases Option.some.inj (q3.symm.trans Y.fill0)
    rw [Launch.admits_selectMethod X.admits]; exact q4
  have hselF : selectMethod e.platform s.vm P1.m.cls T.fill = .method T.fill := by
    obtain ⟨c2, r2, m2, q1, q2, q3, q4, -⟩ := Cond.selects_spec (a' (.selects cls Bundle.tFill Bundle.tFill) (by simp [ad_oA]))
    cases Option.some.inj (q1.symm.trans hfound)
    cases Option.some.inj (q2.symm.trans (State.methodFound?_of_named Y.fill (by decide)))
    cases Option.some.inj (q3.symm.trans Y.fill)
    rw [Launch.admits_selectMethod X.admits]; exact q4
  obtain ⟨cellS0, hcS0, hiss⟩ := Y.statics
  obtain ⟨u0, hu0⟩ := Cond.staticRefV Y.unassigned L.unassignedStatic L.statics hcS0 hiss (a' (.isRef (.static Bundle.tN "UNASSIGNED_STACK" Bundle.steD)) (by simp [ad_oA]))
  obtain ⟨sen, hsen⟩ := Cond.staticRefV Y.sentinel L.sentinelStatic L.statics hcS0 hiss (a' (.isRef (.static Bundle.tN "SUPPRESSED_SENTINEL" Bundle.listD)) (by simp [ad_oA]))
  obtain ⟨ci198, i198, fB, hk198, hg198, ha198, hsB, -, hnB, htB, hffB⟩ := Cond.ownField (t := .object "java/lang/Object") Y.found L.cls (by decide +kernel) (a' (.fieldLink Bundle.tN 198 Bundle.tN "backtrace" "Ljava/lang/Object;") (by simp [ad_oA])) (a' (.lays Bundle.tN Bundle.tN "backtrace" "Ljava/lang/Object;") (by simp [ad_oA])) e.platform hpl
  obtain ⟨cellS, hcS', heS, -, hkeep⟩ := X.same.2.2.2.2.2 T.aS cellS0 hcS0
  have hcellS : T'.heap[T.aS]? = some cellS := hcS'
  have hout' : ∀ i, (⟨T.aS, i⟩ : Loc) ∉ locs := fun i hmem => by
    have := hlocs _ hmem cellS0 hcS0
    rw [hiss] at this; cases this
  have hknownS : cellS.vm ≠ .unknown := by
    rw [heS]; intro hu
    rw [show cellS0.vm = .unknown from hu] at hiss
    cases hiss
  have hneS : T.aS ≠ a := Nat.ne_of_lt (Nat.lt_of_lt_of_le (Array.getElem?_eq_some_iff.mp hcS0).1 hnew)
  obtain ⟨iM, hffM⟩ := Y.msg
  obtain ⟨tyC, dC, hdC, hdnC⟩ := Cond.laysAt hfound hk Y.cause (a' (.lays cls Bundle.tN "cause" "Ljava/lang/Throwable;") (by simp [ad_oA]))
  obtain ⟨tyS, dS, hdS, hdnS⟩ := Cond.laysAt hfound hk Y.stack (a' (.lays cls Bundle.tN "stackTrace" Bundle.steD) (by simp [ad_oA]))
  obtain ⟨tyP, dP, hdP, hdnP⟩ := Cond.laysAt hfound hk Y.supp (a' (.lays cls Bundle.tN "suppressedExceptions" Bundle.listD) (by simp [ad_oA]))
  obtain ⟨tyM, dM, hdM, hdnM⟩ := Cond.laysAt hfound hk hffM (a' (.lays cls Bundle.tN "detailMessage" "Ljava/lang/String;") (by simp [ad_oA]))
  obtain ⟨tyB, dB, hdB, hdnB⟩ := Cond.laysAt hfound hk hffB (a' (.lays cls Bundle.tN "backtrace" "Ljava/lang/Object;") (by simp [ad_oA]))
  have bC := Cond.laysApart hdB hdC hdnB hdnC (by rw [hnB, Y.causeName]; decide)
  have bS := Cond.laysApart hdB hdS hdnB hdnS (by rw [hnB, Y.stackName]; decide)
  have bP := Cond.laysApart hdB hdP hdnB hdnP (by rw [hnB, Y.suppName]; decide)
  have hskip : SkipFacts T e.platform s (fun u => u) u0 ((preparedCellV T.toThrowableT (freshCell P1.m.cls kX) a u0 sen).withEntry T'.cur) :=
    ⟨{ ci198 := ci198, i198 := i198, fBack := fB }, ⟨hk198, hg198, ha198, hsB⟩, by
      have := fresh_default (c := P1.m.cls) tyB
      rw [htB] at this
      simpa [preparedCellV, Cell.setSlot, Cell.withEntry, Array.getElem?_setIfInBounds, bC, bS, bP, bC.symm, bS.symm, bP.symm, defaultValue] using this, fun _ _ => rfl⟩
  obtain ⟨tm, methC, cdC, kC, vm₁, hnC, -, -, -, -, -, -, -, hW₁, st1⟩ := Steps.initColdS (tb := p.tables) (e := e) (below := below) (s := s) (U := T') X.here hexec X.warmed hpl hown (t := Bundle.initS cls) rfl rfl (Bundle.fit_spec hcls).2
    (a' (.methodLink own ic (Bundle.initS cls)) (by simp [ad_oA])) (h (.instanceMethod (Bundle.initS cls)) (by simp [ad_oA, Bundle.passSAtoms])) (bytes := bx) (maxL := 2) (h (.code (Bundle.initS cls) bx 2 none) (by simp [ad_oA, Bundle.passSAtoms]))
    (f := g) hg (a := a) (msg := msg) (rest := rest) hstack hd6
  cases Option.some.inj (hnC.symm.trans hP1m)
  have X₁ := X.noted hW₁
  obtain ⟨vm₂, X₂, st2⟩ := X₁.ctorMessageOffV hexec (g := { g with stack := rest }) hg hsize T L Z LZ M LM (P1 :: P2 :: Ps)
    (fun P hP => by rcases List.mem_cons.mp hP with rfl | hP; exact L1; rcases List.mem_cons.mp hP with rfl | hP; exact L2; exact hL P hP) ⟨h12, hlink2, hlink⟩ (u0 := u0) (sen := sen) (self := a) hmsg (cell := freshCell P1.m.cls kX) (cellS := cellS)
    hcell (fun _ => by simp) (by simp) rfl rfl hsel0 hselF hcellS hneS hknownS (by rw [hkeep _ (hout' _)]; exact hu0) (by rw [hkeep _ (hout' _)]; exact hsen)
    (Takes.of_laid hk hord tyC (by rw [Y.causeType]; rfl)) (Takes.of_laid hk hord tyS (by rw [Y.stackType]; exact fits_refV_array _ u0)) (Takes.of_laid hk hord tyP (by rw [Y.suppType]; exact fits_refV_object _ sen))
    (Takes.of_laid hk hord tyM (by rw [Y.msgType]; exact fits_refV_object _ ⟨msg, hmsg⟩)) Y.objLocals hskip htr [] hd6
    (by simp only [List.length_cons, hlen]; omega) (by simp only [List.length_cons, hlen]; omega)
  refine ⟨vm₂, plainBareV T.toThrowableT (freshCell P1.m.cls kX) a u0 sen msg, _, rfl, rfl, ?_, X₂, fun target ht => st1 target (fun acts => ?_)⟩
  · intro x hx
    simp only [List.mem_cons, List.not_mem_nil, or_false] at hx
    rcases hx with rfl | rfl | rfl | rfl | rfl <;> rfl
  · rw [doInvoke_state]
    exact st2 target ht
variable {cc : ByteArray} {nL pc : Nat} {ls : Array Slot} {rest st : List Value} {own : String} {y : MethodName} {rt : Option FieldType} {hs : List (Nat × Nat × Nat × Nat)} {mc ms : Nat}
theorem ad_athrow (hexec : p.tables.exec = Jvm.exec) (hb : c.code = cc) {a : Addr} (hdg : decode cc pc = .ok (.athrow, 1)) (k : ad_WT p l e R s m args below meth c H locs cells slots Q (F0 m pc ls rest) a) : W p l e R s m args below meth c H locs cells slots Q (F0 m pc ls (.ref a :: rest)) := by
  intro T hT X
  obtain ⟨t, a1, b1⟩ := k T hT X
  refine ⟨t, ?_, b1⟩
  subst hb
  jvm_step X.here [hexec, hdg, athrow.wp_sem]
  exact a1
theorem ad_thr (S : CallFix p m c cc nL s args ad_T own) (hl : l.stackTraces = false) {X Yn : String} {names : List String} {i0 i4 ic ix q : Nat} {bx : ByteArray} {tx : String}
    (hclk : Cond.classLink own i0 X ∈ ad_T) (hinst : Cond.instantiable X 6 ∈ ad_T) (hini : Cond.initialized X ∈ ad_T) (hstr : vk_R own i4 tx q s) (hat : ∀ a ∈ ad_oA own ic X Yn ix bx names, a.before args s = true) (hcls : Bundle.fit X = true) (hYn : Bundle.fit Yn = true) (hnames : ∀ n ∈ names, Bundle.fit n = true)
    (k0 : decode bx 0 = .ok (.aload_n 0, 1)) (k1 : decode bx 1 = .ok (.aload_n 1, 1)) (k2 : decode bx 2 = .ok (.invokespecial ix, 3)) (k5 : decode bx 5 = .ok (.return_, 1)) (hls : ls.size = nL)
    (d0 : decode cc pc = .ok (.new i0, 3)) (d3 : decode cc (pc + 3) = .ok (.dup, 1)) (d4 : decode cc (pc + 3 + 1) = .ok (.ldc i4, 2)) (d6 : decode cc (pc + 3 + 1 + 2) = .ok (.invokespecial ic, 3)) (d9 : decode cc (pc + 3 + 1 + 2 + 3) = .ok (.athrow, 1))
    (hRf : names.length + 4 < R.frames) (hRl : (st.map fun v => v.category).sum + 1 + (13 * (names.length + 2) + 42) ≤ R.locals) (hRc : 1 ≤ R.cells) (hRs : 6 ≤ R.slots)
    (k : ∀ (H1 : Heap) (cell : Cell), s.heap.size ≤ H1.size → (∀ q : Nat, q < s.heap.size → H1[q]? = s.heap[q]?) → H1[s.heap.size]? = some cell → cell.vm = .none → s.vm.findClass X = some cell.cls → ad_WT p l e R s m args below meth c H1 [] 1 6 Q (F0 m (pc + 3 + 1 + 2 + 3) ls st) s.heap.size) :
    W p l e R s m args below meth c s.heap [] 0 0 Q (F0 m pc ls st) := by
  obtain ⟨hx, hb, hml, hown, hts⟩ := S
  refine W.newc hx hb hown (hts _ hclk) (hts _ hinst) (hts _ hini) rfl d0 (by omega) (by omega) fun cX kX hfX hkX hord hn6 => ?_
  refine W.eq (g2 := F0 m (pc + 3) ls (.ref s.heap.size :: st)) rfl ?_
  refine lv_dup hx hb d3 rfl ?_
  refine va_ldcS hx hb hown hstr d4 ?_
  intro T hT X0
  have htr : e.platform.stackTraces = false := by
    have h := X0.admits.2.2.2.2.1
    rw [h]
    exact hl
  have hcell : T.heap[s.heap.size]? = some (freshCell cX kX) := by
    rw [hT]
    simp [freshCell]
  obtain ⟨vm', ce, L, e1, e2, e3, X1, st1⟩ := ad_ctorS X0 hx htr hown hcls hYn hnames k0 k1 k2 k5 hat (fun y hy => by cases hy) hfX hkX hcell (Nat.le_refl _) (msg := .ref q) rfl (g := F0 m (pc + 3 + 1 + 2) ls (.ref q :: .ref s.heap.size :: .ref s.heap.size :: st)) rfl (hls.trans hml.symm) (rest := .ref s.heap.size :: st) rfl (by rw [hb]; exact d6) hRf (by
      show 2 * 0 + ((Value.ref s.heap.size).category + (st.map fun v => v.category).sum) + _ ≤ _
      have : (Value.ref s.heap.size).category = 1 := rfl
      omega)
  have hz : T.heap.size = s.heap.size + 1 := by rw [hT]; simp
  have X2 := Stand.forget (locs := []) X1 (fun q hq => by rw [e3 q hq]; exact Nat.le_refl _)
  obtain ⟨t, a1, b1⟩ := ad_athrow (rest := st) hx hb d9 (k ((T.setVm vm').setCell s.heap.size ce).heap ce (by rw [size_setCell]; show _ ≤ T.heap.size; omega) (fun q hq => by
      rw [heapAt_setCell_ne _ (Nat.ne_of_gt hq)]
      show T.heap[q]? = _
      rw [hT]
      simp [Array.getElem?_push, Nat.ne_of_lt hq]) (heapAt_setCell_self _ (by show _ < T.heap.size; omega)) e2 (by rw [e1]; exact hfX)) _ rfl X2
  exact ⟨t, st1 t a1, b1⟩
end ADN
def ad_ex : List Cond := [.laysStatic "java/lang/Throwable" "UNASSIGNED_STACK" "[Ljava/lang/StackTraceElement;", .laysStatic "java/lang/Throwable" "SUPPRESSED_SENTINEL" "Ljava/util/List;", .isRef (.static "java/lang/Throwable" "UNASSIGNED_STACK" "[Ljava/lang/StackTraceElement;"), .isRef (.static "java/lang/Throwable" "SUPPRESSED_SENTINEL" "Ljava/util/List;")]
theorem ad_lsA {o n d : String} {A : Array Value} {s : State} (h : (Cond.laysStatic o n d).before #[] s = true) : (Cond.laysStatic o n d).before A s = true := by
  simp only [Cond.before, Cond.holds, Cond.value] at h ⊢
  exact h
theorem ad_isr {o n d : String} {A : Array Value} {lo : Nat} {s : State} (h : va_Zq o n d (fun q => lo ≤ q) s s.heap) : (Cond.isRef (.static o n d)).before A s = true := by
  rcases h with ⟨cf, kf, fi, f, a, cell, e1, e2, e3, e4, e5, e6, e7, e8⟩ | ⟨t, cf, kf, fi, f, a, cell, e1, e2, e3, e4, e5, e6, e7, e8⟩
  · simp [Cond.before, Cond.holds, Cond.value, Term.eval, State.fieldNamed?, e1, e2, e4, e5, e6, e7]
  · simp [Cond.before, Cond.holds, Cond.value, Term.eval, State.fieldNamed?, e1, e2, e4, e5, e6, e7]
theorem ad_hat {G : ad_G} {lo : Nat} {s : State} {A : Array Value} (hB : ad_B G lo s) (hts : ∀ w ∈ ad_T, w.before A s = true) {L : List Cond} (h : ∀ a ∈ L, a ∈ ad_T ∨ a ∈ ad_ex) : ∀ a ∈ L, a.before A s = true := by
  intro a ha
  rcases h a ha with h1 | h1
  · exact hts a h1
  · obtain ⟨-, -, g1, g2, l1, l2, -⟩ := hB
    simp only [ad_ex, List.mem_cons, List.not_mem_nil, or_false] at h1
    rcases h1 with rfl | rfl | rfl | rfl
    · exact ad_lsA l1
    · exact ad_lsA l2
    · exact ad_isr g1
    · exact ad_isr g2
theorem at_NSE : ∀ a ∈ ad_oA "AuditDraws" 192 "java/util/NoSuchElementException" "java/lang/RuntimeException" 13 prog_25_method_4_code ["java/lang/Exception"], a ∈ ad_T ∨ a ∈ ad_ex := by decide +kernel
theorem at_ISE : ∀ a ∈ ad_oA "AuditDraws" 52 "java/lang/IllegalStateException" "java/lang/RuntimeException" 7 prog_12_method_2_code ["java/lang/Exception"], a ∈ ad_T ∨ a ∈ ad_ex := by decide +kernel
theorem at_IAE : ∀ a ∈ ad_oA "AuditDraws" 68 "java/lang/IllegalArgumentException" "java/lang/RuntimeException" 7 prog_11_method_2_code ["java/lang/Exception"], a ∈ ad_T ∨ a ∈ ad_ex := by decide +kernel
