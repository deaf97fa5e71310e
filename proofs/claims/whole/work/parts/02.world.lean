abbrev ad_H : Type := Nat → Option va_E
def ad_up (hp : ad_H) (a : Nat) (e : va_E) : ad_H := fun q => if q = a then some e else hp q
theorem ad_up_s (hp : ad_H) (a : Nat) (e : va_E) : ad_up hp a e a = some e := by simp [ad_up]
theorem ad_up_n {hp : ad_H} {a q : Nat} (e : va_E) (h : q ≠ a) : ad_up hp a e q = hp q := by simp [ad_up, h]
abbrev ad_G : Type := va_G × (Nat → ClassId) × (Nat → Nat)
def ad_P (G : ad_G) (lo : Nat) (hp : ad_H) (H : Heap) : Prop := ∀ (q : Nat) (e : va_E), hp q = some e → lo ≤ q ∧ va_at G.1 vwCl (q, e) H
section ADP
variable {G : ad_G} {lo : Nat} {hp : ad_H} {H H1 : Heap}
theorem ad_P.lt (h : ad_P G lo hp H) {q : Nat} {e : va_E} (hq : hp q = some e) : q < H.size := (h q e hq).2.lt
theorem ad_P.kept (h : ad_P G lo hp H) (hk : ∀ q : Nat, q < H.size → H1[q]? = H[q]?) : ad_P G lo hp H1 := fun q e hq => ⟨(h q e hq).1, (h q e hq).2.kept (hk q (h.lt hq))⟩
theorem ad_P.fresh (h : ad_P G lo hp H) : hp H.size = none := by
  cases hq : hp H.size with
  | none => rfl
  | some e => exact absurd (h.lt hq) (Nat.lt_irrefl _)
theorem ad_P.set (h : ad_P G lo hp H) {a : Nat} {e0 e : va_E} (ha : hp a = some e0) (he : va_at G.1 vwCl (a, e) H1) (oq : ∀ q : Nat, q ≠ a → H1[q]? = H[q]?) : ad_P G lo (ad_up hp a e) H1 := by
  intro q e2 hq
  by_cases hqa : q = a
  · subst hqa
    rw [ad_up_s] at hq
    cases hq
    exact ⟨(h q e0 ha).1, he⟩
  · rw [ad_up_n e hqa] at hq
    exact ⟨(h q e2 hq).1, (h q e2 hq).2.kept (oq q hqa)⟩
theorem ad_P.new (h : ad_P G lo hp H) (hlo : lo ≤ H.size) {e : va_E} (he : va_at G.1 vwCl (H.size, e) H1) (oq : ∀ q : Nat, q < H.size → H1[q]? = H[q]?) : ad_P G lo (ad_up hp H.size e) H1 := by
  intro q e2 hq
  by_cases hqa : q = H.size
  · subst hqa
    rw [ad_up_s] at hq
    cases hq
    exact ⟨hlo, he⟩
  · rw [ad_up_n e hqa] at hq
    exact ⟨(h q e2 hq).1, (h q e2 hq).2.kept (oq q (h.lt hq))⟩
theorem ad_P.one (h : ad_P G lo hp H) {a : Nat} {e : va_E} (hq : hp a = some e) : va_P G.1 vwCl [(a, e)] H := by
  intro k q hk
  cases k with
  | zero => cases hk; exact (h _ _ hq).2
  | succ k => simp at hk
end ADP
theorem ad_ls {o n d : String} {A A' : Array Value} {s U : State} {lo : Nat} (hW : s.WarmedH U.vm) (hZ : va_Zq o n d (fun q => lo ≤ q) s s.heap) (hk : ∀ q : Nat, q < lo → U.heap[q]? = s.heap[q]?) (h : (Cond.laysStatic o n d).before A s = true) : (Cond.laysStatic o n d).before A' U = true := by
  have h1 := Cond.laysStatic_setVm hW.alike h
  have hZ2 : ∃ v : Value, va_Z o n d v (fun q => lo ≤ q) U s.heap := by
    rcases va_Zq.moved hW.alike hZ with h | ⟨t, h⟩
    · exact ⟨_, h⟩
    · exact ⟨_, h⟩
  obtain ⟨v, cf, kf, fi, f, a, cell, e1, e2, e3, e4, e5, e6, e7, e8⟩ := hZ2
  have e1' : (s.setVm U.vm).fieldFound? o n d = some (cf, kf, fi, f) := e1
  simp only [Cond.before, Cond.holds, Cond.value] at h1 ⊢
  rw [e1'] at h1
  rw [e1]
  have hv : (s.setVm U.vm).vm.findClass o = U.vm.findClass o := rfl
  rw [hv] at h1
  cases hc : U.vm.findClass o with
  | none => rw [hc] at h1; simp at h1
  | some c =>
    rw [hc] at h1
    simp only [e4, Option.bind_some] at h1 ⊢
    rw [hk a (by omega)]
    exact h1
theorem ad_words {s : State} {args a' : Array Value} {U : State} (hts : ∀ w ∈ ad_T, w.before args s = true) (hW : s.WarmedH U.vm) : ∀ w ∈ ad_T, w.before a' U = true := by
  intro w hw
  have h1 := hts w hw
  have h2 := (List.mem_filter.mp hw).2
  unfold ad_g at h2
  split at h2
  · exact va_AO.use (va_AO.moved hW.alike (va_AO.of h1))
  · rcases Bool.or_eq_true_iff.mp h2 with h3 | h3
    · exact word_at hW (good_of_word h3) h1
    · rw [Bool.and_eq_true] at h3
      exact va_tabs h3.1 (rfl : (s.setVm U.vm).vm = U.vm) (Cond.faceAtom_setVm hW.alike w h3.2 h1)
def ad_strs : List (Nat × String) := [(190, "there is no such number"), (50, "there are 64 things"), (66, "not so many things"), (195, "not on the latest list"), (202, "not 0 .. 10 to the 17th"), (198, "no hour"), (134, "told ahead of its hour"), (139, "the thing has 24 rows"), (153, "no weight"), (193, "k is below 0")]
def ad_ncs : List (String × String) := [("java/lang/IllegalStateException", "java/util/NoSuchElementException"), ("java/lang/IllegalArgumentException", "java/util/NoSuchElementException"), ("java/lang/IllegalStateException", "java/lang/IllegalArgumentException")]
def ad_tys (G : ad_G) : List (ClassId × FieldType) := [(G.2.1 0, .int), (G.2.1 1, .object "java/lang/Object"), (G.2.1 2, .long)]
def ad_X (G : ad_G) (lo : Nat) (s : State) : Prop :=
  va_Zq "java/lang/Throwable" "UNASSIGNED_STACK" "[Ljava/lang/StackTraceElement;" (fun q => lo ≤ q) s s.heap ∧ va_Zq "java/lang/Throwable" "SUPPRESSED_SENTINEL" "Ljava/util/List;" (fun q => lo ≤ q) s s.heap ∧
  (Cond.laysStatic "java/lang/Throwable" "UNASSIGNED_STACK" "[Ljava/lang/StackTraceElement;").before #[] s = true ∧ (Cond.laysStatic "java/lang/Throwable" "SUPPRESSED_SENTINEL" "Ljava/util/List;").before #[] s = true ∧
  (∀ x ∈ ad_strs, ∃ q : Nat, vk_R "AuditDraws" x.1 x.2 q s) ∧ (∀ x ∈ ad_ncs, va_Nc x.1 x.2 s) ∧ va_Nw (.methodLinkNest "AuditDraws" 9 y_D_init "AuditDraws") s ∧
  va_Z "java/util/ArrayList" "DEFAULTCAPACITY_EMPTY_ELEMENTDATA" "[Ljava/lang/Object;" (.ref (G.2.2 0)) (fun q => lo ≤ q) s s.heap ∧ (G.2.2 0 < lo ∧ ∃ cell : Cell, s.heap[G.2.2 0]? = some cell ∧ cell.cls = G.2.1 1 ∧ (∀ k, cell.vm ≠ .statics k) ∧ cell.slots.size = 0) ∧ va_Mi "[Ljava/lang/Object;" (G.2.2 1) s
def ad_B (G : ad_G) (lo : Nat) (s : State) : Prop := lo ≤ s.heap.size ∧ va_K G.1 vwCl (ad_tys G) s ∧ ad_X G lo s
theorem ad_B.move {G : ad_G} {lo : Nat} {s U : State} (h : ad_B G lo s) (hW : s.WarmedH U.vm) (hz : lo ≤ U.heap.size) (hk : ∀ q : Nat, q < lo → U.heap[q]? = s.heap[q]?) : ad_B G lo U := by
  obtain ⟨h1, h2, g1, g2, l1, l2, g3, g4, g5, g6, g7, g8⟩ := h
  have hk2 : ∀ a : Nat, a < s.heap.size → ¬ lo ≤ a → U.heap[a]? = s.heap[a]? := fun a _ ha => hk a (by omega)
  refine ⟨hz, va_K.moved hW.alike h2, (va_Zq.moved hW.alike g1).kept hk2, (va_Zq.moved hW.alike g2).kept hk2, ad_ls hW g1 hk l1, ad_ls hW g2 hk l2, fun x hx => ?_, fun x hx => va_Nc.moved hW.alike (g4 x hx), va_Nw.warmM hW g5, (va_Z.moved hW.alike g6).kept hk2, ⟨g7.1, by rw [hk _ g7.1]; exact g7.2⟩, va_Mi.moved hW.alike g8⟩
  obtain ⟨q, hq⟩ := g3 x hx
  exact ⟨q, vk_R.warm hW hq⟩
abbrev ad_R : Type := Option Value ⊕ String
def ad_o (o : Outcome) (t : State) (r : ad_R) : Prop := match r with
  | .inl v => o = .returned v
  | .inr C => ∃ (x : Addr) (cell : Cell), o = .threw x ∧ t.heap[x]? = some cell ∧ cell.vm = .none ∧ t.vm.findClass C = some cell.cls
def ad_rm (d mc ms : Nat) : Room := { frames := d, cells := mc, slots := ms, locals := 37 * d }
def ad_M (y : MethodName) (cc : ByteArray) (nL : Nat) (rt : Option FieldType) (hs : List (Nat × Nat × Nat × Nat)) (p : Program) (s : State) (m : MethodId) (meth : Method) (c : Code) : Prop :=
  p.tables.exec = Jvm.exec ∧ c.code = cc ∧ c.maxLocals = nL ∧ s.vm.findClass y.cls = some m.cls ∧ meth.sig.returnType = rt ∧ meth.locks = false ∧ c.exceptionTable.toList = tableOf hs ∧ meth.name = y.name
def ad_Z (below : List Frame) (G : ad_G) (lo : Nat) (Post : ad_R → ad_H → Prop) (s : State) (mc ms : Nat) : State → Prop := fun t =>
  ∃ (o : Outcome) (r : ad_R) (hp' : ad_H), t.status = .running ∧ Ended t below o ∧ s.WarmedH t.vm ∧ (∃ L, s.sameButNew ({ t with vm := s.vm } : State) L mc ms ∧ ∀ q ∈ L, lo ≤ q.base) ∧ Post r hp' ∧ ad_o o t r ∧ ad_P G lo hp' t.heap ∧ s.heap.size ≤ t.heap.size ∧ ∀ q : Nat, q < lo → t.heap[q]? = s.heap[q]?
def ad_Zp (below : List Frame) (Post : ad_R → Prop) (s : State) (mc ms : Nat) : State → Prop := fun t =>
  ∃ (o : Outcome) (r : ad_R), t.status = .running ∧ Ended t below o ∧ s.WarmedH t.vm ∧ Post r ∧ ad_o o t r ∧ s.heap.size ≤ t.heap.size ∧ (∀ q : Nat, q < s.heap.size → t.heap[q]? = s.heap[q]?) ∧
    match r with
    | .inl _ => t.heap = s.heap ∧ s.sameButNew ({ t with vm := s.vm } : State) [] 0 0
    | .inr _ => s.sameButNew ({ t with vm := s.vm } : State) [] mc ms
def ad_Ct (l : Launch) (y : MethodName) (cc : ByteArray) (nL : Nat) (rt : Option FieldType) (hs : List (Nat × Nat × Nat × Nat)) (d mc ms : Nat) (G : ad_G) (lo : Nat) (hp : ad_H) (av : List Value) (Post : ad_R → ad_H → Prop) : Prop :=
  ∀ (p : Program) (e : Env) (s : State) (m : MethodId) (below : List Frame) (meth : Method) (c : Code), ad_M y cc nL rt hs p s m meth c → (∀ w ∈ ad_T, w.before av.toArray s = true) → ad_B G lo s → ad_P G lo hp s.heap →
    W p l e (ad_rm d mc ms) s m av.toArray below meth c s.heap [] 0 0 (ad_Z below G lo Post s mc ms) (entryFrame m av.toArray nL)
def ad_Cp (l : Launch) (y : MethodName) (cc : ByteArray) (nL : Nat) (rt : Option FieldType) (hs : List (Nat × Nat × Nat × Nat)) (d mc ms : Nat) (G : ad_G) (lo : Nat) (hp : ad_H) (av : List Value) (Post : ad_R → Prop) : Prop :=
  ∀ (p : Program) (e : Env) (s : State) (m : MethodId) (below : List Frame) (meth : Method) (c : Code), ad_M y cc nL rt hs p s m meth c → (∀ w ∈ ad_T, w.before av.toArray s = true) → ad_B G lo s → ad_P G lo hp s.heap →
    W p l e (ad_rm d mc ms) s m av.toArray below meth c s.heap [] 0 0 (ad_Zp below Post s mc ms) (entryFrame m av.toArray nL)
def ad_WT (p : Program) (l : Launch) (e : Env) (R : Room) (s : State) (m : MethodId) (args : Array Value) (below : List Frame) (meth : Method) (c : Code) (H : Heap) (locs : List Loc) (cells slots : Nat) (Q : State → Prop) (g : JFrame) (x : Addr) : Prop :=
  ∀ T : State, T.heap = H → Stand p l e R s m args below meth c T locs cells slots → ∃ t, Steps p.tables e below ((T.setTop g).pushFrame (.throwing x)) t ∧ Q t
def ad_I (G : ad_G) (lo : Nat) (s : State) (hp : ad_H) (H : Heap) (locs : List Loc) : Prop :=
  ad_B G lo s ∧ ad_P G lo hp H ∧ s.heap.size ≤ H.size ∧ (∀ q : Nat, q < lo → H[q]? = s.heap[q]?) ∧ ∀ q ∈ locs, lo ≤ q.base
theorem ad_I.rf {G : ad_G} {lo : Nat} {s : State} {hp : ad_H} (hB : ad_B G lo s) (hP : ad_P G lo hp s.heap) : ad_I G lo s hp s.heap [] := ⟨hB, hP, Nat.le_refl _, fun _ _ => rfl, fun _ h => by cases h⟩
theorem ad_pop {tb : Tables} {e : Env} {g : JFrame} {below : List Frame} {s s' : State} (h : Steps tb e (.java g :: below) s s') : Steps tb e below s s' := by
  obtain ⟨n, hn, hw⟩ := h
  refine ⟨n, hn, fun k hk => ?_⟩
  obtain ⟨above, h1, h2, h3⟩ := hw k hk
  refine ⟨above ++ [.java g], by rw [h1]; simp, by simp, fun a ha => ?_⟩
  cases above with
  | nil => exact h2 rfl
  | cons x xs => simp at ha
