theorem st_ty {s : State} {A : Array Value} {ty : FieldType} (h : (Cond.arrayClass ty).before A s = true) (hty : ∀ U cA, va_RA U cA ty = (U.vm.findClass ("[" ++ ty.toString) = some cA)) : ∃ cA : ClassId, ArrOfT s cA ty ∧ va_RA s cA ty := by
  obtain ⟨cA, k, comp, h1, h2, h3⟩ := Cond.arrayClass_spec h
  exact ⟨cA, fun n z => ⟨fun k h => (by cases h), k, h2, comp, h3⟩, by rw [hty]; exact h1⟩
theorem st_to {s : State} {A : Array Value} (h : (Cond.arrayOver (.object "java/lang/Object")).before A s = true) : ∃ cA : ClassId, (ArrOfT s cA (.object "java/lang/Object") ∧ va_RA s cA (.object "java/lang/Object")) ∧ s.vm.findClass "[Ljava/lang/Object;" = some cA := by
  obtain ⟨comp, cA, k, h1, -, h2, h3, h4⟩ := Cond.arrayOver_spec h
  exact ⟨cA, ⟨fun n z => ⟨fun k h => (by cases h), k, h2, comp, h3⟩, ⟨k, comp, h2, h3, h1, h4⟩⟩, h4⟩
theorem st_str {s : State} {A : Array Value} {k : Nat} {tx : String} (h1 : (Cond.stringRef "AuditDraws" k tx).before A s = true) (h2 : (Cond.exactly (.string "AuditDraws" k) "java/lang/String").before A s = true) : ∃ q : Nat, vk_R "AuditDraws" k tx q s := by
  obtain ⟨a, c, cA, kA, q1, -⟩ := Cond.exactly_spec (args := A) (first := s) (o := none) (s := s) (idx := []) h2
  exact ⟨a, vk_R.of (A := A) h1 q1⟩
set_option maxHeartbeats 4000000 in
set_option maxRecDepth 100000 in
theorem st_strs {s : State} {A : Array Value} (hts0 : ∀ w ∈ lw_tbl, w.before A s = true) (hs : ∀ w ∈ flatC (Jvm.Cond.and given_1 narrow_1), w.before A s = true) : ∀ x ∈ ad_strs, ∃ q : Nat, vk_R "AuditDraws" x.1 x.2 q s := by
  show ∀ x ∈ ([(190, "there is no such number"), (50, "there are 64 things"), (66, "not so many things"), (195, "not on the latest list"), (202, "not 0 .. 10 to the 17th"), (198, "no hour"), (134, "told ahead of its hour"), (139, "the thing has 24 rows"), (153, "no weight"), (193, "k is below 0")] : List (Nat × String)), ∃ q : Nat, vk_R "AuditDraws" x.1 x.2 q s
  exact List.forall_mem_cons.mpr ⟨st_str (hts0 _ (List.mem_append_right _ (List.mem_of_getElem? (i := 144) (by decide +kernel)))) (hs _ (by decide +kernel)), List.forall_mem_cons.mpr ⟨st_str (hts0 _ (List.mem_append_right _ (List.mem_of_getElem? (i := 184) (by decide +kernel)))) (hs _ (by decide +kernel)), List.forall_mem_cons.mpr ⟨st_str (hts0 _ (List.mem_append_right _ (List.mem_of_getElem? (i := 297) (by decide +kernel)))) (hs _ (by decide +kernel)), List.forall_mem_cons.mpr ⟨st_str (hts0 _ (List.mem_append_right _ (List.mem_of_getElem? (i := 381) (by decide +kernel)))) (hs _ (by decide +kernel)), List.forall_mem_cons.mpr ⟨st_str (hts0 _ (List.mem_append_right _ (List.mem_of_getElem? (i := 429) (by decide +kernel)))) (hs _ (by decide +kernel)), List.forall_mem_cons.mpr ⟨st_str (hts0 _ (List.mem_append_right _ (List.mem_of_getElem? (i := 465) (by decide +kernel)))) (hs _ (by decide +kernel)), List.forall_mem_cons.mpr ⟨st_str (hts0 _ (List.mem_append_right _ (List.mem_of_getElem? (i := 466) (by decide +kernel)))) (hs _ (by decide +kernel)), List.forall_mem_cons.mpr ⟨st_str (hts0 _ (List.mem_append_right _ (List.mem_of_getElem? (i := 467) (by decide +kernel)))) (hs _ (by decide +kernel)), List.forall_mem_cons.mpr ⟨st_str (hts0 _ (List.mem_append_right _ (List.mem_of_getElem? (i := 520) (by decide +kernel)))) (hs _ (by decide +kernel)), List.forall_mem_cons.mpr ⟨st_str (hts0 _ (List.mem_append_right _ (List.mem_of_getElem? (i := 534) (by decide +kernel)))) (hs _ (by decide +kernel)), (fun _ h => by cases h)⟩⟩⟩⟩⟩⟩⟩⟩⟩⟩
set_option maxHeartbeats 4000000 in
set_option maxRecDepth 100000 in
theorem st_ncs {s : State} {A : Array Value} (hs : ∀ w ∈ flatC (Jvm.Cond.and given_1 narrow_1), w.before A s = true) : ∀ x ∈ ad_ncs, va_Nc x.1 x.2 s := by
  show ∀ x ∈ ([("java/lang/IllegalStateException", "java/util/NoSuchElementException"), ("java/lang/IllegalArgumentException", "java/util/NoSuchElementException"), ("java/lang/IllegalStateException", "java/lang/IllegalArgumentException")] : List (String × String)), va_Nc x.1 x.2 s
  exact List.forall_mem_cons.mpr ⟨va_Nc.of (hs _ (by decide +kernel)), List.forall_mem_cons.mpr ⟨va_Nc.of (hs _ (by decide +kernel)), List.forall_mem_cons.mpr ⟨va_Nc.of (hs _ (by decide +kernel)), (fun _ h => by cases h)⟩⟩⟩
set_option maxHeartbeats 4000000 in
set_option maxRecDepth 100000 in
theorem st_emp {s : State} {A : Array Value} (h1 : (Cond.exactly (.static "java/util/ArrayList" "DEFAULTCAPACITY_EMPTY_ELEMENTDATA" "[Ljava/lang/Object;") "[Ljava/lang/Object;").before A s = true) (h2 : (Cond.eq (.length (.static "java/util/ArrayList" "DEFAULTCAPACITY_EMPTY_ELEMENTDATA" "[Ljava/lang/Object;")) (.int 0)).before A s = true) : ∃ (a : Nat) (cell : Cell), (Term.static "java/util/ArrayList" "DEFAULTCAPACITY_EMPTY_ELEMENTDATA" "[Ljava/lang/Object;").eval A s none [] s = some (.ref a) ∧ s.heap[a]? = some cell ∧ s.vm.findClass "[Ljava/lang/Object;" = some cell.cls ∧ (∀ k, cell.vm ≠ .statics k) ∧ cell.slots.size = 0 := by
  obtain ⟨a, c, cell, k, q1, q2, q3, q4, q5, q6, -⟩ := Cond.exactly_spec (args := A) (first := s) (o := none) (s := s) (idx := []) h1
  have hv := va_eqt h2
  refine ⟨a, cell, q1, q3, (by rw [q6]; exact q2), (fun k h => by rw [h] at q5; cases q5), ?_⟩
  obtain ⟨a2, cell2, g1, g2, g3⟩ := Term.length_spec hv
  cases q1.symm.trans g1
  obtain ⟨g4, -⟩ := State.arrayAt?_spec g2
  cases q3.symm.trans g4
  have g5 : cell.slots.size < 2 ^ 31 := by
    apply Nat.not_le.mp
    intro hge
    simp only [Term.eval, Option.bind_eq_bind] at hv
    have q1' : (Term.static "java/util/ArrayList" "DEFAULTCAPACITY_EMPTY_ELEMENTDATA" "[Ljava/lang/Object;").eval A s none [] s = some (.ref a) := q1
    simp only [Term.eval, Option.bind_eq_bind] at q1'
    rw [q1'] at hv
    simp only [Option.bind_some, g2] at hv
    split at hv
    · omega
    · cases hv
  have g6 : (0 : Int32) = nI cell.slots.size := Value.int.inj g3
  have g7 := congrArg Int32.toNatClampNeg g6
  rw [nI_clamp g5] at g7
  exact g7.symm
theorem ad_lsN {o n d : String} {A : Array Value} {s : State} (h : (Cond.laysStatic o n d).before A s = true) : (Cond.laysStatic o n d).before #[] s = true := by
  simp only [Cond.before, Cond.holds, Cond.value] at h ⊢
  exact h
set_option maxHeartbeats 4000000 in
set_option maxRecDepth 100000 in
theorem st_B {s : State} {A : Array Value} (hts0 : ∀ w ∈ lw_tbl, w.before A s = true) (hts : ∀ w ∈ ad_T, w.before A s = true) (hgv : (Jvm.Cond.and given_1 narrow_1).before A s = true) : ∃ G : ad_G, ad_B G s.heap.size s := by
  have hs := flat_of_before _ hgv
  obtain ⟨c0, iS0, hKn0⟩ := u_known (C := R_Draw) (T := F_Draw) (N := 1) (n := 1) hts i_Draw (hts _ w_31)
  obtain ⟨c1, iS1, hKn1⟩ := u_known (C := R_Thing) (T := F_Thing) (N := 6) (n := 6) hts i_Thing (hts _ w_192)
  obtain ⟨c2, iS2, hKn2⟩ := u_known (C := R_Sight) (T := F_Sight) (N := 3) (n := 3) hts i_Sight (hts _ w_469)
  obtain ⟨c3, iS3, hKn3⟩ := u_known (C := R_AL) (T := F_AL) (N := 3) (n := 3) hts i_AL (hts _ w_42)
  obtain ⟨c4, iS4, hKn4⟩ := u_known (C := R_AD) (T := F_AD) (N := 6) (n := 6) hts i_AD (hts _ w_23)
  obtain ⟨c5, iS5, hKn5⟩ := u_known (C := R_Mod) (T := F_Mod) (N := 15) (n := 15) hts i_Mod (hts _ w_543)
  obtain ⟨dC, dI, hKc⟩ : ∃ (dC : Nat → ClassId) (dI : Nat → Nat → Nat), ∀ (k : Nat) (q : vw_C), vwCl[k]? = some q → u_Kn s q.1 q.2.1 q.2.2 (dC k) (dI k) := by
    refine ⟨fun k => if k = 0 then c0 else if k = 1 then c1 else if k = 2 then c2 else if k = 3 then c3 else if k = 4 then c4 else c5, fun k => if k = 0 then iS0 else if k = 1 then iS1 else if k = 2 then iS2 else if k = 3 then iS3 else if k = 4 then iS4 else iS5, ?_⟩
    intro k q hq
    match k, hq with
    | 0, hq => cases hq; exact hKn0
    | 1, hq => cases hq; exact hKn1
    | 2, hq => cases hq; exact hKn2
    | 3, hq => cases hq; exact hKn3
    | 4, hq => cases hq; exact hKn4
    | 5, hq => cases hq; exact hKn5
    | k + 6, hq => simp [vwCl] at hq
  obtain ⟨t0, ht0⟩ := st_ty (ty := .int) (hts _ w_86) (fun _ _ => rfl)
  obtain ⟨t2, ht2⟩ := st_ty (ty := .long) (hts _ w_722) (fun _ _ => rfl)
  obtain ⟨t1, ht1, hn1⟩ := st_to (hts _ w_270)
  obtain ⟨ea, ec, e1, e2, e3, e4, e5⟩ := st_emp (s := s) (A := A) (hs _ (by decide +kernel)) (hs _ (by decide +kernel))
  obtain ⟨mi, hmi⟩ := va_Mi.of (args := A) (s := s) (C := "[Ljava/lang/Object;") (hs _ (by decide +kernel))
  have hA : ∀ a : Nat, a < s.heap.size → ¬ (fun q => s.heap.size ≤ q) a := fun a ha => Nat.not_le.mpr ha
  have l1 := hts0 (.laysStatic "java/lang/Throwable" "UNASSIGNED_STACK" "[Ljava/lang/StackTraceElement;") (by decide +kernel)
  have l2 := hts0 (.laysStatic "java/lang/Throwable" "SUPPRESSED_SENTINEL" "Ljava/util/List;") (by decide +kernel)
  have l3 := hts0 (.laysStatic "java/util/ArrayList" "DEFAULTCAPACITY_EMPTY_ELEMENTDATA" "[Ljava/lang/Object;") (by decide +kernel)
  have i1 := hts0 (.initialized "java/lang/Throwable") (by decide +kernel)
  have i3 := hts0 (.initialized "java/util/ArrayList") (by decide +kernel)
  refine ⟨((dC, dI), (fun k => if k = 0 then t0 else if k = 1 then t1 else t2), (fun k => if k = 0 then ea else mi)), Nat.le_refl _, ⟨hKc, fun k q h => ?_⟩, va_Zqof l1 i1 (hs _ (by decide +kernel)) hA, va_Zqof l2 i1 (hs _ (by decide +kernel)) hA, ?_, ?_, st_strs hts0 hs, st_ncs hs, va_Nw.of rfl (hts0 (.methodLinkNest "AuditDraws" 9 y_D_init "AuditDraws") (by decide +kernel)), va_Zof l3 i3 e1 hA, ⟨(Array.getElem?_eq_some_iff.mp e2).1, ec, e2, Option.some.inj (e3.symm.trans hn1), e4, e5⟩, hmi⟩
  · match k, h with
    | 0, h => cases h; exact ht0
    | 1, h => cases h; exact ht1
    | 2, h => cases h; exact ht2
    | k + 3, h => simp [ad_tys] at h
  · exact ad_lsN l1
  · exact ad_lsN l2
set_option maxHeartbeats 4000000 in
set_option maxRecDepth 100000 in
theorem whole_start {p : Program} {e : Env} {s : State} {m : MethodId} {below : List Frame} {meth : Method} {c : Code} (l : Launch) (hT : l.stackTraces = false) {b L : Nat} {xs : Nat → Int32} (hL : L ≤ 2560) (C0 : lw_At p s m meth c b L xs) : W p l e room_1 s m #[Value.ref b] below meth c s.heap [] 0 0 (lw_Z below #[Value.ref b] s) (entryFrame m ([Value.ref b] : List Value).toArray 7) := by
  obtain ⟨hx, hb, hr, hml, hown, hts0, hX, hbl, hlocks, hgv⟩ := C0
  have hts : ∀ w ∈ ad_T, w.before #[Value.ref b] s = true := fun w hw => hts0 w (List.mem_filter.mp hw).1
  obtain ⟨G, hB⟩ := st_B hts0 hts hgv
  have S : CallFix p m c code 7 s #[Value.ref b] ad_T "AuditDrawsLaw" := ⟨hx, hb, hml, hown, hts⟩
  have I : ad_I G s.heap.size s (fun _ => none) s.heap [] := ad_I.rf hB (fun q e h => by cases h)
  have hl := lv_entry ([.ref b]) (n := 7) (Nat.le_of_ble_eq_true rfl)
  rw [lg_entry_eq]
  generalize (lg_sl ([.ref b]) ++ List.replicate (7 - (lg_sl ([.ref b])).length) Slot.unset).toArray = ls at hl ⊢
  have hl : lv_has ls 7 [(0, .ref b)] := hl
  refine ad_new S I K_AD w_22 w_23 w_1 (fs := [.null, .null, .null, .null, .null, .null]) (by decide) (Nat.le_of_ble_eq_true rfl) (Nat.le_of_ble_eq_true rfl) d_law_0 (fun x H1 n1 I => ?_)
  obtain ⟨hp1, ehp1⟩ : ∃ z : ad_H, z = ad_up (fun _ => none) x (.inr (4, [.null, .null, .null, .null, .null, .null])) := ⟨_, rfl⟩
  rw [← ehp1] at I
  have fx : hp1 x = some (.inr (4, [.null, .null, .null, .null, .null, .null])) := by rw [ehp1]; exact ad_up_s _ _ _
  refine lv_dup hx hb d_law_3 rfl ?_
  refine ad_cZi S I (ad_ivI (As := []) (rest := [.ref x]) S w_24 w_25 w_26 rfl ⟨by decide, by decide, np_A_init⟩ rfl d_law_4) (c_A_init l G s.heap.size hp1 x fx) Y_A_init hl.1 ⟨Nat.le_of_ble_eq_true rfl, Nat.le_of_ble_eq_true rfl⟩ (Nat.le_of_ble_eq_true rfl) (Nat.le_of_ble_eq_true rfl) d_law_4 (fun hp2 H2 locs2 hA2 I => ?_)
  obtain ⟨dA, tA, lA, rA, gA, sA, hC2, -⟩ := hA2
  have hA2 : CRA G hp2 x gA sA ([], [], 0) := ⟨dA, tA, lA, rA, [], [], [], [], [], _, _, hC2⟩
  refine lv_astore_n (lv' := [(1, .ref x), (0, .ref b)]) hx hb d_law_7 rfl hl (by decide) rfl (fun ls hl => ?_)
  refine ad_new S I K_Mod w_542 w_543 w_6 (fs := [.int 0, .long 0, .int 0, .null, .null, .null, .int 0, .null, .null, .null, .null, .null, .null, .null, .null]) (by decide) (Nat.le_of_ble_eq_true rfl) (Nat.le_of_ble_eq_true rfl) d_law_8 (fun m0 H3 n3 I => ?_)
  obtain ⟨hp3, ehp3⟩ : ∃ z : ad_H, z = ad_up hp2 m0 (.inr (5, [.int 0, .long 0, .int 0, .null, .null, .null, .int 0, .null, .null, .null, .null, .null, .null, .null, .null])) := ⟨_, rfl⟩
  rw [← ehp3] at I
  have fm : hp3 m0 = some (.inr (5, [.int 0, .long 0, .int 0, .null, .null, .null, .int 0, .null, .null, .null, .null, .null, .null, .null, .null])) := by rw [ehp3]; exact ad_up_s _ _ _
  have k3 : ∀ z e, hp2 z = some e → z ≠ m0 ∧ hp3 z = some e := fun z e hz => by
    have hzm : z ≠ m0 := fun hh => by rw [hh, n3] at hz; cases hz
    exact ⟨hzm, by rw [ehp3, ad_up_n _ hzm]; exact hz⟩
  refine lv_dup hx hb d_law_11 rfl ?_
  refine ad_cZi S I (ad_ivI (As := []) (rest := [.ref m0]) S w_544 w_545 w_546 rfl ⟨by decide, by decide, np_M_init⟩ rfl d_law_12) (c_M_init l G s.heap.size hp3 m0 fm) Y_M_init hl.1 ⟨Nat.le_of_ble_eq_true rfl, Nat.le_of_ble_eq_true rfl⟩ (Nat.le_of_ble_eq_true rfl) (Nat.le_of_ble_eq_true rfl) d_law_12 (fun hp4 H4 locs4 hA4 I => ?_)
  obtain ⟨bs, hM4, hnb, hk4⟩ := hA4
  have k4 : ∀ z e, hp2 z = some e → hp4 z = some e := fun z e hz => by
    obtain ⟨h1, h2⟩ := k3 z e hz
    rw [hk4 z h1 (by rw [h2]; simp)]; exact h2
  have hne : ∀ i, i < 11 → bs i ≠ gA ∧ bs i ≠ sA := fun i hi => by
    have g1 := (k3 gA _ hC2.hg).2
    have g2 := (k3 sA _ hC2.hs).2
    refine ⟨fun hh => ?_, fun hh => ?_⟩
    · rw [← hh, hnb i hi] at g1; cases g1
    · rw [← hh, hnb i hi] at g2; cases g2
  refine lv_astore_n (lv' := [(2, .ref m0), (1, .ref x), (0, .ref b)]) hx hb d_law_15 rfl hl (by decide) rfl (fun ls hl => ?_)
  refine lv_iconst (v := 1) hx hb d_law_16 (by decide) ?_
  refine ad_newa (atype := .long) S I w_722 rfl 2 rfl (fun _ => rfl) (a0 := (1, .inr (.inl (fun _ => 0)))) rfl (by decide) (N' := 1) (by decide) (by decide) (Nat.le_of_ble_eq_true rfl) (Nat.le_of_ble_eq_true rfl) d_law_17 (fun oA H5 n5 I => ?_)
  obtain ⟨hp5, ehp5⟩ : ∃ z : ad_H, z = ad_up hp4 oA (.inl (G.2.1 2, 1, .inr (.inl (fun _ => 0)))) := ⟨_, rfl⟩
  rw [← ehp5] at I
  have ho : hp5 oA = some (.inl (G.2.1 2, 1, .inr (.inl (fun _ => 0)))) := by rw [ehp5]; exact ad_up_s _ _ _
  have k5 : ∀ z e, hp4 z = some e → hp5 z = some e := fun z e hz => by
    have hzm : z ≠ oA := fun hh => by rw [hh, n5] at hz; cases hz
    rw [ehp5, ad_up_n _ hzm]; exact hz
  have hC : CRA G hp5 x gA sA ([], [], 0) := hA2.far (fun z e hz _ => k5 z e (k4 z e hz)) (ad_I.e I)
  have hM : MRA G hp5 m0 bs 0 ([], [], 0) := ⟨fun _ _ => 0, ⟨k5 _ _ hM4.1, fun i hi => k5 _ _ (hM4.2.1 i hi), hM4.2.2⟩, ⟨fun i t h => by simp at h, fun i _ _ => ⟨rfl, rfl⟩, fun j i h => by simp at h⟩⟩
  have hW : WF ([], [], 0) := ⟨by simp [wfs], by simp, by simp, by simp, by simp, by simp, by simp, by simp⟩
  refine lv_astore_n (lv' := [(3, .ref oA), (2, .ref m0), (1, .ref x), (0, .ref b)]) hx hb d_law_19 rfl hl (by decide) rfl (fun ls hl => ?_)
  refine lv_iconst (v := 0) hx hb d_law_20 (by decide) ?_
  refine lv_istore (lv' := [(4, .int 0), (3, .ref oA), (2, .ref m0), (1, .ref x), (0, .ref b)]) hx hb d_law_21 hl (by decide) rfl (fun ls hl => ?_)
  exact law_loop S hr hlocks hT hX hbl hne hL 513 0 _ _ (by omega) (by omega) (by omega) (by omega) hp5 H5 locs4 ([], [], 0) 0 (fun _ => 0) ls I hC hM ho hW (lv_sub hl [4, 3, 2, 1, 0] rfl)
