def R_law : String := "AuditDrawsLaw"
def lw_P (b : Addr) (xs : List Int32) (args : Array Value) (s : State) : Prop := args = #[.ref b] ∧ s.IntsAt b xs ∧ xs.length ≤ 2560 ∧ (Jvm.Cond.and given_1 narrow_1).before args s = true
def lw_Q (_ : Array Value) (s : State) (o : Outcome) (t : State) : Prop := o = .returned (some (.int 1)) ∧ Framed s o t [] 601024 7293034
def lw_Z (below : List Frame) (a : Array Value) (s : State) : State → Prop := fun t => ∃ o, t.status = .running ∧ Ended t below o ∧ lw_Q a s o t
theorem lw_ret {p : Program} {l : Launch} {e : Env} {s : State} {m : MethodId} {below : List Frame} {meth : Method} {c : Code} {b : Nat} (hx : p.tables.exec = Jvm.exec) (hb : c.code = code) (hr : meth.sig.returnType = ret) (hlocks : meth.locks = false) {pc : Nat} {H : Heap} {ls : Array Slot} (hdg : decode code pc = .ok (.ireturn, 1)) : W p l e room_1 s m #[Value.ref b] below meth c H [] 601024 7293034 (lw_Z below #[Value.ref b] s) (F0 m pc ls [.int 1]) := by
  intro T hT X
  obtain ⟨fs, hret, hrun, hended, hW, hframe⟩ := X.leave (v := some (.int 1)) (hlocks := hlocks) (fun h => by rw [hr] at h; cases h)
  have hmeth' : T.vm.method? m = some meth := X.method'
  refine ⟨T.setFrames fs, ?_, .returned (some (.int 1)), hrun, hended, rfl, ⟨_, rfl⟩, hW, hframe⟩
  jvm_step X.here [X.here.top, hx, hb, hdg, hmeth', hr, ret, narrow_b1]
  (try refine ⟨rfl, ?_⟩); (try refine ⟨rfl, ?_⟩)
  first | (intro acts; rw [hret _ acts rfl rfl rfl]) | rw [hret _ _ rfl rfl rfl]
  exact Steps.refl _
def lw_At (p : Program) (s : State) (m : MethodId) (meth : Method) (c : Code) (b L : Nat) (xs : Nat → Int32) : Prop :=
  p.tables.exec = Jvm.exec ∧ c.code = code ∧ meth.sig.returnType = ret ∧ c.maxLocals = 7 ∧ s.vm.findClass R_law = some m.cls ∧ (∀ w ∈ lw_tbl, w.before #[Value.ref b] s = true) ∧ va_X b L xs s s.heap ∧ b < s.heap.size ∧ meth.locks = false ∧ (Jvm.Cond.and given_1 narrow_1).before #[Value.ref b] s = true
theorem lw_cmp {i L : Nat} (hL : L ≤ 2560) (hi : i ≤ 2600) : Int32.ofNat L - 5 < nI i ↔ ¬ i + 5 ≤ L := by
  have h1 : (Int32.ofNat L - 5).toInt = (L : Int) - 5 := by
    rw [Int32.toInt_sub, show (Int32.ofNat L).toInt = (L : Int) from nI_toInt (by omega), show (5 : Int32).toInt = 5 from by decide]
    exact Int.bmod_eq_of_le (by omega) (by omega)
  rw [Int32.lt_iff_toInt_lt, h1, nI_toInt (by omega)]
  omega
set_option maxHeartbeats 4000000 in
set_option maxRecDepth 100000 in
theorem lw_step {p : Program} {e : Env} {s : State} {m : MethodId} {below : List Frame} {meth : Method} {c : Code} {Q : State → Prop} {l : Launch} {b L : Nat} {xs : Nat → Int32} {G : ad_G} {x gA sA m0 oA : Nat} {bs : Nat → Nat} {i : Nat} {hp : ad_H} {H : Heap} {locs : List Loc} {cells slots : Nat} {A : AST} {th : Int32} {f : Nat → Int64} {ls : Array Slot} (S : CallFix p m c code 7 s #[Value.ref b] ad_T "AuditDrawsLaw") (hT : l.stackTraces = false) (hX : va_X b L xs s s.heap) (hbl : b < s.heap.size) (hne : ∀ i, i < 11 → bs i ≠ gA ∧ bs i ≠ sA) (hi : i + 5 ≤ L) (hL : L ≤ 2560) (hcl : cells + 128 ≤ 601024) (hsl : slots + 12800 ≤ 7293034) (I : ad_I G s.heap.size s hp H locs) (hC : CRA G hp x gA sA A) (hM : MRA G hp m0 bs th A) (ho : hp oA = some (.inl (G.2.1 2, 1, .inr (.inl f)))) (hW : WF A) (hl : lv_has ls 7 [(0, .ref b), (1, .ref x), (2, .ref m0), (3, .ref oA), (4, .int (nI i))]) (hk : ∀ (hp' : ad_H) (H' : Heap) (locs' : List Loc) (A' : AST) (th' : Int32) (f' : Nat → Int64), ad_I G s.heap.size s hp' H' locs' → CRA G hp' x gA sA A' → MRA G hp' m0 bs th' A' → hp' oA = some (.inl (G.2.1 2, 1, .inr (.inl f'))) → WF A' → ∀ ls' : Array Slot, lv_has ls' 7 [(0, .ref b), (1, .ref x), (2, .ref m0), (3, .ref oA), (4, .int (nI (i + 5)))] → W p l e room_1 s m #[Value.ref b] below meth c H' locs' (cells + 128) (slots + 12800) Q (F0 m 23 ls' [])) : W p l e room_1 s m #[Value.ref b] below meth c H locs cells slots Q (F0 m 23 ls []) := by
  obtain ⟨hx, hb, hml, hown, hts⟩ := id S
  have hbA : ¬ (fun q => s.heap.size ≤ q) b := Nat.not_le.mpr hbl
  refine lv_iload hx hb d_law_23 (lv_at hl 4 rfl) ?_
  refine lv_aload_n hx hb d_law_25 rfl (lv_at hl 0 rfl) ?_
  refine va_slen hx hb hX hbl hbA I.S d_law_26 ?_
  refine lv_iconst (v := 5) hx hb d_law_27 (by decide) ?_
  refine lv_isub hx hb d_law_28 ?_
  refine lv_icmp_gt (tgt := 1275) hx hb d_law_29 (by decide) (fun cc => absurd hi ((lw_cmp hL (by omega)).mp cc)) (fun _ => ?_)
  refine lv_aload_n hx hb d_law_32 rfl (lv_at hl 0 rfl) ?_
  refine lv_iload hx hb d_law_33 (lv_at hl 4 rfl) ?_
  refine va_sld hx hb hX hbl hbA I.S (vp_in_nI (show i < L by omega) (by omega)) d_law_35 ?_
  refine lv_bipush (v := 15) hx hb d_law_36 (by decide) ?_
  refine lv_iand hx hb d_law_38 ?_
  obtain ⟨j, hj, ej⟩ := pk_andE (xs (nI i).toNatClampNeg) (m := 15) 4 (by decide)
  refine ad_top (congrArg Value.int ej) ?_
  have hk2 : ∀ (hp' : ad_H) (H' : Heap) (locs' : List Loc) (A' : AST) (th' : Int32) (f' : Nat → Int64), ad_I G s.heap.size s hp' H' locs' → CRA G hp' x gA sA A' → MRA G hp' m0 bs th' A' → hp' oA = some (.inl (G.2.1 2, 1, .inr (.inl f'))) → WF A' → ∀ ls' : Array Slot, lv_has ls' 7 [(0, .ref b), (1, .ref x), (2, .ref m0), (3, .ref oA), (4, .int (nI i))] → W p l e room_1 s m #[Value.ref b] below meth c H' locs' (cells + 128) (slots + 12800) Q (F0 m 1269 ls' []) := fun hp' H' locs' A' th' f' I' hC' hM' ho' hW' ls' hl' => by
    refine lv_iinc (v := nI (i + 5)) (lv' := [(4, .int (nI (i + 5))), (0, .ref b), (1, .ref x), (2, .ref m0), (3, .ref oA)]) hx hb d_law_1269 hl' (k := 4) rfl (nI_add i 5) (by decide) rfl (fun ls hl => ?_)
    refine lv_goto (tgt := 23) hx hb d_law_1272 (by decide) ?_
    exact hk hp' H' locs' A' th' f' I' hC' hM' ho' hW' ls (lv_sub hl [1, 2, 3, 4, 0] rfl)
  have hj2 : j = 0 ∨ j = 1 ∨ j = 2 ∨ j = 3 ∨ j = 4 ∨ j = 5 ∨ j = 6 ∨ j = 7 ∨ j = 8 ∨ j = 9 ∨ j = 10 ∨ j = 11 ∨ j = 12 ∨ j = 13 ∨ j = 14 ∨ j = 15 := by omega
  rcases hj2 with rfl | rfl | rfl | rfl | rfl | rfl | rfl | rfl | rfl | rfl | rfl | rfl | rfl | rfl | rfl | rfl
  · exact lv_tableIn (off := 77) (tgt := 116) hx hb d_law_39 (by decide) (by decide) (by decide +kernel) (by decide) (lw_c0 S hT hX hbl hne hi hL hcl hsl I hC hM ho hW hl hk2)
  · exact lv_tableIn (off := 132) (tgt := 171) hx hb d_law_39 (by decide) (by decide) (by decide +kernel) (by decide) (lw_c1 S hT hX hbl hne hi hL hcl hsl I hC hM ho hW hl hk2)
  · exact lv_tableIn (off := 200) (tgt := 239) hx hb d_law_39 (by decide) (by decide) (by decide +kernel) (by decide) (lw_c2 S hT hX hbl hne hi hL hcl hsl I hC hM ho hW hl hk2)
  · exact lv_tableIn (off := 256) (tgt := 295) hx hb d_law_39 (by decide) (by decide) (by decide +kernel) (by decide) (lw_c3 S hT hX hbl hne hi hL hcl hsl I hC hM ho hW hl hk2)
  · exact lv_tableIn (off := 312) (tgt := 351) hx hb d_law_39 (by decide) (by decide) (by decide +kernel) (by decide) (lw_c4 S hT hX hbl hne hi hL hcl hsl I hC hM ho hW hl hk2)
  · exact lv_tableIn (off := 404) (tgt := 443) hx hb d_law_39 (by decide) (by decide) (by decide +kernel) (by decide) (lw_c5 S hT hX hbl hne hi hL hcl hsl I hC hM ho hW hl hk2)
  · exact lv_tableIn (off := 467) (tgt := 506) hx hb d_law_39 (by decide) (by decide) (by decide +kernel) (by decide) (lw_c6 S hT hX hbl hne hi hL hcl hsl I hC hM ho hW hl hk2)
  · exact lv_tableIn (off := 535) (tgt := 574) hx hb d_law_39 (by decide) (by decide) (by decide +kernel) (by decide) (lw_c7 S hT hX hbl hne hi hL hcl hsl I hC hM ho hW hl hk2)
  · exact lv_tableIn (off := 591) (tgt := 630) hx hb d_law_39 (by decide) (by decide) (by decide +kernel) (by decide) (lw_c8 S hT hX hbl hne hi hL hcl hsl I hC hM ho hW hl hk2)
  · exact lv_tableIn (off := 691) (tgt := 730) hx hb d_law_39 (by decide) (by decide) (by decide +kernel) (by decide) (lw_c9 S hT hX hbl hne hi hL hcl hsl I hC hM ho hW hl hk2)
  · exact lv_tableIn (off := 798) (tgt := 837) hx hb d_law_39 (by decide) (by decide) (by decide +kernel) (by decide) (lw_c10 S hT hX hbl hne hi hL hcl hsl I hC hM ho hW hl hk2)
  · exact lv_tableIn (off := 890) (tgt := 929) hx hb d_law_39 (by decide) (by decide) (by decide +kernel) (by decide) (lw_c11 S hT hX hbl hne hi hL hcl hsl I hC hM ho hW hl hk2)
  · exact lv_tableIn (off := 958) (tgt := 997) hx hb d_law_39 (by decide) (by decide) (by decide +kernel) (by decide) (lw_c12 S hT hX hbl hne hi hL hcl hsl I hC hM ho hW hl hk2)
  · exact lv_tableIn (off := 1026) (tgt := 1065) hx hb d_law_39 (by decide) (by decide) (by decide +kernel) (by decide) (lw_c13 S hT hX hbl hne hi hL hcl hsl I hC hM ho hW hl hk2)
  · exact lv_tableIn (off := 1094) (tgt := 1133) hx hb d_law_39 (by decide) (by decide) (by decide +kernel) (by decide) (lw_c14 S hT hX hbl hne hi hL hcl hsl I hC hM ho hW hl hk2)
  · exact lv_tableIn (off := 1162) (tgt := 1201) hx hb d_law_39 (by decide) (by decide) (by decide +kernel) (by decide) (lw_c15 S hT hX hbl hne hi hL hcl hsl I hC hM ho hW hl hk2)
set_option maxHeartbeats 4000000 in
set_option maxRecDepth 100000 in
theorem lw_exit {p : Program} {e : Env} {s : State} {m : MethodId} {below : List Frame} {meth : Method} {c : Code} {l : Launch} {b L : Nat} {xs : Nat → Int32} {G : ad_G} {x m0 oA : Nat} {i : Nat} {hp : ad_H} {H : Heap} {locs : List Loc} {cells slots : Nat} {ls : Array Slot} (S : CallFix p m c code 7 s #[Value.ref b] ad_T "AuditDrawsLaw") (hr : meth.sig.returnType = ret) (hlocks : meth.locks = false) (hX : va_X b L xs s s.heap) (hbl : b < s.heap.size) (hi : ¬ i + 5 ≤ L) (hi2 : i ≤ 2600) (hL : L ≤ 2560) (hcl : cells ≤ 601024) (hsl : slots ≤ 7293034) (I : ad_I G s.heap.size s hp H locs) (hl : lv_has ls 7 [(0, .ref b), (1, .ref x), (2, .ref m0), (3, .ref oA), (4, .int (nI i))]) : W p l e room_1 s m #[Value.ref b] below meth c H locs cells slots (lw_Z below #[Value.ref b] s) (F0 m 23 ls []) := by
  obtain ⟨hx, hb, hml, hown, hts⟩ := id S
  have hbA : ¬ (fun q => s.heap.size ≤ q) b := Nat.not_le.mpr hbl
  refine lv_iload hx hb d_law_23 (lv_at hl 4 rfl) ?_
  refine lv_aload_n hx hb d_law_25 rfl (lv_at hl 0 rfl) ?_
  refine va_slen hx hb hX hbl hbA I.S d_law_26 ?_
  refine lv_iconst (v := 5) hx hb d_law_27 (by decide) ?_
  refine lv_isub hx hb d_law_28 ?_
  refine lv_icmp_gt (tgt := 1275) hx hb d_law_29 (by decide) (fun cc => ?_) (fun cc => absurd ((lw_cmp hL hi2).mpr hi) cc)
  refine lv_iconst (v := 1) hx hb d_law_1275 (by decide) ?_
  refine va_forget (fun q hq => I.2.2.2.2 q hq) ?_
  refine W.widen (k := 601024) (n := 7293034) hcl hsl ?_
  exact lw_ret hx hb hr hlocks d_law_1276
set_option maxHeartbeats 4000000 in
set_option maxRecDepth 100000 in
theorem law_loop {p : Program} {e : Env} {s : State} {m : MethodId} {below : List Frame} {meth : Method} {c : Code} {l : Launch} {b L : Nat} {xs : Nat → Int32} {G : ad_G} {x gA sA m0 oA : Nat} {bs : Nat → Nat} (S : CallFix p m c code 7 s #[Value.ref b] ad_T "AuditDrawsLaw") (hr : meth.sig.returnType = ret) (hlocks : meth.locks = false) (hT : l.stackTraces = false) (hX : va_X b L xs s s.heap) (hbl : b < s.heap.size) (hne : ∀ i, i < 11 → bs i ≠ gA ∧ bs i ≠ sA) (hL : L ≤ 2560) : ∀ (n i cells slots : Nat), L < i + 5 * n → i ≤ 2600 → cells + 128 * n ≤ 601024 → slots + 12800 * n ≤ 7293034 → ∀ (hp : ad_H) (H : Heap) (locs : List Loc) (A : AST) (th : Int32) (f : Nat → Int64) (ls : Array Slot), ad_I G s.heap.size s hp H locs → CRA G hp x gA sA A → MRA G hp m0 bs th A → hp oA = some (.inl (G.2.1 2, 1, .inr (.inl f))) → WF A → lv_has ls 7 [(0, .ref b), (1, .ref x), (2, .ref m0), (3, .ref oA), (4, .int (nI i))] → W p l e room_1 s m #[Value.ref b] below meth c H locs cells slots (lw_Z below #[Value.ref b] s) (F0 m 23 ls []) := by
  intro n
  induction n with
  | zero =>
    intro i cells slots h1 h2 h3 h4 hp H locs A th f ls I hC hM ho hW hl
    exact lw_exit (x := x) (m0 := m0) (oA := oA) S hr hlocks hX hbl (by omega) h2 hL (by omega) (by omega) I hl
  | succ n ih =>
    intro i cells slots h1 h2 h3 h4 hp H locs A th f ls I hC hM ho hW hl
    by_cases hi : i + 5 ≤ L
    · refine lw_step S hT hX hbl hne hi hL (by omega) (by omega) I hC hM ho hW hl ?_
      intro hp' H' locs' A' th' f' I' hC' hM' ho' hW' ls' hl'
      exact ih (i + 5) (cells + 128) (slots + 12800) (by omega) (by omega) (by omega) (by omega) hp' H' locs' A' th' f' ls' I' hC' hM' ho' hW' hl'
    · exact lw_exit (x := x) (m0 := m0) (oA := oA) S hr hlocks hX hbl hi h2 hL (by omega) (by omega) I hl
