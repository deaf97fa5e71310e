section ADS
variable {p : Program} {l : Launch} {e : Env} {R : Room} {s : State} {m : MethodId} {args : Array Value} {below : List Frame} {meth : Method} {c : Code} {H : Heap} {locs : List Loc} {cells slots : Nat} {Q : State → Prop}
variable {cc : ByteArray} {nL pc : Nat} {ls : Array Slot} {rest st : List Value} {own : String} {G : ad_G} {lo : Nat} {hp : ad_H} {a : Nat}
variable {y : MethodName} {cy : ByteArray} {ny : Nat} {rt : Option FieldType} {hs : List (Nat × Nat × Nat × Nat)} {d mc ms : Nat} {As : List Value}
theorem ad_cPn (S : CallFix p m c cc nL s args ad_T own) (I : ad_I G lo s hp H locs) (iv : ad_Iv p l e R s m args below meth c H locs cells slots pc ls st rest y As) (K : ad_Cp l y cy ny rt hs d mc ms G lo hp As (fun r => r = .inl none)) (Y : ad_Y y cy ny rt hs) (hls : ls.size = nL)
    (hR : d + 1 ≤ R.frames ∧ (rest.map fun v => v.category).sum + (ny + 11) + 37 * d ≤ R.locals) (hcells : cells + mc ≤ R.cells) (hslots : slots + ms ≤ R.slots) {ig : Instr} (hdg : decode cc pc = .ok (ig, 3))
    (k : W p l e R s m args below meth c H locs cells slots Q (F0 m (pc + 3) ls rest)) : W p l e R s m args below meth c H locs cells slots Q (F0 m pc ls st) :=
  ad_cP S I iv K Y hls hR hcells hslots hdg (fun v' hv => by cases hv; exact k) (fun C _ _ _ hv => by cases hv)
theorem ad_cZq (S : CallFix p m c cc nL s args ad_T own) (I : ad_I G lo s hp H locs) (iv : ad_Iv p l e R s m args below meth c H locs cells slots pc ls st rest y As) {A : Nat → ad_H → Prop} (K : ad_Ct l y cy ny rt hs d mc ms G lo hp As (fun r hp' => ∃ q : Nat, r = .inl (some (.ref q)) ∧ A q hp')) (Y : ad_Y y cy ny rt hs) (hls : ls.size = nL)
    (hR : d + 1 ≤ R.frames ∧ (rest.map fun v => v.category).sum + (ny + 11) + 37 * d ≤ R.locals) (hcells : cells + mc ≤ R.cells) (hslots : slots + ms ≤ R.slots) {ig : Instr} (hdg : decode cc pc = .ok (ig, 3))
    (k : ∀ (q : Nat) (hp' : ad_H) (H1 : Heap) (locs1 : List Loc), A q hp' → ad_I G lo s hp' H1 locs1 → W p l e R s m args below meth c H1 locs1 (cells + mc) (slots + ms) Q (F0 m (pc + 3) ls (.ref q :: rest))) : W p l e R s m args below meth c H locs cells slots Q (F0 m pc ls st) :=
  ad_cZ S I iv K Y hls hR hcells hslots hdg (fun v' hp' H1 locs1 hv I' => by obtain ⟨q, h1, h2⟩ := hv; cases h1; exact k q hp' H1 locs1 h2 I') (fun C hp' H1 locs1 x cell hv => by obtain ⟨q, h1, -⟩ := hv; cases h1)
set_option maxHeartbeats 1000000 in
theorem ad_copyq (S : CallFix p m c cc nL s args ad_T own) (I : ad_I G lo s hp H []) (hls : ls.size = nL) {a0 n0 n1 : Nat} {f g : Nat → Option Nat} (ha0 : hp a0 = some (ad_ra G n0 f)) (ha1 : hp a = some (ad_ra G n1 g)) (hne : a0 ≠ a) {ci : Nat} {C : String} {T : u_T} {N : Nat} {ty0 : Nat → FieldType} (K : ad_K ci C T N ty0) (hca : Cond.castable C "java/lang/Object" ∈ ad_T)
    {n : Nat} (hn : n < 100000) (h4 : n ≤ n0) (h5 : n ≤ n1) (hel : ∀ i, i < n → ∀ y, f i = some y → ∃ vs, hp y = some (.inr (ci, vs))) {index : Nat} (hlink : Cond.methodLink own index ⟨"java/lang/System", "arraycopy", "(Ljava/lang/Object;ILjava/lang/Object;II)V"⟩ ∈ ad_T) (hnat : Cond.native ⟨"java/lang/System", "arraycopy", "(Ljava/lang/Object;ILjava/lang/Object;II)V"⟩ ∈ ad_T) (hstat : Cond.static ⟨"java/lang/System", "arraycopy", "(Ljava/lang/Object;ILjava/lang/Object;II)V"⟩ ∈ ad_T) (hini : Cond.initialized "java/lang/System" ∈ ad_T)
    (hframes : 1 ≤ R.frames) (hlocals : (rest.map fun v => v.category).sum + (nativeFrameWords "java/lang/System" "arraycopy" 5 + 11) ≤ R.locals) (hdg : decode cc pc = .ok (.invokestatic index, 3))
    (kk : ∀ (H1 : Heap) (locs1 : List Loc), ad_I G lo s (ad_up hp a (ad_ra G n1 (va_cpy f g 0 0 n))) H1 locs1 → W p l e R s m args below meth c H1 locs1 cells slots Q (F0 m (pc + 3) ls rest)) : W p l e R s m args below meth c H [] cells slots Q (F0 m pc ls (.int (nI n) :: .int 0 :: .ref a :: .int 0 :: .ref a0 :: rest)) := by
  obtain ⟨hx, hb, hml, hown, hts⟩ := S
  obtain ⟨hB, hP, hz, hlo, hL⟩ := id I
  have hcl : (nI n).toNatClampNeg = n := nI_clamp (by omega)
  have hP2 : va_P G.1 vwCl [(a0, ad_ra G n0 f), (a, ad_ra G n1 g)] H := by
    intro k q hk
    match k, hk with
    | 0, hk => cases hk; exact (hP _ _ ha0).2
    | 1, hk => cases hk; exact (hP _ _ ha1).2
    | k + 2, hk => simp at hk
  have hD2 : va_D (fun q => q = a ∨ q = a0) [(a0, ad_ra G n0 f), (a, ad_ra G n1 g)] := by
    refine ⟨fun i j x y hi hj hxy => ?_, fun k q hk => ?_⟩
    · match i, j, hi, hj with
      | 0, 0, _, _ => rfl
      | 0, 1, hi, hj => cases hi; cases hj; exact absurd hxy hne
      | 1, 0, hi, hj => cases hi; cases hj; exact absurd hxy.symm hne
      | 1, 1, _, _ => rfl
      | i + 2, _, hi, _ => simp at hi
      | 0, j + 2, _, hj => simp at hj
      | 1, j + 2, _, hj => simp at hj
    · match k, hk with
      | 0, hk => cases hk; exact Or.inr rfl
      | 1, hk => cases hk; exact Or.inl rfl
      | k + 2, hk => simp at hk
  refine va_copyq (D := G.1) (cl := vwCl) (A := fun q => q = a ∨ q = a0) (H0 := H) (E0 := "java/lang/Object") (E1 := "java/lang/Object") (C := C) hx hb (hml.trans hls.symm) hown (hts _ hlink) (hts _ hnat) (hts _ hstat) (hts _ hini) hB.2.1 hP2 hD2 va_S.rf 0 1 1 1 rfl rfl rfl rfl (by decide) (by decide) (nI_pos (by omega)) (by rw [hcl]; show 0 + n ≤ n0; omega) (by rw [hcl]; show 0 + n ≤ n1; omega) (fun i hi y hy => ?_) (fun comp c0 hc hc0 => ?_) hframes hlocals hdg (fun H1 locs1 hP1 hD1 hS1 => ?_)
  · rw [hcl] at hi
    have hy' : f i = some y := by
      have e0 : (0 : Int32).toNatClampNeg + i = i := by show 0 + i = i; omega
      rw [e0] at hy
      exact hy
    obtain ⟨vs, hv⟩ := hel i hi y hy'
    exact ad_recv I hv K
  · obtain ⟨c3, c4, hc3, hc4, hasg⟩ := Cond.castable_spec (hts _ hca)
    cases hc3.symm.trans hc0
    cases hc4.symm.trans hc
    exact hasg
  · rw [hcl] at hP1
    have hla := (hP _ _ ha1).1
    have hla0 := (hP _ _ ha0).1
    refine kk H1 locs1 ⟨hB, fun q e2 hq => ?_, Nat.le_trans hz hS1.1, fun q hq => ?_, fun q hq => ?_⟩
    · by_cases hqa : q = a
      · subst hqa
        rw [ad_up_s] at hq
        cases hq
        exact ⟨hla, hP1 1 _ rfl⟩
      · rw [ad_up_n _ hqa] at hq
        refine ⟨(hP q e2 hq).1, ?_⟩
        by_cases hq0 : q = a0
        · subst hq0
          cases ha0.symm.trans hq
          exact hP1 0 _ rfl
        · exact (hP q e2 hq).2.kept (hS1.2.1 q (hP.lt hq) (fun h => by rcases h with h | h; exact hqa h; exact hq0 h))
    · have hqz : q < H.size := Nat.lt_of_lt_of_le (Nat.lt_of_lt_of_le hq hB.1) hz
      exact (hS1.2.1 q hqz (fun h => by rcases h with h | h <;> omega)).trans (hlo q hq)
    · rcases hS1.2.2 q hq with h | h
      · rw [h]; exact hla
      · rw [h]; exact hla0
end ADS
