theorem MRA.keep {G : ad_G} {hp hp' : ad_H} {m0 gA sA oA : Nat} {bs : Nat → Nat} {th : Int32} {A : AST} {f : Nat → Int64} (M : MRA G hp m0 bs th A) (ho : hp oA = some (.inl (G.2.1 2, 1, .inr (.inl f)))) (hne : ∀ i, i < 11 → bs i ≠ gA ∧ bs i ≠ sA) (hk : ∀ z e, hp z = some e → fo gA sA z e → z ≠ oA → hp' z = some e) : MRA G hp' m0 bs th A := by
  obtain ⟨fs, C, M⟩ := M
  exact ⟨fs, ⟨hk _ _ C.1 trivial (ad_ne C.1 ho (by simp)), fun i hi => hk _ _ (C.2.1 i hi) (hne i hi) (ad_ne (C.2.1 i hi) ho (by simp)), C.2.2⟩, M⟩
theorem MRA.self {G : ad_G} {hp : ad_H} {m0 : Nat} {bs : Nat → Nat} {th : Int32} {A : AST} (M : MRA G hp m0 bs th A) : ∃ fs, hp m0 = some (.inr (5, fs)) := by
  obtain ⟨fs, C, M⟩ := M
  exact ⟨_, C.1⟩
theorem mf_far {G : ad_G} {hp hp' : ad_H} {m0 gA sA : Nat} {bs : Nat → Nat} {th : Int32} {A : AST} (M : MRA G hp m0 bs th A) (hne : ∀ i, i < 11 → bs i ≠ gA ∧ bs i ≠ sA) (F : mf m0 bs hp hp') : ∀ z e, hp z = some e → ¬ fo gA sA z e → hp' z = some e := by
  obtain ⟨fs, C, M⟩ := M
  intro z e hz hf
  rw [F z (fun hh => by subst hh; cases hz.symm.trans C.1; exact hf trivial) (fun i hi hh => by subst hh; cases hz.symm.trans (C.2.1 i hi); exact hf (hne i hi))]
  exact hz
theorem mf_out {G : ad_G} {hp hp' : ad_H} {m0 oA : Nat} {bs : Nat → Nat} {th : Int32} {A : AST} {f : Nat → Int64} (M : MRA G hp m0 bs th A) (ho : hp oA = some (.inl (G.2.1 2, 1, .inr (.inl f)))) (F : mf m0 bs hp hp') : hp' oA = some (.inl (G.2.1 2, 1, .inr (.inl f))) := by
  obtain ⟨fs, C, M⟩ := M
  rw [F oA (ad_ne ho C.1 (by simp)) (fun i hi => ad_ne ho (C.2.1 i hi) (by simp))]
  exact ho
theorem k_seed (l : Launch) (G : ad_G) (lo : Nat) (hp : ad_H) (x gA sA : Nat) (A : AST) (s9 : Int64) (hC : CRA G hp x gA sA A) : ad_Ct l y_A_seed b_A_seed 3 rt_A_seed hs_A_seed 1 0 0 G lo hp [.ref x, .long s9] (fun r hp' => r = .inl none ∧ CRA G hp' x gA sA (A.1, A.2.1, s9) ∧ fr gA sA hp hp') := by
  obtain ⟨dA, tA, lA, rA, ta, ros, la, rr, rw, fg, fs, C⟩ := id hC
  exact (c_A_seed l G lo hp x dA tA lA rA gA sA ta ros A.1 la A.2.1 rr rw A.2.2 fg fs s9 C).mono (fun r hp' h => ⟨h.1, ⟨_, _, _, _, _, _, _, _, _, _, _, h.2.1⟩, h.2.2⟩)
theorem r_seed (l : Launch) (G : ad_G) (lo : Nat) (hp : ad_H) (m0 : Nat) (bs : Nat → Nat) (th : Int32) (A : AST) (s9 : Int64) (hM : MRA G hp m0 bs th A) : ad_Ct l y_M_seed b_M_seed 3 rt_M_seed hs_M_seed 1 0 0 G lo hp [.ref m0, .long s9] (fun r hp' => r = .inl none ∧ MRA G hp' m0 bs 0 (A.1, A.2.1, s9) ∧ mf m0 bs hp hp') := by
  obtain ⟨fs, C, M⟩ := id hM
  exact (c_M_seed l G lo hp m0 bs th A.2.2 (nI A.1.length) (nI A.2.1.length) fs s9 C).mono (fun r hp' h => ⟨h.1, ⟨fs, h.2.1, M⟩, h.2.2⟩)
theorem r_thrown (l : Launch) (G : ad_G) (lo : Nat) (hp : ad_H) (m0 : Nat) (bs : Nat → Nat) (th : Int32) (A : AST) (hM : MRA G hp m0 bs th A) : ad_Cp l y_M_thrown b_M_thrown 1 rt_M_thrown hs_M_thrown 1 0 0 G lo hp [.ref m0] (fun r => r = .inl (some (.int th))) := by
  obtain ⟨fs, C, M⟩ := id hM
  exact c_M_thrown l G lo hp m0 bs th A.2.2 (nI A.1.length) (nI A.2.1.length) fs C
theorem HP_eq {G : ad_G} {hp : ad_H} {x gA sA oA : Nat} {q : (Nat × Int32) × AST} {l : Launch} {y : MethodName} {cc : ByteArray} {nL : Nat} {rt : Option FieldType} {hs : List (Nat × Nat × Nat × Nat)} {d mc ms lo : Nat} {av : List Value} (K : ad_Ct l y cc nL rt hs d mc ms G lo hp av (HP G hp x gA sA oA q)) : ad_Ct l y cc nL rt hs d mc ms G lo hp av (fun r hp' => r = .inl (some (.int (nI q.1.1))) ∧ (CRA G hp' x gA sA q.2 ∧ (∃ f' : Nat → Int64, hp' oA = some (.inl (G.2.1 2, 1, .inr (.inl f'))) ∧ (q.1.1 = 0 → f' 0 = q.1.2.toInt64)) ∧ ∀ z e, hp z = some e → fo gA sA z e → z ≠ oA → hp' z = some e)) := K
theorem MP_eq {G : ad_G} {hp : ad_H} {m0 : Nat} {bs : Nat → Nat} {q : (Nat × Int32) × AST} {l : Launch} {y : MethodName} {cc : ByteArray} {nL : Nat} {rt : Option FieldType} {hs : List (Nat × Nat × Nat × Nat)} {d mc ms lo : Nat} {av : List Value} (K : ad_Ct l y cc nL rt hs d mc ms G lo hp av (MP G hp m0 bs q)) : ad_Ct l y cc nL rt hs d mc ms G lo hp av (fun r hp' => r = .inl (some (.int q.1.2)) ∧ (MRA G hp' m0 bs (nI q.1.1) q.2 ∧ mf m0 bs hp hp')) := K
set_option maxHeartbeats 4000000 in
set_option maxRecDepth 100000 in
theorem lw_c0 {p : Program} {e : Env} {s : State} {m : MethodId} {below : List Frame} {meth : Method} {c : Code} {Q : State → Prop} {l : Launch} {b L : Nat} {xs : Nat → Int32} {G : ad_G} {x gA sA m0 oA : Nat} {bs : Nat → Nat} {i : Nat} {hp : ad_H} {H : Heap} {locs : List Loc} {cells slots : Nat} {A : AST} {th : Int32} {f : Nat → Int64} {ls : Array Slot} (S : CallFix p m c code 7 s #[Value.ref b] ad_T "AuditDrawsLaw") (hT : l.stackTraces = false) (hX : va_X b L xs s s.heap) (hbl : b < s.heap.size) (hne : ∀ i, i < 11 → bs i ≠ gA ∧ bs i ≠ sA) (hi : i + 5 ≤ L) (hL : L ≤ 2560) (hcl : cells + 128 ≤ 601024) (hsl : slots + 12800 ≤ 7293034) (I : ad_I G s.heap.size s hp H locs) (hC : CRA G hp x gA sA A) (hM : MRA G hp m0 bs th A) (ho : hp oA = some (.inl (G.2.1 2, 1, .inr (.inl f)))) (hW : WF A) (hl : lv_has ls 7 [(0, .ref b), (1, .ref x), (2, .ref m0), (3, .ref oA), (4, .int (nI i))]) (hk : ∀ (hp' : ad_H) (H' : Heap) (locs' : List Loc) (A' : AST) (th' : Int32) (f' : Nat → Int64), ad_I G s.heap.size s hp' H' locs' → CRA G hp' x gA sA A' → MRA G hp' m0 bs th' A' → hp' oA = some (.inl (G.2.1 2, 1, .inr (.inl f'))) → WF A' → ∀ ls' : Array Slot, lv_has ls' 7 [(0, .ref b), (1, .ref x), (2, .ref m0), (3, .ref oA), (4, .int (nI i))] → W p l e room_1 s m #[Value.ref b] below meth c H' locs' (cells + 128) (slots + 12800) Q (F0 m 1269 ls' [])) : W p l e room_1 s m #[Value.ref b] below meth c H locs cells slots Q (F0 m 116 ls []) := by
  obtain ⟨hx, hb, hml, hown, hts⟩ := id S
  have hbA : ¬ (fun q => s.heap.size ≤ q) b := Nat.not_le.mpr hbl
  obtain ⟨_, hm9⟩ := hM.self
  obtain ⟨_, hx9⟩ := hC.self
  refine lv_aload_n hx hb d_law_116 rfl (lv_at hl 1 rfl) ?_
  refine lv_aload_n hx hb d_law_117 rfl (lv_at hl 0 rfl) ?_
  refine lv_iload hx hb d_law_118 (lv_at hl 4 rfl) ?_
  refine lv_iconst (v := 1) hx hb d_law_120 (by decide) ?_
  refine lv_iadd hx hb d_law_121 ?_
  refine ad_top (y := .int (nI (i + 1))) (congrArg Value.int (nI_add i 1)) ?_
  refine va_sld hx hb hX hbl hbA I.S (vp_in_nI (show (i + 1) < L by omega) (by omega)) d_law_122 ?_
  refine ad_top (y := .int (xs (i + 1))) (congrArg (fun q => Value.int (xs q)) (show (nI (i + 1)).toNatClampNeg = (i + 1) from nI_clamp (by omega))) ?_
  refine lv_i2l (v := (xs (i + 1)).toInt64) hx hb d_law_123 rfl ?_
  refine lv_bipush (v := 32) hx hb d_law_124 (by decide) ?_
  refine lv_lshl (v := ((xs (i + 1)).toInt64) <<< ((32 : Int32).toInt64 &&& 63)) hx hb d_law_126 rfl ?_
  refine lv_aload_n hx hb d_law_127 rfl (lv_at hl 0 rfl) ?_
  refine lv_iload hx hb d_law_128 (lv_at hl 4 rfl) ?_
  refine lv_iconst (v := 2) hx hb d_law_130 (by decide) ?_
  refine lv_iadd hx hb d_law_131 ?_
  refine ad_top (y := .int (nI (i + 2))) (congrArg Value.int (nI_add i 2)) ?_
  refine va_sld hx hb hX hbl hbA I.S (vp_in_nI (show (i + 2) < L by omega) (by omega)) d_law_132 ?_
  refine ad_top (y := .int (xs (i + 2))) (congrArg (fun q => Value.int (xs q)) (show (nI (i + 2)).toNatClampNeg = (i + 2) from nI_clamp (by omega))) ?_
  refine lv_i2l (v := (xs (i + 2)).toInt64) hx hb d_law_133 rfl ?_
  refine lv_ldc2 (v := 4294967295) hx hb hown (hts _ w_721) d_law_134 ?_
  refine lv_land hx hb d_law_137 ?_
  refine lv_lor hx hb d_law_138 ?_
  refine ad_cZi S I (ad_ivV (As := [.long ((((xs (i + 1)).toInt64) <<< ((32 : Int32).toInt64 &&& 63)) ||| (((xs (i + 2)).toInt64) &&& 4294967295))]) (rest := []) S (ad_recv I hx9 K_AD) w_87 w_88 w_89 Y_A_seed ⟨by decide, by decide, np_A_seed⟩ rfl d_law_139) (k_seed l G s.heap.size hp x gA sA A ((((xs (i + 1)).toInt64) <<< ((32 : Int32).toInt64 &&& 63)) ||| (((xs (i + 2)).toInt64) &&& 4294967295)) hC) Y_A_seed hl.1 ⟨Nat.le_of_ble_eq_true rfl, Nat.le_of_ble_eq_true rfl⟩ (by show _ ≤ 601024; omega) (by show _ ≤ 7293034; omega) d_law_139 (fun hp1 H1 locs1 hA I => ?_)
  obtain ⟨hC1, hF1⟩ := hA
  have ho1 := hF1 oA _ ho trivial
  have hM1 := hM.keep ho hne (fun z e hz hf _ => hF1 z e hz hf)
  obtain ⟨_, hm1⟩ := hM1.self
  refine lv_aload_n hx hb d_law_142 rfl (lv_at hl 2 rfl) ?_
  refine lv_aload_n hx hb d_law_143 rfl (lv_at hl 0 rfl) ?_
  refine lv_iload hx hb d_law_144 (lv_at hl 4 rfl) ?_
  refine lv_iconst (v := 1) hx hb d_law_146 (by decide) ?_
  refine lv_iadd hx hb d_law_147 ?_
  refine ad_top (y := .int (nI (i + 1))) (congrArg Value.int (nI_add i 1)) ?_
  refine va_sld hx hb hX hbl hbA I.S (vp_in_nI (show (i + 1) < L by omega) (by omega)) d_law_148 ?_
  refine ad_top (y := .int (xs (i + 1))) (congrArg (fun q => Value.int (xs q)) (show (nI (i + 1)).toNatClampNeg = (i + 1) from nI_clamp (by omega))) ?_
  refine lv_i2l (v := (xs (i + 1)).toInt64) hx hb d_law_149 rfl ?_
  refine lv_bipush (v := 32) hx hb d_law_150 (by decide) ?_
  refine lv_lshl (v := ((xs (i + 1)).toInt64) <<< ((32 : Int32).toInt64 &&& 63)) hx hb d_law_152 rfl ?_
  refine lv_aload_n hx hb d_law_153 rfl (lv_at hl 0 rfl) ?_
  refine lv_iload hx hb d_law_154 (lv_at hl 4 rfl) ?_
  refine lv_iconst (v := 2) hx hb d_law_156 (by decide) ?_
  refine lv_iadd hx hb d_law_157 ?_
  refine ad_top (y := .int (nI (i + 2))) (congrArg Value.int (nI_add i 2)) ?_
  refine va_sld hx hb hX hbl hbA I.S (vp_in_nI (show (i + 2) < L by omega) (by omega)) d_law_158 ?_
  refine ad_top (y := .int (xs (i + 2))) (congrArg (fun q => Value.int (xs q)) (show (nI (i + 2)).toNatClampNeg = (i + 2) from nI_clamp (by omega))) ?_
  refine lv_i2l (v := (xs (i + 2)).toInt64) hx hb d_law_159 rfl ?_
  refine lv_ldc2 (v := 4294967295) hx hb hown (hts _ w_721) d_law_160 ?_
  refine lv_land hx hb d_law_163 ?_
  refine lv_lor hx hb d_law_164 ?_
  refine ad_cZi S I (ad_ivV (As := [.long ((((xs (i + 1)).toInt64) <<< ((32 : Int32).toInt64 &&& 63)) ||| (((xs (i + 2)).toInt64) &&& 4294967295))]) (rest := []) S (ad_recv I hm1 K_Mod) w_598 w_599 w_600 Y_M_seed ⟨by decide, by decide, np_M_seed⟩ rfl d_law_165) (r_seed l G s.heap.size hp1 m0 bs th A ((((xs (i + 1)).toInt64) <<< ((32 : Int32).toInt64 &&& 63)) ||| (((xs (i + 2)).toInt64) &&& 4294967295)) hM1) Y_M_seed hl.1 ⟨Nat.le_of_ble_eq_true rfl, Nat.le_of_ble_eq_true rfl⟩ (by show _ ≤ 601024; omega) (by show _ ≤ 7293034; omega) d_law_165 (fun hp2 H1 locs1 hA I => ?_)
  obtain ⟨hM2, hF2⟩ := hA
  have hC2 := hC1.far (mf_far hM1 hne hF2) (ad_I.e I)
  have ho2 := mf_out hM1 ho1 hF2
  refine lv_goto (tgt := 1269) hx hb d_law_168 (by decide) ?_
  exact W.widen (k := cells + 128) (n := slots + 12800) (by omega) (by omega) (hk hp2 _ _ _ _ f I hC2 hM2 ho2 hW ls (lv_sub hl [0, 1, 2, 3, 4] rfl))
set_option maxHeartbeats 4000000 in
set_option maxRecDepth 100000 in
theorem lw_c1 {p : Program} {e : Env} {s : State} {m : MethodId} {below : List Frame} {meth : Method} {c : Code} {Q : State → Prop} {l : Launch} {b L : Nat} {xs : Nat → Int32} {G : ad_G} {x gA sA m0 oA : Nat} {bs : Nat → Nat} {i : Nat} {hp : ad_H} {H : Heap} {locs : List Loc} {cells slots : Nat} {A : AST} {th : Int32} {f : Nat → Int64} {ls : Array Slot} (S : CallFix p m c code 7 s #[Value.ref b] ad_T "AuditDrawsLaw") (hT : l.stackTraces = false) (hX : va_X b L xs s s.heap) (hbl : b < s.heap.size) (hne : ∀ i, i < 11 → bs i ≠ gA ∧ bs i ≠ sA) (hi : i + 5 ≤ L) (hL : L ≤ 2560) (hcl : cells + 128 ≤ 601024) (hsl : slots + 12800 ≤ 7293034) (I : ad_I G s.heap.size s hp H locs) (hC : CRA G hp x gA sA A) (hM : MRA G hp m0 bs th A) (ho : hp oA = some (.inl (G.2.1 2, 1, .inr (.inl f)))) (hW : WF A) (hl : lv_has ls 7 [(0, .ref b), (1, .ref x), (2, .ref m0), (3, .ref oA), (4, .int (nI i))]) (hk : ∀ (hp' : ad_H) (H' : Heap) (locs' : List Loc) (A' : AST) (th' : Int32) (f' : Nat → Int64), ad_I G s.heap.size s hp' H' locs' → CRA G hp' x gA sA A' → MRA G hp' m0 bs th' A' → hp' oA = some (.inl (G.2.1 2, 1, .inr (.inl f'))) → WF A' → ∀ ls' : Array Slot, lv_has ls' 7 [(0, .ref b), (1, .ref x), (2, .ref m0), (3, .ref oA), (4, .int (nI i))] → W p l e room_1 s m #[Value.ref b] below meth c H' locs' (cells + 128) (slots + 12800) Q (F0 m 1269 ls' [])) : W p l e room_1 s m #[Value.ref b] below meth c H locs cells slots Q (F0 m 171 ls []) := by
  obtain ⟨hx, hb, hml, hown, hts⟩ := id S
  have hbA : ¬ (fun q => s.heap.size ≤ q) b := Nat.not_le.mpr hbl
  obtain ⟨_, hm9⟩ := hM.self
  obtain ⟨_, hx9⟩ := hC.self
  refine lv_aload_n hx hb d_law_171 rfl (lv_at hl 1 rfl) ?_
  refine lv_aload_n hx hb d_law_172 rfl (lv_at hl 0 rfl) ?_
  refine lv_iload hx hb d_law_173 (lv_at hl 4 rfl) ?_
  refine lv_iconst (v := 1) hx hb d_law_175 (by decide) ?_
  refine lv_iadd hx hb d_law_176 ?_
  refine ad_top (y := .int (nI (i + 1))) (congrArg Value.int (nI_add i 1)) ?_
  refine va_sld hx hb hX hbl hbA I.S (vp_in_nI (show (i + 1) < L by omega) (by omega)) d_law_177 ?_
  refine ad_top (y := .int (xs (i + 1))) (congrArg (fun q => Value.int (xs q)) (show (nI (i + 1)).toNatClampNeg = (i + 1) from nI_clamp (by omega))) ?_
  refine lv_aload_n hx hb d_law_178 rfl (lv_at hl 0 rfl) ?_
  refine lv_iload hx hb d_law_179 (lv_at hl 4 rfl) ?_
  refine lv_iconst (v := 2) hx hb d_law_181 (by decide) ?_
  refine lv_iadd hx hb d_law_182 ?_
  refine ad_top (y := .int (nI (i + 2))) (congrArg Value.int (nI_add i 2)) ?_
  refine va_sld hx hb hX hbl hbA I.S (vp_in_nI (show (i + 2) < L by omega) (by omega)) d_law_183 ?_
  refine ad_top (y := .int (xs (i + 2))) (congrArg (fun q => Value.int (xs q)) (show (nI (i + 2)).toNatClampNeg = (i + 2) from nI_clamp (by omega))) ?_
  refine lv_aload_n hx hb d_law_184 rfl (lv_at hl 3 rfl) ?_
  obtain ⟨q, hq⟩ : ∃ q : (Nat × Int32) × AST, q = ((q_th A.1 (xs (i + 1)) (xs (i + 2))).1, ((q_th A.1 (xs (i + 1)) (xs (i + 2))).2, A.2.1, A.2.2)) := ⟨_, rfl⟩
  have hK := HP_eq (h_thing l G s.heap.size hp x gA sA oA A (xs (i + 1)) (xs (i + 2)) f hT hC hW ho)
  rw [← hq] at hK
  refine ad_cZi S I (ad_ivS (As := [.ref x, .int (xs (i + 1)), .int (xs (i + 2)), .ref oA]) (rest := []) S Y_L_thing w_91 w_92 w_0 ⟨by decide, by decide, np_L_thing⟩ rfl d_law_185) hK Y_L_thing hl.1 ⟨Nat.le_of_ble_eq_true rfl, Nat.le_of_ble_eq_true rfl⟩ (by show _ ≤ 601024; omega) (by show _ ≤ 7293034; omega) d_law_185 (fun hp1 H1 locs1 hA I => ?_)
  obtain ⟨hC1, ⟨f1, ho1, hz1⟩, hF1⟩ := hA
  have hM1 := hM.keep ho hne hF1
  obtain ⟨_, hm1⟩ := hM1.self
  refine lv_istore (lv' := [(5, .int (nI q.1.1)), (0, .ref b), (1, .ref x), (2, .ref m0), (3, .ref oA), (4, .int (nI i))]) hx hb d_law_188 hl (by decide) rfl (fun ls hl => ?_)
  refine lv_aload_n hx hb d_law_190 rfl (lv_at hl 3 rfl) ?_
  refine lv_aload_n hx hb d_law_191 rfl (lv_at hl 1 rfl) ?_
  refine lv_iload hx hb d_law_192 (lv_at hl 5 rfl) ?_
  refine lv_iconst (v := 1) hx hb d_law_194 (by decide) ?_
  refine lv_iadd hx hb d_law_195 ?_
  refine ad_top (y := .int (nI (i + 1))) (congrArg Value.int (nI_add i 1)) ?_
  refine va_sld hx hb hX hbl hbA I.S (vp_in_nI (show (i + 1) < L by omega) (by omega)) d_law_196 ?_
  refine ad_top (y := .int (xs (i + 1))) (congrArg (fun q => Value.int (xs q)) (show (nI (i + 1)).toNatClampNeg = (i + 1) from nI_clamp (by omega))) ?_
  refine lv_aload_n hx hb d_law_197 rfl (lv_at hl 1 rfl) ?_
  refine lv_iload hx hb d_law_198 (lv_at hl 5 rfl) ?_
  refine lv_iconst (v := 2) hx hb d_law_200 (by decide) ?_
  refine lv_iadd hx hb d_law_201 ?_
  refine ad_top (y := .int (nI (i + 2))) (congrArg Value.int (nI_add i 2)) ?_
  refine va_sld hx hb hX hbl hbA I.S (vp_in_nI (show (i + 2) < L by omega) (by omega)) d_law_202 ?_
  refine ad_top (y := .int (xs (i + 2))) (congrArg (fun q => Value.int (xs q)) (show (nI (i + 2)).toNatClampNeg = (i + 2) from nI_clamp (by omega))) ?_
  have hK := MP_eq (r_thing l G s.heap.size hp1 m0 bs th A (xs (i + 1)) (xs (i + 2)) hM1 hW)
  rw [← hq] at hK
  refine ad_cZi S I (ad_ivV (As := [.int (xs (i + 1)), .int (xs (i + 2))]) (rest := []) S (ad_recv I hm1 K_Mod) w_602 w_603 w_604 Y_M_thing ⟨by decide, by decide, np_M_thing⟩ rfl d_law_203) hK Y_M_thing hl.1 ⟨Nat.le_of_ble_eq_true rfl, Nat.le_of_ble_eq_true rfl⟩ (by show _ ≤ 601024; omega) (by show _ ≤ 7293034; omega) d_law_203 (fun hp2 H1 locs1 hA I => ?_)
  obtain ⟨hM2, hF2⟩ := hA
  have hC2 := hC1.far (mf_far hM1 hne hF2) (ad_I.e I)
  have ho2 := mf_out hM1 ho1 hF2
  obtain ⟨_, hm2⟩ := hM2.self
  refine lv_istore (lv' := [(6, .int q.1.2), (5, .int (nI q.1.1)), (0, .ref b), (1, .ref x), (2, .ref m0), (3, .ref oA), (4, .int (nI i))]) hx hb d_law_206 hl (by decide) rfl (fun ls hl => ?_)
  refine lv_aload_n hx hb d_law_208 rfl (lv_at hl 4 rfl) ?_
  refine ad_cPi S I (ad_ivV (As := []) (rest := []) S (ad_recv I hm2 K_Mod) w_594 w_595 w_596 Y_M_thrown ⟨by decide, by decide, np_M_thrown⟩ rfl d_law_209) (r_thrown l G s.heap.size hp2 m0 bs (nI q.1.1) q.2 hM2) Y_M_thrown hl.1 ⟨Nat.le_of_ble_eq_true rfl, Nat.le_of_ble_eq_true rfl⟩ (by show _ ≤ 601024; omega) (by show _ ≤ 7293034; omega) d_law_209 ?_
  refine lv_iload hx hb d_law_212 (lv_at hl 1 rfl) ?_
  refine lv_icmp_eq (tgt := 219) hx hb d_law_214 (by decide) (fun _ => ?_) (fun cc => absurd rfl cc)
  refine lv_iload hx hb d_law_219 (lv_at hl 1 rfl) ?_
  refine lv_if_ne (tgt := 236) hx hb d_law_221 (by decide) (fun c0 => ?_) (fun c0 => ?_)
  · refine lv_goto (tgt := 1269) hx hb d_law_236 (by decide) ?_
    exact W.widen (k := cells + 128) (n := slots + 12800) (by omega) (by omega) (hk hp2 _ _ q.2 _ f1 I hC2 hM2 ho2 (by rw [hq]; exact hW.th (xs (i + 1)) (xs (i + 2))) ls (lv_sub hl [2, 3, 4, 5, 6] rfl))
  · have hn9 := n_thing A (xs (i + 1)) (xs (i + 2))
    rw [← hq] at hn9
    have hz2 := hz1 ((nI_eq (b := 0) (by omega) (by omega)).mp c0)
    refine lv_aload_n hx hb d_law_224 rfl (lv_at hl 5 rfl) ?_
    refine lv_iconst (v := 0) hx hb d_law_225 (by decide) ?_
    refine ad_lald S I ho2 (show vp_in 0 1 by unfold vp_in; decide) d_law_226 ?_
    refine ad_top (y := .long (f1 0)) rfl ?_
    refine lv_iload hx hb d_law_227 (lv_at hl 0 rfl) ?_
    refine lv_i2l (v := q.1.2.toInt64) hx hb d_law_229 rfl ?_
    refine W.lcmp hx hb d_law_230 ?_
    refine lv_if_eq (tgt := 236) hx hb d_law_231 (by decide) (fun _ => ?_) (fun cc => absurd (ad_lcEq.mpr hz2) cc)
    refine lv_goto (tgt := 1269) hx hb d_law_236 (by decide) ?_
    exact W.widen (k := cells + 128) (n := slots + 12800) (by omega) (by omega) (hk hp2 _ _ q.2 _ f1 I hC2 hM2 ho2 (by rw [hq]; exact hW.th (xs (i + 1)) (xs (i + 2))) ls (lv_sub hl [2, 3, 4, 5, 6] rfl))
set_option maxHeartbeats 4000000 in
set_option maxRecDepth 100000 in
theorem lw_c2 {p : Program} {e : Env} {s : State} {m : MethodId} {below : List Frame} {meth : Method} {c : Code} {Q : State → Prop} {l : Launch} {b L : Nat} {xs : Nat → Int32} {G : ad_G} {x gA sA m0 oA : Nat} {bs : Nat → Nat} {i : Nat} {hp : ad_H} {H : Heap} {locs : List Loc} {cells slots : Nat} {A : AST} {th : Int32} {f : Nat → Int64} {ls : Array Slot} (S : CallFix p m c code 7 s #[Value.ref b] ad_T "AuditDrawsLaw") (hT : l.stackTraces = false) (hX : va_X b L xs s s.heap) (hbl : b < s.heap.size) (hne : ∀ i, i < 11 → bs i ≠ gA ∧ bs i ≠ sA) (hi : i + 5 ≤ L) (hL : L ≤ 2560) (hcl : cells + 128 ≤ 601024) (hsl : slots + 12800 ≤ 7293034) (I : ad_I G s.heap.size s hp H locs) (hC : CRA G hp x gA sA A) (hM : MRA G hp m0 bs th A) (ho : hp oA = some (.inl (G.2.1 2, 1, .inr (.inl f)))) (hW : WF A) (hl : lv_has ls 7 [(0, .ref b), (1, .ref x), (2, .ref m0), (3, .ref oA), (4, .int (nI i))]) (hk : ∀ (hp' : ad_H) (H' : Heap) (locs' : List Loc) (A' : AST) (th' : Int32) (f' : Nat → Int64), ad_I G s.heap.size s hp' H' locs' → CRA G hp' x gA sA A' → MRA G hp' m0 bs th' A' → hp' oA = some (.inl (G.2.1 2, 1, .inr (.inl f'))) → WF A' → ∀ ls' : Array Slot, lv_has ls' 7 [(0, .ref b), (1, .ref x), (2, .ref m0), (3, .ref oA), (4, .int (nI i))] → W p l e room_1 s m #[Value.ref b] below meth c H' locs' (cells + 128) (slots + 12800) Q (F0 m 1269 ls' [])) : W p l e room_1 s m #[Value.ref b] below meth c H locs cells slots Q (F0 m 239 ls []) := by
  obtain ⟨hx, hb, hml, hown, hts⟩ := id S
  have hbA : ¬ (fun q => s.heap.size ≤ q) b := Nat.not_le.mpr hbl
  obtain ⟨_, hm9⟩ := hM.self
  obtain ⟨_, hx9⟩ := hC.self
  refine lv_aload_n hx hb d_law_239 rfl (lv_at hl 1 rfl) ?_
  refine lv_aload_n hx hb d_law_240 rfl (lv_at hl 0 rfl) ?_
  refine lv_iload hx hb d_law_241 (lv_at hl 4 rfl) ?_
  refine lv_iconst (v := 1) hx hb d_law_243 (by decide) ?_
  refine lv_iadd hx hb d_law_244 ?_
  refine ad_top (y := .int (nI (i + 1))) (congrArg Value.int (nI_add i 1)) ?_
  refine va_sld hx hb hX hbl hbA I.S (vp_in_nI (show (i + 1) < L by omega) (by omega)) d_law_245 ?_
  refine ad_top (y := .int (xs (i + 1))) (congrArg (fun q => Value.int (xs q)) (show (nI (i + 1)).toNatClampNeg = (i + 1) from nI_clamp (by omega))) ?_
  refine lv_aload_n hx hb d_law_246 rfl (lv_at hl 3 rfl) ?_
  obtain ⟨q, hq⟩ : ∃ q : (Nat × Int32) × AST, q = (q_ls A (xs (i + 1))) := ⟨_, rfl⟩
  have hK := HP_eq (h_list l G s.heap.size hp x gA sA oA A (xs (i + 1)) f hT hC hW ho)
  rw [← hq] at hK
  refine ad_cZi S I (ad_ivS (As := [.ref x, .int (xs (i + 1)), .ref oA]) (rest := []) S Y_L_list w_280 w_281 w_0 ⟨by decide, by decide, np_L_list⟩ rfl d_law_247) hK Y_L_list hl.1 ⟨Nat.le_of_ble_eq_true rfl, Nat.le_of_ble_eq_true rfl⟩ (by show _ ≤ 601024; omega) (by show _ ≤ 7293034; omega) d_law_247 (fun hp1 H1 locs1 hA I => ?_)
  obtain ⟨hC1, ⟨f1, ho1, hz1⟩, hF1⟩ := hA
  have hM1 := hM.keep ho hne hF1
  obtain ⟨_, hm1⟩ := hM1.self
  refine lv_istore (lv' := [(5, .int (nI q.1.1)), (0, .ref b), (1, .ref x), (2, .ref m0), (3, .ref oA), (4, .int (nI i))]) hx hb d_law_250 hl (by decide) rfl (fun ls hl => ?_)
  refine lv_aload_n hx hb d_law_252 rfl (lv_at hl 3 rfl) ?_
  refine lv_aload_n hx hb d_law_253 rfl (lv_at hl 1 rfl) ?_
  refine lv_iload hx hb d_law_254 (lv_at hl 5 rfl) ?_
  refine lv_iconst (v := 1) hx hb d_law_256 (by decide) ?_
  refine lv_iadd hx hb d_law_257 ?_
  refine ad_top (y := .int (nI (i + 1))) (congrArg Value.int (nI_add i 1)) ?_
  refine va_sld hx hb hX hbl hbA I.S (vp_in_nI (show (i + 1) < L by omega) (by omega)) d_law_258 ?_
  refine ad_top (y := .int (xs (i + 1))) (congrArg (fun q => Value.int (xs q)) (show (nI (i + 1)).toNatClampNeg = (i + 1) from nI_clamp (by omega))) ?_
  have hK := MP_eq (r_list l G s.heap.size hp1 m0 bs th A (xs (i + 1)) hM1 hW)
  rw [← hq] at hK
  refine ad_cZi S I (ad_ivV (As := [.int (xs (i + 1))]) (rest := []) S (ad_recv I hm1 K_Mod) w_615 w_616 w_617 Y_M_list ⟨by decide, by decide, np_M_list⟩ rfl d_law_259) hK Y_M_list hl.1 ⟨Nat.le_of_ble_eq_true rfl, Nat.le_of_ble_eq_true rfl⟩ (by show _ ≤ 601024; omega) (by show _ ≤ 7293034; omega) d_law_259 (fun hp2 H1 locs1 hA I => ?_)
  obtain ⟨hM2, hF2⟩ := hA
  have hC2 := hC1.far (mf_far hM1 hne hF2) (ad_I.e I)
  have ho2 := mf_out hM1 ho1 hF2
  obtain ⟨_, hm2⟩ := hM2.self
  refine lv_istore (lv' := [(6, .int q.1.2), (5, .int (nI q.1.1)), (0, .ref b), (1, .ref x), (2, .ref m0), (3, .ref oA), (4, .int (nI i))]) hx hb d_law_262 hl (by decide) rfl (fun ls hl => ?_)
  refine lv_aload_n hx hb d_law_264 rfl (lv_at hl 4 rfl) ?_
  refine ad_cPi S I (ad_ivV (As := []) (rest := []) S (ad_recv I hm2 K_Mod) w_594 w_595 w_596 Y_M_thrown ⟨by decide, by decide, np_M_thrown⟩ rfl d_law_265) (r_thrown l G s.heap.size hp2 m0 bs (nI q.1.1) q.2 hM2) Y_M_thrown hl.1 ⟨Nat.le_of_ble_eq_true rfl, Nat.le_of_ble_eq_true rfl⟩ (by show _ ≤ 601024; omega) (by show _ ≤ 7293034; omega) d_law_265 ?_
  refine lv_iload hx hb d_law_268 (lv_at hl 1 rfl) ?_
  refine lv_icmp_eq (tgt := 275) hx hb d_law_270 (by decide) (fun _ => ?_) (fun cc => absurd rfl cc)
  refine lv_iload hx hb d_law_275 (lv_at hl 1 rfl) ?_
  refine lv_if_ne (tgt := 292) hx hb d_law_277 (by decide) (fun c0 => ?_) (fun c0 => ?_)
  · refine lv_goto (tgt := 1269) hx hb d_law_292 (by decide) ?_
    exact W.widen (k := cells + 128) (n := slots + 12800) (by omega) (by omega) (hk hp2 _ _ q.2 _ f1 I hC2 hM2 ho2 (by rw [hq]; exact hW.ls (xs (i + 1))) ls (lv_sub hl [2, 3, 4, 5, 6] rfl))
  · have hn9 := n_list A (xs (i + 1))
    rw [← hq] at hn9
    have hz2 := hz1 ((nI_eq (b := 0) (by omega) (by omega)).mp c0)
    refine lv_aload_n hx hb d_law_280 rfl (lv_at hl 5 rfl) ?_
    refine lv_iconst (v := 0) hx hb d_law_281 (by decide) ?_
    refine ad_lald S I ho2 (show vp_in 0 1 by unfold vp_in; decide) d_law_282 ?_
    refine ad_top (y := .long (f1 0)) rfl ?_
    refine lv_iload hx hb d_law_283 (lv_at hl 0 rfl) ?_
    refine lv_i2l (v := q.1.2.toInt64) hx hb d_law_285 rfl ?_
    refine W.lcmp hx hb d_law_286 ?_
    refine lv_if_eq (tgt := 292) hx hb d_law_287 (by decide) (fun _ => ?_) (fun cc => absurd (ad_lcEq.mpr hz2) cc)
    refine lv_goto (tgt := 1269) hx hb d_law_292 (by decide) ?_
    exact W.widen (k := cells + 128) (n := slots + 12800) (by omega) (by omega) (hk hp2 _ _ q.2 _ f1 I hC2 hM2 ho2 (by rw [hq]; exact hW.ls (xs (i + 1))) ls (lv_sub hl [2, 3, 4, 5, 6] rfl))
set_option maxHeartbeats 4000000 in
set_option maxRecDepth 100000 in
theorem lw_c3 {p : Program} {e : Env} {s : State} {m : MethodId} {below : List Frame} {meth : Method} {c : Code} {Q : State → Prop} {l : Launch} {b L : Nat} {xs : Nat → Int32} {G : ad_G} {x gA sA m0 oA : Nat} {bs : Nat → Nat} {i : Nat} {hp : ad_H} {H : Heap} {locs : List Loc} {cells slots : Nat} {A : AST} {th : Int32} {f : Nat → Int64} {ls : Array Slot} (S : CallFix p m c code 7 s #[Value.ref b] ad_T "AuditDrawsLaw") (hT : l.stackTraces = false) (hX : va_X b L xs s s.heap) (hbl : b < s.heap.size) (hne : ∀ i, i < 11 → bs i ≠ gA ∧ bs i ≠ sA) (hi : i + 5 ≤ L) (hL : L ≤ 2560) (hcl : cells + 128 ≤ 601024) (hsl : slots + 12800 ≤ 7293034) (I : ad_I G s.heap.size s hp H locs) (hC : CRA G hp x gA sA A) (hM : MRA G hp m0 bs th A) (ho : hp oA = some (.inl (G.2.1 2, 1, .inr (.inl f)))) (hW : WF A) (hl : lv_has ls 7 [(0, .ref b), (1, .ref x), (2, .ref m0), (3, .ref oA), (4, .int (nI i))]) (hk : ∀ (hp' : ad_H) (H' : Heap) (locs' : List Loc) (A' : AST) (th' : Int32) (f' : Nat → Int64), ad_I G s.heap.size s hp' H' locs' → CRA G hp' x gA sA A' → MRA G hp' m0 bs th' A' → hp' oA = some (.inl (G.2.1 2, 1, .inr (.inl f'))) → WF A' → ∀ ls' : Array Slot, lv_has ls' 7 [(0, .ref b), (1, .ref x), (2, .ref m0), (3, .ref oA), (4, .int (nI i))] → W p l e room_1 s m #[Value.ref b] below meth c H' locs' (cells + 128) (slots + 12800) Q (F0 m 1269 ls' [])) : W p l e room_1 s m #[Value.ref b] below meth c H locs cells slots Q (F0 m 295 ls []) := by
  obtain ⟨hx, hb, hml, hown, hts⟩ := id S
  have hbA : ¬ (fun q => s.heap.size ≤ q) b := Nat.not_le.mpr hbl
  obtain ⟨_, hm9⟩ := hM.self
  obtain ⟨_, hx9⟩ := hC.self
  refine lv_aload_n hx hb d_law_295 rfl (lv_at hl 1 rfl) ?_
  refine lv_aload_n hx hb d_law_296 rfl (lv_at hl 0 rfl) ?_
  refine lv_iload hx hb d_law_297 (lv_at hl 4 rfl) ?_
  refine lv_iconst (v := 1) hx hb d_law_299 (by decide) ?_
  refine lv_iadd hx hb d_law_300 ?_
  refine ad_top (y := .int (nI (i + 1))) (congrArg Value.int (nI_add i 1)) ?_
  refine va_sld hx hb hX hbl hbA I.S (vp_in_nI (show (i + 1) < L by omega) (by omega)) d_law_301 ?_
  refine ad_top (y := .int (xs (i + 1))) (congrArg (fun q => Value.int (xs q)) (show (nI (i + 1)).toNatClampNeg = (i + 1) from nI_clamp (by omega))) ?_
  refine lv_aload_n hx hb d_law_302 rfl (lv_at hl 3 rfl) ?_
  obtain ⟨q, hq⟩ : ∃ q : (Nat × Int32) × AST, q = (q_dw A.2.1 (xs (i + 1)), A) := ⟨_, rfl⟩
  have hK := HP_eq (h_drawn l G s.heap.size hp x gA sA oA A (xs (i + 1)) f hT hC hW ho)
  rw [← hq] at hK
  refine ad_cZi S I (ad_ivS (As := [.ref x, .int (xs (i + 1)), .ref oA]) (rest := []) S Y_L_drawn w_360 w_361 w_0 ⟨by decide, by decide, np_L_drawn⟩ rfl d_law_303) hK Y_L_drawn hl.1 ⟨Nat.le_of_ble_eq_true rfl, Nat.le_of_ble_eq_true rfl⟩ (by show _ ≤ 601024; omega) (by show _ ≤ 7293034; omega) d_law_303 (fun hp1 H1 locs1 hA I => ?_)
  obtain ⟨hC1, ⟨f1, ho1, hz1⟩, hF1⟩ := hA
  have hM1 := hM.keep ho hne hF1
  obtain ⟨_, hm1⟩ := hM1.self
  refine lv_istore (lv' := [(5, .int (nI q.1.1)), (0, .ref b), (1, .ref x), (2, .ref m0), (3, .ref oA), (4, .int (nI i))]) hx hb d_law_306 hl (by decide) rfl (fun ls hl => ?_)
  refine lv_aload_n hx hb d_law_308 rfl (lv_at hl 3 rfl) ?_
  refine lv_aload_n hx hb d_law_309 rfl (lv_at hl 1 rfl) ?_
  refine lv_iload hx hb d_law_310 (lv_at hl 5 rfl) ?_
  refine lv_iconst (v := 1) hx hb d_law_312 (by decide) ?_
  refine lv_iadd hx hb d_law_313 ?_
  refine ad_top (y := .int (nI (i + 1))) (congrArg Value.int (nI_add i 1)) ?_
  refine va_sld hx hb hX hbl hbA I.S (vp_in_nI (show (i + 1) < L by omega) (by omega)) d_law_314 ?_
  refine ad_top (y := .int (xs (i + 1))) (congrArg (fun q => Value.int (xs q)) (show (nI (i + 1)).toNatClampNeg = (i + 1) from nI_clamp (by omega))) ?_
  have hK := MP_eq (r_drawn l G s.heap.size hp1 m0 bs th A (xs (i + 1)) hM1 hW)
  rw [← hq] at hK
  refine ad_cZi S I (ad_ivV (As := [.int (xs (i + 1))]) (rest := []) S (ad_recv I hm1 K_Mod) w_641 w_642 w_643 Y_M_drawn ⟨by decide, by decide, np_M_drawn⟩ rfl d_law_315) hK Y_M_drawn hl.1 ⟨Nat.le_of_ble_eq_true rfl, Nat.le_of_ble_eq_true rfl⟩ (by show _ ≤ 601024; omega) (by show _ ≤ 7293034; omega) d_law_315 (fun hp2 H1 locs1 hA I => ?_)
  obtain ⟨hM2, hF2⟩ := hA
  have hC2 := hC1.far (mf_far hM1 hne hF2) (ad_I.e I)
  have ho2 := mf_out hM1 ho1 hF2
  obtain ⟨_, hm2⟩ := hM2.self
  refine lv_istore (lv' := [(6, .int q.1.2), (5, .int (nI q.1.1)), (0, .ref b), (1, .ref x), (2, .ref m0), (3, .ref oA), (4, .int (nI i))]) hx hb d_law_318 hl (by decide) rfl (fun ls hl => ?_)
  refine lv_aload_n hx hb d_law_320 rfl (lv_at hl 4 rfl) ?_
  refine ad_cPi S I (ad_ivV (As := []) (rest := []) S (ad_recv I hm2 K_Mod) w_594 w_595 w_596 Y_M_thrown ⟨by decide, by decide, np_M_thrown⟩ rfl d_law_321) (r_thrown l G s.heap.size hp2 m0 bs (nI q.1.1) q.2 hM2) Y_M_thrown hl.1 ⟨Nat.le_of_ble_eq_true rfl, Nat.le_of_ble_eq_true rfl⟩ (by show _ ≤ 601024; omega) (by show _ ≤ 7293034; omega) d_law_321 ?_
  refine lv_iload hx hb d_law_324 (lv_at hl 1 rfl) ?_
  refine lv_icmp_eq (tgt := 331) hx hb d_law_326 (by decide) (fun _ => ?_) (fun cc => absurd rfl cc)
  refine lv_iload hx hb d_law_331 (lv_at hl 1 rfl) ?_
  refine lv_if_ne (tgt := 348) hx hb d_law_333 (by decide) (fun c0 => ?_) (fun c0 => ?_)
  · refine lv_goto (tgt := 1269) hx hb d_law_348 (by decide) ?_
    exact W.widen (k := cells + 128) (n := slots + 12800) (by omega) (by omega) (hk hp2 _ _ q.2 _ f1 I hC2 hM2 ho2 (by rw [hq]; exact hW) ls (lv_sub hl [2, 3, 4, 5, 6] rfl))
  · have hn9 := n_drawn A (xs (i + 1))
    rw [← hq] at hn9
    have hz2 := hz1 ((nI_eq (b := 0) (by omega) (by omega)).mp c0)
    refine lv_aload_n hx hb d_law_336 rfl (lv_at hl 5 rfl) ?_
    refine lv_iconst (v := 0) hx hb d_law_337 (by decide) ?_
    refine ad_lald S I ho2 (show vp_in 0 1 by unfold vp_in; decide) d_law_338 ?_
    refine ad_top (y := .long (f1 0)) rfl ?_
    refine lv_iload hx hb d_law_339 (lv_at hl 0 rfl) ?_
    refine lv_i2l (v := q.1.2.toInt64) hx hb d_law_341 rfl ?_
    refine W.lcmp hx hb d_law_342 ?_
    refine lv_if_eq (tgt := 348) hx hb d_law_343 (by decide) (fun _ => ?_) (fun cc => absurd (ad_lcEq.mpr hz2) cc)
    refine lv_goto (tgt := 1269) hx hb d_law_348 (by decide) ?_
    exact W.widen (k := cells + 128) (n := slots + 12800) (by omega) (by omega) (hk hp2 _ _ q.2 _ f1 I hC2 hM2 ho2 (by rw [hq]; exact hW) ls (lv_sub hl [2, 3, 4, 5, 6] rfl))
set_option maxHeartbeats 4000000 in
set_option maxRecDepth 100000 in
theorem lw_c4 {p : Program} {e : Env} {s : State} {m : MethodId} {below : List Frame} {meth : Method} {c : Code} {Q : State → Prop} {l : Launch} {b L : Nat} {xs : Nat → Int32} {G : ad_G} {x gA sA m0 oA : Nat} {bs : Nat → Nat} {i : Nat} {hp : ad_H} {H : Heap} {locs : List Loc} {cells slots : Nat} {A : AST} {th : Int32} {f : Nat → Int64} {ls : Array Slot} (S : CallFix p m c code 7 s #[Value.ref b] ad_T "AuditDrawsLaw") (hT : l.stackTraces = false) (hX : va_X b L xs s s.heap) (hbl : b < s.heap.size) (hne : ∀ i, i < 11 → bs i ≠ gA ∧ bs i ≠ sA) (hi : i + 5 ≤ L) (hL : L ≤ 2560) (hcl : cells + 128 ≤ 601024) (hsl : slots + 12800 ≤ 7293034) (I : ad_I G s.heap.size s hp H locs) (hC : CRA G hp x gA sA A) (hM : MRA G hp m0 bs th A) (ho : hp oA = some (.inl (G.2.1 2, 1, .inr (.inl f)))) (hW : WF A) (hl : lv_has ls 7 [(0, .ref b), (1, .ref x), (2, .ref m0), (3, .ref oA), (4, .int (nI i))]) (hk : ∀ (hp' : ad_H) (H' : Heap) (locs' : List Loc) (A' : AST) (th' : Int32) (f' : Nat → Int64), ad_I G s.heap.size s hp' H' locs' → CRA G hp' x gA sA A' → MRA G hp' m0 bs th' A' → hp' oA = some (.inl (G.2.1 2, 1, .inr (.inl f'))) → WF A' → ∀ ls' : Array Slot, lv_has ls' 7 [(0, .ref b), (1, .ref x), (2, .ref m0), (3, .ref oA), (4, .int (nI i))] → W p l e room_1 s m #[Value.ref b] below meth c H' locs' (cells + 128) (slots + 12800) Q (F0 m 1269 ls' [])) : W p l e room_1 s m #[Value.ref b] below meth c H locs cells slots Q (F0 m 351 ls []) := by
  obtain ⟨hx, hb, hml, hown, hts⟩ := id S
  have hbA : ¬ (fun q => s.heap.size ≤ q) b := Nat.not_le.mpr hbl
  obtain ⟨_, hm9⟩ := hM.self
  obtain ⟨_, hx9⟩ := hC.self
  refine lv_aload_n hx hb d_law_351 rfl (lv_at hl 1 rfl) ?_
  refine lv_aload_n hx hb d_law_352 rfl (lv_at hl 0 rfl) ?_
  refine lv_iload hx hb d_law_353 (lv_at hl 4 rfl) ?_
  refine lv_iconst (v := 1) hx hb d_law_355 (by decide) ?_
  refine lv_iadd hx hb d_law_356 ?_
  refine ad_top (y := .int (nI (i + 1))) (congrArg Value.int (nI_add i 1)) ?_
  refine va_sld hx hb hX hbl hbA I.S (vp_in_nI (show (i + 1) < L by omega) (by omega)) d_law_357 ?_
  refine ad_top (y := .int (xs (i + 1))) (congrArg (fun q => Value.int (xs q)) (show (nI (i + 1)).toNatClampNeg = (i + 1) from nI_clamp (by omega))) ?_
  refine lv_aload_n hx hb d_law_358 rfl (lv_at hl 0 rfl) ?_
  refine lv_iload hx hb d_law_359 (lv_at hl 4 rfl) ?_
  refine lv_iconst (v := 2) hx hb d_law_361 (by decide) ?_
  refine lv_iadd hx hb d_law_362 ?_
  refine ad_top (y := .int (nI (i + 2))) (congrArg Value.int (nI_add i 2)) ?_
  refine va_sld hx hb hX hbl hbA I.S (vp_in_nI (show (i + 2) < L by omega) (by omega)) d_law_363 ?_
  refine ad_top (y := .int (xs (i + 2))) (congrArg (fun q => Value.int (xs q)) (show (nI (i + 2)).toNatClampNeg = (i + 2) from nI_clamp (by omega))) ?_
  refine lv_aload_n hx hb d_law_364 rfl (lv_at hl 0 rfl) ?_
  refine lv_iload hx hb d_law_365 (lv_at hl 4 rfl) ?_
  refine lv_iconst (v := 3) hx hb d_law_367 (by decide) ?_
  refine lv_iadd hx hb d_law_368 ?_
  refine ad_top (y := .int (nI (i + 3))) (congrArg Value.int (nI_add i 3)) ?_
  refine va_sld hx hb hX hbl hbA I.S (vp_in_nI (show (i + 3) < L by omega) (by omega)) d_law_369 ?_
  refine ad_top (y := .int (xs (i + 3))) (congrArg (fun q => Value.int (xs q)) (show (nI (i + 3)).toNatClampNeg = (i + 3) from nI_clamp (by omega))) ?_
  refine lv_aload_n hx hb d_law_370 rfl (lv_at hl 0 rfl) ?_
  refine lv_iload hx hb d_law_371 (lv_at hl 4 rfl) ?_
  refine lv_iconst (v := 4) hx hb d_law_373 (by decide) ?_
  refine lv_iadd hx hb d_law_374 ?_
  refine ad_top (y := .int (nI (i + 4))) (congrArg Value.int (nI_add i 4)) ?_
  refine va_sld hx hb hX hbl hbA I.S (vp_in_nI (show (i + 4) < L by omega) (by omega)) d_law_375 ?_
  refine ad_top (y := .int (xs (i + 4))) (congrArg (fun q => Value.int (xs q)) (show (nI (i + 4)).toNatClampNeg = (i + 4) from nI_clamp (by omega))) ?_
  refine lv_aload_n hx hb d_law_376 rfl (lv_at hl 3 rfl) ?_
  obtain ⟨q, hq⟩ : ∃ q : (Nat × Int32) × AST, q = ((q_ck A.1 (xs (i + 1)) (xs (i + 2)) (xs (i + 3)) (xs (i + 4))).1, ((q_ck A.1 (xs (i + 1)) (xs (i + 2)) (xs (i + 3)) (xs (i + 4))).2, A.2.1, A.2.2)) := ⟨_, rfl⟩
  have hK := HP_eq (h_check l G s.heap.size hp x gA sA oA A (xs (i + 1)) (xs (i + 2)) (xs (i + 3)) (xs (i + 4)) f hT hC hW ho)
  rw [← hq] at hK
  refine ad_cZi S I (ad_ivS (As := [.ref x, .int (xs (i + 1)), .int (xs (i + 2)), .int (xs (i + 3)), .int (xs (i + 4)), .ref oA]) (rest := []) S Y_L_check w_367 w_368 w_0 ⟨by decide, by decide, np_L_check⟩ rfl d_law_377) hK Y_L_check hl.1 ⟨Nat.le_of_ble_eq_true rfl, Nat.le_of_ble_eq_true rfl⟩ (by show _ ≤ 601024; omega) (by show _ ≤ 7293034; omega) d_law_377 (fun hp1 H1 locs1 hA I => ?_)
  obtain ⟨hC1, ⟨f1, ho1, hz1⟩, hF1⟩ := hA
  have hM1 := hM.keep ho hne hF1
  obtain ⟨_, hm1⟩ := hM1.self
  refine lv_istore (lv' := [(5, .int (nI q.1.1)), (0, .ref b), (1, .ref x), (2, .ref m0), (3, .ref oA), (4, .int (nI i))]) hx hb d_law_380 hl (by decide) rfl (fun ls hl => ?_)
  refine lv_aload_n hx hb d_law_382 rfl (lv_at hl 3 rfl) ?_
  refine lv_aload_n hx hb d_law_383 rfl (lv_at hl 1 rfl) ?_
  refine lv_iload hx hb d_law_384 (lv_at hl 5 rfl) ?_
  refine lv_iconst (v := 1) hx hb d_law_386 (by decide) ?_
  refine lv_iadd hx hb d_law_387 ?_
  refine ad_top (y := .int (nI (i + 1))) (congrArg Value.int (nI_add i 1)) ?_
  refine va_sld hx hb hX hbl hbA I.S (vp_in_nI (show (i + 1) < L by omega) (by omega)) d_law_388 ?_
  refine ad_top (y := .int (xs (i + 1))) (congrArg (fun q => Value.int (xs q)) (show (nI (i + 1)).toNatClampNeg = (i + 1) from nI_clamp (by omega))) ?_
  refine lv_aload_n hx hb d_law_389 rfl (lv_at hl 1 rfl) ?_
  refine lv_iload hx hb d_law_390 (lv_at hl 5 rfl) ?_
  refine lv_iconst (v := 2) hx hb d_law_392 (by decide) ?_
  refine lv_iadd hx hb d_law_393 ?_
  refine ad_top (y := .int (nI (i + 2))) (congrArg Value.int (nI_add i 2)) ?_
  refine va_sld hx hb hX hbl hbA I.S (vp_in_nI (show (i + 2) < L by omega) (by omega)) d_law_394 ?_
  refine ad_top (y := .int (xs (i + 2))) (congrArg (fun q => Value.int (xs q)) (show (nI (i + 2)).toNatClampNeg = (i + 2) from nI_clamp (by omega))) ?_
  refine lv_aload_n hx hb d_law_395 rfl (lv_at hl 1 rfl) ?_
  refine lv_iload hx hb d_law_396 (lv_at hl 5 rfl) ?_
  refine lv_iconst (v := 3) hx hb d_law_398 (by decide) ?_
  refine lv_iadd hx hb d_law_399 ?_
  refine ad_top (y := .int (nI (i + 3))) (congrArg Value.int (nI_add i 3)) ?_
  refine va_sld hx hb hX hbl hbA I.S (vp_in_nI (show (i + 3) < L by omega) (by omega)) d_law_400 ?_
  refine ad_top (y := .int (xs (i + 3))) (congrArg (fun q => Value.int (xs q)) (show (nI (i + 3)).toNatClampNeg = (i + 3) from nI_clamp (by omega))) ?_
  refine lv_aload_n hx hb d_law_401 rfl (lv_at hl 1 rfl) ?_
  refine lv_iload hx hb d_law_402 (lv_at hl 5 rfl) ?_
  refine lv_iconst (v := 4) hx hb d_law_404 (by decide) ?_
  refine lv_iadd hx hb d_law_405 ?_
  refine ad_top (y := .int (nI (i + 4))) (congrArg Value.int (nI_add i 4)) ?_
  refine va_sld hx hb hX hbl hbA I.S (vp_in_nI (show (i + 4) < L by omega) (by omega)) d_law_406 ?_
  refine ad_top (y := .int (xs (i + 4))) (congrArg (fun q => Value.int (xs q)) (show (nI (i + 4)).toNatClampNeg = (i + 4) from nI_clamp (by omega))) ?_
  have hK := MP_eq (r_check l G s.heap.size hp1 m0 bs th A (xs (i + 1)) (xs (i + 2)) (xs (i + 3)) (xs (i + 4)) hM1 hW)
  rw [← hq] at hK
  refine ad_cZi S I (ad_ivV (As := [.int (xs (i + 1)), .int (xs (i + 2)), .int (xs (i + 3)), .int (xs (i + 4))]) (rest := []) S (ad_recv I hm1 K_Mod) w_645 w_646 w_647 Y_M_check ⟨by decide, by decide, np_M_check⟩ rfl d_law_407) hK Y_M_check hl.1 ⟨Nat.le_of_ble_eq_true rfl, Nat.le_of_ble_eq_true rfl⟩ (by show _ ≤ 601024; omega) (by show _ ≤ 7293034; omega) d_law_407 (fun hp2 H1 locs1 hA I => ?_)
  obtain ⟨hM2, hF2⟩ := hA
  have hC2 := hC1.far (mf_far hM1 hne hF2) (ad_I.e I)
  have ho2 := mf_out hM1 ho1 hF2
  obtain ⟨_, hm2⟩ := hM2.self
  refine lv_istore (lv' := [(6, .int q.1.2), (5, .int (nI q.1.1)), (0, .ref b), (1, .ref x), (2, .ref m0), (3, .ref oA), (4, .int (nI i))]) hx hb d_law_410 hl (by decide) rfl (fun ls hl => ?_)
  refine lv_aload_n hx hb d_law_412 rfl (lv_at hl 4 rfl) ?_
  refine ad_cPi S I (ad_ivV (As := []) (rest := []) S (ad_recv I hm2 K_Mod) w_594 w_595 w_596 Y_M_thrown ⟨by decide, by decide, np_M_thrown⟩ rfl d_law_413) (r_thrown l G s.heap.size hp2 m0 bs (nI q.1.1) q.2 hM2) Y_M_thrown hl.1 ⟨Nat.le_of_ble_eq_true rfl, Nat.le_of_ble_eq_true rfl⟩ (by show _ ≤ 601024; omega) (by show _ ≤ 7293034; omega) d_law_413 ?_
  refine lv_iload hx hb d_law_416 (lv_at hl 1 rfl) ?_
  refine lv_icmp_eq (tgt := 423) hx hb d_law_418 (by decide) (fun _ => ?_) (fun cc => absurd rfl cc)
  refine lv_iload hx hb d_law_423 (lv_at hl 1 rfl) ?_
  refine lv_if_ne (tgt := 440) hx hb d_law_425 (by decide) (fun c0 => ?_) (fun c0 => ?_)
  · refine lv_goto (tgt := 1269) hx hb d_law_440 (by decide) ?_
    exact W.widen (k := cells + 128) (n := slots + 12800) (by omega) (by omega) (hk hp2 _ _ q.2 _ f1 I hC2 hM2 ho2 (by rw [hq]; exact hW.ck (xs (i + 1)) (xs (i + 2)) (xs (i + 3)) (xs (i + 4))) ls (lv_sub hl [2, 3, 4, 5, 6] rfl))
  · have hn9 := n_check A (xs (i + 1)) (xs (i + 2)) (xs (i + 3)) (xs (i + 4))
    rw [← hq] at hn9
    have hz2 := hz1 ((nI_eq (b := 0) (by omega) (by omega)).mp c0)
    refine lv_aload_n hx hb d_law_428 rfl (lv_at hl 5 rfl) ?_
    refine lv_iconst (v := 0) hx hb d_law_429 (by decide) ?_
    refine ad_lald S I ho2 (show vp_in 0 1 by unfold vp_in; decide) d_law_430 ?_
    refine ad_top (y := .long (f1 0)) rfl ?_
    refine lv_iload hx hb d_law_431 (lv_at hl 0 rfl) ?_
    refine lv_i2l (v := q.1.2.toInt64) hx hb d_law_433 rfl ?_
    refine W.lcmp hx hb d_law_434 ?_
    refine lv_if_eq (tgt := 440) hx hb d_law_435 (by decide) (fun _ => ?_) (fun cc => absurd (ad_lcEq.mpr hz2) cc)
    refine lv_goto (tgt := 1269) hx hb d_law_440 (by decide) ?_
    exact W.widen (k := cells + 128) (n := slots + 12800) (by omega) (by omega) (hk hp2 _ _ q.2 _ f1 I hC2 hM2 ho2 (by rw [hq]; exact hW.ck (xs (i + 1)) (xs (i + 2)) (xs (i + 3)) (xs (i + 4))) ls (lv_sub hl [2, 3, 4, 5, 6] rfl))
set_option maxHeartbeats 4000000 in
set_option maxRecDepth 100000 in
theorem lw_c5 {p : Program} {e : Env} {s : State} {m : MethodId} {below : List Frame} {meth : Method} {c : Code} {Q : State → Prop} {l : Launch} {b L : Nat} {xs : Nat → Int32} {G : ad_G} {x gA sA m0 oA : Nat} {bs : Nat → Nat} {i : Nat} {hp : ad_H} {H : Heap} {locs : List Loc} {cells slots : Nat} {A : AST} {th : Int32} {f : Nat → Int64} {ls : Array Slot} (S : CallFix p m c code 7 s #[Value.ref b] ad_T "AuditDrawsLaw") (hT : l.stackTraces = false) (hX : va_X b L xs s s.heap) (hbl : b < s.heap.size) (hne : ∀ i, i < 11 → bs i ≠ gA ∧ bs i ≠ sA) (hi : i + 5 ≤ L) (hL : L ≤ 2560) (hcl : cells + 128 ≤ 601024) (hsl : slots + 12800 ≤ 7293034) (I : ad_I G s.heap.size s hp H locs) (hC : CRA G hp x gA sA A) (hM : MRA G hp m0 bs th A) (ho : hp oA = some (.inl (G.2.1 2, 1, .inr (.inl f)))) (hW : WF A) (hl : lv_has ls 7 [(0, .ref b), (1, .ref x), (2, .ref m0), (3, .ref oA), (4, .int (nI i))]) (hk : ∀ (hp' : ad_H) (H' : Heap) (locs' : List Loc) (A' : AST) (th' : Int32) (f' : Nat → Int64), ad_I G s.heap.size s hp' H' locs' → CRA G hp' x gA sA A' → MRA G hp' m0 bs th' A' → hp' oA = some (.inl (G.2.1 2, 1, .inr (.inl f'))) → WF A' → ∀ ls' : Array Slot, lv_has ls' 7 [(0, .ref b), (1, .ref x), (2, .ref m0), (3, .ref oA), (4, .int (nI i))] → W p l e room_1 s m #[Value.ref b] below meth c H' locs' (cells + 128) (slots + 12800) Q (F0 m 1269 ls' [])) : W p l e room_1 s m #[Value.ref b] below meth c H locs cells slots Q (F0 m 443 ls []) := by
  obtain ⟨hx, hb, hml, hown, hts⟩ := id S
  have hbA : ¬ (fun q => s.heap.size ≤ q) b := Nat.not_le.mpr hbl
  obtain ⟨_, hm9⟩ := hM.self
  obtain ⟨_, hx9⟩ := hC.self
  refine lv_aload_n hx hb d_law_443 rfl (lv_at hl 1 rfl) ?_
  refine lv_aload_n hx hb d_law_444 rfl (lv_at hl 0 rfl) ?_
  refine lv_iload hx hb d_law_445 (lv_at hl 4 rfl) ?_
  refine lv_iconst (v := 1) hx hb d_law_447 (by decide) ?_
  refine lv_iadd hx hb d_law_448 ?_
  refine ad_top (y := .int (nI (i + 1))) (congrArg Value.int (nI_add i 1)) ?_
  refine va_sld hx hb hX hbl hbA I.S (vp_in_nI (show (i + 1) < L by omega) (by omega)) d_law_449 ?_
  refine ad_top (y := .int (xs (i + 1))) (congrArg (fun q => Value.int (xs q)) (show (nI (i + 1)).toNatClampNeg = (i + 1) from nI_clamp (by omega))) ?_
  refine lv_aload_n hx hb d_law_450 rfl (lv_at hl 3 rfl) ?_
  obtain ⟨q, hq⟩ : ∃ q : (Nat × Int32) × AST, q = ((q_gn A.1 (xs (i + 1))).1, ((q_gn A.1 (xs (i + 1))).2, A.2.1, A.2.2)) := ⟨_, rfl⟩
  have hK := HP_eq (h_gone l G s.heap.size hp x gA sA oA A (xs (i + 1)) f hT hC hW ho)
  rw [← hq] at hK
  refine ad_cZi S I (ad_ivS (As := [.ref x, .int (xs (i + 1)), .ref oA]) (rest := []) S Y_L_gone w_382 w_383 w_0 ⟨by decide, by decide, np_L_gone⟩ rfl d_law_451) hK Y_L_gone hl.1 ⟨Nat.le_of_ble_eq_true rfl, Nat.le_of_ble_eq_true rfl⟩ (by show _ ≤ 601024; omega) (by show _ ≤ 7293034; omega) d_law_451 (fun hp1 H1 locs1 hA I => ?_)
  obtain ⟨hC1, ⟨f1, ho1, hz1⟩, hF1⟩ := hA
  have hM1 := hM.keep ho hne hF1
  obtain ⟨_, hm1⟩ := hM1.self
  refine lv_istore (lv' := [(5, .int (nI q.1.1)), (0, .ref b), (1, .ref x), (2, .ref m0), (3, .ref oA), (4, .int (nI i))]) hx hb d_law_454 hl (by decide) rfl (fun ls hl => ?_)
  refine lv_aload_n hx hb d_law_456 rfl (lv_at hl 3 rfl) ?_
  refine lv_aload_n hx hb d_law_457 rfl (lv_at hl 1 rfl) ?_
  refine lv_iload hx hb d_law_458 (lv_at hl 5 rfl) ?_
  refine lv_iconst (v := 1) hx hb d_law_460 (by decide) ?_
  refine lv_iadd hx hb d_law_461 ?_
  refine ad_top (y := .int (nI (i + 1))) (congrArg Value.int (nI_add i 1)) ?_
  refine va_sld hx hb hX hbl hbA I.S (vp_in_nI (show (i + 1) < L by omega) (by omega)) d_law_462 ?_
  refine ad_top (y := .int (xs (i + 1))) (congrArg (fun q => Value.int (xs q)) (show (nI (i + 1)).toNatClampNeg = (i + 1) from nI_clamp (by omega))) ?_
  have hK := MP_eq (r_gone l G s.heap.size hp1 m0 bs th A (xs (i + 1)) hM1 hW)
  rw [← hq] at hK
  refine ad_cZi S I (ad_ivV (As := [.int (xs (i + 1))]) (rest := []) S (ad_recv I hm1 K_Mod) w_654 w_655 w_656 Y_M_gone ⟨by decide, by decide, np_M_gone⟩ rfl d_law_463) hK Y_M_gone hl.1 ⟨Nat.le_of_ble_eq_true rfl, Nat.le_of_ble_eq_true rfl⟩ (by show _ ≤ 601024; omega) (by show _ ≤ 7293034; omega) d_law_463 (fun hp2 H1 locs1 hA I => ?_)
  obtain ⟨hM2, hF2⟩ := hA
  have hC2 := hC1.far (mf_far hM1 hne hF2) (ad_I.e I)
  have ho2 := mf_out hM1 ho1 hF2
  obtain ⟨_, hm2⟩ := hM2.self
  refine lv_istore (lv' := [(6, .int q.1.2), (5, .int (nI q.1.1)), (0, .ref b), (1, .ref x), (2, .ref m0), (3, .ref oA), (4, .int (nI i))]) hx hb d_law_466 hl (by decide) rfl (fun ls hl => ?_)
  refine lv_aload_n hx hb d_law_468 rfl (lv_at hl 4 rfl) ?_
  refine ad_cPi S I (ad_ivV (As := []) (rest := []) S (ad_recv I hm2 K_Mod) w_594 w_595 w_596 Y_M_thrown ⟨by decide, by decide, np_M_thrown⟩ rfl d_law_469) (r_thrown l G s.heap.size hp2 m0 bs (nI q.1.1) q.2 hM2) Y_M_thrown hl.1 ⟨Nat.le_of_ble_eq_true rfl, Nat.le_of_ble_eq_true rfl⟩ (by show _ ≤ 601024; omega) (by show _ ≤ 7293034; omega) d_law_469 ?_
  refine lv_iload hx hb d_law_472 (lv_at hl 1 rfl) ?_
  refine lv_icmp_eq (tgt := 479) hx hb d_law_474 (by decide) (fun _ => ?_) (fun cc => absurd rfl cc)
  refine lv_iload hx hb d_law_479 (lv_at hl 1 rfl) ?_
  refine lv_if_ne (tgt := 503) hx hb d_law_481 (by decide) (fun c0 => ?_) (fun c0 => ?_)
  · refine lv_goto (tgt := 1269) hx hb d_law_503 (by decide) ?_
    exact W.widen (k := cells + 128) (n := slots + 12800) (by omega) (by omega) (hk hp2 _ _ q.2 _ f1 I hC2 hM2 ho2 (by rw [hq]; exact hW.gn (xs (i + 1))) ls (lv_sub hl [2, 3, 4, 5, 6] rfl))
  · have hn9 := n_gone A (xs (i + 1))
    rw [← hq] at hn9
    have hz2 := hz1 ((nI_eq (b := 0) (by omega) (by omega)).mp c0)
    have hb9 := z_gone A (xs (i + 1))
    rw [← hq] at hb9
    refine lv_aload_n hx hb d_law_484 rfl (lv_at hl 5 rfl) ?_
    refine lv_iconst (v := 0) hx hb d_law_485 (by decide) ?_
    refine ad_lald S I ho2 (show vp_in 0 1 by unfold vp_in; decide) d_law_486 ?_
    refine ad_top (y := .long (f1 0)) rfl ?_
    refine lv_iload hx hb d_law_487 (lv_at hl 0 rfl) ?_
    refine lv_if_eq (tgt := 496) hx hb d_law_489 (by decide) (fun cb => ?_) (fun cb => ?_)
    · refine lv_lconst (v := 0) hx hb d_law_496 (by decide) ?_
      refine W.lcmp hx hb d_law_497 ?_
      refine lv_if_eq (tgt := 503) hx hb d_law_498 (by decide) (fun _ => ?_) (fun cc => absurd (ad_lcEq.mpr (by rw [hz2, cb]; rfl)) cc)
      refine lv_goto (tgt := 1269) hx hb d_law_503 (by decide) ?_
      exact W.widen (k := cells + 128) (n := slots + 12800) (by omega) (by omega) (hk hp2 _ _ q.2 _ f1 I hC2 hM2 ho2 (by rw [hq]; exact hW.gn (xs (i + 1))) ls (lv_sub hl [2, 3, 4, 5, 6] rfl))
    · refine lv_lconst (v := 1) hx hb d_law_492 (by decide) ?_
      refine lv_goto (tgt := 497) hx hb d_law_493 (by decide) ?_
      refine W.lcmp hx hb d_law_497 ?_
      refine lv_if_eq (tgt := 503) hx hb d_law_498 (by decide) (fun _ => ?_) (fun cc => absurd (ad_lcEq.mpr (by rw [hz2, (hb9.resolve_left cb)]; rfl)) cc)
      refine lv_goto (tgt := 1269) hx hb d_law_503 (by decide) ?_
      exact W.widen (k := cells + 128) (n := slots + 12800) (by omega) (by omega) (hk hp2 _ _ q.2 _ f1 I hC2 hM2 ho2 (by rw [hq]; exact hW.gn (xs (i + 1))) ls (lv_sub hl [2, 3, 4, 5, 6] rfl))
