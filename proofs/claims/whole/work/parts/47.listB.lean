def sp_row (ts : List TH) (k : Nat) : Nat → List Nat
  | 0 => []
  | j + 1 => sp_row ts k j ++ (if (ts[j]?.map (fun t => t.1)) = some (nI k) then [j] else [])
theorem sp_row_s {ts : List TH} {k j : Nat} {t : TH} (h : ts[j]? = some t) : sp_row ts k (j + 1) = if t.1 = nI k then sp_row ts k j ++ [j] else sp_row ts k j := by
  simp only [sp_row, h, Option.map_some, Option.some.injEq]
  split <;> simp
theorem sp_row_c {ts : List TH} (k : Nat) : ∀ j, j ≤ ts.length → (sp_row ts k j).length = (ts.take j).countP (fun t => decide (t.1 = nI k))
  | 0, _ => by simp [sp_row]
  | j + 1, h => by
    have ht : ts[j]? = some ts[j] := List.getElem?_eq_getElem (by omega)
    rw [sp_row_s ht, cnt_s ht, ← sp_row_c k j (by omega)]
    by_cases hs : ts[j].1 = nI k
    · simp [hs]
    · simp [hs]
theorem sp_row_cn {ts : List TH} (k j : Nat) (h : j ≤ ts.length) : (sp_row ts k j).length ≤ sp_cn ts k := by
  rw [sp_row_c k j h]
  exact List.Sublist.countP_le (List.take_sublist j ts)
theorem sp_row_len (ts : List TH) (k : Nat) : (sp_row ts k ts.length).length = sp_cn ts k := by
  rw [sp_row_c k _ (Nat.le_refl _), List.take_length]; rfl
def ixN (d : Int64) (k : Nat) : Nat := (sp_ix d (nI k)).toNatClampNeg
theorem sh_n (d : Int64) : (d.toUInt64 >>> ((33 : Int32).toInt64.toUInt64 &&& Int64.toUInt64 63)).toInt64 = lN (d.toUInt64.toNat / 2 ^ 33) := by
  have e1 : ((33 : Int32).toInt64.toUInt64 &&& Int64.toUInt64 63) = 33 := by decide
  rw [e1]
  apply Int64.toBitVec_inj.mp
  apply BitVec.eq_of_toNat_eq
  have h1 : ((d.toUInt64 >>> 33).toInt64).toBitVec.toNat = (d.toUInt64 >>> 33).toNat := rfl
  rw [h1, UInt64.toNat_shiftRight]
  have h2 : (lN (d.toUInt64.toNat / 2 ^ 33)).toBitVec.toNat = (d.toUInt64.toNat / 2 ^ 33) % 2 ^ 64 := rfl
  have h3 : d.toUInt64.toNat / 2 ^ 33 % 2 ^ 64 = d.toUInt64.toNat / 2 ^ 33 := Nat.mod_eq_of_lt (by have := d.toUInt64.toNat_lt; omega)
  rw [h2, h3]
  exact Nat.shiftRight_eq_div_pow _ 33
theorem ix_n (d : Int64) {k : Nat} (h0 : 0 < k) (hk : k < 2 ^ 31) : sp_ix d (nI k) = nI (ixN d k) ∧ ixN d k < k := by
  have hv := d.toUInt64.toNat_lt
  have e : sp_ix d (nI k) = nI (d.toUInt64.toNat / 2 ^ 33 % k) := by
    unfold sp_ix
    rw [sh_n, nI_l hk, pk_lRem (by omega) h0 (by omega)]
    exact Int64.toInt32_ofNat
  have hlt := Nat.mod_lt (d.toUInt64.toNat / 2 ^ 33) h0
  have e2 : ixN d k = d.toUInt64.toNat / 2 ^ 33 % k := by
    unfold ixN
    rw [e]
    exact nI_clamp (by omega)
  rw [e2]
  exact ⟨e, hlt⟩
def sp_tk (rw : List Nat) (d : Int64) : Nat → List Nat × List Nat × Int64
  | 0 => (rw, [], d)
  | i + 1 => (((sp_tk rw d i).1.set (i + ixN (sp_dr (sp_tk rw d i).2.2) (rw.length - i)) ((sp_tk rw d i).1.getD i 0)).set i ((sp_tk rw d i).1.getD (i + ixN (sp_dr (sp_tk rw d i).2.2) (rw.length - i)) 0),
      (sp_tk rw d i).2.1 ++ [(sp_tk rw d i).1.getD (i + ixN (sp_dr (sp_tk rw d i).2.2) (rw.length - i)) 0], sp_dr (sp_tk rw d i).2.2)
theorem sp_tk_l (rw : List Nat) (d : Int64) : ∀ i, (sp_tk rw d i).1.length = rw.length ∧ (sp_tk rw d i).2.1.length = i
  | 0 => ⟨rfl, rfl⟩
  | i + 1 => by
    have := sp_tk_l rw d i
    simp [sp_tk, this.1, this.2]
theorem gd_e {xs : List Nat} {k : Nat} (h : k < xs.length) : xs[k]? = some (xs.getD k 0) := by
  simp [List.getD, List.getElem?_eq_getElem h]
theorem sp_tk_s {rw : List Nat} {d : Int64} {i o9 io ii : Nat} (ho : o9 = i + ixN (sp_dr (sp_tk rw d i).2.2) (rw.length - i)) (h1 : io = (sp_tk rw d i).1.getD o9 0) (h2 : ii = (sp_tk rw d i).1.getD i 0) : sp_tk rw d (i + 1) = (((sp_tk rw d i).1.set o9 ii).set i io, (sp_tk rw d i).2.1 ++ [io], sp_dr (sp_tk rw d i).2.2) := by
  subst ho h1 h2
  rfl
set_option maxHeartbeats 4000000 in
set_option maxRecDepth 100000 in
theorem c_A_layRow (l : Launch) (G : ad_G) (lo : Nat) (hp : ad_H) (x dA tA lA rA gA sA : Nat) (ta ros : List Nat) (ts : List TH) (la lt rr rw : List Nat) (sd : Int64) (fg fs : Nat → Int32) (k0 : Nat)  (C : CR G hp x dA tA lA rA gA sA ta ros ts la lt rr rw sd fg fs) : ad_Ct l y_A_layRow b_A_layRow 4 rt_A_layRow hs_A_layRow 8 (sp_cn ts k0) (100 * sp_cn ts k0) G lo hp [.ref x, .int (nI k0)] (fun r hp' => r = .inl none ∧ ∃ rr' : List Nat, CR G hp' x dA tA lA rA gA sA ta ros ts la lt rr' (sp_row ts k0 ts.length) sd fg fs ∧ fr gA sA hp hp') := by
  intro p e s m below meth c M hts hB hP
  have hx := M.1
  have hb := M.2.1
  have hml := M.2.2.1
  have hown : s.vm.findClass "AuditDraws" = some m.cls := M.2.2.2.1
  have S : CallFix p m c b_A_layRow 4 s _ ad_T "AuditDraws" := ⟨hx, hb, hml, hown, hts⟩
  have I : ad_I G lo s hp s.heap [] := ad_I.rf hB hP
  have hl := lv_entry ([.ref x, .int (nI k0)]) (n := 4) (Nat.le_of_ble_eq_true rfl)
  rw [lg_entry_eq]
  generalize (lg_sl ([.ref x, .int (nI k0)]) ++ List.replicate (4 - (lg_sl ([.ref x, .int (nI k0)])).length) Slot.unset).toArray = ls at hl ⊢
  have hl : lv_has ls 4 [(0, .ref x), (1, .int (nI k0))] := hl
  obtain ⟨_, hrA⟩ := C.hRr.self
  have loop : ∀ (n : Nat) (j : Nat) (hpj : ad_H) (rrj : List Nat) (cs ss : Nat) (H : Heap) (locs : List Loc), (ts.length < j + n ∧ j ≤ ts.length ∧ cs = (sp_row ts k0 j).length ∧ ss = 100 * cs) → ad_I G lo s hpj H locs → CR G hpj x dA tA lA rA gA sA ta ros ts la lt rrj (sp_row ts k0 j) sd fg fs → fr gA sA hp hpj → ∀ ls : Array Slot, lv_has ls 4 [(0, .ref x), (1, .int (nI k0)), (2, .int (nI j))] → W p l e (ad_rm 8 (sp_cn ts k0) (100 * sp_cn ts k0)) s m ([.ref x, .int (nI k0)] : List Value).toArray below meth c H locs cs ss (ad_Z below G lo (fun r hp' => r = .inl none ∧ ∃ rr' : List Nat, CR G hp' x dA tA lA rA gA sA ta ros ts la lt rr' (sp_row ts k0 ts.length) sd fg fs ∧ fr gA sA hp hp') s (sp_cn ts k0) (100 * sp_cn ts k0)) (F0 m 9 ls []) := by
    intro n
    induction n with
    | zero => intro j hpj rrj cs ss H locs h0; exact absurd h0 (by omega)
    | succ n ih =>
      intro j hpj rrj cs ss H locs h0 I C F ls hl
      obtain ⟨_, htA⟩ := C.hA.self
      obtain ⟨_, hrA⟩ := C.hRr.self
      have hTT := C.htt
      have hn := C.hn
      have hcs := sp_row_cn (ts := ts) k0 j (by omega)
      refine lv_iload_n hx hb d_A_layRow_9 rfl (lv_at hl 2 rfl) ?_
      refine lv_aload_n hx hb d_A_layRow_10 rfl (lv_at hl 0 rfl) ?_
      refine ad_get S I C.hX K_AD 1 (by decide) w_68 rfl d_A_layRow_11 ?_
      refine ad_cPi S I (ad_ivV (As := []) (rest := [.int (nI j)]) S (ad_recv I htA K_AL) w_171 w_172 w_173 Y_AL_size ⟨by decide, by decide, np_AL_size⟩ rfl d_A_layRow_14) (c_ALsize l G lo hpj tA ta C.hA) Y_AL_size hl.1 ⟨Nat.le_of_ble_eq_true rfl, Nat.le_of_ble_eq_true rfl⟩ (show cs + 0 ≤ sp_cn ts k0 by omega) (show ss + 0 ≤ 100 * sp_cn ts k0 by omega) d_A_layRow_14 ?_
      refine ad_top (y := .int (nI ts.length)) (by rw [hTT.1]) ?_
      refine lv_icmp_ge (tgt := 55) hx hb d_A_layRow_17 (by decide) (fun c17 => ?_) (fun c17 => ?_)
      · obtain rfl : j = ts.length := by have := ad_ge (j := j) (n := ts.length) (by omega) (by omega) c17; omega
        exact ad_vret M I (by omega) (by omega) (⟨rfl, rrj, C, F⟩) d_A_layRow_55
      · have hj : j < ts.length := ad_lt (by omega) (by omega) c17
        obtain ⟨t, ht⟩ : ∃ t, ts[j]? = some t := ⟨_, List.getElem?_eq_getElem hj⟩
        obtain ⟨y, ra, hta, hro, hty, -⟩ := C.th ht
        have hsl := sp_row_c (ts := ts) k0 j (by omega)
        have hs2 : (sp_row ts k0 j).length ≤ j := by rw [hsl]; exact Nat.le_trans List.countP_le_length (by simp; omega)
        refine lv_aload_n hx hb d_A_layRow_20 rfl (lv_at hl 0 rfl) ?_
        refine ad_get S I C.hX K_AD 1 (by decide) w_68 rfl d_A_layRow_21 ?_
        refine lv_iload_n hx hb d_A_layRow_24 rfl (lv_at hl 2 rfl) ?_
        refine ad_cPi S I (ad_ivV (As := [.int (nI j)]) (rest := []) S (ad_recv I htA K_AL) w_308 w_309 w_310 Y_AL_get ⟨by decide, by decide, np_AL_get⟩ rfl d_A_layRow_25) (c_ALget l G lo hpj tA ta j y C.hA hta) Y_AL_get hl.1 ⟨Nat.le_of_ble_eq_true rfl, Nat.le_of_ble_eq_true rfl⟩ (show cs + 0 ≤ sp_cn ts k0 by omega) (show ss + 0 ≤ 100 * sp_cn ts k0 by omega) d_A_layRow_25 ?_
        refine va_castE hx hb hown (hts _ w_191) (ad_recv I hty K_Thing) d_A_layRow_28 ?_
        refine lv_astore_n (lv' := [(3, .ref y), (0, .ref x), (1, .int (nI k0)), (2, .int (nI j))]) hx hb d_A_layRow_31 rfl hl (by decide) rfl (fun ls hl => ?_)
        refine lv_aload_n hx hb d_A_layRow_32 rfl (lv_at hl 0 rfl) ?_
        refine ad_get S I hty K_Thing 1 (by decide) w_202 rfl d_A_layRow_33 ?_
        refine lv_iload_n hx hb d_A_layRow_36 rfl (lv_at hl 2 rfl) ?_
        refine lv_icmp_ne (tgt := 49) hx hb d_A_layRow_37 (by decide) (fun c37 => ?_) (fun c37 => ?_)
        · refine lv_iinc (v := (nI (j + 1))) (lv' := [(2, .int (nI (j + 1))), (3, .ref y), (0, .ref x), (1, .int (nI k0))]) hx hb d_A_layRow_49 hl (k := 3) rfl (nI_1 j) (by decide) rfl (fun ls hl => ?_)
          refine lv_goto (tgt := 9) hx hb d_A_layRow_52 (by decide) ?_
          exact ih (j + 1) hpj rrj cs ss H locs ⟨by omega, by omega, by rw [sp_row_s ht, if_neg c37]; exact h0.2.2.1, by omega⟩ I (by rw [sp_row_s ht, if_neg c37]; exact C) F ls (lv_sub hl [2, 3, 0] rfl)
        · refine lv_aload_n hx hb d_A_layRow_40 rfl (lv_at hl 1 rfl) ?_
          refine ad_get S I C.hX K_AD 3 (by decide) w_70 rfl d_A_layRow_41 ?_
          refine lv_aload_n hx hb d_A_layRow_44 rfl (lv_at hl 0 rfl) ?_
          have hcs1 := sp_row_cn (ts := ts) k0 (j + 1) (by omega)
          rw [sp_row_s ht, if_pos c37, List.length_append, List.length_singleton] at hcs1
          have hrl := C.lkr.1
          refine ad_cZi S I (ad_ivV (As := [.ref y]) (rest := []) S (ad_recv I hrA K_AL) w_224 w_225 w_226 Y_AL_add ⟨by decide, by decide, np_AL_add⟩ rfl d_A_layRow_45) (c_ALadd l G lo hpj rA rrj y _ 1 _ _ _ _ C.hRr (by omega) hty (by decide) K_Thing w_732 (fun y hy => C.lx C.lkr hy)) Y_AL_add hl.1 ⟨Nat.le_of_ble_eq_true rfl, Nat.le_of_ble_eq_true rfl⟩ (show cs + 1 ≤ sp_cn ts k0 by omega) (show ss + 100 ≤ 100 * sp_cn ts k0 by omega) d_A_layRow_45 (fun hp9 H1 locs1 hA I => ?_)
          obtain ⟨a1, a2, a3⟩ := hA
          have C9 := C.opR (hp' := hp9) ⟨a2, a3⟩ a1 (ad_I.e I) (C.lkr.app hta)
          refine lv_pop hx hb d_A_layRow_48 rfl ?_
          refine lv_iinc (v := (nI (j + 1))) (lv' := [(2, .int (nI (j + 1))), (3, .ref y), (0, .ref x), (1, .int (nI k0))]) hx hb d_A_layRow_49 hl (k := 3) rfl (nI_1 j) (by decide) rfl (fun ls hl => ?_)
          refine lv_goto (tgt := 9) hx hb d_A_layRow_52 (by decide) ?_
          exact ih (j + 1) hp9 (rrj ++ [y]) (cs + 1) (ss + 100) H1 locs1 ⟨by omega, by omega, by rw [sp_row_s ht, if_pos c37]; simp [h0.2.2.1], by omega⟩ I (by rw [sp_row_s ht, if_pos c37]; exact C9.1) (F.tr C9.2) ls (lv_sub hl [2, 3, 0] rfl)
  refine lv_aload_n hx hb d_A_layRow_0 rfl (lv_at hl 0 rfl) ?_
  refine ad_get S I C.hX K_AD 3 (by decide) w_70 rfl d_A_layRow_1 ?_
  refine ad_cZi S I (ad_ivV (As := []) (rest := []) S (ad_recv I hrA K_AL) w_322 w_323 w_324 Y_AL_clear ⟨by decide, by decide, np_AL_clear⟩ rfl d_A_layRow_4) (c_ALclear l G lo hp rA rr C.hRr) Y_AL_clear hl.1 ⟨Nat.le_of_ble_eq_true rfl, Nat.le_of_ble_eq_true rfl⟩ (Nat.zero_le _) (Nat.zero_le _) d_A_layRow_4 (fun hp9 H1 locs1 hA I => ?_)
  obtain ⟨a1, a2, a3⟩ := hA
  have C9 := C.opR (hp' := hp9) ⟨fun z h1 h2 _ => a2 z h1 h2, fun z h => Or.inl (a3 z h)⟩ a1 (ad_I.e I) (lk.nil ta)
  refine lv_iconst (v := 0) hx hb d_A_layRow_7 (by decide) ?_
  refine lv_istore_n (lv' := [(2, .int 0), (0, .ref x), (1, .int (nI k0))]) hx hb d_A_layRow_8 rfl hl (by decide) rfl (fun ls hl => ?_)
  exact loop (ts.length + 1) 0 hp9 [] 0 0 H1 locs1 ⟨by omega, by omega, rfl, rfl⟩ I C9.1 C9.2 ls (lv_sub hl [1, 2, 0] rfl)
set_option maxHeartbeats 4000000 in
set_option maxRecDepth 100000 in
theorem c_A_takeFromRow (l : Launch) (G : ad_G) (lo : Nat) (hp : ad_H) (x dA tA lA rA gA sA : Nat) (ta ros : List Nat) (ts : List TH) (la lt rr rw : List Nat) (sd : Int64) (fg fs : Nat → Int32) (kk : Nat)  (C : CR G hp x dA tA lA rA gA sA ta ros ts la lt rr rw sd fg fs) (hk : kk ≤ rw.length) (hr64 : rw.length ≤ 64) (hl64 : lt.length + kk ≤ 64) : ad_Ct l y_A_takeFromRow b_A_takeFromRow 5 rt_A_takeFromRow hs_A_takeFromRow 8 kk (100 * kk) G lo hp [.ref x, .int (nI kk)] (fun r hp' => r = .inl none ∧ ∃ la' rr' : List Nat, CR G hp' x dA tA lA rA gA sA ta ros ((sp_tk rw sd kk).2.1.foldl (sp_z 0) ts) la' (lt ++ (sp_tk rw sd kk).2.1) rr' ((sp_tk rw sd kk).1) ((sp_tk rw sd kk).2.2) fg fs ∧ fr gA sA hp hp') := by
  intro p e s m below meth c M hts hB hP
  have hx := M.1
  have hb := M.2.1
  have hml := M.2.2.1
  have hown : s.vm.findClass "AuditDraws" = some m.cls := M.2.2.2.1
  have S : CallFix p m c b_A_takeFromRow 5 s _ ad_T "AuditDraws" := ⟨hx, hb, hml, hown, hts⟩
  have I : ad_I G lo s hp s.heap [] := ad_I.rf hB hP
  have hl := lv_entry ([.ref x, .int (nI kk)]) (n := 5) (Nat.le_of_ble_eq_true rfl)
  rw [lg_entry_eq]
  generalize (lg_sl ([.ref x, .int (nI kk)]) ++ List.replicate (5 - (lg_sl ([.ref x, .int (nI kk)])).length) Slot.unset).toArray = ls at hl ⊢
  have hl : lv_has ls 5 [(0, .ref x), (1, .int (nI kk))] := hl
  have loop : ∀ (n : Nat) (i : Nat) (hpj : ad_H) (laj rrj : List Nat) (cs ss : Nat) (H : Heap) (locs : List Loc), (kk < i + n ∧ i ≤ kk ∧ cs = i ∧ ss = 100 * i) → ad_I G lo s hpj H locs → CR G hpj x dA tA lA rA gA sA ta ros ((sp_tk rw sd i).2.1.foldl (sp_z 0) ts) laj (lt ++ (sp_tk rw sd i).2.1) rrj ((sp_tk rw sd i).1) ((sp_tk rw sd i).2.2) fg fs → fr gA sA hp hpj → ∀ ls : Array Slot, lv_has ls 5 [(0, .ref x), (1, .int (nI kk)), (2, .int (nI i))] → W p l e (ad_rm 8 kk (100 * kk)) s m ([.ref x, .int (nI kk)] : List Value).toArray below meth c H locs cs ss (ad_Z below G lo (fun r hp' => r = .inl none ∧ ∃ la' rr' : List Nat, CR G hp' x dA tA lA rA gA sA ta ros ((sp_tk rw sd kk).2.1.foldl (sp_z 0) ts) la' (lt ++ (sp_tk rw sd kk).2.1) rr' ((sp_tk rw sd kk).1) ((sp_tk rw sd kk).2.2) fg fs ∧ fr gA sA hp hp') s kk (100 * kk)) (F0 m 2 ls []) := by
    intro n
    induction n with
    | zero => intro i hpj laj rrj cs ss H locs h0; exact absurd h0 (by omega)
    | succ n ih =>
      intro i hpj laj rrj cs ss H locs h0 I C0 F0 ls hl
      obtain ⟨_, hrA⟩ := C0.hRr.self
      have hrl : rrj.length = rw.length := C0.lkr.1.trans (sp_tk_l rw sd i).1
      have hll : laj.length = lt.length + i := by have h8 := C0.lkl.1; rw [List.length_append, (sp_tk_l rw sd i).2] at h8; exact h8
      refine lv_iload_n hx hb d_A_takeFromRow_2 rfl (lv_at hl 2 rfl) ?_
      refine lv_iload_n hx hb d_A_takeFromRow_3 rfl (lv_at hl 1 rfl) ?_
      refine lv_icmp_ge (tgt := 103) hx hb d_A_takeFromRow_4 (by decide) (fun c4 => ?_) (fun c4 => ?_)
      · obtain rfl : i = kk := by have := ad_ge (j := i) (n := kk) (by omega) (by omega) c4; omega
        exact ad_vret M I (by omega) (by omega) (⟨rfl, laj, rrj, C0, F0⟩) d_A_takeFromRow_103
      · have hi : i < kk := ad_lt (by omega) (by omega) c4
        refine lv_iload_n hx hb d_A_takeFromRow_7 rfl (lv_at hl 2 rfl) ?_
        refine lv_aload_n hx hb d_A_takeFromRow_8 rfl (lv_at hl 0 rfl) ?_
        refine ad_get S I C0.hX K_AD 3 (by decide) w_70 rfl d_A_takeFromRow_9 ?_
        refine ad_cPi S I (ad_ivV (As := []) (rest := [.int (nI i)]) S (ad_recv I hrA K_AL) w_171 w_172 w_173 Y_AL_size ⟨by decide, by decide, np_AL_size⟩ rfl d_A_takeFromRow_12) (c_ALsize l G lo hpj rA rrj C0.hRr) Y_AL_size hl.1 ⟨Nat.le_of_ble_eq_true rfl, Nat.le_of_ble_eq_true rfl⟩ (show cs + 0 ≤ kk by omega) (show ss + 0 ≤ 100 * kk by omega) d_A_takeFromRow_12 ?_
        refine ad_top (y := .int (nI rw.length)) (by rw [hrl]) ?_
        refine lv_icmp_ge (tgt := 103) hx hb d_A_takeFromRow_15 (by decide) (fun c15 => ?_) (fun c15 => ?_)
        · exact absurd c15 (nI_ge (by omega) (by omega))
        · refine lv_iload_n hx hb d_A_takeFromRow_18 rfl (lv_at hl 2 rfl) ?_
          refine lv_aload_n hx hb d_A_takeFromRow_19 rfl (lv_at hl 0 rfl) ?_
          refine ad_get S I C0.hX K_AD 0 (by decide) w_67 rfl d_A_takeFromRow_20 ?_
          refine lv_aload_n hx hb d_A_takeFromRow_23 rfl (lv_at hl 0 rfl) ?_
          refine ad_get S I C0.hX K_AD 3 (by decide) w_70 rfl d_A_takeFromRow_24 ?_
          refine ad_cPi S I (ad_ivV (As := []) (rest := [.ref dA, .int (nI i)]) S (ad_recv I hrA K_AL) w_171 w_172 w_173 Y_AL_size ⟨by decide, by decide, np_AL_size⟩ rfl d_A_takeFromRow_27) (c_ALsize l G lo hpj rA rrj C0.hRr) Y_AL_size hl.1 ⟨Nat.le_of_ble_eq_true rfl, Nat.le_of_ble_eq_true rfl⟩ (show cs + 0 ≤ kk by omega) (show ss + 0 ≤ 100 * kk by omega) d_A_takeFromRow_27 ?_
          refine ad_top (y := .int (nI rw.length)) (by rw [hrl]) ?_
          refine lv_iload_n hx hb d_A_takeFromRow_30 rfl (lv_at hl 2 rfl) ?_
          refine lv_isub hx hb d_A_takeFromRow_31 ?_
          refine ad_top (y := .int (nI (rw.length - i))) (congrArg Value.int (pk_sub (by omega))) ?_
          refine ad_cZi S I (ad_ivV (As := [.int (nI (rw.length - i))]) (rest := [.int (nI i)]) S (ad_recv I C0.hD K_Draw) w_350 w_351 w_352 Y_D_below ⟨by decide, by decide, np_D_below⟩ rfl d_A_takeFromRow_32) (c_D_below l G lo hpj dA (sp_tk rw sd i).2.2 (nI (rw.length - i)) C0.hD (nI_nlt (b := 1) (by omega) (by omega))) Y_D_below hl.1 ⟨Nat.le_of_ble_eq_true rfl, Nat.le_of_ble_eq_true rfl⟩ (show cs + 0 ≤ kk by omega) (show ss + 0 ≤ 100 * kk by omega) d_A_takeFromRow_32 (fun hp1 H1 locs1 hA I => ?_)
          obtain ⟨u1, k1⟩ := hA
          obtain ⟨ix1, ix2⟩ := ix_n (sp_dr (sp_tk rw sd i).2.2) (show 0 < rw.length - i by omega) (by omega)
          obtain ⟨o9, ho9⟩ : ∃ o9, o9 = i + ixN (sp_dr (sp_tk rw sd i).2.2) (rw.length - i) := ⟨_, rfl⟩
          obtain ⟨io, hio⟩ : ∃ io, io = (sp_tk rw sd i).1.getD o9 0 := ⟨_, rfl⟩
          obtain ⟨ii, hii⟩ : ∃ ii, ii = (sp_tk rw sd i).1.getD i 0 := ⟨_, rfl⟩
          have ho2 : o9 < rw.length := by omega
          have hwo : (sp_tk rw sd i).1[o9]? = some io := by rw [hio]; exact gd_e (by rw [(sp_tk_l rw sd i).1]; exact ho2)
          have hwi : (sp_tk rw sd i).1[i]? = some ii := by rw [hii]; exact gd_e (by rw [(sp_tk_l rw sd i).1]; omega)
          obtain ⟨yo, hyo, hto⟩ := C0.lkr.2 o9 io hwo
          obtain ⟨yi, hyi, hti⟩ := C0.lkr.2 i ii hwi
          obtain ⟨C1, F1⟩ := C0.draw k1 u1 (ad_I.e I)
          obtain ⟨_, hrA1⟩ := C1.hRr.self
          obtain ⟨_, hlA1⟩ := C1.hLa.self
          obtain ⟨t_yo1, ra_yo1, ht_yo1, -, hyo1, -⟩ := C1.ty hto
          obtain ⟨t_yi1, ra_yi1, ht_yi1, -, hyi1, -⟩ := C1.ty hti
          refine lv_iadd hx hb d_A_takeFromRow_35 ?_
          refine ad_top (y := .int (nI o9)) (congrArg Value.int (by rw [ix1, nI_add, ho9])) ?_
          refine lv_istore_n (lv' := [(3, .int (nI o9)), (0, .ref x), (1, .int (nI kk)), (2, .int (nI i))]) hx hb d_A_takeFromRow_36 rfl hl (by decide) rfl (fun ls hl => ?_)
          refine lv_aload_n hx hb d_A_takeFromRow_37 rfl (lv_at hl 1 rfl) ?_
          refine ad_get S I C1.hX K_AD 3 (by decide) w_70 rfl d_A_takeFromRow_38 ?_
          refine lv_iload_n hx hb d_A_takeFromRow_41 rfl (lv_at hl 0 rfl) ?_
          refine ad_cPi S I (ad_ivV (As := [.int (nI o9)]) (rest := []) S (ad_recv I hrA1 K_AL) w_308 w_309 w_310 Y_AL_get ⟨by decide, by decide, np_AL_get⟩ rfl d_A_takeFromRow_42) (c_ALget l G lo hp1 rA rrj o9 yo C1.hRr hyo) Y_AL_get hl.1 ⟨Nat.le_of_ble_eq_true rfl, Nat.le_of_ble_eq_true rfl⟩ (show cs + 0 ≤ kk by omega) (show ss + 0 ≤ 100 * kk by omega) d_A_takeFromRow_42 ?_
          refine va_castE hx hb hown (hts _ w_191) (ad_recv I hyo1 K_Thing) d_A_takeFromRow_45 ?_
          refine lv_astore (lv' := [(4, .ref yo), (3, .int (nI o9)), (0, .ref x), (1, .int (nI kk)), (2, .int (nI i))]) hx hb d_A_takeFromRow_48 hl (by decide) rfl (fun ls hl => ?_)
          refine lv_aload_n hx hb d_A_takeFromRow_50 rfl (lv_at hl 2 rfl) ?_
          refine ad_get S I C1.hX K_AD 3 (by decide) w_70 rfl d_A_takeFromRow_51 ?_
          refine lv_iload_n hx hb d_A_takeFromRow_54 rfl (lv_at hl 1 rfl) ?_
          refine lv_aload_n hx hb d_A_takeFromRow_55 rfl (lv_at hl 2 rfl) ?_
          refine ad_get S I C1.hX K_AD 3 (by decide) w_70 rfl d_A_takeFromRow_56 ?_
          refine lv_iload_n hx hb d_A_takeFromRow_59 rfl (lv_at hl 4 rfl) ?_
          refine ad_cPi S I (ad_ivV (As := [.int (nI i)]) (rest := [.int (nI o9), .ref rA]) S (ad_recv I hrA1 K_AL) w_308 w_309 w_310 Y_AL_get ⟨by decide, by decide, np_AL_get⟩ rfl d_A_takeFromRow_60) (c_ALget l G lo hp1 rA rrj i yi C1.hRr hyi) Y_AL_get hl.1 ⟨Nat.le_of_ble_eq_true rfl, Nat.le_of_ble_eq_true rfl⟩ (show cs + 0 ≤ kk by omega) (show ss + 0 ≤ 100 * kk by omega) d_A_takeFromRow_60 ?_
          refine va_castE hx hb hown (hts _ w_191) (ad_recv I hyi1 K_Thing) d_A_takeFromRow_63 ?_
          refine ad_cZi S I (ad_ivV (As := [.int (nI o9), .ref yi]) (rest := []) S (ad_recv I hrA1 K_AL) w_356 w_357 w_358 Y_AL_set ⟨by decide, by decide, np_AL_set⟩ rfl d_A_takeFromRow_66) (c_ALset l G lo hp1 rA rrj o9 yo yi _ 1 _ _ _ _ C1.hRr hyo hyi1 K_Thing w_732) Y_AL_set hl.1 ⟨Nat.le_of_ble_eq_true rfl, Nat.le_of_ble_eq_true rfl⟩ (show cs + 0 ≤ kk by omega) (show ss + 0 ≤ 100 * kk by omega) d_A_takeFromRow_66 (fun hp2 H1 locs1 hA I => ?_)
          obtain ⟨a1, a2, a3⟩ := hA
          obtain ⟨C2, F2⟩ := C1.opR (hp' := hp2) ⟨fun z _ h2 _ => a2 z h2, fun z h => Or.inl (a3 z h)⟩ a1 (ad_I.e I) (C1.lkr.set hti)
          obtain ⟨_, hrA2⟩ := C2.hRr.self
          obtain ⟨_, hlA2⟩ := C2.hLa.self
          obtain ⟨t_yo2, ra_yo2, ht_yo2, -, hyo2, -⟩ := C2.ty hto
          obtain ⟨t_yi2, ra_yi2, ht_yi2, -, hyi2, -⟩ := C2.ty hti
          refine lv_pop hx hb d_A_takeFromRow_69 rfl ?_
          obtain ⟨yq, hyq⟩ : ∃ yq, (rrj.set o9 yi)[i]? = some yq := ⟨_, List.getElem?_eq_getElem (by rw [List.length_set]; omega)⟩
          refine lv_aload_n hx hb d_A_takeFromRow_70 rfl (lv_at hl 2 rfl) ?_
          refine ad_get S I C2.hX K_AD 3 (by decide) w_70 rfl d_A_takeFromRow_71 ?_
          refine lv_iload_n hx hb d_A_takeFromRow_74 rfl (lv_at hl 4 rfl) ?_
          refine lv_aload hx hb d_A_takeFromRow_75 (lv_at hl 0 rfl) ?_
          refine ad_cZi S I (ad_ivV (As := [.int (nI i), .ref yo]) (rest := []) S (ad_recv I hrA2 K_AL) w_356 w_357 w_358 Y_AL_set ⟨by decide, by decide, np_AL_set⟩ rfl d_A_takeFromRow_77) (c_ALset l G lo hp2 rA (rrj.set o9 yi) i yq yo _ 1 _ _ _ _ C2.hRr hyq hyo2 K_Thing w_732) Y_AL_set hl.1 ⟨Nat.le_of_ble_eq_true rfl, Nat.le_of_ble_eq_true rfl⟩ (show cs + 0 ≤ kk by omega) (show ss + 0 ≤ 100 * kk by omega) d_A_takeFromRow_77 (fun hp3 H1 locs1 hA I => ?_)
          obtain ⟨a1, a2, a3⟩ := hA
          obtain ⟨C3, F3⟩ := C2.opR (hp' := hp3) ⟨fun z _ h2 _ => a2 z h2, fun z h => Or.inl (a3 z h)⟩ a1 (ad_I.e I) (C2.lkr.set hto)
          obtain ⟨_, hrA3⟩ := C3.hRr.self
          obtain ⟨_, hlA3⟩ := C3.hLa.self
          obtain ⟨t_yo3, ra_yo3, ht_yo3, -, hyo3, -⟩ := C3.ty hto
          obtain ⟨t_yi3, ra_yi3, ht_yi3, -, hyi3, -⟩ := C3.ty hti
          refine lv_pop hx hb d_A_takeFromRow_80 rfl ?_
          refine lv_aload hx hb d_A_takeFromRow_81 (lv_at hl 0 rfl) ?_
          refine lv_iconst (v := 0) hx hb d_A_takeFromRow_83 (by decide) ?_
          refine ad_put S I hyo3 K_Thing 4 (by decide) w_208 rfl rfl rfl (by simp) d_A_takeFromRow_84 (fun H1 locs1 I => ?_)
          obtain ⟨hp4, ehp4⟩ : ∃ z : ad_H, z = ad_up hp3 yo (oT io (sst 0 t_yo3) ra_yo3) := ⟨_, rfl⟩
          have I : ad_I G lo s hp4 H1 locs1 := by rw [ehp4]; exact I
          obtain ⟨C4, F4⟩ := C3.thing (hp' := hp4) (t' := sst 0 t_yo3) ht_yo3 hto hyo3 rfl (fun z hz => by rw [ehp4, ad_up_n _ hz]) (by rw [ehp4]; exact ad_up_s _ _ _) (ad_I.e I)
          obtain ⟨_, hrA4⟩ := C4.hRr.self
          obtain ⟨_, hlA4⟩ := C4.hLa.self
          obtain ⟨t_yo4, ra_yo4, ht_yo4, -, hyo4, -⟩ := C4.ty hto
          obtain ⟨t_yi4, ra_yi4, ht_yi4, -, hyi4, -⟩ := C4.ty hti
          refine lv_aload_n hx hb d_A_takeFromRow_87 rfl (lv_at hl 2 rfl) ?_
          refine ad_get S I C4.hX K_AD 2 (by decide) w_69 rfl d_A_takeFromRow_88 ?_
          refine lv_aload hx hb d_A_takeFromRow_91 (lv_at hl 0 rfl) ?_
          refine ad_cZi S I (ad_ivV (As := [.ref yo]) (rest := []) S (ad_recv I hlA4 K_AL) w_224 w_225 w_226 Y_AL_add ⟨by decide, by decide, np_AL_add⟩ rfl d_A_takeFromRow_93) (c_ALadd l G lo hp4 lA laj yo _ 1 _ _ _ _ C4.hLa (by omega) hyo4 (by decide) K_Thing w_732 (fun y hy => C4.lx C4.lkl hy)) Y_AL_add hl.1 ⟨Nat.le_of_ble_eq_true rfl, Nat.le_of_ble_eq_true rfl⟩ (show cs + 0 + 0 + 0 + 1 ≤ kk by omega) (show ss + 0 + 0 + 0 + 100 ≤ 100 * kk by omega) d_A_takeFromRow_93 (fun hp5 H1 locs1 hA I => ?_)
          obtain ⟨a1, a2, a3⟩ := hA
          obtain ⟨C5, F5⟩ := C4.opL (hp' := hp5) ⟨a2, a3⟩ a1 (ad_I.e I) (C4.lkl.app hto)
          obtain ⟨_, hrA5⟩ := C5.hRr.self
          obtain ⟨_, hlA5⟩ := C5.hLa.self
          obtain ⟨t_yo5, ra_yo5, ht_yo5, -, hyo5, -⟩ := C5.ty hto
          obtain ⟨t_yi5, ra_yi5, ht_yi5, -, hyi5, -⟩ := C5.ty hti
          have tk := sp_tk_s ho9 hio hii
          have et : (sp_tk rw sd (i + 1)).2.1.foldl (sp_z 0) ts = ((sp_tk rw sd i).2.1.foldl (sp_z 0) ts).set io (sst 0 t_yo3) := by rw [tk, List.foldl_append]; exact sp_z_e ht_yo3
          have el : lt ++ (sp_tk rw sd (i + 1)).2.1 = (lt ++ (sp_tk rw sd i).2.1) ++ [io] := by rw [tk, List.append_assoc]
          refine lv_pop hx hb d_A_takeFromRow_96 rfl ?_
          refine lv_iinc (v := (nI (i + 1))) (lv' := [(2, .int (nI (i + 1))), (4, .ref yo), (3, .int (nI o9)), (0, .ref x), (1, .int (nI kk))]) hx hb d_A_takeFromRow_97 hl (k := 4) rfl (nI_1 i) (by decide) rfl (fun ls hl => ?_)
          refine lv_goto (tgt := 2) hx hb d_A_takeFromRow_100 (by decide) ?_
          exact ih (i + 1) hp5 (laj ++ [yo]) ((rrj.set o9 yi).set i yo) (cs + 1) (ss + 100) H1 locs1 (by omega) I (by rw [et, el, tk]; exact C5) (((((F0.tr F1).tr F2).tr F3).tr F4).tr F5) ls (lv_sub hl [3, 4, 0] rfl)
  refine lv_iconst (v := 0) hx hb d_A_takeFromRow_0 (by decide) ?_
  refine lv_istore_n (lv' := [(2, .int 0), (0, .ref x), (1, .int (nI kk))]) hx hb d_A_takeFromRow_1 rfl hl (by decide) rfl (fun ls hl => ?_)
  exact loop (kk + 1) 0 hp la rr 0 0 s.heap [] (by omega) I (by rw [show lt ++ (sp_tk rw sd 0).2.1 = lt from List.append_nil _]; exact C) (fr.rf _ _ _) ls (lv_sub hl [1, 2, 0] rfl)
