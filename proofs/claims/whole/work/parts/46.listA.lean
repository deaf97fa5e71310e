abbrev sst (v : Int32) (t : TH) : TH := (t.1, t.2.1, v, t.2.2.2.1, t.2.2.2.2)
def sp_z (v : Int32) (ts : List TH) (i : Nat) : List TH := match ts[i]? with
  | some t => ts.set i (sst v t)
  | none => ts
theorem sp_z_e {v : Int32} {ts : List TH} {i : Nat} {t : TH} (h : ts[i]? = some t) : sp_z v ts i = ts.set i (sst v t) := by simp [sp_z, h]
theorem fz_s {α β : Type} {f : β → α → β} {b : β} {xs : List α} {j : Nat} {i : α} (h : xs[j]? = some i) : (xs.take (j + 1)).foldl f b = f ((xs.take j).foldl f b) i := by
  obtain ⟨hj, rfl⟩ := List.getElem?_eq_some_iff.mp h
  rw [List.take_succ_eq_append_getElem hj, List.foldl_append]
  rfl
def sp_cn (ts : List TH) (k : Nat) : Nat := ts.countP (fun t => decide (t.1 = nI k))
def sp_f (ts : List TH) (n k : Nat) : Nat := n * sp_cn ts k / ts.length
def sp_r (ts : List TH) (n k : Nat) : Nat := n * sp_cn ts k % ts.length
theorem sp_cn_le (ts : List TH) (k : Nat) : sp_cn ts k ≤ ts.length := List.countP_le_length
theorem sp_cb {ts : List TH} {n : Nat} (k : Nat) (hn : ts.length ≤ 64) (h : n ≤ ts.length) : n * sp_cn ts k ≤ 4096 := by
  have h1 := sp_cn_le ts k
  have : n * sp_cn ts k ≤ 64 * 64 := Nat.mul_le_mul (by omega) (by omega)
  omega
set_option maxHeartbeats 4000000 in
set_option maxRecDepth 100000 in
theorem c_A_forgetLatest (l : Launch) (G : ad_G) (lo : Nat) (hp : ad_H) (x dA tA lA rA gA sA : Nat) (ta ros : List Nat) (ts : List TH) (la lt rr rw : List Nat) (sd : Int64) (fg fs : Nat → Int32)  (C : CR G hp x dA tA lA rA gA sA ta ros ts la lt rr rw sd fg fs) (hm : lt.length ≤ 64) : ad_Ct l y_A_forgetLatest b_A_forgetLatest 2 rt_A_forgetLatest hs_A_forgetLatest 4 0 0 G lo hp [.ref x] (fun r hp' => r = .inl none ∧ CR G hp' x dA tA lA rA gA sA ta ros (lt.foldl (sp_z (-1)) ts) ([]) ([]) rr rw sd fg fs ∧ fr gA sA hp hp') := by
  intro p e s m below meth c M hts hB hP
  have hx := M.1
  have hb := M.2.1
  have hml := M.2.2.1
  have hown : s.vm.findClass "AuditDraws" = some m.cls := M.2.2.2.1
  have S : CallFix p m c b_A_forgetLatest 2 s _ ad_T "AuditDraws" := ⟨hx, hb, hml, hown, hts⟩
  have I : ad_I G lo s hp s.heap [] := ad_I.rf hB hP
  have hl := lv_entry ([.ref x]) (n := 2) (Nat.le_of_ble_eq_true rfl)
  rw [lg_entry_eq]
  generalize (lg_sl ([.ref x]) ++ List.replicate (2 - (lg_sl ([.ref x])).length) Slot.unset).toArray = ls at hl ⊢
  have hl : lv_has ls 2 [(0, .ref x)] := hl
  have loop : ∀ (n : Nat) (j : Nat) (hpj : ad_H) (tsj : List TH) (H : Heap) (locs : List Loc), lt.length < j + n ∧ j ≤ lt.length → ad_I G lo s hpj H locs → CR G hpj x dA tA lA rA gA sA ta ros tsj la lt rr rw sd fg fs → fr gA sA hp hpj → tsj = (lt.take j).foldl (sp_z (-1)) ts → ∀ ls : Array Slot, lv_has ls 2 [(0, .ref x), (1, .int (nI j))] → W p l e (ad_rm 4 0 0) s m ([.ref x] : List Value).toArray below meth c H locs 0 0 (ad_Z below G lo (fun r hp' => r = .inl none ∧ CR G hp' x dA tA lA rA gA sA ta ros (lt.foldl (sp_z (-1)) ts) ([]) ([]) rr rw sd fg fs ∧ fr gA sA hp hp') s 0 0) (F0 m 2 ls []) := by
    intro n
    induction n with
    | zero => intro j hpj tsj H locs h0; exact absurd h0 (by omega)
    | succ n ih =>
      intro j hpj tsj H locs h0 I C F et ls hl
      obtain ⟨_, hlA⟩ := C.hLa.self
      have hll := C.lkl.1
      refine lv_iload_n hx hb d_A_forgetLatest_2 rfl (lv_at hl 1 rfl) ?_
      refine lv_aload_n hx hb d_A_forgetLatest_3 rfl (lv_at hl 0 rfl) ?_
      refine ad_get S I C.hX K_AD 2 (by decide) w_69 rfl d_A_forgetLatest_4 ?_
      refine ad_cPi S I (ad_ivV (As := []) (rest := [.int (nI j)]) S (ad_recv I hlA K_AL) w_171 w_172 w_173 Y_AL_size ⟨by decide, by decide, np_AL_size⟩ rfl d_A_forgetLatest_7) (c_ALsize l G lo hpj lA la C.hLa) Y_AL_size hl.1 ⟨Nat.le_of_ble_eq_true rfl, Nat.le_of_ble_eq_true rfl⟩ (Nat.le_of_ble_eq_true rfl) (Nat.le_of_ble_eq_true rfl) d_A_forgetLatest_7 ?_
      refine ad_top (y := .int (nI lt.length)) (by rw [hll]) ?_
      refine lv_icmp_ge (tgt := 34) hx hb d_A_forgetLatest_10 (by decide) (fun c10 => ?_) (fun c10 => ?_)
      · obtain rfl : j = lt.length := by have := ad_ge (j := j) (n := lt.length) (by omega) (by omega) c10; omega
        rw [List.take_length] at et
        subst et
        refine lv_aload_n hx hb d_A_forgetLatest_34 rfl (lv_at hl 0 rfl) ?_
        refine ad_get S I C.hX K_AD 2 (by decide) w_69 rfl d_A_forgetLatest_35 ?_
        refine ad_cZi S I (ad_ivV (As := []) (rest := []) S (ad_recv I hlA K_AL) w_322 w_323 w_324 Y_AL_clear ⟨by decide, by decide, np_AL_clear⟩ rfl d_A_forgetLatest_38) (c_ALclear l G lo hpj lA la C.hLa) Y_AL_clear hl.1 ⟨Nat.le_of_ble_eq_true rfl, Nat.le_of_ble_eq_true rfl⟩ (Nat.le_of_ble_eq_true rfl) (Nat.le_of_ble_eq_true rfl) d_A_forgetLatest_38 (fun hp9 H1 locs1 hA I => ?_)
        obtain ⟨a1, a2, a3⟩ := hA
        have C9 := C.opL (hp' := hp9) ⟨fun z h1 h2 _ => a2 z h1 h2, fun z h => Or.inl (a3 z h)⟩ a1 (ad_I.e I) (lk.nil ta)
        exact ad_vret M I (by omega) (by omega) (⟨rfl, C9.1, F.tr C9.2⟩) d_A_forgetLatest_41
      · have hj : j < lt.length := ad_lt (by omega) (by omega) c10
        obtain ⟨i, hi⟩ : ∃ i, lt[j]? = some i := ⟨_, List.getElem?_eq_getElem hj⟩
        obtain ⟨y, hy, hta⟩ := C.lkl.2 j i hi
        obtain ⟨t, ra, ht, hro, hty, -⟩ := C.ty hta
        refine lv_aload_n hx hb d_A_forgetLatest_13 rfl (lv_at hl 0 rfl) ?_
        refine ad_get S I C.hX K_AD 2 (by decide) w_69 rfl d_A_forgetLatest_14 ?_
        refine lv_iload_n hx hb d_A_forgetLatest_17 rfl (lv_at hl 1 rfl) ?_
        refine ad_cPi S I (ad_ivV (As := [.int (nI j)]) (rest := []) S (ad_recv I hlA K_AL) w_308 w_309 w_310 Y_AL_get ⟨by decide, by decide, np_AL_get⟩ rfl d_A_forgetLatest_18) (c_ALget l G lo hpj lA la j y C.hLa hy) Y_AL_get hl.1 ⟨Nat.le_of_ble_eq_true rfl, Nat.le_of_ble_eq_true rfl⟩ (Nat.le_of_ble_eq_true rfl) (Nat.le_of_ble_eq_true rfl) d_A_forgetLatest_18 ?_
        refine va_castE hx hb hown (hts _ w_191) (ad_recv I hty K_Thing) d_A_forgetLatest_21 ?_
        refine lv_iconst (v := (-1)) hx hb d_A_forgetLatest_24 (by decide) ?_
        refine ad_put S I hty K_Thing 4 (by decide) w_208 rfl rfl rfl (by simp) d_A_forgetLatest_25 (fun H1 locs1 I => ?_)
        obtain ⟨hp101, ehp101⟩ : ∃ z : ad_H, z = ad_up hpj y (.inr (1, [.int (nI i), .int t.1, .ref ra, .int t.2.1, .int (-1), .int t.2.2.2.1])) := ⟨_, rfl⟩
        have I : ad_I G lo s hp101 H1 locs1 := by rw [ehp101]; exact I
        have fhp101_x := (show hp101 x = hpj x by rw [ehp101]; exact ad_up_n _ (ad_ne C.hX hty (by simp))).trans C.hX
        have fhp101_lA := (show hp101 lA = hpj lA by rw [ehp101]; exact ad_up_n _ (ad_ne hlA hty (by simp))).trans hlA
        have fhp101_y : hp101 y = some (.inr (1, [.int (nI i), .int t.1, .ref ra, .int t.2.1, .int (-1), .int t.2.2.2.1])) := by rw [ehp101]; exact ad_up_s _ _ _
        refine lv_iinc (v := (nI (j + 1))) (lv' := [(1, .int (nI (j + 1))), (0, .ref x)]) hx hb d_A_forgetLatest_28 hl (k := 1) rfl (nI_1 j) (by decide) rfl (fun ls hl => ?_)
        refine lv_goto (tgt := 2) hx hb d_A_forgetLatest_31 (by decide) ?_
        exact ih (j + 1) hp101 (tsj.set i (sst (-1) t)) H1 locs1 (by omega) I (C.thing (t' := sst (-1) t) ht hta hty rfl (fun z hz => by rw [ehp101, ad_up_n _ hz]) fhp101_y (ad_I.e I)).1 (F.tr (C.thing (t' := sst (-1) t) ht hta hty rfl (fun z hz => by rw [ehp101, ad_up_n _ hz]) fhp101_y (ad_I.e I)).2) (by rw [fz_s hi, ← et, sp_z_e ht]) ls (lv_sub hl [1, 0] rfl)
  refine lv_iconst (v := 0) hx hb d_A_forgetLatest_0 (by decide) ?_
  refine lv_istore_n (lv' := [(1, .int 0), (0, .ref x)]) hx hb d_A_forgetLatest_1 rfl hl (by decide) rfl (fun ls hl => ?_)
  exact loop (lt.length + 1) 0 hp ts s.heap [] (by omega) I C (fr.rf _ _ _) rfl ls (lv_sub hl [1, 0] rfl)
set_option maxHeartbeats 4000000 in
set_option maxRecDepth 100000 in
theorem c_A_giveRoundedDown (l : Launch) (G : ad_G) (lo : Nat) (hp : ad_H) (x dA tA lA rA gA sA : Nat) (ta ros : List Nat) (ts : List TH) (la lt rr rw : List Nat) (sd : Int64) (fg fs : Nat → Int32) (k0 n0 : Nat)  (C : CR G hp x dA tA lA rA gA sA ta ros ts la lt rr rw sd fg fs) (hk : k0 < 6) (hn0 : n0 ≤ ts.length) : ad_Ct l y_A_giveRoundedDown b_A_giveRoundedDown 5 rt_A_giveRoundedDown hs_A_giveRoundedDown 5 0 0 G lo hp [.ref x, .int (nI k0), .int (nI n0)] (fun r hp' => r = .inl none ∧ CR G hp' x dA tA lA rA gA sA ta ros ts la lt rr rw sd (upd fg k0 (nI (sp_f ts n0 k0))) (upd fs k0 (nI (sp_r ts n0 k0))) ∧ fr gA sA hp hp') := by
  intro p e s m below meth c M hts hB hP
  have hx := M.1
  have hb := M.2.1
  have hml := M.2.2.1
  have hown : s.vm.findClass "AuditDraws" = some m.cls := M.2.2.2.1
  have S : CallFix p m c b_A_giveRoundedDown 5 s _ ad_T "AuditDraws" := ⟨hx, hb, hml, hown, hts⟩
  have I : ad_I G lo s hp s.heap [] := ad_I.rf hB hP
  have hl := lv_entry ([.ref x, .int (nI k0), .int (nI n0)]) (n := 5) (Nat.le_of_ble_eq_true rfl)
  rw [lg_entry_eq]
  generalize (lg_sl ([.ref x, .int (nI k0), .int (nI n0)]) ++ List.replicate (5 - (lg_sl ([.ref x, .int (nI k0), .int (nI n0)])).length) Slot.unset).toArray = ls at hl ⊢
  have hl : lv_has ls 5 [(0, .ref x), (1, .int (nI k0)), (2, .int (nI n0))] := hl
  obtain ⟨_, htA⟩ := C.hA.self
  have hn := C.hn
  have hcb := sp_cb k0 hn hn0
  refine lv_aload_n hx hb d_A_giveRoundedDown_0 rfl (lv_at hl 0 rfl) ?_
  refine ad_get S I C.hX K_AD 1 (by decide) w_68 rfl d_A_giveRoundedDown_1 ?_
  refine ad_cPi S I (ad_ivV (As := []) (rest := []) S (ad_recv I htA K_AL) w_171 w_172 w_173 Y_AL_size ⟨by decide, by decide, np_AL_size⟩ rfl d_A_giveRoundedDown_4) (c_ALsize l G lo hp tA ta C.hA) Y_AL_size hl.1 ⟨Nat.le_of_ble_eq_true rfl, Nat.le_of_ble_eq_true rfl⟩ (Nat.le_of_ble_eq_true rfl) (Nat.le_of_ble_eq_true rfl) d_A_giveRoundedDown_4 ?_
  refine ad_top (y := .int (nI ts.length)) (by rw [C.htt.1]) ?_
  refine lv_istore_n (lv' := [(3, .int (nI ts.length)), (0, .ref x), (1, .int (nI k0)), (2, .int (nI n0))]) hx hb d_A_giveRoundedDown_7 rfl hl (by decide) rfl (fun ls hl => ?_)
  refine lv_iload_n hx hb d_A_giveRoundedDown_8 rfl (lv_at hl 3 rfl) ?_
  refine lv_aload_n hx hb d_A_giveRoundedDown_9 rfl (lv_at hl 1 rfl) ?_
  refine lv_iload_n hx hb d_A_giveRoundedDown_10 rfl (lv_at hl 2 rfl) ?_
  refine ad_cPi S I (ad_ivV (As := [.int (nI k0)]) (rest := [.int (nI n0)]) S (ad_recv I C.hX K_AD) w_334 w_336 sp_A_countThings Y_A_countThings ⟨by decide, by decide, np_A_countThings⟩ rfl d_A_giveRoundedDown_11) (c_A_countThings l G lo hp x dA tA lA rA gA sA (nI k0) ta ts C.hX C.hA C.htt C.hn) Y_A_countThings hl.1 ⟨Nat.le_of_ble_eq_true rfl, Nat.le_of_ble_eq_true rfl⟩ (Nat.le_of_ble_eq_true rfl) (Nat.le_of_ble_eq_true rfl) d_A_giveRoundedDown_11 ?_
  refine lv_imul hx hb d_A_giveRoundedDown_14 ?_
  refine ad_top (y := .int (nI (n0 * sp_cn ts k0))) (congrArg Value.int (pk_mul _ _)) ?_
  refine lv_istore (lv' := [(4, .int (nI (n0 * sp_cn ts k0))), (3, .int (nI ts.length)), (0, .ref x), (1, .int (nI k0)), (2, .int (nI n0))]) hx hb d_A_giveRoundedDown_15 hl (by decide) rfl (fun ls hl => ?_)
  refine lv_aload_n hx hb d_A_giveRoundedDown_17 rfl (lv_at hl 2 rfl) ?_
  refine ad_get S I C.hX K_AD 4 (by decide) w_71 rfl d_A_giveRoundedDown_18 ?_
  refine lv_iload_n hx hb d_A_giveRoundedDown_21 rfl (lv_at hl 3 rfl) ?_
  refine lv_iload_n hx hb d_A_giveRoundedDown_22 rfl (lv_at hl 1 rfl) ?_
  refine lv_if_ne (tgt := 30) hx hb d_A_giveRoundedDown_23 (by decide) (fun c23 => ?_) (fun c23 => ?_)
  · have hz : 0 < ts.length := Nat.pos_of_ne_zero (fun h => c23 (by rw [h]; rfl))
    refine lv_iload hx hb d_A_giveRoundedDown_30 (lv_at hl 0 rfl) ?_
    refine lv_iload_n hx hb d_A_giveRoundedDown_32 rfl (lv_at hl 1 rfl) ?_
    refine lv_idiv hx hb d_A_giveRoundedDown_33 c23 ?_
    refine ad_iast S I C.hg (vp_in_nI (show k0 < 6 by omega) (by omega)) d_A_giveRoundedDown_34 (fun H1 locs1 I => ?_)
    obtain ⟨hp1, ehp1⟩ : ∃ z : ad_H, z = ad_up hp gA (.inl (G.2.1 0, 6, .inl (upd fg (nI k0).toNatClampNeg ((nI (n0 * sp_cn ts k0)) / (nI ts.length))))) := ⟨_, rfl⟩
    have I : ad_I G lo s hp1 H1 locs1 := by rw [ehp1]; exact I
    have fhp1_x := (show hp1 x = hp x by rw [ehp1]; exact ad_up_n _ (ad_ne C.hX C.hg (by simp))).trans C.hX
    have fhp1_tA := (show hp1 tA = hp tA by rw [ehp1]; exact ad_up_n _ (ad_ne htA C.hg (by simp))).trans htA
    have fhp1_gA : hp1 gA = some (.inl (G.2.1 0, 6, .inl (upd fg (nI k0).toNatClampNeg ((nI (n0 * sp_cn ts k0)) / (nI ts.length))))) := by rw [ehp1]; exact ad_up_s _ _ _
    have fhp1_sA := (show hp1 sA = hp sA by rw [ehp1]; exact ad_up_n _ ((C.2.2.2.2.1).symm)).trans C.hs
    have Ehp1 := ad_I.e I
    refine lv_aload_n hx hb d_A_giveRoundedDown_35 rfl (lv_at hl 2 rfl) ?_
    refine ad_get S I fhp1_x K_AD 5 (by decide) w_72 rfl d_A_giveRoundedDown_36 ?_
    refine lv_iload_n hx hb d_A_giveRoundedDown_39 rfl (lv_at hl 3 rfl) ?_
    refine lv_iload_n hx hb d_A_giveRoundedDown_40 rfl (lv_at hl 1 rfl) ?_
    refine lv_if_ne (tgt := 48) hx hb d_A_giveRoundedDown_41 (by decide) (fun c41 => ?_) (fun c41 => ?_)
    · refine lv_iload hx hb d_A_giveRoundedDown_48 (lv_at hl 0 rfl) ?_
      refine lv_iload_n hx hb d_A_giveRoundedDown_50 rfl (lv_at hl 1 rfl) ?_
      refine lv_irem hx hb d_A_giveRoundedDown_51 c23 ?_
      refine ad_iast S I fhp1_sA (vp_in_nI (show k0 < 6 by omega) (by omega)) d_A_giveRoundedDown_52 (fun H1 locs1 I => ?_)
      obtain ⟨hp2, ehp2⟩ : ∃ z : ad_H, z = ad_up hp1 sA (.inl (G.2.1 0, 6, .inl (upd fs (nI k0).toNatClampNeg ((nI (n0 * sp_cn ts k0)) - (nI (n0 * sp_cn ts k0)) / (nI ts.length) * (nI ts.length))))) := ⟨_, rfl⟩
      have I : ad_I G lo s hp2 H1 locs1 := by rw [ehp2]; exact I
      have fhp2_x := (show hp2 x = hp1 x by rw [ehp2]; exact ad_up_n _ (ad_ne fhp1_x fhp1_sA (by simp))).trans fhp1_x
      have fhp2_tA := (show hp2 tA = hp1 tA by rw [ehp2]; exact ad_up_n _ (ad_ne fhp1_tA fhp1_sA (by simp))).trans fhp1_tA
      have fhp2_gA := (show hp2 gA = hp1 gA by rw [ehp2]; exact ad_up_n _ (C.2.2.2.2.1)).trans fhp1_gA
      have fhp2_sA : hp2 sA = some (.inl (G.2.1 0, 6, .inl (upd fs (nI k0).toNatClampNeg ((nI (n0 * sp_cn ts k0)) - (nI (n0 * sp_cn ts k0)) / (nI ts.length) * (nI ts.length))))) := by rw [ehp2]; exact ad_up_s _ _ _
      have Ehp2 := ad_I.e I
      exact ad_vret M I (by omega) (by omega) (⟨rfl, by have h9 := ((C.give (fun z hz => by rw [ehp1, ad_up_n _ hz]) fhp1_gA Ehp1).1.rest (fun z hz => by rw [ehp2, ad_up_n _ hz]) fhp2_sA (ad_I.e I)).1; rw [show (nI k0).toNatClampNeg = k0 from nI_clamp (by omega), pk_rem (by omega) hz (by omega), pk_div (by omega) hz (by omega)] at h9; exact h9, (C.give (fun z hz => by rw [ehp1, ad_up_n _ hz]) fhp1_gA Ehp1).2.tr ((C.give (fun z hz => by rw [ehp1, ad_up_n _ hz]) fhp1_gA Ehp1).1.rest (fun z hz => by rw [ehp2, ad_up_n _ hz]) fhp2_sA (ad_I.e I)).2⟩) d_A_giveRoundedDown_53
    · exact absurd c41 c23
  · have hz : ts.length = 0 := (nI_eq (by omega) (by omega)).mp c23
    have hz0 : ts = [] := List.length_eq_zero_iff.mp hz
    refine lv_iconst (v := 0) hx hb d_A_giveRoundedDown_26 (by decide) ?_
    refine lv_goto (tgt := 34) hx hb d_A_giveRoundedDown_27 (by decide) ?_
    refine ad_iast S I C.hg (vp_in_nI (show k0 < 6 by omega) (by omega)) d_A_giveRoundedDown_34 (fun H1 locs1 I => ?_)
    obtain ⟨hp3, ehp3⟩ : ∃ z : ad_H, z = ad_up hp gA (.inl (G.2.1 0, 6, .inl (upd fg (nI k0).toNatClampNeg 0))) := ⟨_, rfl⟩
    have I : ad_I G lo s hp3 H1 locs1 := by rw [ehp3]; exact I
    have fhp3_x := (show hp3 x = hp x by rw [ehp3]; exact ad_up_n _ (ad_ne C.hX C.hg (by simp))).trans C.hX
    have fhp3_tA := (show hp3 tA = hp tA by rw [ehp3]; exact ad_up_n _ (ad_ne htA C.hg (by simp))).trans htA
    have fhp3_gA : hp3 gA = some (.inl (G.2.1 0, 6, .inl (upd fg (nI k0).toNatClampNeg 0))) := by rw [ehp3]; exact ad_up_s _ _ _
    have fhp3_sA := (show hp3 sA = hp sA by rw [ehp3]; exact ad_up_n _ ((C.2.2.2.2.1).symm)).trans C.hs
    have Ehp3 := ad_I.e I
    refine lv_aload_n hx hb d_A_giveRoundedDown_35 rfl (lv_at hl 2 rfl) ?_
    refine ad_get S I fhp3_x K_AD 5 (by decide) w_72 rfl d_A_giveRoundedDown_36 ?_
    refine lv_iload_n hx hb d_A_giveRoundedDown_39 rfl (lv_at hl 3 rfl) ?_
    refine lv_iload_n hx hb d_A_giveRoundedDown_40 rfl (lv_at hl 1 rfl) ?_
    refine lv_if_ne (tgt := 48) hx hb d_A_giveRoundedDown_41 (by decide) (fun c41 => ?_) (fun c41 => ?_)
    · exact absurd c23 c41
    · refine lv_iconst (v := 0) hx hb d_A_giveRoundedDown_44 (by decide) ?_
      refine lv_goto (tgt := 52) hx hb d_A_giveRoundedDown_45 (by decide) ?_
      refine ad_iast S I fhp3_sA (vp_in_nI (show k0 < 6 by omega) (by omega)) d_A_giveRoundedDown_52 (fun H1 locs1 I => ?_)
      obtain ⟨hp4, ehp4⟩ : ∃ z : ad_H, z = ad_up hp3 sA (.inl (G.2.1 0, 6, .inl (upd fs (nI k0).toNatClampNeg 0))) := ⟨_, rfl⟩
      have I : ad_I G lo s hp4 H1 locs1 := by rw [ehp4]; exact I
      have fhp4_x := (show hp4 x = hp3 x by rw [ehp4]; exact ad_up_n _ (ad_ne fhp3_x fhp3_sA (by simp))).trans fhp3_x
      have fhp4_tA := (show hp4 tA = hp3 tA by rw [ehp4]; exact ad_up_n _ (ad_ne fhp3_tA fhp3_sA (by simp))).trans fhp3_tA
      have fhp4_gA := (show hp4 gA = hp3 gA by rw [ehp4]; exact ad_up_n _ (C.2.2.2.2.1)).trans fhp3_gA
      have fhp4_sA : hp4 sA = some (.inl (G.2.1 0, 6, .inl (upd fs (nI k0).toNatClampNeg 0))) := by rw [ehp4]; exact ad_up_s _ _ _
      have Ehp4 := ad_I.e I
      exact ad_vret M I (by omega) (by omega) (⟨rfl, by have h9 := ((C.give (fun z hz => by rw [ehp3, ad_up_n _ hz]) fhp3_gA Ehp3).1.rest (fun z hz => by rw [ehp4, ad_up_n _ hz]) fhp4_sA (ad_I.e I)).1; rw [show (nI k0).toNatClampNeg = k0 from nI_clamp (by omega)] at h9; rw [show sp_f ts n0 k0 = 0 from by simp [sp_f, hz], show sp_r ts n0 k0 = 0 from by simp [sp_r, sp_cn, hz0]]; exact h9, (C.give (fun z hz => by rw [ehp3, ad_up_n _ hz]) fhp3_gA Ehp3).2.tr ((C.give (fun z hz => by rw [ehp3, ad_up_n _ hz]) fhp3_gA Ehp3).1.rest (fun z hz => by rw [ehp4, ad_up_n _ hz]) fhp4_sA (ad_I.e I)).2⟩) d_A_giveRoundedDown_53
theorem gb_k {fs : Nat → Int32} {j b : Nat} (h : ∀ o9, o9 < j → fs o9 < fs b ∨ (fs o9 = fs b ∧ b ≤ o9)) (c : fs j ≤ fs b) (hb : b < j := by omega) : ∀ o9, o9 < j + 1 → fs o9 < fs b ∨ (fs o9 = fs b ∧ b ≤ o9) := by
  intro o9 h9
  rcases Nat.lt_or_ge o9 j with q | q
  · exact h o9 q
  · obtain rfl : o9 = j := by omega
    rcases Int32.lt_or_eq_of_le c with q2 | q2
    · exact Or.inl q2
    · exact Or.inr ⟨q2, by omega⟩
theorem gb_n {fs : Nat → Int32} {j b : Nat} (h : ∀ o9, o9 < j → fs o9 < fs b ∨ (fs o9 = fs b ∧ b ≤ o9)) (c : ¬ fs j ≤ fs b) : ∀ o9, o9 < j + 1 → fs o9 < fs j ∨ (fs o9 = fs j ∧ j ≤ o9) := by
  have c2 := Int32.not_le.mp c
  intro o9 h9
  rcases Nat.lt_or_ge o9 j with q | q
  · rcases h o9 q with q2 | q2
    · exact Or.inl (Int32.lt_trans q2 c2)
    · exact Or.inl (by rw [q2.1]; exact c2)
  · obtain rfl : o9 = j := by omega
    exact Or.inr ⟨rfl, Nat.le_refl _⟩
set_option maxHeartbeats 4000000 in
set_option maxRecDepth 100000 in
theorem c_A_giveOne (l : Launch) (G : ad_G) (lo : Nat) (hp : ad_H) (x dA tA lA rA gA sA : Nat) (ta ros : List Nat) (ts : List TH) (la lt rr rw : List Nat) (sd : Int64) (fg fs : Nat → Int32)  (C : CR G hp x dA tA lA rA gA sA ta ros ts la lt rr rw sd fg fs) : ad_Ct l y_A_giveOneByGreatestRest b_A_giveOneByGreatestRest 3 rt_A_giveOneByGreatestRest hs_A_giveOneByGreatestRest 1 0 0 G lo hp [.ref x] (fun r hp' => r = .inl none ∧ ∃ b : Nat, b < 6 ∧ (∀ o9, o9 < 6 → fs o9 < fs b ∨ (fs o9 = fs b ∧ b ≤ o9)) ∧ CR G hp' x dA tA lA rA gA sA ta ros ts la lt rr rw sd (upd fg b (fg b + 1)) (upd fs b (-1)) ∧ fr gA sA hp hp') := by
  intro p e s m below meth c M hts hB hP
  have hx := M.1
  have hb := M.2.1
  have hml := M.2.2.1
  have hown : s.vm.findClass "AuditDraws" = some m.cls := M.2.2.2.1
  have S : CallFix p m c b_A_giveOneByGreatestRest 3 s _ ad_T "AuditDraws" := ⟨hx, hb, hml, hown, hts⟩
  have I : ad_I G lo s hp s.heap [] := ad_I.rf hB hP
  have hl := lv_entry ([.ref x]) (n := 3) (Nat.le_of_ble_eq_true rfl)
  rw [lg_entry_eq]
  generalize (lg_sl ([.ref x]) ++ List.replicate (3 - (lg_sl ([.ref x])).length) Slot.unset).toArray = ls at hl ⊢
  have hl : lv_has ls 3 [(0, .ref x)] := hl
  have loop : ∀ (n : Nat) (j b : Nat), (6 < j + n ∧ j ≤ 6 ∧ b < j ∧ ∀ o9, o9 < j → fs o9 < fs b ∨ (fs o9 = fs b ∧ b ≤ o9)) → ∀ ls : Array Slot, lv_has ls 3 [(0, .ref x), (1, .int (nI b)), (2, .int (nI j))] → W p l e (ad_rm 1 0 0) s m ([.ref x] : List Value).toArray below meth c s.heap [] 0 0 (ad_Z below G lo (fun r hp' => r = .inl none ∧ ∃ b : Nat, b < 6 ∧ (∀ o9, o9 < 6 → fs o9 < fs b ∨ (fs o9 = fs b ∧ b ≤ o9)) ∧ CR G hp' x dA tA lA rA gA sA ta ros ts la lt rr rw sd (upd fg b (fg b + 1)) (upd fs b (-1)) ∧ fr gA sA hp hp') s 0 0) (F0 m 4 ls []) := by
    intro n
    induction n with
    | zero => intro j b h0; exact absurd h0 (by omega)
    | succ n ih =>
      intro j b h0  ls hl
      refine lv_iload_n hx hb d_A_giveOneByGreatestRest_4 rfl (lv_at hl 2 rfl) ?_
      refine lv_bipush (v := 6) hx hb d_A_giveOneByGreatestRest_5 (by decide) ?_
      refine lv_icmp_ge (tgt := 33) hx hb d_A_giveOneByGreatestRest_7 (by decide) (fun c7 => ?_) (fun c7 => ?_)
      · obtain rfl : j = 6 := by have := ad_ge (j := j) (n := 6) (by omega) (by omega) c7; omega
        refine lv_aload_n hx hb d_A_giveOneByGreatestRest_33 rfl (lv_at hl 0 rfl) ?_
        refine ad_get S I C.hX K_AD 4 (by decide) w_71 rfl d_A_giveOneByGreatestRest_34 ?_
        refine lv_iload_n hx hb d_A_giveOneByGreatestRest_37 rfl (lv_at hl 1 rfl) ?_
        refine lv_dup2_11 hx hb d_A_giveOneByGreatestRest_38 rfl rfl ?_
        refine ad_iald S I C.hg (vp_in_nI (show b < 6 by omega) (by omega)) d_A_giveOneByGreatestRest_39 ?_
        refine lv_iconst (v := 1) hx hb d_A_giveOneByGreatestRest_40 (by decide) ?_
        refine lv_iadd hx hb d_A_giveOneByGreatestRest_41 ?_
        refine ad_iast S I C.hg (vp_in_nI (show b < 6 by omega) (by omega)) d_A_giveOneByGreatestRest_42 (fun H1 locs1 I => ?_)
        obtain ⟨hp101, ehp101⟩ : ∃ z : ad_H, z = ad_up hp gA (.inl (G.2.1 0, 6, .inl (upd fg (nI b).toNatClampNeg ((fg (nI b).toNatClampNeg) + 1)))) := ⟨_, rfl⟩
        have I : ad_I G lo s hp101 H1 locs1 := by rw [ehp101]; exact I
        have fhp101_x := (show hp101 x = hp x by rw [ehp101]; exact ad_up_n _ (ad_ne C.hX C.hg (by simp))).trans C.hX
        have fhp101_gA : hp101 gA = some (.inl (G.2.1 0, 6, .inl (upd fg (nI b).toNatClampNeg ((fg (nI b).toNatClampNeg) + 1)))) := by rw [ehp101]; exact ad_up_s _ _ _
        have fhp101_sA := (show hp101 sA = hp sA by rw [ehp101]; exact ad_up_n _ ((C.2.2.2.2.1).symm)).trans C.hs
        have Ehp101 := ad_I.e I
        refine lv_aload_n hx hb d_A_giveOneByGreatestRest_43 rfl (lv_at hl 0 rfl) ?_
        refine ad_get S I fhp101_x K_AD 5 (by decide) w_72 rfl d_A_giveOneByGreatestRest_44 ?_
        refine lv_iload_n hx hb d_A_giveOneByGreatestRest_47 rfl (lv_at hl 1 rfl) ?_
        refine lv_iconst (v := (-1)) hx hb d_A_giveOneByGreatestRest_48 (by decide) ?_
        refine ad_iast S I fhp101_sA (vp_in_nI (show b < 6 by omega) (by omega)) d_A_giveOneByGreatestRest_49 (fun H1 locs1 I => ?_)
        obtain ⟨hp102, ehp102⟩ : ∃ z : ad_H, z = ad_up hp101 sA (.inl (G.2.1 0, 6, .inl (upd fs (nI b).toNatClampNeg (-1)))) := ⟨_, rfl⟩
        have I : ad_I G lo s hp102 H1 locs1 := by rw [ehp102]; exact I
        have fhp102_x := (show hp102 x = hp101 x by rw [ehp102]; exact ad_up_n _ (ad_ne fhp101_x fhp101_sA (by simp))).trans fhp101_x
        have fhp102_gA := (show hp102 gA = hp101 gA by rw [ehp102]; exact ad_up_n _ (C.2.2.2.2.1)).trans fhp101_gA
        have fhp102_sA : hp102 sA = some (.inl (G.2.1 0, 6, .inl (upd fs (nI b).toNatClampNeg (-1)))) := by rw [ehp102]; exact ad_up_s _ _ _
        have Ehp102 := ad_I.e I
        exact ad_vret M I (by omega) (by omega) (⟨rfl, b, h0.2.2.1, h0.2.2.2, by have h9 := ((C.give (fun z hz => by rw [ehp101, ad_up_n _ hz]) fhp101_gA Ehp101).1.rest (fun z hz => by rw [ehp102, ad_up_n _ hz]) fhp102_sA (ad_I.e I)).1; rw [show (nI b).toNatClampNeg = b from nI_clamp (by omega)] at h9; exact h9, (C.give (fun z hz => by rw [ehp101, ad_up_n _ hz]) fhp101_gA Ehp101).2.tr ((C.give (fun z hz => by rw [ehp101, ad_up_n _ hz]) fhp101_gA Ehp101).1.rest (fun z hz => by rw [ehp102, ad_up_n _ hz]) fhp102_sA (ad_I.e I)).2⟩) d_A_giveOneByGreatestRest_50
      · have hj : j < 6 := ad_lt (n := 6) (by omega) (by omega) c7
        refine lv_aload_n hx hb d_A_giveOneByGreatestRest_10 rfl (lv_at hl 0 rfl) ?_
        refine ad_get S I C.hX K_AD 5 (by decide) w_72 rfl d_A_giveOneByGreatestRest_11 ?_
        refine lv_iload_n hx hb d_A_giveOneByGreatestRest_14 rfl (lv_at hl 2 rfl) ?_
        refine ad_iald S I C.hs (vp_in_nI (show j < 6 by omega) (by omega)) d_A_giveOneByGreatestRest_15 ?_
        refine lv_aload_n hx hb d_A_giveOneByGreatestRest_16 rfl (lv_at hl 0 rfl) ?_
        refine ad_get S I C.hX K_AD 5 (by decide) w_72 rfl d_A_giveOneByGreatestRest_17 ?_
        refine lv_iload_n hx hb d_A_giveOneByGreatestRest_20 rfl (lv_at hl 1 rfl) ?_
        refine ad_iald S I C.hs (vp_in_nI (show b < 6 by omega) (by omega)) d_A_giveOneByGreatestRest_21 ?_
        refine lv_icmp_le (tgt := 27) hx hb d_A_giveOneByGreatestRest_22 (by decide) (fun c22 => ?_) (fun c22 => ?_)
        · rw [show (nI j).toNatClampNeg = j from nI_clamp (by omega), show (nI b).toNatClampNeg = b from nI_clamp (by omega)] at c22
          refine lv_iinc (v := (nI (j + 1))) (lv' := [(2, .int (nI (j + 1))), (0, .ref x), (1, .int (nI b))]) hx hb d_A_giveOneByGreatestRest_27 hl (k := 2) rfl (nI_1 j) (by decide) rfl (fun ls hl => ?_)
          refine lv_goto (tgt := 4) hx hb d_A_giveOneByGreatestRest_30 (by decide) ?_
          exact ih (j + 1) b ⟨by omega, by omega, by omega, gb_k h0.2.2.2 c22⟩ ls (lv_sub hl [1, 2, 0] rfl)
        · rw [show (nI j).toNatClampNeg = j from nI_clamp (by omega), show (nI b).toNatClampNeg = b from nI_clamp (by omega)] at c22
          refine lv_iload_n hx hb d_A_giveOneByGreatestRest_25 rfl (lv_at hl 2 rfl) ?_
          refine lv_istore_n (lv' := [(1, .int (nI j)), (0, .ref x), (2, .int (nI j))]) hx hb d_A_giveOneByGreatestRest_26 rfl hl (by decide) rfl (fun ls hl => ?_)
          refine lv_iinc (v := (nI (j + 1))) (lv' := [(2, .int (nI (j + 1))), (1, .int (nI j)), (0, .ref x)]) hx hb d_A_giveOneByGreatestRest_27 hl (k := 2) rfl (nI_1 j) (by decide) rfl (fun ls hl => ?_)
          refine lv_goto (tgt := 4) hx hb d_A_giveOneByGreatestRest_30 (by decide) ?_
          exact ih (j + 1) j ⟨by omega, by omega, by omega, gb_n h0.2.2.2 c22⟩ ls (lv_sub hl [2, 1, 0] rfl)
  refine lv_iconst (v := 0) hx hb d_A_giveOneByGreatestRest_0 (by decide) ?_
  refine lv_istore_n (lv' := [(1, .int 0), (0, .ref x)]) hx hb d_A_giveOneByGreatestRest_1 rfl hl (by decide) rfl (fun ls hl => ?_)
  refine lv_iconst (v := 1) hx hb d_A_giveOneByGreatestRest_2 (by decide) ?_
  refine lv_istore_n (lv' := [(2, .int 1), (1, .int 0), (0, .ref x)]) hx hb d_A_giveOneByGreatestRest_3 rfl hl (by decide) rfl (fun ls hl => ?_)
  exact loop 7 1 0 ⟨by omega, by omega, by omega, fun o9 h9 => Or.inr ⟨by rw [show o9 = 0 by omega], by omega⟩⟩ ls (lv_sub hl [2, 1, 0] rfl)
