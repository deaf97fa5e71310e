theorem q_j {ts : List TH} {v : Int32} {j : Nat} {t : TH} (hv : v = nI j) (h : ts[j]? = some t) (hn : ts.length ≤ 64) : v.toNatClampNeg = j := by
  have hj : j < ts.length := (List.getElem?_eq_some_iff.mp h).1
  rw [hv]
  exact nI_clamp (by omega)
abbrev th_s (t : TH) (v : Int32) : TH := (t.1, t.2.1, v, t.2.2.2.1, t.2.2.2.2)
def q_ck (ts : List TH) (v a0 b0 p0 : Int32) : (Nat × Int32) × List TH := match sp_at ts v with
  | none => ((1, 0), ts)
  | some t => if okb a0 10 ∧ okb b0 10 ∧ okb p0 16 then (if t.2.2.1 = -1 then ((2, 0), ts) else if a0 = b0 then ((0, 2), ts) else if t.2.1 = p0 then ((0, 0), ts.set v.toNatClampNeg (th_s t 1)) else ((0, 1), ts.set v.toNatClampNeg (t.1, p0, 2, t.2.2.2.1, t.2.2.2.2))) else ((1, 0), ts)
def q_gn (ts : List TH) (v : Int32) : (Nat × Int32) × List TH := match sp_at ts v with
  | none => ((1, 0), ts)
  | some t => if t.2.2.1 = -1 then ((2, 0), ts) else ((0, if t.2.2.1 = 3 then 0 else 1), ts.set v.toNatClampNeg (th_s t 3))
def sp_abs (x : Int32) : Int32 := if 0 ≤ x then x else 0 - x
def q_wt (ts : List TH) (v g0 : Int32) : (Nat × Int32) × List TH := match sp_at ts v with
  | none => ((1, 0), ts)
  | some t => if g0 < 1 ∨ ¬ g0 ≤ 1000000000 then ((2, 0), ts) else ((0, sp_abs (g0 - if t.2.2.2.1 = 0 then g0 else t.2.2.2.1)), ts.set v.toNatClampNeg (t.1, t.2.1, t.2.2.1, g0, t.2.2.2.2))
def q_th (ts : List TH) (s0 p0 : Int32) : (Nat × Int32) × List TH := if okb s0 6 ∧ okb p0 16 then (if ts.length < 64 then ((0, nI ts.length), ts ++ [(s0, p0, -1, 0, [])]) else ((2, 0), ts)) else ((1, 0), ts)
def q_tg (ts : List TH) (v h0 p0 d0 : Int32) : (Nat × Int32) × List TH := match sp_at ts v with
  | none => ((1, 0), ts)
  | some t => if okb p0 16 then (if okh h0 ∧ okh d0 ∧ ¬ d0 < h0 then (if t.2.2.2.2.length < 24 then ((0, nI (t.2.2.2.2.length + 1)), ts.set v.toNatClampNeg (t.1, t.2.1, t.2.2.1, t.2.2.2.1, t.2.2.2.2 ++ [(h0, p0, d0)])) else ((3, 0), ts)) else ((2, 0), ts)) else ((1, 0), ts)
set_option maxHeartbeats 4000000 in
set_option maxRecDepth 100000 in
theorem c_A_check (l : Launch) (G : ad_G) (lo : Nat) (hp : ad_H) (x dA tA lA rA gA sA : Nat) (ta ros : List Nat) (ts : List TH) (la lt rr rw : List Nat) (sd : Int64) (fg fs : Nat → Int32) (v a0 b0 p0 : Int32)  (hT : l.stackTraces = false) (C : CR G hp x dA tA lA rA gA sA ta ros ts la lt rr rw sd fg fs) : ad_Ct l y_A_check b_A_check 6 rt_A_check hs_A_check 8 1 6 G lo hp [.ref x, .int v, .int a0, .int b0, .int p0] (fun r hp' => r = q_ans [ad_NSE, ad_ISE] (q_ck ts v a0 b0 p0).1 ∧ CR G hp' x dA tA lA rA gA sA ta ros ((q_ck ts v a0 b0 p0).2) la lt rr rw sd fg fs ∧ fr gA sA hp hp') := by
  intro p e s m below meth c M hts hB hP
  have hx := M.1
  have hb := M.2.1
  have hml := M.2.2.1
  have hown : s.vm.findClass "AuditDraws" = some m.cls := M.2.2.2.1
  have S : CallFix p m c b_A_check 6 s _ ad_T "AuditDraws" := ⟨hx, hb, hml, hown, hts⟩
  have I : ad_I G lo s hp s.heap [] := ad_I.rf hB hP
  have hl := lv_entry ([.ref x, .int v, .int a0, .int b0, .int p0]) (n := 6) (Nat.le_of_ble_eq_true rfl)
  rw [lg_entry_eq]
  generalize (lg_sl ([.ref x, .int v, .int a0, .int b0, .int p0]) ++ List.replicate (6 - (lg_sl ([.ref x, .int v, .int a0, .int b0, .int p0])).length) Slot.unset).toArray = ls at hl ⊢
  have hl : lv_has ls 6 [(0, .ref x), (1, .int v), (2, .int a0), (3, .int b0), (4, .int p0)] := hl
  have hX := C.hX
  have hL := C.hA
  have hTT := C.htt
  have hn := C.hn
  have hD := C.hD
  obtain ⟨_, htA⟩ := C.hA.self
  refine lv_aload_n hx hb d_A_check_0 rfl (lv_at hl 0 rfl) ?_
  refine lv_iload_n hx hb d_A_check_1 rfl (lv_at hl 1 rfl) ?_
  refine ad_cP S I (ad_ivV (As := [.int v]) (rest := []) S (ad_recv I hX K_AD) w_374 w_376 sp_A_existing Y_A_existing ⟨by decide, by decide, np_A_existing⟩ rfl d_A_check_2) (c_A_existing l G lo hp x dA tA lA rA gA sA v ta ts hT hX hL hTT hn) Y_A_existing hl.1 ⟨Nat.le_of_ble_eq_true rfl, Nat.le_of_ble_eq_true rfl⟩ (Nat.le_of_ble_eq_true rfl) (Nat.le_of_ble_eq_true rfl) d_A_check_2 (fun v9 h9 => ?_) (fun C9 H1 x9 cell h9 h1 h2 h3 h4 h5 => ?_)
  · obtain ⟨j, t, y, ra, hv, ht, hy, hty, hr9⟩ | ⟨-, hr9⟩ := h9
    case inr => cases hr9
    cases hr9
    refine lv_astore (lv' := [(5, .ref y), (0, .ref x), (1, .int v), (2, .int a0), (3, .int b0), (4, .int p0)]) hx hb d_A_check_5 hl (by decide) rfl (fun ls hl => ?_)
    refine lv_iload_n hx hb d_A_check_7 rfl (lv_at hl 3 rfl) ?_
    refine lv_bipush (v := 10) hx hb d_A_check_8 (by decide) ?_
    refine ad_cPg S I (ad_ivS (As := [.int a0, .int 10]) (rest := []) S Y_A_needBelow w_100 w_101 w_1 ⟨by decide, by decide, np_A_needBelow⟩ rfl d_A_check_10) (c_A_needBelow l G lo hp a0 10 hT) Y_A_needBelow hl.1 ⟨Nat.le_of_ble_eq_true rfl, Nat.le_of_ble_eq_true rfl⟩ (Nat.le_of_ble_eq_true rfl) (Nat.le_of_ble_eq_true rfl) d_A_check_10 (fun g10 => ?_) (fun g10 H1 x cell h1 h2 h3 h4 h5 => ?_)
    · refine lv_iload_n hx hb d_A_check_13 rfl (lv_at hl 4 rfl) ?_
      refine lv_bipush (v := 10) hx hb d_A_check_14 (by decide) ?_
      refine ad_cPg S I (ad_ivS (As := [.int b0, .int 10]) (rest := []) S Y_A_needBelow w_100 w_101 w_1 ⟨by decide, by decide, np_A_needBelow⟩ rfl d_A_check_16) (c_A_needBelow l G lo hp b0 10 hT) Y_A_needBelow hl.1 ⟨Nat.le_of_ble_eq_true rfl, Nat.le_of_ble_eq_true rfl⟩ (Nat.le_of_ble_eq_true rfl) (Nat.le_of_ble_eq_true rfl) d_A_check_16 (fun g16 => ?_) (fun g16 H1 x cell h1 h2 h3 h4 h5 => ?_)
      · refine lv_iload hx hb d_A_check_19 (lv_at hl 5 rfl) ?_
        refine lv_bipush (v := 16) hx hb d_A_check_21 (by decide) ?_
        refine ad_cPg S I (ad_ivS (As := [.int p0, .int 16]) (rest := []) S Y_A_needBelow w_100 w_101 w_1 ⟨by decide, by decide, np_A_needBelow⟩ rfl d_A_check_23) (c_A_needBelow l G lo hp p0 16 hT) Y_A_needBelow hl.1 ⟨Nat.le_of_ble_eq_true rfl, Nat.le_of_ble_eq_true rfl⟩ (Nat.le_of_ble_eq_true rfl) (Nat.le_of_ble_eq_true rfl) d_A_check_23 (fun g23 => ?_) (fun g23 H1 x cell h1 h2 h3 h4 h5 => ?_)
        · refine lv_aload hx hb d_A_check_26 (lv_at hl 0 rfl) ?_
          refine ad_cPg S I (ad_ivS (As := [.ref y]) (rest := []) S Y_A_needListed w_378 w_379 w_1 ⟨by decide, by decide, np_A_needListed⟩ rfl d_A_check_28) (c_A_needListed l G lo hp j t y ra hT hty) Y_A_needListed hl.1 ⟨Nat.le_of_ble_eq_true rfl, Nat.le_of_ble_eq_true rfl⟩ (Nat.le_of_ble_eq_true rfl) (Nat.le_of_ble_eq_true rfl) d_A_check_28 (fun g28 => ?_) (fun g28 H1 x cell h1 h2 h3 h4 h5 => ?_)
          · refine lv_iload_n hx hb d_A_check_31 rfl (lv_at hl 3 rfl) ?_
            refine lv_iload_n hx hb d_A_check_32 rfl (lv_at hl 4 rfl) ?_
            refine lv_icmp_ne (tgt := 38) hx hb d_A_check_33 (by decide) (fun c33 => ?_) (fun c33 => ?_)
            · refine lv_aload hx hb d_A_check_38 (lv_at hl 0 rfl) ?_
              refine ad_get S I hty K_Thing 3 (by decide) w_206 rfl d_A_check_40 ?_
              refine lv_iload hx hb d_A_check_43 (lv_at hl 5 rfl) ?_
              refine lv_icmp_ne (tgt := 56) hx hb d_A_check_45 (by decide) (fun c45 => ?_) (fun c45 => ?_)
              · refine lv_aload hx hb d_A_check_56 (lv_at hl 0 rfl) ?_
                refine lv_iconst (v := 2) hx hb d_A_check_58 (by decide) ?_
                refine ad_put S I hty K_Thing 4 (by decide) w_208 rfl rfl rfl (by simp) d_A_check_59 (fun H1 locs1 I => ?_)
                obtain ⟨hp1, ehp1⟩ : ∃ z : ad_H, z = ad_up hp y (.inr (1, [.int (nI j), .int t.1, .ref ra, .int t.2.1, .int 2, .int t.2.2.2.1])) := ⟨_, rfl⟩
                have I : ad_I G lo s hp1 H1 locs1 := by rw [ehp1]; exact I
                have fhp1_x := (show hp1 x = hp x by rw [ehp1]; exact ad_up_n _ (ad_ne hX hty (by simp))).trans hX
                have fhp1_tA := (show hp1 tA = hp tA by rw [ehp1]; exact ad_up_n _ (ad_ne htA hty (by simp))).trans htA
                have fhp1_dA := (show hp1 dA = hp dA by rw [ehp1]; exact ad_up_n _ (ad_ne hD hty (by simp))).trans hD
                have fhp1_y : hp1 y = some (.inr (1, [.int (nI j), .int t.1, .ref ra, .int t.2.1, .int 2, .int t.2.2.2.1])) := by rw [ehp1]; exact ad_up_s _ _ _
                refine lv_aload hx hb d_A_check_62 (lv_at hl 0 rfl) ?_
                refine lv_iload hx hb d_A_check_64 (lv_at hl 5 rfl) ?_
                refine ad_put S I fhp1_y K_Thing 3 (by decide) w_206 rfl rfl rfl (by simp) d_A_check_66 (fun H1 locs1 I => ?_)
                obtain ⟨hp2, ehp2⟩ : ∃ z : ad_H, z = ad_up hp1 y (.inr (1, [.int (nI j), .int t.1, .ref ra, .int p0, .int 2, .int t.2.2.2.1])) := ⟨_, rfl⟩
                have I : ad_I G lo s hp2 H1 locs1 := by rw [ehp2]; exact I
                have fhp2_x := (show hp2 x = hp1 x by rw [ehp2]; exact ad_up_n _ (ad_ne fhp1_x fhp1_y (by simp))).trans fhp1_x
                have fhp2_tA := (show hp2 tA = hp1 tA by rw [ehp2]; exact ad_up_n _ (ad_ne fhp1_tA fhp1_y (by simp))).trans fhp1_tA
                have fhp2_dA := (show hp2 dA = hp1 dA by rw [ehp2]; exact ad_up_n _ (ad_ne fhp1_dA fhp1_y (by simp))).trans fhp1_dA
                have fhp2_y : hp2 y = some (.inr (1, [.int (nI j), .int t.1, .ref ra, .int p0, .int 2, .int t.2.2.2.1])) := by rw [ehp2]; exact ad_up_s _ _ _
                refine lv_iconst (v := 1) hx hb d_A_check_69 (by decide) ?_
                exact ad_iret M I rfl (by omega) (by omega) (⟨by rw [(show q_ck ts v a0 b0 p0 = ((0, 1), ts.set j (t.1, p0, 2, t.2.2.2.1, t.2.2.2.2)) by simp only [q_ck]; rw [sp_at_n hv ht hn]; simp only; rw [if_pos ⟨g10, g16, g23⟩, if_neg g28, if_neg c33, if_neg c45, q_j hv ht hn])]; rfl, by rw [(show q_ck ts v a0 b0 p0 = ((0, 1), ts.set j (t.1, p0, 2, t.2.2.2.1, t.2.2.2.2)) by simp only [q_ck]; rw [sp_at_n hv ht hn]; simp only; rw [if_pos ⟨g10, g16, g23⟩, if_neg g28, if_neg c33, if_neg c45, q_j hv ht hn])]; exact (C.thing (t' := (t.1, p0, 2, t.2.2.2.1, t.2.2.2.2)) ht hy hty rfl (fun z hz => by rw [ehp2, ad_up_n _ hz, ehp1, ad_up_n _ hz]) fhp2_y (ad_I.e I)).1, (C.thing (t' := (t.1, p0, 2, t.2.2.2.1, t.2.2.2.2)) ht hy hty rfl (fun z hz => by rw [ehp2, ad_up_n _ hz, ehp1, ad_up_n _ hz]) fhp2_y (ad_I.e I)).2⟩) d_A_check_70
              · refine lv_aload hx hb d_A_check_48 (lv_at hl 0 rfl) ?_
                refine lv_iconst (v := 1) hx hb d_A_check_50 (by decide) ?_
                refine ad_put S I hty K_Thing 4 (by decide) w_208 rfl rfl rfl (by simp) d_A_check_51 (fun H1 locs1 I => ?_)
                obtain ⟨hp3, ehp3⟩ : ∃ z : ad_H, z = ad_up hp y (.inr (1, [.int (nI j), .int t.1, .ref ra, .int t.2.1, .int 1, .int t.2.2.2.1])) := ⟨_, rfl⟩
                have I : ad_I G lo s hp3 H1 locs1 := by rw [ehp3]; exact I
                have fhp3_x := (show hp3 x = hp x by rw [ehp3]; exact ad_up_n _ (ad_ne hX hty (by simp))).trans hX
                have fhp3_tA := (show hp3 tA = hp tA by rw [ehp3]; exact ad_up_n _ (ad_ne htA hty (by simp))).trans htA
                have fhp3_dA := (show hp3 dA = hp dA by rw [ehp3]; exact ad_up_n _ (ad_ne hD hty (by simp))).trans hD
                have fhp3_y : hp3 y = some (.inr (1, [.int (nI j), .int t.1, .ref ra, .int t.2.1, .int 1, .int t.2.2.2.1])) := by rw [ehp3]; exact ad_up_s _ _ _
                refine lv_iconst (v := 0) hx hb d_A_check_54 (by decide) ?_
                exact ad_iret M I rfl (by omega) (by omega) (⟨by rw [(show q_ck ts v a0 b0 p0 = ((0, 0), ts.set j (th_s t 1)) by simp only [q_ck]; rw [sp_at_n hv ht hn]; simp only; rw [if_pos ⟨g10, g16, g23⟩, if_neg g28, if_neg c33, if_pos c45, q_j hv ht hn])]; rfl, by rw [(show q_ck ts v a0 b0 p0 = ((0, 0), ts.set j (th_s t 1)) by simp only [q_ck]; rw [sp_at_n hv ht hn]; simp only; rw [if_pos ⟨g10, g16, g23⟩, if_neg g28, if_neg c33, if_pos c45, q_j hv ht hn])]; exact (C.thing (t' := th_s t 1) ht hy hty rfl (fun z hz => by rw [ehp3, ad_up_n _ hz]) fhp3_y (ad_I.e I)).1, (C.thing (t' := th_s t 1) ht hy hty rfl (fun z hz => by rw [ehp3, ad_up_n _ hz]) fhp3_y (ad_I.e I)).2⟩) d_A_check_55
            · refine lv_iconst (v := 2) hx hb d_A_check_36 (by decide) ?_
              exact ad_iret M I rfl (by omega) (by omega) (⟨by rw [(show q_ck ts v a0 b0 p0 = ((0, 2), ts) by simp only [q_ck]; rw [sp_at_n hv ht hn]; simp only; rw [if_pos ⟨g10, g16, g23⟩, if_neg g28, if_pos c33])]; rfl, by rw [(show q_ck ts v a0 b0 p0 = ((0, 2), ts) by simp only [q_ck]; rw [sp_at_n hv ht hn]; simp only; rw [if_pos ⟨g10, g16, g23⟩, if_neg g28, if_pos c33])]; exact C, fr.rf _ _ _⟩) d_A_check_37
          · exact ad_out M (I.grown h1 h2) h3 h4 h5 (by decide) (by decide) (by decide) (⟨by rw [(show q_ck ts v a0 b0 p0 = ((2, 0), ts) by simp only [q_ck]; rw [sp_at_n hv ht hn]; simp only; rw [if_pos ⟨g10, g16, g23⟩, if_pos (Decidable.not_not.mp g28)])]; rfl, by rw [(show q_ck ts v a0 b0 p0 = ((2, 0), ts) by simp only [q_ck]; rw [sp_at_n hv ht hn]; simp only; rw [if_pos ⟨g10, g16, g23⟩, if_pos (Decidable.not_not.mp g28)])]; exact C, fr.rf _ _ _⟩)
        · exact ad_out M (I.grown h1 h2) h3 h4 h5 (by decide) (by decide) (by decide) (⟨by rw [(show q_ck ts v a0 b0 p0 = ((1, 0), ts) by simp only [q_ck]; rw [sp_at_n hv ht hn]; simp only; rw [if_neg (fun h => g23 h.2.2)])]; rfl, by rw [(show q_ck ts v a0 b0 p0 = ((1, 0), ts) by simp only [q_ck]; rw [sp_at_n hv ht hn]; simp only; rw [if_neg (fun h => g23 h.2.2)])]; exact C, fr.rf _ _ _⟩)
      · exact ad_out M (I.grown h1 h2) h3 h4 h5 (by decide) (by decide) (by decide) (⟨by rw [(show q_ck ts v a0 b0 p0 = ((1, 0), ts) by simp only [q_ck]; rw [sp_at_n hv ht hn]; simp only; rw [if_neg (fun h => g16 h.2.1)])]; rfl, by rw [(show q_ck ts v a0 b0 p0 = ((1, 0), ts) by simp only [q_ck]; rw [sp_at_n hv ht hn]; simp only; rw [if_neg (fun h => g16 h.2.1)])]; exact C, fr.rf _ _ _⟩)
    · exact ad_out M (I.grown h1 h2) h3 h4 h5 (by decide) (by decide) (by decide) (⟨by rw [(show q_ck ts v a0 b0 p0 = ((1, 0), ts) by simp only [q_ck]; rw [sp_at_n hv ht hn]; simp only; rw [if_neg (fun h => g10 h.1)])]; rfl, by rw [(show q_ck ts v a0 b0 p0 = ((1, 0), ts) by simp only [q_ck]; rw [sp_at_n hv ht hn]; simp only; rw [if_neg (fun h => g10 h.1)])]; exact C, fr.rf _ _ _⟩)
  · obtain ⟨_, _, _, _, _, _, _, _, hr9⟩ | ⟨hno, hr9⟩ := h9
    case inl => cases hr9
    cases hr9
    exact ad_out M (I.grown h1 h2) h3 h4 h5 (by decide) (by decide) (by decide) (⟨by rw [(show q_ck ts v a0 b0 p0 = ((1, 0), ts) by simp only [q_ck]; rw [sp_at_0 hno hn])]; rfl, by rw [(show q_ck ts v a0 b0 p0 = ((1, 0), ts) by simp only [q_ck]; rw [sp_at_0 hno hn])]; exact C, fr.rf _ _ _⟩)
set_option maxHeartbeats 4000000 in
set_option maxRecDepth 100000 in
theorem c_A_gone (l : Launch) (G : ad_G) (lo : Nat) (hp : ad_H) (x dA tA lA rA gA sA : Nat) (ta ros : List Nat) (ts : List TH) (la lt rr rw : List Nat) (sd : Int64) (fg fs : Nat → Int32) (v : Int32)  (hT : l.stackTraces = false) (C : CR G hp x dA tA lA rA gA sA ta ros ts la lt rr rw sd fg fs) : ad_Ct l y_A_gone b_A_gone 4 rt_A_gone hs_A_gone 8 1 6 G lo hp [.ref x, .int v] (fun r hp' => r = q_ans [ad_NSE, ad_ISE] (q_gn ts v).1 ∧ CR G hp' x dA tA lA rA gA sA ta ros ((q_gn ts v).2) la lt rr rw sd fg fs ∧ fr gA sA hp hp') := by
  intro p e s m below meth c M hts hB hP
  have hx := M.1
  have hb := M.2.1
  have hml := M.2.2.1
  have hown : s.vm.findClass "AuditDraws" = some m.cls := M.2.2.2.1
  have S : CallFix p m c b_A_gone 4 s _ ad_T "AuditDraws" := ⟨hx, hb, hml, hown, hts⟩
  have I : ad_I G lo s hp s.heap [] := ad_I.rf hB hP
  have hl := lv_entry ([.ref x, .int v]) (n := 4) (Nat.le_of_ble_eq_true rfl)
  rw [lg_entry_eq]
  generalize (lg_sl ([.ref x, .int v]) ++ List.replicate (4 - (lg_sl ([.ref x, .int v])).length) Slot.unset).toArray = ls at hl ⊢
  have hl : lv_has ls 4 [(0, .ref x), (1, .int v)] := hl
  have hX := C.hX
  have hL := C.hA
  have hTT := C.htt
  have hn := C.hn
  have hD := C.hD
  obtain ⟨_, htA⟩ := C.hA.self
  refine lv_aload_n hx hb d_A_gone_0 rfl (lv_at hl 0 rfl) ?_
  refine lv_iload_n hx hb d_A_gone_1 rfl (lv_at hl 1 rfl) ?_
  refine ad_cP S I (ad_ivV (As := [.int v]) (rest := []) S (ad_recv I hX K_AD) w_374 w_376 sp_A_existing Y_A_existing ⟨by decide, by decide, np_A_existing⟩ rfl d_A_gone_2) (c_A_existing l G lo hp x dA tA lA rA gA sA v ta ts hT hX hL hTT hn) Y_A_existing hl.1 ⟨Nat.le_of_ble_eq_true rfl, Nat.le_of_ble_eq_true rfl⟩ (Nat.le_of_ble_eq_true rfl) (Nat.le_of_ble_eq_true rfl) d_A_gone_2 (fun v9 h9 => ?_) (fun C9 H1 x9 cell h9 h1 h2 h3 h4 h5 => ?_)
  · obtain ⟨j, t, y, ra, hv, ht, hy, hty, hr9⟩ | ⟨-, hr9⟩ := h9
    case inr => cases hr9
    cases hr9
    refine lv_astore_n (lv' := [(2, .ref y), (0, .ref x), (1, .int v)]) hx hb d_A_gone_5 rfl hl (by decide) rfl (fun ls hl => ?_)
    refine lv_aload_n hx hb d_A_gone_6 rfl (lv_at hl 0 rfl) ?_
    refine ad_cPg S I (ad_ivS (As := [.ref y]) (rest := []) S Y_A_needListed w_378 w_379 w_1 ⟨by decide, by decide, np_A_needListed⟩ rfl d_A_gone_7) (c_A_needListed l G lo hp j t y ra hT hty) Y_A_needListed hl.1 ⟨Nat.le_of_ble_eq_true rfl, Nat.le_of_ble_eq_true rfl⟩ (Nat.le_of_ble_eq_true rfl) (Nat.le_of_ble_eq_true rfl) d_A_gone_7 (fun g7 => ?_) (fun g7 H1 x cell h1 h2 h3 h4 h5 => ?_)
    · refine lv_aload_n hx hb d_A_gone_10 rfl (lv_at hl 0 rfl) ?_
      refine ad_get S I hty K_Thing 4 (by decide) w_208 rfl d_A_gone_11 ?_
      refine lv_iconst (v := 3) hx hb d_A_gone_14 (by decide) ?_
      refine lv_icmp_eq (tgt := 22) hx hb d_A_gone_15 (by decide) (fun c15 => ?_) (fun c15 => ?_)
      · refine lv_iconst (v := 0) hx hb d_A_gone_22 (by decide) ?_
        refine lv_istore_n (lv' := [(3, .int 0), (2, .ref y), (0, .ref x), (1, .int v)]) hx hb d_A_gone_23 rfl hl (by decide) rfl (fun ls hl => ?_)
        refine lv_aload_n hx hb d_A_gone_24 rfl (lv_at hl 1 rfl) ?_
        refine lv_iconst (v := 3) hx hb d_A_gone_25 (by decide) ?_
        refine ad_put S I hty K_Thing 4 (by decide) w_208 rfl rfl rfl (by simp) d_A_gone_26 (fun H1 locs1 I => ?_)
        obtain ⟨hp1, ehp1⟩ : ∃ z : ad_H, z = ad_up hp y (.inr (1, [.int (nI j), .int t.1, .ref ra, .int t.2.1, .int 3, .int t.2.2.2.1])) := ⟨_, rfl⟩
        have I : ad_I G lo s hp1 H1 locs1 := by rw [ehp1]; exact I
        have fhp1_x := (show hp1 x = hp x by rw [ehp1]; exact ad_up_n _ (ad_ne hX hty (by simp))).trans hX
        have fhp1_tA := (show hp1 tA = hp tA by rw [ehp1]; exact ad_up_n _ (ad_ne htA hty (by simp))).trans htA
        have fhp1_dA := (show hp1 dA = hp dA by rw [ehp1]; exact ad_up_n _ (ad_ne hD hty (by simp))).trans hD
        have fhp1_y : hp1 y = some (.inr (1, [.int (nI j), .int t.1, .ref ra, .int t.2.1, .int 3, .int t.2.2.2.1])) := by rw [ehp1]; exact ad_up_s _ _ _
        refine lv_iload_n hx hb d_A_gone_29 rfl (lv_at hl 0 rfl) ?_
        exact ad_iret M I rfl (by omega) (by omega) (⟨by rw [(show q_gn ts v = ((0, 0), ts.set j (th_s t 3)) by simp only [q_gn]; rw [sp_at_n hv ht hn]; simp only; rw [if_neg g7, if_pos c15, q_j hv ht hn])]; rfl, by rw [(show q_gn ts v = ((0, 0), ts.set j (th_s t 3)) by simp only [q_gn]; rw [sp_at_n hv ht hn]; simp only; rw [if_neg g7, if_pos c15, q_j hv ht hn])]; exact (C.thing (t' := th_s t 3) ht hy hty rfl (fun z hz => by rw [ehp1, ad_up_n _ hz]) fhp1_y (ad_I.e I)).1, (C.thing (t' := th_s t 3) ht hy hty rfl (fun z hz => by rw [ehp1, ad_up_n _ hz]) fhp1_y (ad_I.e I)).2⟩) d_A_gone_30
      · refine lv_iconst (v := 1) hx hb d_A_gone_18 (by decide) ?_
        refine lv_goto (tgt := 23) hx hb d_A_gone_19 (by decide) ?_
        refine lv_istore_n (lv' := [(3, .int 1), (2, .ref y), (0, .ref x), (1, .int v)]) hx hb d_A_gone_23 rfl hl (by decide) rfl (fun ls hl => ?_)
        refine lv_aload_n hx hb d_A_gone_24 rfl (lv_at hl 1 rfl) ?_
        refine lv_iconst (v := 3) hx hb d_A_gone_25 (by decide) ?_
        refine ad_put S I hty K_Thing 4 (by decide) w_208 rfl rfl rfl (by simp) d_A_gone_26 (fun H1 locs1 I => ?_)
        obtain ⟨hp2, ehp2⟩ : ∃ z : ad_H, z = ad_up hp y (.inr (1, [.int (nI j), .int t.1, .ref ra, .int t.2.1, .int 3, .int t.2.2.2.1])) := ⟨_, rfl⟩
        have I : ad_I G lo s hp2 H1 locs1 := by rw [ehp2]; exact I
        have fhp2_x := (show hp2 x = hp x by rw [ehp2]; exact ad_up_n _ (ad_ne hX hty (by simp))).trans hX
        have fhp2_tA := (show hp2 tA = hp tA by rw [ehp2]; exact ad_up_n _ (ad_ne htA hty (by simp))).trans htA
        have fhp2_dA := (show hp2 dA = hp dA by rw [ehp2]; exact ad_up_n _ (ad_ne hD hty (by simp))).trans hD
        have fhp2_y : hp2 y = some (.inr (1, [.int (nI j), .int t.1, .ref ra, .int t.2.1, .int 3, .int t.2.2.2.1])) := by rw [ehp2]; exact ad_up_s _ _ _
        refine lv_iload_n hx hb d_A_gone_29 rfl (lv_at hl 0 rfl) ?_
        exact ad_iret M I rfl (by omega) (by omega) (⟨by rw [(show q_gn ts v = ((0, 1), ts.set j (th_s t 3)) by simp only [q_gn]; rw [sp_at_n hv ht hn]; simp only; rw [if_neg g7, if_neg c15, q_j hv ht hn])]; rfl, by rw [(show q_gn ts v = ((0, 1), ts.set j (th_s t 3)) by simp only [q_gn]; rw [sp_at_n hv ht hn]; simp only; rw [if_neg g7, if_neg c15, q_j hv ht hn])]; exact (C.thing (t' := th_s t 3) ht hy hty rfl (fun z hz => by rw [ehp2, ad_up_n _ hz]) fhp2_y (ad_I.e I)).1, (C.thing (t' := th_s t 3) ht hy hty rfl (fun z hz => by rw [ehp2, ad_up_n _ hz]) fhp2_y (ad_I.e I)).2⟩) d_A_gone_30
    · exact ad_out M (I.grown h1 h2) h3 h4 h5 (by decide) (by decide) (by decide) (⟨by rw [(show q_gn ts v = ((2, 0), ts) by simp only [q_gn]; rw [sp_at_n hv ht hn]; simp only; rw [if_pos (Decidable.not_not.mp g7)])]; rfl, by rw [(show q_gn ts v = ((2, 0), ts) by simp only [q_gn]; rw [sp_at_n hv ht hn]; simp only; rw [if_pos (Decidable.not_not.mp g7)])]; exact C, fr.rf _ _ _⟩)
  · obtain ⟨_, _, _, _, _, _, _, _, hr9⟩ | ⟨hno, hr9⟩ := h9
    case inl => cases hr9
    cases hr9
    exact ad_out M (I.grown h1 h2) h3 h4 h5 (by decide) (by decide) (by decide) (⟨by rw [(show q_gn ts v = ((1, 0), ts) by simp only [q_gn]; rw [sp_at_0 hno hn])]; rfl, by rw [(show q_gn ts v = ((1, 0), ts) by simp only [q_gn]; rw [sp_at_0 hno hn])]; exact C, fr.rf _ _ _⟩)
set_option maxHeartbeats 4000000 in
set_option maxRecDepth 100000 in
theorem c_A_weight (l : Launch) (G : ad_G) (lo : Nat) (hp : ad_H) (x dA tA lA rA gA sA : Nat) (ta ros : List Nat) (ts : List TH) (la lt rr rw : List Nat) (sd : Int64) (fg fs : Nat → Int32) (v g0 : Int32)  (hT : l.stackTraces = false) (C : CR G hp x dA tA lA rA gA sA ta ros ts la lt rr rw sd fg fs) : ad_Ct l y_A_weight b_A_weight 5 rt_A_weight hs_A_weight 8 1 6 G lo hp [.ref x, .int v, .int g0] (fun r hp' => r = q_ans [ad_NSE, ad_IAE] (q_wt ts v g0).1 ∧ CR G hp' x dA tA lA rA gA sA ta ros ((q_wt ts v g0).2) la lt rr rw sd fg fs ∧ fr gA sA hp hp') := by
  intro p e s m below meth c M hts hB hP
  have hx := M.1
  have hb := M.2.1
  have hml := M.2.2.1
  have hown : s.vm.findClass "AuditDraws" = some m.cls := M.2.2.2.1
  have S : CallFix p m c b_A_weight 5 s _ ad_T "AuditDraws" := ⟨hx, hb, hml, hown, hts⟩
  have I : ad_I G lo s hp s.heap [] := ad_I.rf hB hP
  have hl := lv_entry ([.ref x, .int v, .int g0]) (n := 5) (Nat.le_of_ble_eq_true rfl)
  rw [lg_entry_eq]
  generalize (lg_sl ([.ref x, .int v, .int g0]) ++ List.replicate (5 - (lg_sl ([.ref x, .int v, .int g0])).length) Slot.unset).toArray = ls at hl ⊢
  have hl : lv_has ls 5 [(0, .ref x), (1, .int v), (2, .int g0)] := hl
  have hX := C.hX
  have hL := C.hA
  have hTT := C.htt
  have hn := C.hn
  have hD := C.hD
  obtain ⟨_, htA⟩ := C.hA.self
  refine lv_aload_n hx hb d_A_weight_0 rfl (lv_at hl 0 rfl) ?_
  refine lv_iload_n hx hb d_A_weight_1 rfl (lv_at hl 1 rfl) ?_
  refine ad_cP S I (ad_ivV (As := [.int v]) (rest := []) S (ad_recv I hX K_AD) w_374 w_376 sp_A_existing Y_A_existing ⟨by decide, by decide, np_A_existing⟩ rfl d_A_weight_2) (c_A_existing l G lo hp x dA tA lA rA gA sA v ta ts hT hX hL hTT hn) Y_A_existing hl.1 ⟨Nat.le_of_ble_eq_true rfl, Nat.le_of_ble_eq_true rfl⟩ (Nat.le_of_ble_eq_true rfl) (Nat.le_of_ble_eq_true rfl) d_A_weight_2 (fun v9 h9 => ?_) (fun C9 H1 x9 cell h9 h1 h2 h3 h4 h5 => ?_)
  · obtain ⟨j, t, y, ra, hv, ht, hy, hty, hr9⟩ | ⟨-, hr9⟩ := h9
    case inr => cases hr9
    cases hr9
    refine lv_astore_n (lv' := [(3, .ref y), (0, .ref x), (1, .int v), (2, .int g0)]) hx hb d_A_weight_5 rfl hl (by decide) rfl (fun ls hl => ?_)
    refine lv_iload_n hx hb d_A_weight_6 rfl (lv_at hl 3 rfl) ?_
    refine lv_iconst (v := 1) hx hb d_A_weight_7 (by decide) ?_
    refine lv_icmp_lt (tgt := 17) hx hb d_A_weight_8 (by decide) (fun c8 => ?_) (fun c8 => ?_)
    · obtain ⟨q9, hq9⟩ := hB.2.2.2.2.2.2.1 (153, "no weight") (by decide)
      refine ad_thr S hT (X := "java/lang/IllegalArgumentException") (Yn := "java/lang/RuntimeException") (names := ["java/lang/Exception"]) (ix := 7) (bx := prog_11_method_2_code) (ic := 68) w_288 w_289 w_17 hq9 (ad_hat hB hts at_IAE) (by decide +kernel) (by decide +kernel) (by decide +kernel) (by decide +kernel) (by decide +kernel) (by decide +kernel) (by decide +kernel) hl.1 d_A_weight_17 d_A_weight_20 d_A_weight_21 d_A_weight_23 d_A_weight_26 (by decide) (by decide) (by decide) (by decide) (fun H1 cell h1 h2 h3 h4 h5 => ?_)
      exact ad_out M (I.grown h1 h2) h3 h4 h5 (by decide) (by decide) (by decide) (⟨by rw [(show q_wt ts v g0 = ((2, 0), ts) by simp only [q_wt]; rw [sp_at_n hv ht hn]; simp only; rw [if_pos (Or.inl c8)])]; rfl, by rw [(show q_wt ts v g0 = ((2, 0), ts) by simp only [q_wt]; rw [sp_at_n hv ht hn]; simp only; rw [if_pos (Or.inl c8)])]; exact C, fr.rf _ _ _⟩)
    · refine lv_iload_n hx hb d_A_weight_11 rfl (lv_at hl 3 rfl) ?_
      refine lv_ldc (v := 1000000000) hx hb hown (hts _ w_519) d_A_weight_12 ?_
      refine lv_icmp_le (tgt := 27) hx hb d_A_weight_14 (by decide) (fun c14 => ?_) (fun c14 => ?_)
      · refine lv_aload_n hx hb d_A_weight_27 rfl (lv_at hl 0 rfl) ?_
        refine ad_get S I hty K_Thing 5 (by decide) w_210 rfl d_A_weight_28 ?_
        refine lv_if_ne (tgt := 38) hx hb d_A_weight_31 (by decide) (fun c31 => ?_) (fun c31 => ?_)
        · refine lv_aload_n hx hb d_A_weight_38 rfl (lv_at hl 0 rfl) ?_
          refine ad_get S I hty K_Thing 5 (by decide) w_210 rfl d_A_weight_39 ?_
          refine lv_istore (lv' := [(4, .int t.2.2.2.1), (3, .ref y), (0, .ref x), (1, .int v), (2, .int g0)]) hx hb d_A_weight_42 hl (by decide) rfl (fun ls hl => ?_)
          refine lv_aload_n hx hb d_A_weight_44 rfl (lv_at hl 1 rfl) ?_
          refine lv_iload_n hx hb d_A_weight_45 rfl (lv_at hl 4 rfl) ?_
          refine ad_put S I hty K_Thing 5 (by decide) w_210 rfl rfl rfl (by simp) d_A_weight_46 (fun H1 locs1 I => ?_)
          obtain ⟨hp1, ehp1⟩ : ∃ z : ad_H, z = ad_up hp y (.inr (1, [.int (nI j), .int t.1, .ref ra, .int t.2.1, .int t.2.2.1, .int g0])) := ⟨_, rfl⟩
          have I : ad_I G lo s hp1 H1 locs1 := by rw [ehp1]; exact I
          have fhp1_x := (show hp1 x = hp x by rw [ehp1]; exact ad_up_n _ (ad_ne hX hty (by simp))).trans hX
          have fhp1_tA := (show hp1 tA = hp tA by rw [ehp1]; exact ad_up_n _ (ad_ne htA hty (by simp))).trans htA
          have fhp1_dA := (show hp1 dA = hp dA by rw [ehp1]; exact ad_up_n _ (ad_ne hD hty (by simp))).trans hD
          have fhp1_y : hp1 y = some (.inr (1, [.int (nI j), .int t.1, .ref ra, .int t.2.1, .int t.2.2.1, .int g0])) := by rw [ehp1]; exact ad_up_s _ _ _
          refine lv_iload_n hx hb d_A_weight_49 rfl (lv_at hl 4 rfl) ?_
          refine lv_iload hx hb d_A_weight_50 (lv_at hl 0 rfl) ?_
          refine lv_isub hx hb d_A_weight_52 ?_
          refine va_mabs hx hb (hml.trans hl.1.symm) hown (hts _ w_521) (hts _ w_522) (hts _ w_14) (hts _ w_523) (Nat.le_of_ble_eq_true rfl) (Nat.le_of_ble_eq_true rfl) (Nat.le_of_ble_eq_true rfl) (Nat.le_of_ble_eq_true rfl) d_A_weight_53 ?_
          exact ad_iret M I rfl (by omega) (by omega) (⟨by rw [(show q_wt ts v g0 = ((0, sp_abs (g0 - t.2.2.2.1)), ts.set j (t.1, t.2.1, t.2.2.1, g0, t.2.2.2.2)) by simp only [q_wt]; rw [sp_at_n hv ht hn]; simp only; rw [if_neg (fun h => h.elim c8 (fun h => h c14)), if_neg c31, q_j hv ht hn])]; rfl, by rw [(show q_wt ts v g0 = ((0, sp_abs (g0 - t.2.2.2.1)), ts.set j (t.1, t.2.1, t.2.2.1, g0, t.2.2.2.2)) by simp only [q_wt]; rw [sp_at_n hv ht hn]; simp only; rw [if_neg (fun h => h.elim c8 (fun h => h c14)), if_neg c31, q_j hv ht hn])]; exact (C.thing (t' := (t.1, t.2.1, t.2.2.1, g0, t.2.2.2.2)) ht hy hty rfl (fun z hz => by rw [ehp1, ad_up_n _ hz]) fhp1_y (ad_I.e I)).1, (C.thing (t' := (t.1, t.2.1, t.2.2.1, g0, t.2.2.2.2)) ht hy hty rfl (fun z hz => by rw [ehp1, ad_up_n _ hz]) fhp1_y (ad_I.e I)).2⟩) d_A_weight_56
        · refine lv_iload_n hx hb d_A_weight_34 rfl (lv_at hl 3 rfl) ?_
          refine lv_goto (tgt := 42) hx hb d_A_weight_35 (by decide) ?_
          refine lv_istore (lv' := [(4, .int g0), (3, .ref y), (0, .ref x), (1, .int v), (2, .int g0)]) hx hb d_A_weight_42 hl (by decide) rfl (fun ls hl => ?_)
          refine lv_aload_n hx hb d_A_weight_44 rfl (lv_at hl 1 rfl) ?_
          refine lv_iload_n hx hb d_A_weight_45 rfl (lv_at hl 4 rfl) ?_
          refine ad_put S I hty K_Thing 5 (by decide) w_210 rfl rfl rfl (by simp) d_A_weight_46 (fun H1 locs1 I => ?_)
          obtain ⟨hp2, ehp2⟩ : ∃ z : ad_H, z = ad_up hp y (.inr (1, [.int (nI j), .int t.1, .ref ra, .int t.2.1, .int t.2.2.1, .int g0])) := ⟨_, rfl⟩
          have I : ad_I G lo s hp2 H1 locs1 := by rw [ehp2]; exact I
          have fhp2_x := (show hp2 x = hp x by rw [ehp2]; exact ad_up_n _ (ad_ne hX hty (by simp))).trans hX
          have fhp2_tA := (show hp2 tA = hp tA by rw [ehp2]; exact ad_up_n _ (ad_ne htA hty (by simp))).trans htA
          have fhp2_dA := (show hp2 dA = hp dA by rw [ehp2]; exact ad_up_n _ (ad_ne hD hty (by simp))).trans hD
          have fhp2_y : hp2 y = some (.inr (1, [.int (nI j), .int t.1, .ref ra, .int t.2.1, .int t.2.2.1, .int g0])) := by rw [ehp2]; exact ad_up_s _ _ _
          refine lv_iload_n hx hb d_A_weight_49 rfl (lv_at hl 4 rfl) ?_
          refine lv_iload hx hb d_A_weight_50 (lv_at hl 0 rfl) ?_
          refine lv_isub hx hb d_A_weight_52 ?_
          refine va_mabs hx hb (hml.trans hl.1.symm) hown (hts _ w_521) (hts _ w_522) (hts _ w_14) (hts _ w_523) (Nat.le_of_ble_eq_true rfl) (Nat.le_of_ble_eq_true rfl) (Nat.le_of_ble_eq_true rfl) (Nat.le_of_ble_eq_true rfl) d_A_weight_53 ?_
          exact ad_iret M I rfl (by omega) (by omega) (⟨by rw [(show q_wt ts v g0 = ((0, sp_abs (g0 - g0)), ts.set j (t.1, t.2.1, t.2.2.1, g0, t.2.2.2.2)) by simp only [q_wt]; rw [sp_at_n hv ht hn]; simp only; rw [if_neg (fun h => h.elim c8 (fun h => h c14)), if_pos c31, q_j hv ht hn])]; rfl, by rw [(show q_wt ts v g0 = ((0, sp_abs (g0 - g0)), ts.set j (t.1, t.2.1, t.2.2.1, g0, t.2.2.2.2)) by simp only [q_wt]; rw [sp_at_n hv ht hn]; simp only; rw [if_neg (fun h => h.elim c8 (fun h => h c14)), if_pos c31, q_j hv ht hn])]; exact (C.thing (t' := (t.1, t.2.1, t.2.2.1, g0, t.2.2.2.2)) ht hy hty rfl (fun z hz => by rw [ehp2, ad_up_n _ hz]) fhp2_y (ad_I.e I)).1, (C.thing (t' := (t.1, t.2.1, t.2.2.1, g0, t.2.2.2.2)) ht hy hty rfl (fun z hz => by rw [ehp2, ad_up_n _ hz]) fhp2_y (ad_I.e I)).2⟩) d_A_weight_56
      · obtain ⟨q9, hq9⟩ := hB.2.2.2.2.2.2.1 (153, "no weight") (by decide)
        refine ad_thr S hT (X := "java/lang/IllegalArgumentException") (Yn := "java/lang/RuntimeException") (names := ["java/lang/Exception"]) (ix := 7) (bx := prog_11_method_2_code) (ic := 68) w_288 w_289 w_17 hq9 (ad_hat hB hts at_IAE) (by decide +kernel) (by decide +kernel) (by decide +kernel) (by decide +kernel) (by decide +kernel) (by decide +kernel) (by decide +kernel) hl.1 d_A_weight_17 d_A_weight_20 d_A_weight_21 d_A_weight_23 d_A_weight_26 (by decide) (by decide) (by decide) (by decide) (fun H1 cell h1 h2 h3 h4 h5 => ?_)
        exact ad_out M (I.grown h1 h2) h3 h4 h5 (by decide) (by decide) (by decide) (⟨by rw [(show q_wt ts v g0 = ((2, 0), ts) by simp only [q_wt]; rw [sp_at_n hv ht hn]; simp only; rw [if_pos (Or.inr c14)])]; rfl, by rw [(show q_wt ts v g0 = ((2, 0), ts) by simp only [q_wt]; rw [sp_at_n hv ht hn]; simp only; rw [if_pos (Or.inr c14)])]; exact C, fr.rf _ _ _⟩)
  · obtain ⟨_, _, _, _, _, _, _, _, hr9⟩ | ⟨hno, hr9⟩ := h9
    case inl => cases hr9
    cases hr9
    exact ad_out M (I.grown h1 h2) h3 h4 h5 (by decide) (by decide) (by decide) (⟨by rw [(show q_wt ts v g0 = ((1, 0), ts) by simp only [q_wt]; rw [sp_at_0 hno hn])]; rfl, by rw [(show q_wt ts v g0 = ((1, 0), ts) by simp only [q_wt]; rw [sp_at_0 hno hn])]; exact C, fr.rf _ _ _⟩)
set_option maxHeartbeats 4000000 in
set_option maxRecDepth 100000 in
theorem c_A_seed (l : Launch) (G : ad_G) (lo : Nat) (hp : ad_H) (x dA tA lA rA gA sA : Nat) (ta ros : List Nat) (ts : List TH) (la lt rr rw : List Nat) (sd : Int64) (fg fs : Nat → Int32) (s9 : Int64)  (C : CR G hp x dA tA lA rA gA sA ta ros ts la lt rr rw sd fg fs) : ad_Ct l y_A_seed b_A_seed 3 rt_A_seed hs_A_seed 1 0 0 G lo hp [.ref x, .long s9] (fun r hp' => r = .inl none ∧ CR G hp' x dA tA lA rA gA sA ta ros ts la lt rr rw s9 fg fs ∧ fr gA sA hp hp') := by
  intro p e s m below meth c M hts hB hP
  have hx := M.1
  have hb := M.2.1
  have hml := M.2.2.1
  have hown : s.vm.findClass "AuditDraws" = some m.cls := M.2.2.2.1
  have S : CallFix p m c b_A_seed 3 s _ ad_T "AuditDraws" := ⟨hx, hb, hml, hown, hts⟩
  have I : ad_I G lo s hp s.heap [] := ad_I.rf hB hP
  have hl := lv_entry ([.ref x, .long s9]) (n := 3) (Nat.le_of_ble_eq_true rfl)
  rw [lg_entry_eq]
  generalize (lg_sl ([.ref x, .long s9]) ++ List.replicate (3 - (lg_sl ([.ref x, .long s9])).length) Slot.unset).toArray = ls at hl ⊢
  have hl : lv_has ls 3 [(0, .ref x), (1, .long s9)] := hl
  have hX := C.hX
  have hL := C.hA
  have hTT := C.htt
  have hn := C.hn
  have hD := C.hD
  obtain ⟨_, htA⟩ := C.hA.self
  refine lv_aload_n hx hb d_A_seed_0 rfl (lv_at hl 0 rfl) ?_
  refine ad_get S I hX K_AD 0 (by decide) w_67 rfl d_A_seed_1 ?_
  refine lv_lload_n hx hb d_A_seed_4 rfl (lv_at hl 1 rfl) ?_
  refine ad_put S I hD K_Draw 0 (by decide) w_37 rfl rfl rfl (by simp) d_A_seed_5 (fun H1 locs1 I => ?_)
  obtain ⟨hp1, ehp1⟩ : ∃ z : ad_H, z = ad_up hp dA (.inr (0, [.long s9])) := ⟨_, rfl⟩
  have I : ad_I G lo s hp1 H1 locs1 := by rw [ehp1]; exact I
  have fhp1_x := (show hp1 x = hp x by rw [ehp1]; exact ad_up_n _ (ad_ne hX hD (by simp))).trans hX
  have fhp1_tA := (show hp1 tA = hp tA by rw [ehp1]; exact ad_up_n _ (ad_ne htA hD (by simp))).trans htA
  have fhp1_dA : hp1 dA = some (.inr (0, [.long s9])) := by rw [ehp1]; exact ad_up_s _ _ _
  exact ad_vret M I (by omega) (by omega) (⟨rfl, C.draw (fun z hz => by rw [ehp1, ad_up_n _ hz]) fhp1_dA (ad_I.e I)⟩) d_A_seed_8
def sp_dr (d : Int64) : Int64 := d * 6364136223846793005 + 1442695040888963407
def sp_ix (d : Int64) (n : Int32) : Int32 := ((d.toUInt64 >>> ((33 : Int32).toInt64.toUInt64 &&& Int64.toUInt64 63)).toInt64 - (d.toUInt64 >>> ((33 : Int32).toInt64.toUInt64 &&& Int64.toUInt64 63)).toInt64 / n.toInt64 * n.toInt64).toInt32
theorem ix_ne {n : Int32} (h : ¬ n < 1) : n.toInt64 ≠ 0 := by
  intro h0
  have h1 : n.toInt64.toInt = 0 := by rw [h0]; rfl
  rw [Int32.toInt_toInt64] at h1
  refine h ?_
  rw [Int32.lt_iff_toInt_lt, h1]
  decide
set_option maxHeartbeats 4000000 in
set_option maxRecDepth 100000 in
theorem c_D_below (l : Launch) (G : ad_G) (lo : Nat) (hp : ad_H) (a : Nat) (d : Int64) (n9 : Int32) (h : hp a = some (.inr (0, [.long d]))) (hn9 : ¬ n9 < 1) : ad_Ct l y_D_below b_D_below 2 rt_D_below hs_D_below 1 0 0 G lo hp [.ref a, .int n9] (fun r hp' => r = .inl (some (.int (sp_ix (sp_dr d) n9))) ∧ hp' a = some (.inr (0, [.long (sp_dr d)])) ∧ ∀ z, z ≠ a → hp' z = hp z) := by
  intro p e s m below meth c M hts hB hP
  have hx := M.1
  have hb := M.2.1
  have hml := M.2.2.1
  have hown : s.vm.findClass "AuditDraws$Draw" = some m.cls := M.2.2.2.1
  have S : CallFix p m c b_D_below 2 s _ ad_T "AuditDraws$Draw" := ⟨hx, hb, hml, hown, hts⟩
  have I : ad_I G lo s hp s.heap [] := ad_I.rf hB hP
  have hl := lv_entry ([.ref a, .int n9]) (n := 2) (Nat.le_of_ble_eq_true rfl)
  rw [lg_entry_eq]
  generalize (lg_sl ([.ref a, .int n9]) ++ List.replicate (2 - (lg_sl ([.ref a, .int n9])).length) Slot.unset).toArray = ls at hl ⊢
  have hl : lv_has ls 2 [(0, .ref a), (1, .int n9)] := hl
  refine lv_aload_n hx hb d_D_below_0 rfl (lv_at hl 0 rfl) ?_
  refine lv_aload_n hx hb d_D_below_1 rfl (lv_at hl 0 rfl) ?_
  refine ad_get S I h K_Draw 0 (by decide) w_36 rfl d_D_below_2 ?_
  refine lv_ldc2 (v := 6364136223846793005) hx hb hown (hts _ w_354) d_D_below_5 ?_
  refine lv_lmul hx hb d_D_below_8 ?_
  refine lv_ldc2 (v := 1442695040888963407) hx hb hown (hts _ w_355) d_D_below_9 ?_
  refine lv_ladd hx hb d_D_below_12 ?_
  refine ad_put S I h K_Draw 0 (by decide) w_36 rfl rfl rfl (by simp) d_D_below_13 (fun H1 locs1 I => ?_)
  obtain ⟨hp1, ehp1⟩ : ∃ z : ad_H, z = ad_up hp a (.inr (0, [.long ((d * 6364136223846793005) + 1442695040888963407)])) := ⟨_, rfl⟩
  have I : ad_I G lo s hp1 H1 locs1 := by rw [ehp1]; exact I
  have fhp1_a : hp1 a = some (.inr (0, [.long ((d * 6364136223846793005) + 1442695040888963407)])) := by rw [ehp1]; exact ad_up_s _ _ _
  refine lv_iload_n hx hb d_D_below_16 rfl (lv_at hl 1 rfl) ?_
  refine lv_iconst (v := 1) hx hb d_D_below_17 (by decide) ?_
  refine lv_icmp_ge (tgt := 25) hx hb d_D_below_18 (by decide) (fun c18 => ?_) (fun c18 => ?_)
  · refine lv_aload_n hx hb d_D_below_25 rfl (lv_at hl 0 rfl) ?_
    refine ad_get S I fhp1_a K_Draw 0 (by decide) w_36 rfl d_D_below_26 ?_
    refine lv_bipush (v := 33) hx hb d_D_below_29 (by decide) ?_
    refine lv_lushr (v := (((d * 6364136223846793005) + 1442695040888963407).toUInt64 >>> ((33 : Int32).toInt64.toUInt64 &&& Int64.toUInt64 63)).toInt64) hx hb d_D_below_31 rfl ?_
    refine lv_iload_n hx hb d_D_below_32 rfl (lv_at hl 1 rfl) ?_
    refine lv_i2l (v := n9.toInt64) hx hb d_D_below_33 rfl ?_
    refine lv_lrem hx hb d_D_below_34 (ix_ne hn9) ?_
    refine lv_l2i (v := (((((d * 6364136223846793005) + 1442695040888963407).toUInt64 >>> ((33 : Int32).toInt64.toUInt64 &&& Int64.toUInt64 63)).toInt64) - ((((d * 6364136223846793005) + 1442695040888963407).toUInt64 >>> ((33 : Int32).toInt64.toUInt64 &&& Int64.toUInt64 63)).toInt64) / n9.toInt64 * n9.toInt64).toInt32) hx hb d_D_below_35 rfl ?_
    exact ad_iret M I rfl (by omega) (by omega) (⟨rfl, fhp1_a, fun z hz => by rw [ehp1, ad_up_n _ hz]⟩) d_D_below_36
  · exact absurd (Int32.not_lt.mp hn9) c18
section ADIN
variable {p : Program} {l : Launch} {e : Env} {R : Room} {s : State} {m : MethodId} {args : Array Value} {below : List Frame} {meth : Method} {c : Code} {H : Heap} {locs : List Loc} {cells slots : Nat} {Q : State → Prop}
variable {cc : ByteArray} {nL pc : Nat} {ls : Array Slot} {rest st : List Value} {own : String} {y : MethodName} {cy : ByteArray} {ny : Nat} {As : List Value}
theorem ad_ivIN (S : CallFix p m c cc nL s args ad_T own) {b : Addr} {index : Nat} {host : String} (hlink : (Cond.methodLinkNest own index y host).before args s = true) (hinst : Cond.instanceMethod y ∈ ad_T) (hcode : Cond.code y cy ny none ∈ ad_T) (hin : y.name = "<init>")
    (hd : y.cls ≠ "java/lang/invoke/MethodHandle" ∧ y.cls ≠ "java/lang/invoke/VarHandle" ∧ (parseMethodDescriptor y.desc).map (fun d => d.parameters.length) = some As.length) (hst : st = As.reverse ++ .ref b :: rest) (hdg : decode cc pc = .ok (.invokespecial index, 3)) :
    ad_Iv p l e R s m args below meth c H locs cells slots pc ls st rest y (.ref b :: As) := by
  obtain ⟨hx, hb, -, hown, hts⟩ := S
  intro T hT X
  have hpl : e.platform.magicAccessors = ({} : Platform).magicAccessors := by rw [X.admits.platform]
  obtain ⟨tm, methM, cM, kP, vm₁, hnamed, -, -, -, -, -, -, -, hW₁, hstep⟩ := Steps.initColdArgsNest (e := e) X.here hx X.warmed hpl hown hin ⟨hd.1, hd.2.1⟩ hlink (hts _ hinst) (hts _ hcode) (f := F0 m pc ls st) rfl (argsL := As) (rest := rest) (fun sig h => ad_np hd.2.2 h) hst (by rw [hb]; exact hdg)
  refine ⟨vm₁, X.noted hW₁, fun mk2 hmk2 target h => ?_⟩
  cases hnamed.symm.trans hmk2
  exact hstep target h
end ADIN
set_option maxHeartbeats 4000000 in
set_option maxRecDepth 100000 in
theorem c_D_init (l : Launch) (G : ad_G) (lo : Nat) (hp : ad_H) (a : Nat) (h : hp a = some (.inr (0, [.long 0]))) : ad_Ct l y_D_init b_D_init 1 rt_D_init hs_D_init 2 0 0 G lo hp [.ref a] (fun r hp' => r = .inl none ∧ hp' a = some (.inr (0, [.long 0])) ∧ ∀ z, z ≠ a → hp' z = hp z) := by
  intro p e s m below meth c M hts hB hP
  have hx := M.1
  have hb := M.2.1
  have hml := M.2.2.1
  have hown : s.vm.findClass "AuditDraws$Draw" = some m.cls := M.2.2.2.1
  have S : CallFix p m c b_D_init 1 s _ ad_T "AuditDraws$Draw" := ⟨hx, hb, hml, hown, hts⟩
  have I : ad_I G lo s hp s.heap [] := ad_I.rf hB hP
  have hl := lv_entry ([.ref a]) (n := 1) (Nat.le_of_ble_eq_true rfl)
  rw [lg_entry_eq]
  generalize (lg_sl ([.ref a]) ++ List.replicate (1 - (lg_sl ([.ref a])).length) Slot.unset).toArray = ls at hl ⊢
  have hl : lv_has ls 1 [(0, .ref a)] := hl
  have hin : meth.name = "<init>" := M.2.2.2.2.2.2.2
  refine lv_aload_n hx hb d_D_init_0 rfl (lv_at hl 0 rfl) ?_
  refine W.objInit hx hb hown (hts _ w_35) (hts _ w_28) (hts _ w_29) rfl (by rw [hml]; exact hl.1) rfl d_D_init_1 (Nat.le_of_ble_eq_true rfl) (Nat.le_of_ble_eq_true rfl) ?_
  refine W.eq (g2 := F0 m 4 ls []) rfl ?_
  refine lv_aload_n hx hb d_D_init_4 rfl (lv_at hl 0 rfl) ?_
  refine lv_lconst (v := 0) hx hb d_D_init_5 (by decide) ?_
  refine ad_put S I h K_Draw 0 (by decide) w_36 rfl rfl rfl (by simp) d_D_init_6 (fun H1 locs1 I => ?_)
  obtain ⟨hp1, ehp1⟩ : ∃ z : ad_H, z = ad_up hp a (.inr (0, [.long 0])) := ⟨_, rfl⟩
  have I : ad_I G lo s hp1 H1 locs1 := by rw [ehp1]; exact I
  have fhp1_a : hp1 a = some (.inr (0, [.long 0])) := by rw [ehp1]; exact ad_up_s _ _ _
  exact ad_vret M I (by omega) (by omega) (⟨rfl, fhp1_a, fun z hz => by rw [ehp1, ad_up_n _ hz]⟩) d_D_init_9
set_option maxHeartbeats 4000000 in
set_option maxRecDepth 100000 in
theorem c_S_init (l : Launch) (G : ad_G) (lo : Nat) (hp : ad_H) (a : Nat) (r2 : R3) (h : hp a = some (oS (0, 0, 0))) : ad_Ct l y_S_init b_S_init 4 rt_S_init hs_S_init 2 0 0 G lo hp [.ref a, .int r2.1, .int r2.2.1, .int r2.2.2] (fun r hp' => r = .inl none ∧ hp' a = some (oS r2) ∧ ∀ z, z ≠ a → hp' z = hp z) := by
  intro p e s m below meth c M hts hB hP
  have hx := M.1
  have hb := M.2.1
  have hml := M.2.2.1
  have hown : s.vm.findClass "AuditDraws$Sighting" = some m.cls := M.2.2.2.1
  have S : CallFix p m c b_S_init 4 s _ ad_T "AuditDraws$Sighting" := ⟨hx, hb, hml, hown, hts⟩
  have I : ad_I G lo s hp s.heap [] := ad_I.rf hB hP
  have hl := lv_entry ([.ref a, .int r2.1, .int r2.2.1, .int r2.2.2]) (n := 4) (Nat.le_of_ble_eq_true rfl)
  rw [lg_entry_eq]
  generalize (lg_sl ([.ref a, .int r2.1, .int r2.2.1, .int r2.2.2]) ++ List.replicate (4 - (lg_sl ([.ref a, .int r2.1, .int r2.2.1, .int r2.2.2])).length) Slot.unset).toArray = ls at hl ⊢
  have hl : lv_has ls 4 [(0, .ref a), (1, .int r2.1), (2, .int r2.2.1), (3, .int r2.2.2)] := hl
  have hin : meth.name = "<init>" := M.2.2.2.2.2.2.2
  refine lv_aload_n hx hb d_S_init_0 rfl (lv_at hl 0 rfl) ?_
  refine W.objInit hx hb hown (hts _ w_473) (hts _ w_28) (hts _ w_29) rfl (by rw [hml]; exact hl.1) rfl d_S_init_1 (Nat.le_of_ble_eq_true rfl) (Nat.le_of_ble_eq_true rfl) ?_
  refine W.eq (g2 := F0 m 4 ls []) rfl ?_
  refine lv_aload_n hx hb d_S_init_4 rfl (lv_at hl 0 rfl) ?_
  refine lv_iload_n hx hb d_S_init_5 rfl (lv_at hl 1 rfl) ?_
  refine ad_putF S I h K_Sight 0 (by decide) w_474 rfl hin rfl rfl rfl (by simp) d_S_init_6 (fun H1 locs1 I => ?_)
  obtain ⟨hp1, ehp1⟩ : ∃ z : ad_H, z = ad_up hp a (.inr (2, [.int r2.1, .int 0, .int 0])) := ⟨_, rfl⟩
  have I : ad_I G lo s hp1 H1 locs1 := by rw [ehp1]; exact I
  have fhp1_a : hp1 a = some (.inr (2, [.int r2.1, .int 0, .int 0])) := by rw [ehp1]; exact ad_up_s _ _ _
  refine lv_aload_n hx hb d_S_init_9 rfl (lv_at hl 0 rfl) ?_
  refine lv_iload_n hx hb d_S_init_10 rfl (lv_at hl 2 rfl) ?_
  refine ad_putF S I fhp1_a K_Sight 1 (by decide) w_476 rfl hin rfl rfl rfl (by simp) d_S_init_11 (fun H1 locs1 I => ?_)
  obtain ⟨hp2, ehp2⟩ : ∃ z : ad_H, z = ad_up hp1 a (.inr (2, [.int r2.1, .int r2.2.1, .int 0])) := ⟨_, rfl⟩
  have I : ad_I G lo s hp2 H1 locs1 := by rw [ehp2]; exact I
  have fhp2_a : hp2 a = some (.inr (2, [.int r2.1, .int r2.2.1, .int 0])) := by rw [ehp2]; exact ad_up_s _ _ _
  refine lv_aload_n hx hb d_S_init_14 rfl (lv_at hl 0 rfl) ?_
  refine lv_iload_n hx hb d_S_init_15 rfl (lv_at hl 3 rfl) ?_
  refine ad_putF S I fhp2_a K_Sight 2 (by decide) w_478 rfl hin rfl rfl rfl (by simp) d_S_init_16 (fun H1 locs1 I => ?_)
  obtain ⟨hp3, ehp3⟩ : ∃ z : ad_H, z = ad_up hp2 a (.inr (2, [.int r2.1, .int r2.2.1, .int r2.2.2])) := ⟨_, rfl⟩
  have I : ad_I G lo s hp3 H1 locs1 := by rw [ehp3]; exact I
  have fhp3_a : hp3 a = some (.inr (2, [.int r2.1, .int r2.2.1, .int r2.2.2])) := by rw [ehp3]; exact ad_up_s _ _ _
  exact ad_vret M I (by omega) (by omega) (⟨rfl, fhp3_a, fun z hz => by rw [ehp3, ad_up_n _ hz, ehp2, ad_up_n _ hz, ehp1, ad_up_n _ hz]⟩) d_S_init_19
set_option maxHeartbeats 4000000 in
set_option maxRecDepth 100000 in
theorem c_T_init (l : Launch) (G : ad_G) (lo : Nat) (hp : ad_H) (a : Nat) (n0 s0 p0 : Int32) (h : hp a = some (.inr (1, [.int 0, .int 0, .null, .int 0, .int 0, .int 0]))) : ad_Ct l y_T_init b_T_init 4 rt_T_init hs_T_init 4 1 3 G lo hp [.ref a, .int n0, .int s0, .int p0] (fun r hp' => r = .inl none ∧ ∃ ra : Nat, hp ra = none ∧ hp' a = some (.inr (1, [.int n0, .int s0, .ref ra, .int p0, .int (-1), .int 0])) ∧ hp' ra = some (.inr (3, [.ref (G.2.2 0), .int 0, .int 0])) ∧ ∀ z, z ≠ a → z ≠ ra → hp' z = hp z) := by
  intro p e s m below meth c M hts hB hP
  have hx := M.1
  have hb := M.2.1
  have hml := M.2.2.1
  have hown : s.vm.findClass "AuditDraws$Thing" = some m.cls := M.2.2.2.1
  have S : CallFix p m c b_T_init 4 s _ ad_T "AuditDraws$Thing" := ⟨hx, hb, hml, hown, hts⟩
  have I : ad_I G lo s hp s.heap [] := ad_I.rf hB hP
  have hl := lv_entry ([.ref a, .int n0, .int s0, .int p0]) (n := 4) (Nat.le_of_ble_eq_true rfl)
  rw [lg_entry_eq]
  generalize (lg_sl ([.ref a, .int n0, .int s0, .int p0]) ++ List.replicate (4 - (lg_sl ([.ref a, .int n0, .int s0, .int p0])).length) Slot.unset).toArray = ls at hl ⊢
  have hl : lv_has ls 4 [(0, .ref a), (1, .int n0), (2, .int s0), (3, .int p0)] := hl
  have hin : meth.name = "<init>" := M.2.2.2.2.2.2.2
  refine lv_aload_n hx hb d_T_init_0 rfl (lv_at hl 0 rfl) ?_
  refine W.objInit hx hb hown (hts _ w_196) (hts _ w_28) (hts _ w_29) rfl (by rw [hml]; exact hl.1) rfl d_T_init_1 (Nat.le_of_ble_eq_true rfl) (Nat.le_of_ble_eq_true rfl) ?_
  refine W.eq (g2 := F0 m 4 ls []) rfl ?_
  refine lv_aload_n hx hb d_T_init_4 rfl (lv_at hl 0 rfl) ?_
  refine ad_new S I K_AL w_197 w_42 w_5 (fs := [.null, .int 0, .int 0]) (by decide) (Nat.le_of_ble_eq_true rfl) (Nat.le_of_ble_eq_true rfl) d_T_init_5 (fun ra1 H1 n1 I => ?_)
  obtain ⟨hp1, ehp1⟩ : ∃ z : ad_H, z = ad_up hp ra1 (.inr (3, [.null, .int 0, .int 0])) := ⟨_, rfl⟩
  rw [← ehp1] at I
  have u1_0 : hp1 ra1 = some (.inr (3, [.null, .int 0, .int 0])) := by rw [ehp1]; exact ad_up_s _ _ _
  have k1 : ∀ z, z ≠ ra1 → hp1 z = hp z := fun z hz => by rw [ehp1]; exact ad_up_n _ hz
  have ne_a_ra1 : a ≠ ra1 := ad_nn n1 h
  have fhp1_a := (k1 a ne_a_ra1).trans h
  refine lv_dup hx hb d_T_init_8 rfl ?_
  refine ad_cZi S I (ad_ivI (As := []) (rest := [.ref ra1, .ref a]) S w_198 w_44 w_45 rfl ⟨by decide, by decide, np_AL_init⟩ rfl d_T_init_9) (c_AL_init l G lo hp1 ra1 u1_0) Y_AL_init hl.1 ⟨Nat.le_of_ble_eq_true rfl, Nat.le_of_ble_eq_true rfl⟩ (Nat.le_of_ble_eq_true rfl) (Nat.le_of_ble_eq_true rfl) d_T_init_9 (fun hp2 H1 locs1 hA I => ?_)
  obtain ⟨u2_0, k2⟩ := hA
  have fhp2_a := (k2 a (ne_a_ra1)).trans fhp1_a
  refine ad_putF S I fhp2_a K_Thing 2 (by decide) w_203 rfl hin rfl rfl rfl (by simp) d_T_init_12 (fun H1 locs1 I => ?_)
  obtain ⟨hp3, ehp3⟩ : ∃ z : ad_H, z = ad_up hp2 a (.inr (1, [.int 0, .int 0, .ref ra1, .int 0, .int 0, .int 0])) := ⟨_, rfl⟩
  have I : ad_I G lo s hp3 H1 locs1 := by rw [ehp3]; exact I
  have fhp3_a : hp3 a = some (.inr (1, [.int 0, .int 0, .ref ra1, .int 0, .int 0, .int 0])) := by rw [ehp3]; exact ad_up_s _ _ _
  have fhp3_ra1 := (show hp3 ra1 = hp2 ra1 by rw [ehp3]; exact ad_up_n _ ((ne_a_ra1).symm)).trans u2_0
  refine lv_aload_n hx hb d_T_init_15 rfl (lv_at hl 0 rfl) ?_
  refine lv_iconst (v := (-1)) hx hb d_T_init_16 (by decide) ?_
  refine ad_put S I fhp3_a K_Thing 4 (by decide) w_207 rfl rfl rfl (by simp) d_T_init_17 (fun H1 locs1 I => ?_)
  obtain ⟨hp4, ehp4⟩ : ∃ z : ad_H, z = ad_up hp3 a (.inr (1, [.int 0, .int 0, .ref ra1, .int 0, .int (-1), .int 0])) := ⟨_, rfl⟩
  have I : ad_I G lo s hp4 H1 locs1 := by rw [ehp4]; exact I
  have fhp4_a : hp4 a = some (.inr (1, [.int 0, .int 0, .ref ra1, .int 0, .int (-1), .int 0])) := by rw [ehp4]; exact ad_up_s _ _ _
  have fhp4_ra1 := (show hp4 ra1 = hp3 ra1 by rw [ehp4]; exact ad_up_n _ ((ne_a_ra1).symm)).trans fhp3_ra1
  refine lv_aload_n hx hb d_T_init_20 rfl (lv_at hl 0 rfl) ?_
  refine lv_iconst (v := 0) hx hb d_T_init_21 (by decide) ?_
  refine ad_put S I fhp4_a K_Thing 5 (by decide) w_209 rfl rfl rfl (by simp) d_T_init_22 (fun H1 locs1 I => ?_)
  obtain ⟨hp5, ehp5⟩ : ∃ z : ad_H, z = ad_up hp4 a (.inr (1, [.int 0, .int 0, .ref ra1, .int 0, .int (-1), .int 0])) := ⟨_, rfl⟩
  have I : ad_I G lo s hp5 H1 locs1 := by rw [ehp5]; exact I
  have fhp5_a : hp5 a = some (.inr (1, [.int 0, .int 0, .ref ra1, .int 0, .int (-1), .int 0])) := by rw [ehp5]; exact ad_up_s _ _ _
  have fhp5_ra1 := (show hp5 ra1 = hp4 ra1 by rw [ehp5]; exact ad_up_n _ ((ne_a_ra1).symm)).trans fhp4_ra1
  refine lv_aload_n hx hb d_T_init_25 rfl (lv_at hl 0 rfl) ?_
  refine lv_iload_n hx hb d_T_init_26 rfl (lv_at hl 1 rfl) ?_
  refine ad_putF S I fhp5_a K_Thing 0 (by decide) w_199 rfl hin rfl rfl rfl (by simp) d_T_init_27 (fun H1 locs1 I => ?_)
  obtain ⟨hp6, ehp6⟩ : ∃ z : ad_H, z = ad_up hp5 a (.inr (1, [.int n0, .int 0, .ref ra1, .int 0, .int (-1), .int 0])) := ⟨_, rfl⟩
  have I : ad_I G lo s hp6 H1 locs1 := by rw [ehp6]; exact I
  have fhp6_a : hp6 a = some (.inr (1, [.int n0, .int 0, .ref ra1, .int 0, .int (-1), .int 0])) := by rw [ehp6]; exact ad_up_s _ _ _
  have fhp6_ra1 := (show hp6 ra1 = hp5 ra1 by rw [ehp6]; exact ad_up_n _ ((ne_a_ra1).symm)).trans fhp5_ra1
  refine lv_aload_n hx hb d_T_init_30 rfl (lv_at hl 0 rfl) ?_
  refine lv_iload_n hx hb d_T_init_31 rfl (lv_at hl 2 rfl) ?_
  refine ad_putF S I fhp6_a K_Thing 1 (by decide) w_201 rfl hin rfl rfl rfl (by simp) d_T_init_32 (fun H1 locs1 I => ?_)
  obtain ⟨hp7, ehp7⟩ : ∃ z : ad_H, z = ad_up hp6 a (.inr (1, [.int n0, .int s0, .ref ra1, .int 0, .int (-1), .int 0])) := ⟨_, rfl⟩
  have I : ad_I G lo s hp7 H1 locs1 := by rw [ehp7]; exact I
  have fhp7_a : hp7 a = some (.inr (1, [.int n0, .int s0, .ref ra1, .int 0, .int (-1), .int 0])) := by rw [ehp7]; exact ad_up_s _ _ _
  have fhp7_ra1 := (show hp7 ra1 = hp6 ra1 by rw [ehp7]; exact ad_up_n _ ((ne_a_ra1).symm)).trans fhp6_ra1
  refine lv_aload_n hx hb d_T_init_35 rfl (lv_at hl 0 rfl) ?_
  refine lv_iload_n hx hb d_T_init_36 rfl (lv_at hl 3 rfl) ?_
  refine ad_put S I fhp7_a K_Thing 3 (by decide) w_205 rfl rfl rfl (by simp) d_T_init_37 (fun H1 locs1 I => ?_)
  obtain ⟨hp8, ehp8⟩ : ∃ z : ad_H, z = ad_up hp7 a (.inr (1, [.int n0, .int s0, .ref ra1, .int p0, .int (-1), .int 0])) := ⟨_, rfl⟩
  have I : ad_I G lo s hp8 H1 locs1 := by rw [ehp8]; exact I
  have fhp8_a : hp8 a = some (.inr (1, [.int n0, .int s0, .ref ra1, .int p0, .int (-1), .int 0])) := by rw [ehp8]; exact ad_up_s _ _ _
  have fhp8_ra1 := (show hp8 ra1 = hp7 ra1 by rw [ehp8]; exact ad_up_n _ ((ne_a_ra1).symm)).trans fhp7_ra1
  exact ad_vret M I (by omega) (by omega) (⟨rfl, ra1, n1, fhp8_a, fhp8_ra1, fun z hz hz2 => by rw [ehp8, ad_up_n _ hz, ehp7, ad_up_n _ hz, ehp6, ad_up_n _ hz, ehp5, ad_up_n _ hz, ehp4, ad_up_n _ hz, ehp3, ad_up_n _ hz]; exact (k2 z hz2).trans (k1 z hz2)⟩) d_T_init_40
