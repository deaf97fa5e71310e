def szM (k : Nat) : Nat := match k with
  | 6 => 6
  | 8 => 1536
  | 9 => 1536
  | 10 => 1536
  | _ => 64
def updF (fs : Nat → Nat → Int32) (k : Nat) (g : Nat → Int32) : Nat → Nat → Int32 := fun i => if i = k then g else fs i
def MC (G : ad_G) (hp : ad_H) (m0 : Nat) (bs : Nat → Nat) (th : Int32) (sd : Int64) (nn dm : Int32) (fs : Nat → Nat → Int32) : Prop :=
  hp m0 = some (.inr (5, [.int th, .long sd, .int nn, .ref (bs 0), .ref (bs 1), .ref (bs 2), .int dm, .ref (bs 3), .ref (bs 4), .ref (bs 5), .ref (bs 6), .ref (bs 7), .ref (bs 8), .ref (bs 9), .ref (bs 10)])) ∧ (∀ i, i < 11 → hp (bs i) = some (.inl (G.2.1 0, szM i, .inl (fs i)))) ∧ (∀ i j, i < 11 → j < 11 → bs i = bs j → i = j)
def mf (m0 : Nat) (bs : Nat → Nat) (hp hp' : ad_H) : Prop := ∀ z, z ≠ m0 → (∀ i, i < 11 → z ≠ bs i) → hp' z = hp z
theorem mf.rf (m0 : Nat) (bs : Nat → Nat) (hp : ad_H) : mf m0 bs hp hp := fun _ _ _ => rfl
theorem mf.tr {m0 : Nat} {bs : Nat → Nat} {hp hp1 hp2 : ad_H} (h : mf m0 bs hp hp1) (h2 : mf m0 bs hp1 hp2) : mf m0 bs hp hp2 := fun z h3 h4 => (h2 z h3 h4).trans (h z h3 h4)
section MCS
variable {G : ad_G} {hp hp' : ad_H} {m0 : Nat} {bs : Nat → Nat} {th th' : Int32} {sd sd' : Int64} {nn dm nn' dm' : Int32} {fs : Nat → Nat → Int32}
theorem MC.fld (C : MC G hp m0 bs th sd nn dm fs) (h1 : hp' m0 = some (.inr (5, [.int th', .long sd', .int nn', .ref (bs 0), .ref (bs 1), .ref (bs 2), .int dm', .ref (bs 3), .ref (bs 4), .ref (bs 5), .ref (bs 6), .ref (bs 7), .ref (bs 8), .ref (bs 9), .ref (bs 10)]))) (hk : ∀ z, z ≠ m0 → hp' z = hp z) : MC G hp' m0 bs th' sd' nn' dm' fs ∧ mf m0 bs hp hp' :=
  ⟨⟨h1, fun i hi => (hk _ (ad_ne (C.2.1 i hi) C.1 (by simp))).trans (C.2.1 i hi), C.2.2⟩, fun z hz _ => hk z hz⟩
theorem MC.arr (C : MC G hp m0 bs th sd nn dm fs) (k : Nat) (hk11 : k < 11) {g : Nat → Int32} (h1 : hp' (bs k) = some (.inl (G.2.1 0, szM k, .inl g))) (hk : ∀ z, z ≠ bs k → hp' z = hp z) : MC G hp' m0 bs th sd nn dm (updF fs k g) ∧ mf m0 bs hp hp' := by
  refine ⟨⟨(hk _ (ad_ne C.1 (C.2.1 k hk11) (by simp))).trans C.1, fun i hi => ?_, C.2.2⟩, fun z _ hz => hk z (hz k hk11)⟩
  by_cases hik : i = k
  · subst hik
    rw [h1]; simp [updF]
  · rw [hk _ (fun hh => hik (C.2.2 i k hi hk11 hh)), C.2.1 i hi]; simp [updF, hik]
end MCS
def mt (fs : Nat → Nat → Int32) (i : Nat) (t : TH) : Prop := fs 0 i = t.1 ∧ fs 1 i = t.2.1 ∧ fs 2 i = t.2.2.2.1 ∧ fs 4 i = t.2.2.1 ∧ fs 7 i = nI t.2.2.2.2.length ∧ ∀ (k : Nat) (r : R3), t.2.2.2.2[k]? = some r → fs 8 (24 * i + k) = r.1 ∧ fs 9 (24 * i + k) = r.2.1 ∧ fs 10 (24 * i + k) = r.2.2
def MA (ts : List TH) (lt : List Nat) (fs : Nat → Nat → Int32) : Prop := (∀ (i : Nat) (t : TH), ts[i]? = some t → mt fs i t) ∧ (∀ i, ts.length ≤ i → i < 64 → fs 2 i = 0 ∧ fs 7 i = 0) ∧ (∀ (j i : Nat), lt[j]? = some i → fs 3 j = nI i)
def sp_fl (a b d : Int32) : Int32 := if a = 0 then (if b = 0 then (if d = 0 then 0 else 3) else 2) else 1
theorem in_ok (v : Int32) (hi : Int64) (b : Int32) (h : hi.toInt + 1 = b.toInt) : sp_in v.toInt64 0 hi = 0 ↔ ¬ okb v b := by
  have e : sp_in v.toInt64 0 hi = 0 ↔ ¬ (0 ≤ v.toInt64 ∧ v.toInt64 ≤ hi) := by
    unfold sp_in; split
    · next q => exact ⟨fun z => absurd z (by decide), fun z => absurd q z⟩
    · next q => exact ⟨fun _ => q, fun _ => rfl⟩
  rw [e]
  have z0 : (0 : Int64).toInt = 0 := by decide
  have z1 : (0 : Int32).toInt = 0 := by decide
  have : (0 ≤ v.toInt64 ∧ v.toInt64 ≤ hi) ↔ okb v b := by
    unfold okb
    rw [Int64.le_iff_toInt_le, Int64.le_iff_toInt_le, Int32.toInt_toInt64, Int32.lt_iff_toInt_lt, Int32.lt_iff_toInt_lt, z0, z1]
    omega
  rw [this]
theorem in_le (v : Int32) (hi : Int64) (b : Int32) (h : hi.toInt = b.toInt) : sp_in v.toInt64 0 hi = 0 ↔ ¬ (¬ v < 0 ∧ v ≤ b) := by
  have e : sp_in v.toInt64 0 hi = 0 ↔ ¬ (0 ≤ v.toInt64 ∧ v.toInt64 ≤ hi) := by
    unfold sp_in; split
    · next q => exact ⟨fun z => absurd z (by decide), fun z => absurd q z⟩
    · next q => exact ⟨fun _ => q, fun _ => rfl⟩
  rw [e]
  have z0 : (0 : Int64).toInt = 0 := by decide
  have z1 : (0 : Int32).toInt = 0 := by decide
  have : (0 ≤ v.toInt64 ∧ v.toInt64 ≤ hi) ↔ (¬ v < 0 ∧ v ≤ b) := by
    rw [Int64.le_iff_toInt_le, Int64.le_iff_toInt_le, Int32.toInt_toInt64, Int32.lt_iff_toInt_lt, Int32.le_iff_toInt_le, z0, z1]
    omega
  rw [this]
theorem th_i {n : Nat} (hn : n ≤ 64) : (nI n - 1).toInt64.toInt + 1 = (nI n).toInt := by
  rw [Int32.toInt_toInt64, show (1 : Int32) = nI 1 from rfl, pk_sub_toInt (by omega) (by omega), nI_toInt (by omega)]
  omega
theorem in_th {n : Nat} (hn : n ≤ 64) (v : Int32) : sp_in v.toInt64 0 (nI n - 1).toInt64 = 0 ↔ ¬ sp_ok n v := in_ok v _ _ (th_i hn)
set_option maxHeartbeats 4000000 in
set_option maxRecDepth 100000 in
theorem c_M_fails (l : Launch) (G : ad_G) (lo : Nat) (hp : ad_H) (m0 : Nat) (bs : Nat → Nat) (th : Int32) (sd : Int64) (nn dm : Int32) (fs : Nat → Nat → Int32) (a0 b0 d0 : Int32)  (C : MC G hp m0 bs th sd nn dm fs) : ad_Ct l y_M_fails b_M_fails 4 rt_M_fails hs_M_fails 1 0 0 G lo hp [.ref m0, .int a0, .int b0, .int d0] (fun r hp' => r = .inl (some (.int (if sp_fl a0 b0 d0 = 0 then 0 else 1))) ∧ MC G hp' m0 bs (sp_fl a0 b0 d0) sd nn dm fs ∧ mf m0 bs hp hp') := by
  intro p e s m below meth c M hts hB hP
  have hx := M.1
  have hb := M.2.1
  have hml := M.2.2.1
  have hown : s.vm.findClass "AuditDrawsModel" = some m.cls := M.2.2.2.1
  have S : CallFix p m c b_M_fails 4 s _ ad_T "AuditDrawsModel" := ⟨hx, hb, hml, hown, hts⟩
  have I : ad_I G lo s hp s.heap [] := ad_I.rf hB hP
  have hl := lv_entry ([.ref m0, .int a0, .int b0, .int d0]) (n := 4) (Nat.le_of_ble_eq_true rfl)
  rw [lg_entry_eq]
  generalize (lg_sl ([.ref m0, .int a0, .int b0, .int d0]) ++ List.replicate (4 - (lg_sl ([.ref m0, .int a0, .int b0, .int d0])).length) Slot.unset).toArray = ls at hl ⊢
  have hl : lv_has ls 4 [(0, .ref m0), (1, .int a0), (2, .int b0), (3, .int d0)] := hl
  refine lv_aload_n hx hb d_M_fails_0 rfl (lv_at hl 0 rfl) ?_
  refine lv_iload_n hx hb d_M_fails_1 rfl (lv_at hl 1 rfl) ?_
  refine lv_if_eq (tgt := 9) hx hb d_M_fails_2 (by decide) (fun c2 => ?_) (fun c2 => ?_)
  · refine lv_iload_n hx hb d_M_fails_9 rfl (lv_at hl 2 rfl) ?_
    refine lv_if_eq (tgt := 17) hx hb d_M_fails_10 (by decide) (fun c10 => ?_) (fun c10 => ?_)
    · refine lv_iload_n hx hb d_M_fails_17 rfl (lv_at hl 3 rfl) ?_
      refine lv_if_eq (tgt := 25) hx hb d_M_fails_18 (by decide) (fun c18 => ?_) (fun c18 => ?_)
      · refine lv_iconst (v := 0) hx hb d_M_fails_25 (by decide) ?_
        refine ad_put S I C.1 K_Mod 0 (by decide) w_548 rfl rfl rfl (by simp) d_M_fails_26 (fun H1 locs1 I => ?_)
        obtain ⟨hp1, ehp1⟩ : ∃ z : ad_H, z = ad_up hp m0 (.inr (5, [.int 0, .long sd, .int nn, .ref (bs 0), .ref (bs 1), .ref (bs 2), .int dm, .ref (bs 3), .ref (bs 4), .ref (bs 5), .ref (bs 6), .ref (bs 7), .ref (bs 8), .ref (bs 9), .ref (bs 10)])) := ⟨_, rfl⟩
        have I : ad_I G lo s hp1 H1 locs1 := by rw [ehp1]; exact I
        obtain ⟨C1, F1⟩ := MC.fld (hp' := hp1) C (by rw [ehp1]; exact ad_up_s _ _ _) (fun z hz => by rw [ehp1]; exact ad_up_n _ hz)
        refine lv_aload_n hx hb d_M_fails_29 rfl (lv_at hl 0 rfl) ?_
        refine ad_get S I C1.1 K_Mod 0 (by decide) w_548 rfl d_M_fails_30 ?_
        refine lv_if_le (tgt := 40) hx hb d_M_fails_33 (by decide) (fun c33 => ?_) (fun c33 => ?_)
        · refine lv_iconst (v := 0) hx hb d_M_fails_40 (by decide) ?_
          exact ad_iret M I rfl (by omega) (by omega) (⟨by rw [(show sp_fl a0 b0 d0 = 0 by simp [sp_fl, c2, c10, c18])]; rfl, by rw [(show sp_fl a0 b0 d0 = 0 by simp [sp_fl, c2, c10, c18])]; exact C1, F1⟩) d_M_fails_41
        · exact absurd c33 (by decide)
      · refine lv_iconst (v := 3) hx hb d_M_fails_21 (by decide) ?_
        refine lv_goto (tgt := 26) hx hb d_M_fails_22 (by decide) ?_
        refine ad_put S I C.1 K_Mod 0 (by decide) w_548 rfl rfl rfl (by simp) d_M_fails_26 (fun H1 locs1 I => ?_)
        obtain ⟨hp2, ehp2⟩ : ∃ z : ad_H, z = ad_up hp m0 (.inr (5, [.int 3, .long sd, .int nn, .ref (bs 0), .ref (bs 1), .ref (bs 2), .int dm, .ref (bs 3), .ref (bs 4), .ref (bs 5), .ref (bs 6), .ref (bs 7), .ref (bs 8), .ref (bs 9), .ref (bs 10)])) := ⟨_, rfl⟩
        have I : ad_I G lo s hp2 H1 locs1 := by rw [ehp2]; exact I
        obtain ⟨C2, F2⟩ := MC.fld (hp' := hp2) C (by rw [ehp2]; exact ad_up_s _ _ _) (fun z hz => by rw [ehp2]; exact ad_up_n _ hz)
        refine lv_aload_n hx hb d_M_fails_29 rfl (lv_at hl 0 rfl) ?_
        refine ad_get S I C2.1 K_Mod 0 (by decide) w_548 rfl d_M_fails_30 ?_
        refine lv_if_le (tgt := 40) hx hb d_M_fails_33 (by decide) (fun c33 => ?_) (fun c33 => ?_)
        · exact absurd c33 (by decide)
        · refine lv_iconst (v := 1) hx hb d_M_fails_36 (by decide) ?_
          refine lv_goto (tgt := 41) hx hb d_M_fails_37 (by decide) ?_
          exact ad_iret M I rfl (by omega) (by omega) (⟨by rw [(show sp_fl a0 b0 d0 = 3 by simp [sp_fl, c2, c10, c18])]; rfl, by rw [(show sp_fl a0 b0 d0 = 3 by simp [sp_fl, c2, c10, c18])]; exact C2, F2⟩) d_M_fails_41
    · refine lv_iconst (v := 2) hx hb d_M_fails_13 (by decide) ?_
      refine lv_goto (tgt := 26) hx hb d_M_fails_14 (by decide) ?_
      refine ad_put S I C.1 K_Mod 0 (by decide) w_548 rfl rfl rfl (by simp) d_M_fails_26 (fun H1 locs1 I => ?_)
      obtain ⟨hp3, ehp3⟩ : ∃ z : ad_H, z = ad_up hp m0 (.inr (5, [.int 2, .long sd, .int nn, .ref (bs 0), .ref (bs 1), .ref (bs 2), .int dm, .ref (bs 3), .ref (bs 4), .ref (bs 5), .ref (bs 6), .ref (bs 7), .ref (bs 8), .ref (bs 9), .ref (bs 10)])) := ⟨_, rfl⟩
      have I : ad_I G lo s hp3 H1 locs1 := by rw [ehp3]; exact I
      obtain ⟨C3, F3⟩ := MC.fld (hp' := hp3) C (by rw [ehp3]; exact ad_up_s _ _ _) (fun z hz => by rw [ehp3]; exact ad_up_n _ hz)
      refine lv_aload_n hx hb d_M_fails_29 rfl (lv_at hl 0 rfl) ?_
      refine ad_get S I C3.1 K_Mod 0 (by decide) w_548 rfl d_M_fails_30 ?_
      refine lv_if_le (tgt := 40) hx hb d_M_fails_33 (by decide) (fun c33 => ?_) (fun c33 => ?_)
      · exact absurd c33 (by decide)
      · refine lv_iconst (v := 1) hx hb d_M_fails_36 (by decide) ?_
        refine lv_goto (tgt := 41) hx hb d_M_fails_37 (by decide) ?_
        exact ad_iret M I rfl (by omega) (by omega) (⟨by rw [(show sp_fl a0 b0 d0 = 2 by simp [sp_fl, c2, c10])]; rfl, by rw [(show sp_fl a0 b0 d0 = 2 by simp [sp_fl, c2, c10])]; exact C3, F3⟩) d_M_fails_41
  · refine lv_iconst (v := 1) hx hb d_M_fails_5 (by decide) ?_
    refine lv_goto (tgt := 26) hx hb d_M_fails_6 (by decide) ?_
    refine ad_put S I C.1 K_Mod 0 (by decide) w_548 rfl rfl rfl (by simp) d_M_fails_26 (fun H1 locs1 I => ?_)
    obtain ⟨hp4, ehp4⟩ : ∃ z : ad_H, z = ad_up hp m0 (.inr (5, [.int 1, .long sd, .int nn, .ref (bs 0), .ref (bs 1), .ref (bs 2), .int dm, .ref (bs 3), .ref (bs 4), .ref (bs 5), .ref (bs 6), .ref (bs 7), .ref (bs 8), .ref (bs 9), .ref (bs 10)])) := ⟨_, rfl⟩
    have I : ad_I G lo s hp4 H1 locs1 := by rw [ehp4]; exact I
    obtain ⟨C4, F4⟩ := MC.fld (hp' := hp4) C (by rw [ehp4]; exact ad_up_s _ _ _) (fun z hz => by rw [ehp4]; exact ad_up_n _ hz)
    refine lv_aload_n hx hb d_M_fails_29 rfl (lv_at hl 0 rfl) ?_
    refine ad_get S I C4.1 K_Mod 0 (by decide) w_548 rfl d_M_fails_30 ?_
    refine lv_if_le (tgt := 40) hx hb d_M_fails_33 (by decide) (fun c33 => ?_) (fun c33 => ?_)
    · exact absurd c33 (by decide)
    · refine lv_iconst (v := 1) hx hb d_M_fails_36 (by decide) ?_
      refine lv_goto (tgt := 41) hx hb d_M_fails_37 (by decide) ?_
      exact ad_iret M I rfl (by omega) (by omega) (⟨by rw [(show sp_fl a0 b0 d0 = 1 by simp [sp_fl, c2])]; rfl, by rw [(show sp_fl a0 b0 d0 = 1 by simp [sp_fl, c2])]; exact C4, F4⟩) d_M_fails_41
set_option maxHeartbeats 4000000 in
set_option maxRecDepth 100000 in
theorem c_M_isThing (l : Launch) (G : ad_G) (lo : Nat) (hp : ad_H) (m0 : Nat) (bs : Nat → Nat) (th : Int32) (sd : Int64) (nn dm : Int32) (fs : Nat → Nat → Int32) (v : Int32)  (C : MC G hp m0 bs th sd nn dm fs) : ad_Cp l y_M_isThing b_M_isThing 2 rt_M_isThing hs_M_isThing 2 0 0 G lo hp [.ref m0, .int v] (fun r => r = .inl (some (.int (sp_in v.toInt64 0 (nn - 1).toInt64)))) := by
  intro p e s m below meth c M hts hB hP
  have hx := M.1
  have hb := M.2.1
  have hml := M.2.2.1
  have hown : s.vm.findClass "AuditDrawsModel" = some m.cls := M.2.2.2.1
  have S : CallFix p m c b_M_isThing 2 s _ ad_T "AuditDrawsModel" := ⟨hx, hb, hml, hown, hts⟩
  have I : ad_I G lo s hp s.heap [] := ad_I.rf hB hP
  have hl := lv_entry ([.ref m0, .int v]) (n := 2) (Nat.le_of_ble_eq_true rfl)
  rw [lg_entry_eq]
  generalize (lg_sl ([.ref m0, .int v]) ++ List.replicate (2 - (lg_sl ([.ref m0, .int v])).length) Slot.unset).toArray = ls at hl ⊢
  have hl : lv_has ls 2 [(0, .ref m0), (1, .int v)] := hl
  refine lv_iload_n hx hb d_M_isThing_0 rfl (lv_at hl 1 rfl) ?_
  refine lv_i2l (v := v.toInt64) hx hb d_M_isThing_1 rfl ?_
  refine lv_lconst (v := 0) hx hb d_M_isThing_2 (by decide) ?_
  refine lv_aload_n hx hb d_M_isThing_3 rfl (lv_at hl 0 rfl) ?_
  refine ad_get S I C.1 K_Mod 2 (by decide) w_550 rfl d_M_isThing_4 ?_
  refine lv_iconst (v := 1) hx hb d_M_isThing_7 (by decide) ?_
  refine lv_isub hx hb d_M_isThing_8 ?_
  refine lv_i2l (v := (nn - 1).toInt64) hx hb d_M_isThing_9 rfl ?_
  refine ad_cPi S I (ad_ivS (As := [.long v.toInt64, .long 0, .long ((nn - 1).toInt64)]) (rest := []) S Y_M_in w_607 w_608 w_6 ⟨by decide, by decide, np_M_in⟩ rfl d_M_isThing_10) (c_M_in l G lo hp v.toInt64 0 ((nn - 1).toInt64)) Y_M_in hl.1 ⟨Nat.le_of_ble_eq_true rfl, Nat.le_of_ble_eq_true rfl⟩ (Nat.le_of_ble_eq_true rfl) (Nat.le_of_ble_eq_true rfl) d_M_isThing_10 ?_
  exact ad_iretP M (by unfold sp_in; split <;> rfl) rfl d_M_isThing_13
set_option maxHeartbeats 4000000 in
set_option maxRecDepth 100000 in
theorem c_M_thrown (l : Launch) (G : ad_G) (lo : Nat) (hp : ad_H) (m0 : Nat) (bs : Nat → Nat) (th : Int32) (sd : Int64) (nn dm : Int32) (fs : Nat → Nat → Int32)  (C : MC G hp m0 bs th sd nn dm fs) : ad_Cp l y_M_thrown b_M_thrown 1 rt_M_thrown hs_M_thrown 1 0 0 G lo hp [.ref m0] (fun r => r = .inl (some (.int th))) := by
  intro p e s m below meth c M hts hB hP
  have hx := M.1
  have hb := M.2.1
  have hml := M.2.2.1
  have hown : s.vm.findClass "AuditDrawsModel" = some m.cls := M.2.2.2.1
  have S : CallFix p m c b_M_thrown 1 s _ ad_T "AuditDrawsModel" := ⟨hx, hb, hml, hown, hts⟩
  have I : ad_I G lo s hp s.heap [] := ad_I.rf hB hP
  have hl := lv_entry ([.ref m0]) (n := 1) (Nat.le_of_ble_eq_true rfl)
  rw [lg_entry_eq]
  generalize (lg_sl ([.ref m0]) ++ List.replicate (1 - (lg_sl ([.ref m0])).length) Slot.unset).toArray = ls at hl ⊢
  have hl : lv_has ls 1 [(0, .ref m0)] := hl
  refine lv_aload_n hx hb d_M_thrown_0 rfl (lv_at hl 0 rfl) ?_
  refine ad_get S I C.1 K_Mod 0 (by decide) w_548 rfl d_M_thrown_1 ?_
  exact ad_iretP M rfl rfl d_M_thrown_4
set_option maxHeartbeats 4000000 in
set_option maxRecDepth 100000 in
theorem c_M_seed (l : Launch) (G : ad_G) (lo : Nat) (hp : ad_H) (m0 : Nat) (bs : Nat → Nat) (th : Int32) (sd : Int64) (nn dm : Int32) (fs : Nat → Nat → Int32) (s9 : Int64)  (C : MC G hp m0 bs th sd nn dm fs) : ad_Ct l y_M_seed b_M_seed 3 rt_M_seed hs_M_seed 1 0 0 G lo hp [.ref m0, .long s9] (fun r hp' => r = .inl none ∧ MC G hp' m0 bs 0 s9 nn dm fs ∧ mf m0 bs hp hp') := by
  intro p e s m below meth c M hts hB hP
  have hx := M.1
  have hb := M.2.1
  have hml := M.2.2.1
  have hown : s.vm.findClass "AuditDrawsModel" = some m.cls := M.2.2.2.1
  have S : CallFix p m c b_M_seed 3 s _ ad_T "AuditDrawsModel" := ⟨hx, hb, hml, hown, hts⟩
  have I : ad_I G lo s hp s.heap [] := ad_I.rf hB hP
  have hl := lv_entry ([.ref m0, .long s9]) (n := 3) (Nat.le_of_ble_eq_true rfl)
  rw [lg_entry_eq]
  generalize (lg_sl ([.ref m0, .long s9]) ++ List.replicate (3 - (lg_sl ([.ref m0, .long s9])).length) Slot.unset).toArray = ls at hl ⊢
  have hl : lv_has ls 3 [(0, .ref m0), (1, .long s9)] := hl
  refine lv_aload_n hx hb d_M_seed_0 rfl (lv_at hl 0 rfl) ?_
  refine lv_iconst (v := 0) hx hb d_M_seed_1 (by decide) ?_
  refine ad_put S I C.1 K_Mod 0 (by decide) w_548 rfl rfl rfl (by simp) d_M_seed_2 (fun H1 locs1 I => ?_)
  obtain ⟨hp1, ehp1⟩ : ∃ z : ad_H, z = ad_up hp m0 (.inr (5, [.int 0, .long sd, .int nn, .ref (bs 0), .ref (bs 1), .ref (bs 2), .int dm, .ref (bs 3), .ref (bs 4), .ref (bs 5), .ref (bs 6), .ref (bs 7), .ref (bs 8), .ref (bs 9), .ref (bs 10)])) := ⟨_, rfl⟩
  have I : ad_I G lo s hp1 H1 locs1 := by rw [ehp1]; exact I
  obtain ⟨C1, F1⟩ := MC.fld (hp' := hp1) C (by rw [ehp1]; exact ad_up_s _ _ _) (fun z hz => by rw [ehp1]; exact ad_up_n _ hz)
  refine lv_aload_n hx hb d_M_seed_5 rfl (lv_at hl 0 rfl) ?_
  refine lv_lload_n hx hb d_M_seed_6 rfl (lv_at hl 1 rfl) ?_
  refine ad_put S I C1.1 K_Mod 1 (by decide) w_549 rfl rfl rfl (by simp) d_M_seed_7 (fun H1 locs1 I => ?_)
  obtain ⟨hp2, ehp2⟩ : ∃ z : ad_H, z = ad_up hp1 m0 (.inr (5, [.int 0, .long s9, .int nn, .ref (bs 0), .ref (bs 1), .ref (bs 2), .int dm, .ref (bs 3), .ref (bs 4), .ref (bs 5), .ref (bs 6), .ref (bs 7), .ref (bs 8), .ref (bs 9), .ref (bs 10)])) := ⟨_, rfl⟩
  have I : ad_I G lo s hp2 H1 locs1 := by rw [ehp2]; exact I
  obtain ⟨C2, F2⟩ := MC.fld (hp' := hp2) C1 (by rw [ehp2]; exact ad_up_s _ _ _) (fun z hz => by rw [ehp2]; exact ad_up_n _ hz)
  exact ad_vret M I (by omega) (by omega) (⟨rfl, C2, (F1.tr F2)⟩) d_M_seed_10
set_option maxHeartbeats 4000000 in
set_option maxRecDepth 100000 in
theorem c_M_draw (l : Launch) (G : ad_G) (lo : Nat) (hp : ad_H) (m0 : Nat) (bs : Nat → Nat) (th : Int32) (sd : Int64) (nn dm : Int32) (fs : Nat → Nat → Int32) (n9 : Int32)  (C : MC G hp m0 bs th sd nn dm fs) (hn9 : ¬ n9 < 1) : ad_Ct l y_M_draw b_M_draw 2 rt_M_draw hs_M_draw 1 0 0 G lo hp [.ref m0, .int n9] (fun r hp' => r = .inl (some (.int (sp_ix (sp_dr sd) n9))) ∧ MC G hp' m0 bs th (sp_dr sd) nn dm fs ∧ mf m0 bs hp hp') := by
  intro p e s m below meth c M hts hB hP
  have hx := M.1
  have hb := M.2.1
  have hml := M.2.2.1
  have hown : s.vm.findClass "AuditDrawsModel" = some m.cls := M.2.2.2.1
  have S : CallFix p m c b_M_draw 2 s _ ad_T "AuditDrawsModel" := ⟨hx, hb, hml, hown, hts⟩
  have I : ad_I G lo s hp s.heap [] := ad_I.rf hB hP
  have hl := lv_entry ([.ref m0, .int n9]) (n := 2) (Nat.le_of_ble_eq_true rfl)
  rw [lg_entry_eq]
  generalize (lg_sl ([.ref m0, .int n9]) ++ List.replicate (2 - (lg_sl ([.ref m0, .int n9])).length) Slot.unset).toArray = ls at hl ⊢
  have hl : lv_has ls 2 [(0, .ref m0), (1, .int n9)] := hl
  refine lv_aload_n hx hb d_M_draw_0 rfl (lv_at hl 0 rfl) ?_
  refine lv_aload_n hx hb d_M_draw_1 rfl (lv_at hl 0 rfl) ?_
  refine ad_get S I C.1 K_Mod 1 (by decide) w_549 rfl d_M_draw_2 ?_
  refine lv_ldc2 (v := 6364136223846793005) hx hb hown (hts _ w_639) d_M_draw_5 ?_
  refine lv_lmul hx hb d_M_draw_8 ?_
  refine lv_ldc2 (v := 1442695040888963407) hx hb hown (hts _ w_640) d_M_draw_9 ?_
  refine lv_ladd hx hb d_M_draw_12 ?_
  refine ad_put S I C.1 K_Mod 1 (by decide) w_549 rfl rfl rfl (by simp) d_M_draw_13 (fun H1 locs1 I => ?_)
  obtain ⟨hp1, ehp1⟩ : ∃ z : ad_H, z = ad_up hp m0 (.inr (5, [.int th, .long ((sd * 6364136223846793005) + 1442695040888963407), .int nn, .ref (bs 0), .ref (bs 1), .ref (bs 2), .int dm, .ref (bs 3), .ref (bs 4), .ref (bs 5), .ref (bs 6), .ref (bs 7), .ref (bs 8), .ref (bs 9), .ref (bs 10)])) := ⟨_, rfl⟩
  have I : ad_I G lo s hp1 H1 locs1 := by rw [ehp1]; exact I
  obtain ⟨C1, F1⟩ := MC.fld (hp' := hp1) C (by rw [ehp1]; exact ad_up_s _ _ _) (fun z hz => by rw [ehp1]; exact ad_up_n _ hz)
  refine lv_aload_n hx hb d_M_draw_16 rfl (lv_at hl 0 rfl) ?_
  refine ad_get S I C1.1 K_Mod 1 (by decide) w_549 rfl d_M_draw_17 ?_
  refine lv_bipush (v := 33) hx hb d_M_draw_20 (by decide) ?_
  refine lv_lushr (v := (((sd * 6364136223846793005) + 1442695040888963407).toUInt64 >>> ((33 : Int32).toInt64.toUInt64 &&& Int64.toUInt64 63)).toInt64) hx hb d_M_draw_22 rfl ?_
  refine lv_iload_n hx hb d_M_draw_23 rfl (lv_at hl 1 rfl) ?_
  refine lv_i2l (v := n9.toInt64) hx hb d_M_draw_24 rfl ?_
  refine lv_lrem hx hb d_M_draw_25 (ix_ne hn9) ?_
  refine lv_l2i (v := (((((sd * 6364136223846793005) + 1442695040888963407).toUInt64 >>> ((33 : Int32).toInt64.toUInt64 &&& Int64.toUInt64 63)).toInt64) - ((((sd * 6364136223846793005) + 1442695040888963407).toUInt64 >>> ((33 : Int32).toInt64.toUInt64 &&& Int64.toUInt64 63)).toInt64) / n9.toInt64 * n9.toInt64).toInt32) hx hb d_M_draw_26 rfl ?_
  exact ad_iret M I rfl (by omega) (by omega) (⟨rfl, C1, F1⟩) d_M_draw_27
set_option maxHeartbeats 4000000 in
set_option maxRecDepth 100000 in
theorem c_M_size (l : Launch) (G : ad_G) (lo : Nat) (hp : ad_H) (m0 : Nat) (bs : Nat → Nat) (th : Int32) (sd : Int64) (dm : Int32) (fs : Nat → Nat → Int32) (ts : List TH) (lt : List Nat) (s0 : Int32)  (C : MC G hp m0 bs th sd (nI ts.length) dm fs) (A : MA ts lt fs) (hn : ts.length ≤ 64) : ad_Cp l y_M_size b_M_size 4 rt_M_size hs_M_size 1 0 0 G lo hp [.ref m0, .int s0] (fun r => r = .inl (some (.int (nI (ts.countP (fun t => decide (t.1 = s0))))))) := by
  intro p e s m below meth c M hts hB hP
  have hx := M.1
  have hb := M.2.1
  have hml := M.2.2.1
  have hown : s.vm.findClass "AuditDrawsModel" = some m.cls := M.2.2.2.1
  have S : CallFix p m c b_M_size 4 s _ ad_T "AuditDrawsModel" := ⟨hx, hb, hml, hown, hts⟩
  have I : ad_I G lo s hp s.heap [] := ad_I.rf hB hP
  have hl := lv_entry ([.ref m0, .int s0]) (n := 4) (Nat.le_of_ble_eq_true rfl)
  rw [lg_entry_eq]
  generalize (lg_sl ([.ref m0, .int s0]) ++ List.replicate (4 - (lg_sl ([.ref m0, .int s0])).length) Slot.unset).toArray = ls at hl ⊢
  have hl : lv_has ls 4 [(0, .ref m0), (1, .int s0)] := hl
  have loop : ∀ (n : Nat) (j : Nat), ts.length < j + n ∧ j ≤ ts.length → ∀ ls : Array Slot, lv_has ls 4 [(0, .ref m0), (1, .int s0), (2, .int (nI ((ts.take j).countP (fun t => decide (t.1 = s0))))), (3, .int (nI j))] → W p l e (ad_rm 1 0 0) s m ([.ref m0, .int s0] : List Value).toArray below meth c s.heap [] 0 0 (ad_Zp below (fun r => r = .inl (some (.int (nI (ts.countP (fun t => decide (t.1 = s0))))))) s 0 0) (F0 m 4 ls []) := by
    intro n
    induction n with
    | zero => intro j h0 ls hl; exact absurd h0 (by omega)
    | succ n ih =>
      intro j h0 ls hl
      refine lv_iload_n hx hb d_M_size_4 rfl (lv_at hl 3 rfl) ?_
      refine lv_aload_n hx hb d_M_size_5 rfl (lv_at hl 0 rfl) ?_
      refine ad_get S I C.1 K_Mod 2 (by decide) w_550 rfl d_M_size_6 ?_
      refine lv_icmp_ge (tgt := 36) hx hb d_M_size_9 (by decide) (fun c9 => ?_) (fun c9 => ?_)
      · obtain rfl : j = ts.length := by have := ad_ge (j := j) (n := ts.length) (by omega) (by omega) c9; omega
        refine lv_iload_n hx hb d_M_size_36 rfl (lv_at hl 2 rfl) ?_
        exact ad_iretP M rfl (by rw [List.take_length]) d_M_size_37
      · have hj : j < ts.length := ad_lt (by omega) (by omega) c9
        obtain ⟨t, ht⟩ : ∃ t, ts[j]? = some t := ⟨_, List.getElem?_eq_getElem hj⟩
        have hA := A.1 j t ht
        refine lv_iload_n hx hb d_M_size_12 rfl (lv_at hl 2 rfl) ?_
        refine lv_aload_n hx hb d_M_size_13 rfl (lv_at hl 0 rfl) ?_
        refine ad_get S I C.1 K_Mod 3 (by decide) w_551 rfl d_M_size_14 ?_
        refine lv_iload_n hx hb d_M_size_17 rfl (lv_at hl 3 rfl) ?_
        refine ad_iald S I (C.2.1 0 (by decide)) (vp_in_nI (show j < 64 by omega) (by decide)) d_M_size_18 ?_
        refine ad_top (y := .int ((fs 0) j)) (congrArg (fun q => Value.int ((fs 0) q)) (show (nI j).toNatClampNeg = j from nI_clamp (by omega))) ?_
        refine lv_iload_n hx hb d_M_size_19 rfl (lv_at hl 1 rfl) ?_
        refine lv_icmp_ne (tgt := 27) hx hb d_M_size_20 (by decide) (fun c20 => ?_) (fun c20 => ?_)
        · rw [hA.1] at c20
          refine lv_iconst (v := 0) hx hb d_M_size_27 (by decide) ?_
          refine lv_iadd hx hb d_M_size_28 ?_
          refine ad_top (y := .int (nI ((ts.take j).countP (fun t => decide (t.1 = s0))))) (congrArg Value.int (Int32.add_zero _)) ?_
          refine lv_istore_n (lv' := [(2, .int (nI ((ts.take j).countP (fun t => decide (t.1 = s0))))), (0, .ref m0), (1, .int s0), (3, .int (nI j))]) hx hb d_M_size_29 rfl hl (by decide) rfl (fun ls hl => ?_)
          refine lv_iinc (v := (nI (j + 1))) (lv' := [(3, .int (nI (j + 1))), (2, .int (nI ((ts.take j).countP (fun t => decide (t.1 = s0))))), (0, .ref m0), (1, .int s0)]) hx hb d_M_size_30 hl (k := 3) rfl (nI_1 j) (by decide) rfl (fun ls hl => ?_)
          refine lv_goto (tgt := 4) hx hb d_M_size_33 (by decide) ?_
          exact ih (j + 1) (by omega) ls (by rw [cnt_s ht]; simp only [c20, decide_false, decide_true, if_true, if_false, Nat.add_zero, Bool.false_eq_true]; exact lv_sub hl [2, 3, 1, 0] rfl)
        · rw [hA.1] at c20
          refine lv_iconst (v := 1) hx hb d_M_size_23 (by decide) ?_
          refine lv_goto (tgt := 28) hx hb d_M_size_24 (by decide) ?_
          refine lv_iadd hx hb d_M_size_28 ?_
          refine ad_top (y := .int (nI ((ts.take j).countP (fun t => decide (t.1 = s0)) + 1))) (congrArg Value.int (nI_1 _)) ?_
          refine lv_istore_n (lv' := [(2, .int (nI ((ts.take j).countP (fun t => decide (t.1 = s0)) + 1))), (0, .ref m0), (1, .int s0), (3, .int (nI j))]) hx hb d_M_size_29 rfl hl (by decide) rfl (fun ls hl => ?_)
          refine lv_iinc (v := (nI (j + 1))) (lv' := [(3, .int (nI (j + 1))), (2, .int (nI ((ts.take j).countP (fun t => decide (t.1 = s0)) + 1))), (0, .ref m0), (1, .int s0)]) hx hb d_M_size_30 hl (k := 3) rfl (nI_1 j) (by decide) rfl (fun ls hl => ?_)
          refine lv_goto (tgt := 4) hx hb d_M_size_33 (by decide) ?_
          exact ih (j + 1) (by omega) ls (by rw [cnt_s ht]; simp only [c20, decide_false, decide_true, if_true, if_false, Nat.add_zero, Bool.false_eq_true]; exact lv_sub hl [2, 3, 1, 0] rfl)
  refine lv_iconst (v := 0) hx hb d_M_size_0 (by decide) ?_
  refine lv_istore_n (lv' := [(2, .int 0), (0, .ref m0), (1, .int s0)]) hx hb d_M_size_1 rfl hl (by decide) rfl (fun ls hl => ?_)
  refine lv_iconst (v := 0) hx hb d_M_size_2 (by decide) ?_
  refine lv_istore_n (lv' := [(3, .int 0), (2, .int 0), (0, .ref m0), (1, .int s0)]) hx hb d_M_size_3 rfl hl (by decide) rfl (fun ls hl => ?_)
  exact loop (ts.length + 1) 0 (by omega) ls (lv_sub hl [2, 3, 1, 0] rfl)
set_option maxHeartbeats 4000000 in
set_option maxRecDepth 100000 in
theorem c_M_rest (l : Launch) (G : ad_G) (lo : Nat) (hp : ad_H) (m0 : Nat) (bs : Nat → Nat) (th : Int32) (sd : Int64) (dm : Int32) (fs : Nat → Nat → Int32) (ts : List TH) (lt : List Nat) (k0 n0 : Nat)  (C : MC G hp m0 bs th sd (nI ts.length) dm fs) (A : MA ts lt fs) (hn : ts.length ≤ 64) (hn0 : n0 ≤ ts.length) (hp0 : 0 < ts.length) : ad_Cp l y_M_rest b_M_rest 3 rt_M_rest hs_M_rest 2 0 0 G lo hp [.ref m0, .int (nI k0), .int (nI n0)] (fun r => r = .inl (some (.int (nI (sp_r ts n0 k0))))) := by
  intro p e s m below meth c M hts hB hP
  have hx := M.1
  have hb := M.2.1
  have hml := M.2.2.1
  have hown : s.vm.findClass "AuditDrawsModel" = some m.cls := M.2.2.2.1
  have S : CallFix p m c b_M_rest 3 s _ ad_T "AuditDrawsModel" := ⟨hx, hb, hml, hown, hts⟩
  have I : ad_I G lo s hp s.heap [] := ad_I.rf hB hP
  have hl := lv_entry ([.ref m0, .int (nI k0), .int (nI n0)]) (n := 3) (Nat.le_of_ble_eq_true rfl)
  rw [lg_entry_eq]
  generalize (lg_sl ([.ref m0, .int (nI k0), .int (nI n0)]) ++ List.replicate (3 - (lg_sl ([.ref m0, .int (nI k0), .int (nI n0)])).length) Slot.unset).toArray = ls at hl ⊢
  have hl : lv_has ls 3 [(0, .ref m0), (1, .int (nI k0)), (2, .int (nI n0))] := hl
  have hcb := sp_cb k0 hn hn0
  refine lv_iload_n hx hb d_M_rest_0 rfl (lv_at hl 2 rfl) ?_
  refine lv_aload_n hx hb d_M_rest_1 rfl (lv_at hl 0 rfl) ?_
  refine lv_iload_n hx hb d_M_rest_2 rfl (lv_at hl 1 rfl) ?_
  refine ad_cPi S I (ad_ivV (As := [.int (nI k0)]) (rest := [.int (nI n0)]) S (ad_recv I C.1 K_Mod) w_623 w_625 sp_M_size Y_M_size ⟨by decide, by decide, np_M_size⟩ rfl d_M_rest_3) (c_M_size l G lo hp m0 bs th sd dm fs ts lt (nI k0) C A hn) Y_M_size hl.1 ⟨Nat.le_of_ble_eq_true rfl, Nat.le_of_ble_eq_true rfl⟩ (Nat.le_of_ble_eq_true rfl) (Nat.le_of_ble_eq_true rfl) d_M_rest_3 ?_
  refine lv_imul hx hb d_M_rest_6 ?_
  refine ad_top (y := .int (nI (n0 * sp_cn ts k0))) (congrArg Value.int (pk_mul _ _)) ?_
  refine lv_aload_n hx hb d_M_rest_7 rfl (lv_at hl 0 rfl) ?_
  refine ad_get S I C.1 K_Mod 2 (by decide) w_550 rfl d_M_rest_8 ?_
  refine lv_irem hx hb d_M_rest_11 (nI_ne0 hp0 (by omega)) ?_
  exact ad_iretP M rfl (by rw [pk_rem (by omega) hp0 (by omega)]; rfl) d_M_rest_12
theorem in_32 (v a b : Int32) : sp_in v.toInt64 a.toInt64 b.toInt64 = 0 ↔ ¬ (a ≤ v ∧ v ≤ b) := by
  have e : sp_in v.toInt64 a.toInt64 b.toInt64 = 0 ↔ ¬ (a.toInt64 ≤ v.toInt64 ∧ v.toInt64 ≤ b.toInt64) := by
    unfold sp_in; split
    · next q => exact ⟨fun z => absurd z (by decide), fun z => absurd q z⟩
    · next q => exact ⟨fun _ => q, fun _ => rfl⟩
  rw [e, Int64.le_iff_toInt_le, Int64.le_iff_toInt_le, Int32.toInt_toInt64, Int32.toInt_toInt64, Int32.toInt_toInt64, Int32.le_iff_toInt_le, Int32.le_iff_toInt_le]
set_option maxHeartbeats 4000000 in
set_option maxRecDepth 100000 in
theorem c_M_many (l : Launch) (G : ad_G) (lo : Nat) (hp : ad_H) (m0 : Nat) (bs : Nat → Nat) (th : Int32) (sd : Int64) (dm : Int32) (fs : Nat → Nat → Int32) (ts : List TH) (lt : List Nat) (s0 f0 e0 : Int32)  (C : MC G hp m0 bs th sd (nI ts.length) dm fs) (A : MA ts lt fs) (hn : ts.length ≤ 64) : ad_Cp l y_M_many b_M_many 6 rt_M_many hs_M_many 2 0 0 G lo hp [.ref m0, .int s0, .int f0, .int e0] (fun r => r = .inl (some (.int (nI (ts.countP (fun t => decide (t.1 = s0 ∧ f0 ≤ t.2.2.1 ∧ t.2.2.1 ≤ e0))))))) := by
  intro p e s m below meth c M hts hB hP
  have hx := M.1
  have hb := M.2.1
  have hml := M.2.2.1
  have hown : s.vm.findClass "AuditDrawsModel" = some m.cls := M.2.2.2.1
  have S : CallFix p m c b_M_many 6 s _ ad_T "AuditDrawsModel" := ⟨hx, hb, hml, hown, hts⟩
  have I : ad_I G lo s hp s.heap [] := ad_I.rf hB hP
  have hl := lv_entry ([.ref m0, .int s0, .int f0, .int e0]) (n := 6) (Nat.le_of_ble_eq_true rfl)
  rw [lg_entry_eq]
  generalize (lg_sl ([.ref m0, .int s0, .int f0, .int e0]) ++ List.replicate (6 - (lg_sl ([.ref m0, .int s0, .int f0, .int e0])).length) Slot.unset).toArray = ls at hl ⊢
  have hl : lv_has ls 6 [(0, .ref m0), (1, .int s0), (2, .int f0), (3, .int e0)] := hl
  have loop : ∀ (n : Nat) (j : Nat), ts.length < j + n ∧ j ≤ ts.length → ∀ ls : Array Slot, lv_has ls 6 [(0, .ref m0), (1, .int s0), (2, .int f0), (3, .int e0), (4, .int (nI ((ts.take j).countP (fun t => decide (t.1 = s0 ∧ f0 ≤ t.2.2.1 ∧ t.2.2.1 ≤ e0))))), (5, .int (nI j))] → W p l e (ad_rm 2 0 0) s m ([.ref m0, .int s0, .int f0, .int e0] : List Value).toArray below meth c s.heap [] 0 0 (ad_Zp below (fun r => r = .inl (some (.int (nI (ts.countP (fun t => decide (t.1 = s0 ∧ f0 ≤ t.2.2.1 ∧ t.2.2.1 ≤ e0))))))) s 0 0) (F0 m 6 ls []) := by
    intro n
    induction n with
    | zero => intro j h0 ls hl; exact absurd h0 (by omega)
    | succ n ih =>
      intro j h0 ls hl
      refine lv_iload hx hb d_M_many_6 (lv_at hl 5 rfl) ?_
      refine lv_aload_n hx hb d_M_many_8 rfl (lv_at hl 0 rfl) ?_
      refine ad_get S I C.1 K_Mod 2 (by decide) w_550 rfl d_M_many_9 ?_
      refine lv_icmp_ge (tgt := 60) hx hb d_M_many_12 (by decide) (fun c12 => ?_) (fun c12 => ?_)
      · obtain rfl : j = ts.length := by have := ad_ge (j := j) (n := ts.length) (by omega) (by omega) c12; omega
        refine lv_iload hx hb d_M_many_60 (lv_at hl 4 rfl) ?_
        exact ad_iretP M rfl (by rw [List.take_length]) d_M_many_62
      · have hj : j < ts.length := ad_lt (by omega) (by omega) c12
        obtain ⟨t, ht⟩ : ∃ t, ts[j]? = some t := ⟨_, List.getElem?_eq_getElem hj⟩
        have hA := A.1 j t ht
        refine lv_iload hx hb d_M_many_15 (lv_at hl 4 rfl) ?_
        refine lv_aload_n hx hb d_M_many_17 rfl (lv_at hl 0 rfl) ?_
        refine ad_get S I C.1 K_Mod 3 (by decide) w_551 rfl d_M_many_18 ?_
        refine lv_iload hx hb d_M_many_21 (lv_at hl 5 rfl) ?_
        refine ad_iald S I (C.2.1 0 (by decide)) (vp_in_nI (show j < 64 by omega) (by decide)) d_M_many_23 ?_
        refine ad_top (y := .int ((fs 0) j)) (congrArg (fun q => Value.int ((fs 0) q)) (show (nI j).toNatClampNeg = j from nI_clamp (by omega))) ?_
        refine lv_iload_n hx hb d_M_many_24 rfl (lv_at hl 1 rfl) ?_
        refine lv_icmp_ne (tgt := 50) hx hb d_M_many_25 (by decide) (fun c25 => ?_) (fun c25 => ?_)
        · rw [hA.1] at c25
          refine lv_iconst (v := 0) hx hb d_M_many_50 (by decide) ?_
          refine lv_iadd hx hb d_M_many_51 ?_
          refine ad_top (y := .int (nI ((ts.take j).countP (fun t => decide (t.1 = s0 ∧ f0 ≤ t.2.2.1 ∧ t.2.2.1 ≤ e0))))) (congrArg Value.int (Int32.add_zero _)) ?_
          refine lv_istore (lv' := [(4, .int (nI ((ts.take j).countP (fun t => decide (t.1 = s0 ∧ f0 ≤ t.2.2.1 ∧ t.2.2.1 ≤ e0))))), (0, .ref m0), (1, .int s0), (2, .int f0), (3, .int e0), (5, .int (nI j))]) hx hb d_M_many_52 hl (by decide) rfl (fun ls hl => ?_)
          refine lv_iinc (v := (nI (j + 1))) (lv' := [(5, .int (nI (j + 1))), (4, .int (nI ((ts.take j).countP (fun t => decide (t.1 = s0 ∧ f0 ≤ t.2.2.1 ∧ t.2.2.1 ≤ e0))))), (0, .ref m0), (1, .int s0), (2, .int f0), (3, .int e0)]) hx hb d_M_many_54 hl (k := 5) rfl (nI_1 j) (by decide) rfl (fun ls hl => ?_)
          refine lv_goto (tgt := 6) hx hb d_M_many_57 (by decide) ?_
          exact ih (j + 1) (by omega) ls (by rw [cnt_s ht]; simp only [c25, decide_false, decide_true, if_true, if_false, Nat.add_zero, Bool.false_eq_true, and_self, and_false, false_and, true_and, and_true, not_false_eq_true]; exact lv_sub hl [2, 3, 4, 5, 1, 0] rfl)
        · rw [hA.1] at c25
          refine lv_aload_n hx hb d_M_many_28 rfl (lv_at hl 0 rfl) ?_
          refine ad_get S I C.1 K_Mod 8 (by decide) w_556 rfl d_M_many_29 ?_
          refine lv_iload hx hb d_M_many_32 (lv_at hl 5 rfl) ?_
          refine ad_iald S I (C.2.1 4 (by decide)) (vp_in_nI (show j < 64 by omega) (by decide)) d_M_many_34 ?_
          refine ad_top (y := .int ((fs 4) j)) (congrArg (fun q => Value.int ((fs 4) q)) (show (nI j).toNatClampNeg = j from nI_clamp (by omega))) ?_
          refine lv_i2l (v := ((fs 4) j).toInt64) hx hb d_M_many_35 rfl ?_
          refine lv_iload_n hx hb d_M_many_36 rfl (lv_at hl 2 rfl) ?_
          refine lv_i2l (v := f0.toInt64) hx hb d_M_many_37 rfl ?_
          refine lv_iload_n hx hb d_M_many_38 rfl (lv_at hl 3 rfl) ?_
          refine lv_i2l (v := e0.toInt64) hx hb d_M_many_39 rfl ?_
          refine ad_cPi S I (ad_ivS (As := [.long (((fs 4) j).toInt64), .long f0.toInt64, .long e0.toInt64]) (rest := [.int (nI ((ts.take j).countP (fun t => decide (t.1 = s0 ∧ f0 ≤ t.2.2.1 ∧ t.2.2.1 ≤ e0))))]) S Y_M_in w_607 w_608 w_6 ⟨by decide, by decide, np_M_in⟩ rfl d_M_many_40) (c_M_in l G lo hp (((fs 4) j).toInt64) f0.toInt64 e0.toInt64) Y_M_in hl.1 ⟨Nat.le_of_ble_eq_true rfl, Nat.le_of_ble_eq_true rfl⟩ (Nat.le_of_ble_eq_true rfl) (Nat.le_of_ble_eq_true rfl) d_M_many_40 ?_
          refine lv_if_eq (tgt := 50) hx hb d_M_many_43 (by decide) (fun c43 => ?_) (fun c43 => ?_)
          · rw [hA.2.2.2.1, in_32] at c43
            refine lv_iconst (v := 0) hx hb d_M_many_50 (by decide) ?_
            refine lv_iadd hx hb d_M_many_51 ?_
            refine ad_top (y := .int (nI ((ts.take j).countP (fun t => decide (t.1 = s0 ∧ f0 ≤ t.2.2.1 ∧ t.2.2.1 ≤ e0))))) (congrArg Value.int (Int32.add_zero _)) ?_
            refine lv_istore (lv' := [(4, .int (nI ((ts.take j).countP (fun t => decide (t.1 = s0 ∧ f0 ≤ t.2.2.1 ∧ t.2.2.1 ≤ e0))))), (0, .ref m0), (1, .int s0), (2, .int f0), (3, .int e0), (5, .int (nI j))]) hx hb d_M_many_52 hl (by decide) rfl (fun ls hl => ?_)
            refine lv_iinc (v := (nI (j + 1))) (lv' := [(5, .int (nI (j + 1))), (4, .int (nI ((ts.take j).countP (fun t => decide (t.1 = s0 ∧ f0 ≤ t.2.2.1 ∧ t.2.2.1 ≤ e0))))), (0, .ref m0), (1, .int s0), (2, .int f0), (3, .int e0)]) hx hb d_M_many_54 hl (k := 5) rfl (nI_1 j) (by decide) rfl (fun ls hl => ?_)
            refine lv_goto (tgt := 6) hx hb d_M_many_57 (by decide) ?_
            exact ih (j + 1) (by omega) ls (by rw [cnt_s ht]; simp only [c25, c43, decide_false, decide_true, if_true, if_false, Nat.add_zero, Bool.false_eq_true, and_self, and_false, false_and, true_and, and_true, not_false_eq_true]; exact lv_sub hl [2, 3, 4, 5, 1, 0] rfl)
          · rw [hA.2.2.2.1, in_32, Decidable.not_not] at c43
            refine lv_iconst (v := 1) hx hb d_M_many_46 (by decide) ?_
            refine lv_goto (tgt := 51) hx hb d_M_many_47 (by decide) ?_
            refine lv_iadd hx hb d_M_many_51 ?_
            refine ad_top (y := .int (nI ((ts.take j).countP (fun t => decide (t.1 = s0 ∧ f0 ≤ t.2.2.1 ∧ t.2.2.1 ≤ e0)) + 1))) (congrArg Value.int (nI_1 _)) ?_
            refine lv_istore (lv' := [(4, .int (nI ((ts.take j).countP (fun t => decide (t.1 = s0 ∧ f0 ≤ t.2.2.1 ∧ t.2.2.1 ≤ e0)) + 1))), (0, .ref m0), (1, .int s0), (2, .int f0), (3, .int e0), (5, .int (nI j))]) hx hb d_M_many_52 hl (by decide) rfl (fun ls hl => ?_)
            refine lv_iinc (v := (nI (j + 1))) (lv' := [(5, .int (nI (j + 1))), (4, .int (nI ((ts.take j).countP (fun t => decide (t.1 = s0 ∧ f0 ≤ t.2.2.1 ∧ t.2.2.1 ≤ e0)) + 1))), (0, .ref m0), (1, .int s0), (2, .int f0), (3, .int e0)]) hx hb d_M_many_54 hl (k := 5) rfl (nI_1 j) (by decide) rfl (fun ls hl => ?_)
            refine lv_goto (tgt := 6) hx hb d_M_many_57 (by decide) ?_
            exact ih (j + 1) (by omega) ls (by rw [cnt_s ht]; simp only [c25, c43, decide_false, decide_true, if_true, if_false, Nat.add_zero, Bool.false_eq_true, and_self, and_false, false_and, true_and, and_true, not_false_eq_true]; exact lv_sub hl [2, 3, 4, 5, 1, 0] rfl)
  refine lv_iconst (v := 0) hx hb d_M_many_0 (by decide) ?_
  refine lv_istore (lv' := [(4, .int 0), (0, .ref m0), (1, .int s0), (2, .int f0), (3, .int e0)]) hx hb d_M_many_1 hl (by decide) rfl (fun ls hl => ?_)
  refine lv_iconst (v := 0) hx hb d_M_many_3 (by decide) ?_
  refine lv_istore (lv' := [(5, .int 0), (4, .int 0), (0, .ref m0), (1, .int s0), (2, .int f0), (3, .int e0)]) hx hb d_M_many_4 hl (by decide) rfl (fun ls hl => ?_)
  exact loop (ts.length + 1) 0 (by omega) ls (lv_sub hl [2, 3, 4, 5, 1, 0] rfl)
