def sp_dbl (v : Int32) : Int32 := if 2 * v ≤ 9 then 2 * v else 2 * v - 9
def sp_wd (kind k v : Int32) : Int32 := if kind = 0 then (if k - k / 2 * 2 = 0 then sp_dbl v else v) else if kind = 1 then (if k - k / 2 * 2 = 0 then 3 * v else v) else v * (k - k / 6 * 6 + 2)
def sp_ws (kind : Int32) (number : Int64) : Nat → Int32 × Int64
  | 0 => (0, number)
  | j + 1 => ((sp_ws kind number j).1 + sp_wd kind (nI j) ((sp_ws kind number j).2 - (sp_ws kind number j).2 / 10 * 10).toInt32, (sp_ws kind number j).2 / 10)
def sp_of (kind : Int32) (number : Int64) : Int32 := let sm := (sp_ws kind number 18).1
  if kind = 0 ∨ kind = 1 then (10 - (sm - sm / 10 * 10)) - (10 - (sm - sm / 10 * 10)) / 10 * 10 else (11 - (sm - sm / 11 * 11)) - (11 - (sm - sm / 11 * 11)) / 11 * 11
set_option maxHeartbeats 4000000 in
set_option maxRecDepth 100000 in
theorem c_C_doubled (l : Launch) (G : ad_G) (lo : Nat) (hp : ad_H) (v : Int32) : ad_Cp l y_C_doubled b_C_doubled 2 rt_C_doubled hs_C_doubled 1 0 0 G lo hp [.int v] (fun r => r = .inl (some (.int (sp_dbl v)))) := by
  intro p e s m below meth c M hts hB hP
  have hx := M.1
  have hb := M.2.1
  have hml := M.2.2.1
  have hown : s.vm.findClass "AuditDraws$CheckDigits" = some m.cls := M.2.2.2.1
  have S : CallFix p m c b_C_doubled 2 s _ ad_T "AuditDraws$CheckDigits" := ⟨hx, hb, hml, hown, hts⟩
  have I : ad_I G lo s hp s.heap [] := ad_I.rf hB hP
  have hl := lv_entry ([.int v]) (n := 2) (Nat.le_of_ble_eq_true rfl)
  rw [lg_entry_eq]
  generalize (lg_sl ([.int v]) ++ List.replicate (2 - (lg_sl ([.int v])).length) Slot.unset).toArray = ls at hl ⊢
  have hl : lv_has ls 2 [(0, .int v)] := hl
  refine lv_iconst (v := 2) hx hb d_C_doubled_0 (by decide) ?_
  refine lv_iload_n hx hb d_C_doubled_1 rfl (lv_at hl 0 rfl) ?_
  refine lv_imul hx hb d_C_doubled_2 ?_
  refine lv_istore_n (lv' := [(1, .int (2 * v)), (0, .int v)]) hx hb d_C_doubled_3 rfl hl (by decide) rfl (fun ls hl => ?_)
  refine lv_iload_n hx hb d_C_doubled_4 rfl (lv_at hl 0 rfl) ?_
  refine lv_bipush (v := 9) hx hb d_C_doubled_5 (by decide) ?_
  refine lv_icmp_le (tgt := 17) hx hb d_C_doubled_7 (by decide) (fun c7 => ?_) (fun c7 => ?_)
  · refine lv_iload_n hx hb d_C_doubled_17 rfl (lv_at hl 0 rfl) ?_
    exact ad_iretP M rfl (by rw [show sp_dbl v = 2 * v from if_pos c7]) d_C_doubled_18
  · refine lv_iload_n hx hb d_C_doubled_10 rfl (lv_at hl 0 rfl) ?_
    refine lv_bipush (v := 9) hx hb d_C_doubled_11 (by decide) ?_
    refine lv_isub hx hb d_C_doubled_13 ?_
    refine lv_goto (tgt := 18) hx hb d_C_doubled_14 (by decide) ?_
    exact ad_iretP M rfl (by rw [show sp_dbl v = (2 * v) - 9 from if_neg c7]) d_C_doubled_18
set_option maxHeartbeats 4000000 in
set_option maxRecDepth 100000 in
theorem c_C_weighed (l : Launch) (G : ad_G) (lo : Nat) (hp : ad_H) (kind k v : Int32) : ad_Cp l y_C_weighed b_C_weighed 4 rt_C_weighed hs_C_weighed 2 0 0 G lo hp [.int kind, .int k, .int v] (fun r => r = .inl (some (.int (sp_wd kind k v)))) := by
  intro p e s m below meth c M hts hB hP
  have hx := M.1
  have hb := M.2.1
  have hml := M.2.2.1
  have hown : s.vm.findClass "AuditDraws$CheckDigits" = some m.cls := M.2.2.2.1
  have S : CallFix p m c b_C_weighed 4 s _ ad_T "AuditDraws$CheckDigits" := ⟨hx, hb, hml, hown, hts⟩
  have I : ad_I G lo s hp s.heap [] := ad_I.rf hB hP
  have hl := lv_entry ([.int kind, .int k, .int v]) (n := 4) (Nat.le_of_ble_eq_true rfl)
  rw [lg_entry_eq]
  generalize (lg_sl ([.int kind, .int k, .int v]) ++ List.replicate (4 - (lg_sl ([.int kind, .int k, .int v])).length) Slot.unset).toArray = ls at hl ⊢
  have hl : lv_has ls 4 [(0, .int kind), (1, .int k), (2, .int v)] := hl
  refine lv_iload_n hx hb d_C_weighed_0 rfl (lv_at hl 1 rfl) ?_
  refine lv_iconst (v := 2) hx hb d_C_weighed_1 (by decide) ?_
  refine lv_irem hx hb d_C_weighed_2 (by decide) ?_
  refine lv_if_ne (tgt := 10) hx hb d_C_weighed_3 (by decide) (fun c3 => ?_) (fun c3 => ?_)
  · refine lv_iconst (v := 0) hx hb d_C_weighed_10 (by decide) ?_
    refine lv_istore_n (lv' := [(3, .int 0), (0, .int kind), (1, .int k), (2, .int v)]) hx hb d_C_weighed_11 rfl hl (by decide) rfl (fun ls hl => ?_)
    refine lv_iload_n hx hb d_C_weighed_12 rfl (lv_at hl 1 rfl) ?_
    refine lv_if_ne (tgt := 29) hx hb d_C_weighed_13 (by decide) (fun c13 => ?_) (fun c13 => ?_)
    · refine lv_iload_n hx hb d_C_weighed_29 rfl (lv_at hl 1 rfl) ?_
      refine lv_iconst (v := 1) hx hb d_C_weighed_30 (by decide) ?_
      refine lv_icmp_ne (tgt := 46) hx hb d_C_weighed_31 (by decide) (fun c31 => ?_) (fun c31 => ?_)
      · refine lv_iload_n hx hb d_C_weighed_46 rfl (lv_at hl 3 rfl) ?_
        refine lv_iload_n hx hb d_C_weighed_47 rfl (lv_at hl 2 rfl) ?_
        refine lv_bipush (v := 6) hx hb d_C_weighed_48 (by decide) ?_
        refine lv_irem hx hb d_C_weighed_50 (by decide) ?_
        refine lv_iconst (v := 2) hx hb d_C_weighed_51 (by decide) ?_
        refine lv_iadd hx hb d_C_weighed_52 ?_
        refine lv_imul hx hb d_C_weighed_53 ?_
        exact ad_iretP M rfl (by simp [sp_wd, c3, c13, c31]) d_C_weighed_54
      · refine lv_iload_n hx hb d_C_weighed_34 rfl (lv_at hl 0 rfl) ?_
        refine lv_if_eq (tgt := 44) hx hb d_C_weighed_35 (by decide) (fun c => ?_) (fun c => ?_)
        · refine lv_iload_n hx hb d_C_weighed_44 rfl (lv_at hl 3 rfl) ?_
          exact ad_iretP M rfl (by simp [sp_wd, c3, c13, c31]) d_C_weighed_45
        · exact absurd rfl c
    · refine lv_iload_n hx hb d_C_weighed_16 rfl (lv_at hl 0 rfl) ?_
      refine lv_if_eq (tgt := 27) hx hb d_C_weighed_17 (by decide) (fun c => ?_) (fun c => ?_)
      · refine lv_iload_n hx hb d_C_weighed_27 rfl (lv_at hl 3 rfl) ?_
        exact ad_iretP M rfl (by simp [sp_wd, c3, c13]) d_C_weighed_28
      · exact absurd rfl c
  · refine lv_iconst (v := 1) hx hb d_C_weighed_6 (by decide) ?_
    refine lv_goto (tgt := 11) hx hb d_C_weighed_7 (by decide) ?_
    refine lv_istore_n (lv' := [(3, .int 1), (0, .int kind), (1, .int k), (2, .int v)]) hx hb d_C_weighed_11 rfl hl (by decide) rfl (fun ls hl => ?_)
    refine lv_iload_n hx hb d_C_weighed_12 rfl (lv_at hl 1 rfl) ?_
    refine lv_if_ne (tgt := 29) hx hb d_C_weighed_13 (by decide) (fun c13 => ?_) (fun c13 => ?_)
    · refine lv_iload_n hx hb d_C_weighed_29 rfl (lv_at hl 1 rfl) ?_
      refine lv_iconst (v := 1) hx hb d_C_weighed_30 (by decide) ?_
      refine lv_icmp_ne (tgt := 46) hx hb d_C_weighed_31 (by decide) (fun c31 => ?_) (fun c31 => ?_)
      · refine lv_iload_n hx hb d_C_weighed_46 rfl (lv_at hl 3 rfl) ?_
        refine lv_iload_n hx hb d_C_weighed_47 rfl (lv_at hl 2 rfl) ?_
        refine lv_bipush (v := 6) hx hb d_C_weighed_48 (by decide) ?_
        refine lv_irem hx hb d_C_weighed_50 (by decide) ?_
        refine lv_iconst (v := 2) hx hb d_C_weighed_51 (by decide) ?_
        refine lv_iadd hx hb d_C_weighed_52 ?_
        refine lv_imul hx hb d_C_weighed_53 ?_
        exact ad_iretP M rfl (by simp [sp_wd, c3, c13, c31]) d_C_weighed_54
      · refine lv_iload_n hx hb d_C_weighed_34 rfl (lv_at hl 0 rfl) ?_
        refine lv_if_eq (tgt := 44) hx hb d_C_weighed_35 (by decide) (fun c => ?_) (fun c => ?_)
        · exact absurd c (by decide)
        · refine lv_iconst (v := 3) hx hb d_C_weighed_38 (by decide) ?_
          refine lv_iload_n hx hb d_C_weighed_39 rfl (lv_at hl 3 rfl) ?_
          refine lv_imul hx hb d_C_weighed_40 ?_
          refine lv_goto (tgt := 45) hx hb d_C_weighed_41 (by decide) ?_
          exact ad_iretP M rfl (by simp [sp_wd, c3, c13, c31]) d_C_weighed_45
    · refine lv_iload_n hx hb d_C_weighed_16 rfl (lv_at hl 0 rfl) ?_
      refine lv_if_eq (tgt := 27) hx hb d_C_weighed_17 (by decide) (fun c => ?_) (fun c => ?_)
      · exact absurd c (by decide)
      · refine lv_iload_n hx hb d_C_weighed_20 rfl (lv_at hl 3 rfl) ?_
        refine ad_cPi S I (ad_ivS (As := [.int v]) (rest := []) S Y_C_doubled w_440 w_441 w_20 ⟨by decide, by decide, np_C_doubled⟩ rfl d_C_weighed_21) (c_C_doubled l G lo hp v) Y_C_doubled hl.1 ⟨Nat.le_of_ble_eq_true rfl, Nat.le_of_ble_eq_true rfl⟩ (Nat.le_of_ble_eq_true rfl) (Nat.le_of_ble_eq_true rfl) d_C_weighed_21 ?_
        refine lv_goto (tgt := 28) hx hb d_C_weighed_24 (by decide) ?_
        exact ad_iretP M rfl (by simp [sp_wd, c3, c13]) d_C_weighed_28
set_option maxHeartbeats 4000000 in
set_option maxRecDepth 100000 in
theorem c_C_weighedSum (l : Launch) (G : ad_G) (lo : Nat) (hp : ad_H) (kind : Int32) (number : Int64) : ad_Cp l y_C_weighedSum b_C_weighedSum 7 rt_C_weighedSum hs_C_weighedSum 3 0 0 G lo hp [.int kind, .long number] (fun r => r = .inl (some (.int (sp_ws kind number 18).1))) := by
  intro p e s m below meth c M hts hB hP
  have hx := M.1
  have hb := M.2.1
  have hml := M.2.2.1
  have hown : s.vm.findClass "AuditDraws$CheckDigits" = some m.cls := M.2.2.2.1
  have S : CallFix p m c b_C_weighedSum 7 s _ ad_T "AuditDraws$CheckDigits" := ⟨hx, hb, hml, hown, hts⟩
  have I : ad_I G lo s hp s.heap [] := ad_I.rf hB hP
  have hl := lv_entry ([.int kind, .long number]) (n := 7) (Nat.le_of_ble_eq_true rfl)
  rw [lg_entry_eq]
  generalize (lg_sl ([.int kind, .long number]) ++ List.replicate (7 - (lg_sl ([.int kind, .long number])).length) Slot.unset).toArray = ls at hl ⊢
  have hl : lv_has ls 7 [(0, .int kind), (1, .long number)] := hl
  have loop : ∀ (n : Nat) (j : Nat), 18 < j + n ∧ j ≤ 18 → ∀ ls : Array Slot, lv_has ls 7 [(0, .int kind), (3, .int ((sp_ws kind number j).1)), (4, .long ((sp_ws kind number j).2)), (6, .int (nI j))] → W p l e (ad_rm 3 0 0) s m ([.int kind, .long number] : List Value).toArray below meth c s.heap [] 0 0 (ad_Zp below (fun r => r = .inl (some (.int (sp_ws kind number 18).1))) s 0 0) (F0 m 8 ls []) := by
    intro n
    induction n with
    | zero => intro j h0 ls hl; exact absurd h0 (by omega)
    | succ n ih =>
      intro j h0 ls hl
      refine lv_iload hx hb d_C_weighedSum_8 (lv_at hl 3 rfl) ?_
      refine lv_bipush (v := 18) hx hb d_C_weighedSum_10 (by decide) ?_
      refine lv_icmp_ge (tgt := 45) hx hb d_C_weighedSum_12 (by decide) (fun c12 => ?_) (fun c12 => ?_)
      · obtain rfl : j = 18 := by have := (nI_leI (a := 18) (b := j) (by omega) (by omega)).mp c12; omega
        refine lv_iload_n hx hb d_C_weighedSum_45 rfl (lv_at hl 1 rfl) ?_
        exact ad_iretP M rfl rfl d_C_weighedSum_46
      · have hj : j < 18 := by
          rcases Nat.lt_or_ge j 18 with q | q
          · exact q
          · exact absurd (nI_le (a := 18) q (by omega)) c12
        refine lv_iload_n hx hb d_C_weighedSum_15 rfl (lv_at hl 1 rfl) ?_
        refine lv_iload_n hx hb d_C_weighedSum_16 rfl (lv_at hl 0 rfl) ?_
        refine lv_iload hx hb d_C_weighedSum_17 (lv_at hl 3 rfl) ?_
        refine lv_lload hx hb d_C_weighedSum_19 (lv_at hl 2 rfl) ?_
        refine lv_ldc2 (v := 10) hx hb hown (hts _ w_436) d_C_weighedSum_21 ?_
        refine lv_lrem hx hb d_C_weighedSum_24 (by decide) ?_
        refine lv_l2i (v := (((sp_ws kind number j).2) - ((sp_ws kind number j).2) / 10 * 10).toInt32) hx hb d_C_weighedSum_25 rfl ?_
        refine ad_cPi S I (ad_ivS (As := [.int kind, .int (nI j), .int ((((sp_ws kind number j).2) - ((sp_ws kind number j).2) / 10 * 10).toInt32)]) (rest := [.int ((sp_ws kind number j).1)]) S Y_C_weighed w_437 w_438 w_20 ⟨by decide, by decide, np_C_weighed⟩ rfl d_C_weighedSum_26) (c_C_weighed l G lo hp kind (nI j) ((((sp_ws kind number j).2) - ((sp_ws kind number j).2) / 10 * 10).toInt32)) Y_C_weighed hl.1 ⟨Nat.le_of_ble_eq_true rfl, Nat.le_of_ble_eq_true rfl⟩ (Nat.le_of_ble_eq_true rfl) (Nat.le_of_ble_eq_true rfl) d_C_weighedSum_26 ?_
        refine lv_iadd hx hb d_C_weighedSum_29 ?_
        refine lv_istore_n (lv' := [(3, .int (((sp_ws kind number j).1) + (sp_wd kind (nI j) ((((sp_ws kind number j).2) - ((sp_ws kind number j).2) / 10 * 10).toInt32)))), (0, .int kind), (4, .long ((sp_ws kind number j).2)), (6, .int (nI j))]) hx hb d_C_weighedSum_30 rfl hl (by decide) rfl (fun ls hl => ?_)
        refine lv_lload hx hb d_C_weighedSum_31 (lv_at hl 2 rfl) ?_
        refine lv_ldc2 (v := 10) hx hb hown (hts _ w_436) d_C_weighedSum_33 ?_
        refine lv_ldiv hx hb d_C_weighedSum_36 (by decide) ?_
        refine lv_lstore (lv' := [(4, .long (((sp_ws kind number j).2) / 10)), (3, .int (((sp_ws kind number j).1) + (sp_wd kind (nI j) ((((sp_ws kind number j).2) - ((sp_ws kind number j).2) / 10 * 10).toInt32)))), (0, .int kind), (6, .int (nI j))]) hx hb d_C_weighedSum_37 hl (by decide) rfl (fun ls hl => ?_)
        refine lv_iinc (v := (nI (j + 1))) (lv' := [(6, .int (nI (j + 1))), (4, .long (((sp_ws kind number j).2) / 10)), (3, .int (((sp_ws kind number j).1) + (sp_wd kind (nI j) ((((sp_ws kind number j).2) - ((sp_ws kind number j).2) / 10 * 10).toInt32)))), (0, .int kind)]) hx hb d_C_weighedSum_39 hl (k := 3) rfl (nI_1 j) (by decide) rfl (fun ls hl => ?_)
        refine lv_goto (tgt := 8) hx hb d_C_weighedSum_42 (by decide) ?_
        exact ih (j + 1) (by omega) ls (lv_sub hl [3, 2, 1, 0] rfl)
  refine lv_iconst (v := 0) hx hb d_C_weighedSum_0 (by decide) ?_
  refine lv_istore_n (lv' := [(3, .int 0), (0, .int kind), (1, .long number)]) hx hb d_C_weighedSum_1 rfl hl (by decide) rfl (fun ls hl => ?_)
  refine lv_lload_n hx hb d_C_weighedSum_2 rfl (lv_at hl 2 rfl) ?_
  refine lv_lstore (lv' := [(4, .long number), (3, .int 0), (0, .int kind), (1, .long number)]) hx hb d_C_weighedSum_3 hl (by decide) rfl (fun ls hl => ?_)
  refine lv_iconst (v := 0) hx hb d_C_weighedSum_5 (by decide) ?_
  refine lv_istore (lv' := [(6, .int 0), (4, .long number), (3, .int 0), (0, .int kind), (1, .long number)]) hx hb d_C_weighedSum_6 hl (by decide) rfl (fun ls hl => ?_)
  exact loop 19 0 (by omega) ls (lv_sub hl [3, 2, 1, 0] rfl)
set_option maxHeartbeats 4000000 in
set_option maxRecDepth 100000 in
theorem c_C_of (l : Launch) (G : ad_G) (lo : Nat) (hp : ad_H) (kind : Int32) (number : Int64) : ad_Cp l y_C_of b_C_of 4 rt_C_of hs_C_of 4 0 0 G lo hp [.int kind, .long number] (fun r => r = .inl (some (.int (sp_of kind number)))) := by
  intro p e s m below meth c M hts hB hP
  have hx := M.1
  have hb := M.2.1
  have hml := M.2.2.1
  have hown : s.vm.findClass "AuditDraws$CheckDigits" = some m.cls := M.2.2.2.1
  have S : CallFix p m c b_C_of 4 s _ ad_T "AuditDraws$CheckDigits" := ⟨hx, hb, hml, hown, hts⟩
  have I : ad_I G lo s hp s.heap [] := ad_I.rf hB hP
  have hl := lv_entry ([.int kind, .long number]) (n := 4) (Nat.le_of_ble_eq_true rfl)
  rw [lg_entry_eq]
  generalize (lg_sl ([.int kind, .long number]) ++ List.replicate (4 - (lg_sl ([.int kind, .long number])).length) Slot.unset).toArray = ls at hl ⊢
  have hl : lv_has ls 4 [(0, .int kind), (1, .long number)] := hl
  refine lv_iload_n hx hb d_C_of_0 rfl (lv_at hl 0 rfl) ?_
  refine lv_lload_n hx hb d_C_of_1 rfl (lv_at hl 1 rfl) ?_
  refine ad_cPi S I (ad_ivS (As := [.int kind, .long number]) (rest := []) S Y_C_weighedSum w_433 w_434 w_20 ⟨by decide, by decide, np_C_weighedSum⟩ rfl d_C_of_2) (c_C_weighedSum l G lo hp kind number) Y_C_weighedSum hl.1 ⟨Nat.le_of_ble_eq_true rfl, Nat.le_of_ble_eq_true rfl⟩ (Nat.le_of_ble_eq_true rfl) (Nat.le_of_ble_eq_true rfl) d_C_of_2 ?_
  refine lv_istore_n (lv' := [(3, .int ((sp_ws kind number 18).1)), (0, .int kind), (1, .long number)]) hx hb d_C_of_5 rfl hl (by decide) rfl (fun ls hl => ?_)
  refine lv_iload_n hx hb d_C_of_6 rfl (lv_at hl 1 rfl) ?_
  refine lv_if_eq (tgt := 15) hx hb d_C_of_7 (by decide) (fun c7 => ?_) (fun c7 => ?_)
  · refine lv_bipush (v := 10) hx hb d_C_of_15 (by decide) ?_
    refine lv_iload_n hx hb d_C_of_17 rfl (lv_at hl 0 rfl) ?_
    refine lv_bipush (v := 10) hx hb d_C_of_18 (by decide) ?_
    refine lv_irem hx hb d_C_of_20 (by decide) ?_
    refine lv_isub hx hb d_C_of_21 ?_
    refine lv_bipush (v := 10) hx hb d_C_of_22 (by decide) ?_
    refine lv_irem hx hb d_C_of_24 (by decide) ?_
    refine lv_goto (tgt := 38) hx hb d_C_of_25 (by decide) ?_
    exact ad_iretP M rfl (by simp [sp_of, c7]) d_C_of_38
  · refine lv_iload_n hx hb d_C_of_10 rfl (lv_at hl 1 rfl) ?_
    refine lv_iconst (v := 1) hx hb d_C_of_11 (by decide) ?_
    refine lv_icmp_ne (tgt := 28) hx hb d_C_of_12 (by decide) (fun c12 => ?_) (fun c12 => ?_)
    · refine lv_bipush (v := 11) hx hb d_C_of_28 (by decide) ?_
      refine lv_iload_n hx hb d_C_of_30 rfl (lv_at hl 0 rfl) ?_
      refine lv_bipush (v := 11) hx hb d_C_of_31 (by decide) ?_
      refine lv_irem hx hb d_C_of_33 (by decide) ?_
      refine lv_isub hx hb d_C_of_34 ?_
      refine lv_bipush (v := 11) hx hb d_C_of_35 (by decide) ?_
      refine lv_irem hx hb d_C_of_37 (by decide) ?_
      exact ad_iretP M rfl (by simp [sp_of, c7, c12]) d_C_of_38
    · refine lv_bipush (v := 10) hx hb d_C_of_15 (by decide) ?_
      refine lv_iload_n hx hb d_C_of_17 rfl (lv_at hl 0 rfl) ?_
      refine lv_bipush (v := 10) hx hb d_C_of_18 (by decide) ?_
      refine lv_irem hx hb d_C_of_20 (by decide) ?_
      refine lv_isub hx hb d_C_of_21 ?_
      refine lv_bipush (v := 10) hx hb d_C_of_22 (by decide) ?_
      refine lv_irem hx hb d_C_of_24 (by decide) ?_
      refine lv_goto (tgt := 38) hx hb d_C_of_25 (by decide) ?_
      exact ad_iretP M rfl (by simp [sp_of, c7, c12]) d_C_of_38
def sp_closes (kind : Int32) (number : Int64) : Int32 := if sp_of kind (number / 10) = (number - number / 10 * 10).toInt32 then 1 else 0
set_option maxHeartbeats 4000000 in
set_option maxRecDepth 100000 in
theorem c_C_closes (l : Launch) (G : ad_G) (lo : Nat) (hp : ad_H) (kind : Int32) (number : Int64) : ad_Cp l y_C_closes b_C_closes 4 rt_C_closes hs_C_closes 5 0 0 G lo hp [.int kind, .long number] (fun r => r = .inl (some (.int (sp_closes kind number)))) := by
  intro p e s m below meth c M hts hB hP
  have hx := M.1
  have hb := M.2.1
  have hml := M.2.2.1
  have hown : s.vm.findClass "AuditDraws$CheckDigits" = some m.cls := M.2.2.2.1
  have S : CallFix p m c b_C_closes 4 s _ ad_T "AuditDraws$CheckDigits" := ⟨hx, hb, hml, hown, hts⟩
  have I : ad_I G lo s hp s.heap [] := ad_I.rf hB hP
  have hl := lv_entry ([.int kind, .long number]) (n := 4) (Nat.le_of_ble_eq_true rfl)
  rw [lg_entry_eq]
  generalize (lg_sl ([.int kind, .long number]) ++ List.replicate (4 - (lg_sl ([.int kind, .long number])).length) Slot.unset).toArray = ls at hl ⊢
  have hl : lv_has ls 4 [(0, .int kind), (1, .long number)] := hl
  refine lv_lload_n hx hb d_C_closes_0 rfl (lv_at hl 1 rfl) ?_
  refine lv_ldc2 (v := 10) hx hb hown (hts _ w_436) d_C_closes_1 ?_
  refine lv_lrem hx hb d_C_closes_4 (by decide) ?_
  refine lv_l2i (v := (number - number / 10 * 10).toInt32) hx hb d_C_closes_5 rfl ?_
  refine lv_istore_n (lv' := [(3, .int ((number - number / 10 * 10).toInt32)), (0, .int kind), (1, .long number)]) hx hb d_C_closes_6 rfl hl (by decide) rfl (fun ls hl => ?_)
  refine lv_iload_n hx hb d_C_closes_7 rfl (lv_at hl 1 rfl) ?_
  refine lv_lload_n hx hb d_C_closes_8 rfl (lv_at hl 2 rfl) ?_
  refine lv_ldc2 (v := 10) hx hb hown (hts _ w_436) d_C_closes_9 ?_
  refine lv_ldiv hx hb d_C_closes_12 (by decide) ?_
  refine ad_cPi S I (ad_ivS (As := [.int kind, .long (number / 10)]) (rest := []) S Y_C_of w_453 w_431 w_20 ⟨by decide, by decide, np_C_of⟩ rfl d_C_closes_13) (c_C_of l G lo hp kind (number / 10)) Y_C_of hl.1 ⟨Nat.le_of_ble_eq_true rfl, Nat.le_of_ble_eq_true rfl⟩ (Nat.le_of_ble_eq_true rfl) (Nat.le_of_ble_eq_true rfl) d_C_closes_13 ?_
  refine lv_iload_n hx hb d_C_closes_16 rfl (lv_at hl 0 rfl) ?_
  refine lv_icmp_ne (tgt := 24) hx hb d_C_closes_17 (by decide) (fun c17 => ?_) (fun c17 => ?_)
  · refine lv_iconst (v := 0) hx hb d_C_closes_24 (by decide) ?_
    exact ad_iretP M rfl (by rw [show sp_closes kind number = 0 from if_neg c17]) d_C_closes_25
  · refine lv_iconst (v := 1) hx hb d_C_closes_20 (by decide) ?_
    refine lv_goto (tgt := 25) hx hb d_C_closes_21 (by decide) ?_
    exact ad_iretP M rfl (by rw [show sp_closes kind number = 1 from if_pos c17]) d_C_closes_25
def sp_in (v low high : Int64) : Int32 := if low ≤ v ∧ v ≤ high then 1 else 0
set_option maxHeartbeats 4000000 in
set_option maxRecDepth 100000 in
theorem c_M_in (l : Launch) (G : ad_G) (lo : Nat) (hp : ad_H) (v low high : Int64) : ad_Cp l y_M_in b_M_in 6 rt_M_in hs_M_in 1 0 0 G lo hp [.long v, .long low, .long high] (fun r => r = .inl (some (.int (sp_in v low high)))) := by
  intro p e s m below meth c M hts hB hP
  have hx := M.1
  have hb := M.2.1
  have hml := M.2.2.1
  have hown : s.vm.findClass "AuditDrawsModel" = some m.cls := M.2.2.2.1
  have S : CallFix p m c b_M_in 6 s _ ad_T "AuditDrawsModel" := ⟨hx, hb, hml, hown, hts⟩
  have I : ad_I G lo s hp s.heap [] := ad_I.rf hB hP
  have hl := lv_entry ([.long v, .long low, .long high]) (n := 6) (Nat.le_of_ble_eq_true rfl)
  rw [lg_entry_eq]
  generalize (lg_sl ([.long v, .long low, .long high]) ++ List.replicate (6 - (lg_sl ([.long v, .long low, .long high])).length) Slot.unset).toArray = ls at hl ⊢
  have hl : lv_has ls 6 [(0, .long v), (2, .long low), (4, .long high)] := hl
  refine lv_lload_n hx hb d_M_in_0 rfl (lv_at hl 0 rfl) ?_
  refine lv_lload_n hx hb d_M_in_1 rfl (lv_at hl 1 rfl) ?_
  refine W.lcmp hx hb d_M_in_2 ?_
  refine lv_if_lt (tgt := 17) hx hb d_M_in_3 (by decide) (fun c3 => ?_) (fun c3 => ?_)
  · refine lv_iconst (v := 0) hx hb d_M_in_17 (by decide) ?_
    exact ad_iretP M rfl (by rw [show sp_in v low high = 0 from if_neg (fun h => absurd (ad_lcLt.mp c3) (Int64.not_lt.mpr h.1))]) d_M_in_18
  · refine lv_lload_n hx hb d_M_in_6 rfl (lv_at hl 0 rfl) ?_
    refine lv_lload hx hb d_M_in_7 (lv_at hl 2 rfl) ?_
    refine W.lcmp hx hb d_M_in_9 ?_
    refine lv_if_gt (tgt := 17) hx hb d_M_in_10 (by decide) (fun c10 => ?_) (fun c10 => ?_)
    · refine lv_iconst (v := 0) hx hb d_M_in_17 (by decide) ?_
      exact ad_iretP M rfl (by rw [show sp_in v low high = 0 from if_neg (fun h => absurd (ad_lcGt.mp c10) (Int64.not_lt.mpr h.2))]) d_M_in_18
    · refine lv_iconst (v := 1) hx hb d_M_in_13 (by decide) ?_
      refine lv_goto (tgt := 18) hx hb d_M_in_14 (by decide) ?_
      exact ad_iretP M rfl (by rw [show sp_in v low high = 1 from if_pos ⟨Int64.not_lt.mp (fun h => c3 (ad_lcLt.mpr h)), Int64.not_lt.mp (fun h => c10 (ad_lcGt.mpr h))⟩]) d_M_in_18
def sp_ct (kind digit k : Int32) : Int32 := if kind = 2 then digit * (k - k / 6 * 6 + 2) else if k - k / 2 * 2 = 1 then digit else if kind = 1 then 3 * digit else sp_dbl digit
set_option maxHeartbeats 4000000 in
set_option maxRecDepth 100000 in
theorem c_M_counts (l : Launch) (G : ad_G) (lo : Nat) (hp : ad_H) (kind digit k : Int32) : ad_Cp l y_M_counts b_M_counts 3 rt_M_counts hs_M_counts 1 0 0 G lo hp [.int kind, .int digit, .int k] (fun r => r = .inl (some (.int (sp_ct kind digit k)))) := by
  intro p e s m below meth c M hts hB hP
  have hx := M.1
  have hb := M.2.1
  have hml := M.2.2.1
  have hown : s.vm.findClass "AuditDrawsModel" = some m.cls := M.2.2.2.1
  have S : CallFix p m c b_M_counts 3 s _ ad_T "AuditDrawsModel" := ⟨hx, hb, hml, hown, hts⟩
  have I : ad_I G lo s hp s.heap [] := ad_I.rf hB hP
  have hl := lv_entry ([.int kind, .int digit, .int k]) (n := 3) (Nat.le_of_ble_eq_true rfl)
  rw [lg_entry_eq]
  generalize (lg_sl ([.int kind, .int digit, .int k]) ++ List.replicate (3 - (lg_sl ([.int kind, .int digit, .int k])).length) Slot.unset).toArray = ls at hl ⊢
  have hl : lv_has ls 3 [(0, .int kind), (1, .int digit), (2, .int k)] := hl
  refine lv_iload_n hx hb d_M_counts_0 rfl (lv_at hl 0 rfl) ?_
  refine lv_iconst (v := 2) hx hb d_M_counts_1 (by decide) ?_
  refine lv_icmp_ne (tgt := 14) hx hb d_M_counts_2 (by decide) (fun c2 => ?_) (fun c2 => ?_)
  · refine lv_iload_n hx hb d_M_counts_14 rfl (lv_at hl 2 rfl) ?_
    refine lv_iconst (v := 2) hx hb d_M_counts_15 (by decide) ?_
    refine lv_irem hx hb d_M_counts_16 (by decide) ?_
    refine lv_iconst (v := 1) hx hb d_M_counts_17 (by decide) ?_
    refine lv_icmp_ne (tgt := 23) hx hb d_M_counts_18 (by decide) (fun c18 => ?_) (fun c18 => ?_)
    · refine lv_iload_n hx hb d_M_counts_23 rfl (lv_at hl 0 rfl) ?_
      refine lv_iconst (v := 1) hx hb d_M_counts_24 (by decide) ?_
      refine lv_icmp_ne (tgt := 34) hx hb d_M_counts_25 (by decide) (fun c25 => ?_) (fun c25 => ?_)
      · refine lv_iconst (v := 2) hx hb d_M_counts_34 (by decide) ?_
        refine lv_iload_n hx hb d_M_counts_35 rfl (lv_at hl 1 rfl) ?_
        refine lv_imul hx hb d_M_counts_36 ?_
        refine lv_bipush (v := 9) hx hb d_M_counts_37 (by decide) ?_
        refine lv_icmp_le (tgt := 51) hx hb d_M_counts_39 (by decide) (fun c39 => ?_) (fun c39 => ?_)
        · refine lv_iconst (v := 2) hx hb d_M_counts_51 (by decide) ?_
          refine lv_iload_n hx hb d_M_counts_52 rfl (lv_at hl 1 rfl) ?_
          refine lv_imul hx hb d_M_counts_53 ?_
          exact ad_iretP M rfl (by simp [sp_ct, sp_dbl, c2, c18, c25, c39]) d_M_counts_54
        · refine lv_iconst (v := 2) hx hb d_M_counts_42 (by decide) ?_
          refine lv_iload_n hx hb d_M_counts_43 rfl (lv_at hl 1 rfl) ?_
          refine lv_imul hx hb d_M_counts_44 ?_
          refine lv_bipush (v := 9) hx hb d_M_counts_45 (by decide) ?_
          refine lv_isub hx hb d_M_counts_47 ?_
          refine lv_goto (tgt := 54) hx hb d_M_counts_48 (by decide) ?_
          exact ad_iretP M rfl (by simp [sp_ct, sp_dbl, c2, c18, c25, c39]) d_M_counts_54
      · refine lv_iconst (v := 3) hx hb d_M_counts_28 (by decide) ?_
        refine lv_iload_n hx hb d_M_counts_29 rfl (lv_at hl 1 rfl) ?_
        refine lv_imul hx hb d_M_counts_30 ?_
        refine lv_goto (tgt := 54) hx hb d_M_counts_31 (by decide) ?_
        exact ad_iretP M rfl (by simp [sp_ct, sp_dbl, c2, c18, c25]) d_M_counts_54
    · refine lv_iload_n hx hb d_M_counts_21 rfl (lv_at hl 1 rfl) ?_
      exact ad_iretP M rfl (by simp [sp_ct, sp_dbl, c2, c18]) d_M_counts_22
  · refine lv_iload_n hx hb d_M_counts_5 rfl (lv_at hl 1 rfl) ?_
    refine lv_iload_n hx hb d_M_counts_6 rfl (lv_at hl 2 rfl) ?_
    refine lv_bipush (v := 6) hx hb d_M_counts_7 (by decide) ?_
    refine lv_irem hx hb d_M_counts_9 (by decide) ?_
    refine lv_iconst (v := 2) hx hb d_M_counts_10 (by decide) ?_
    refine lv_iadd hx hb d_M_counts_11 ?_
    refine lv_imul hx hb d_M_counts_12 ?_
    exact ad_iretP M rfl (by simp [sp_ct, sp_dbl, c2]) d_M_counts_13
def sp_ms (kind : Int32) (number : Int64) : Nat → Int32 × Int64
  | 0 => (0, number)
  | j + 1 => ((sp_ms kind number j).1 + sp_ct kind ((sp_ms kind number j).2 - (sp_ms kind number j).2 / 10 * 10).toInt32 (nI j), (sp_ms kind number j).2 / 10)
def sp_mo (kind : Int32) (number : Int64) : Int32 := let sm := (sp_ms kind number 18).1
  if kind = 2 then (11 - (sm - sm / 11 * 11)) - (11 - (sm - sm / 11 * 11)) / 11 * 11 else (10 - (sm - sm / 10 * 10)) - (10 - (sm - sm / 10 * 10)) / 10 * 10
set_option maxHeartbeats 4000000 in
set_option maxRecDepth 100000 in
theorem c_M_sum (l : Launch) (G : ad_G) (lo : Nat) (hp : ad_H) (kind : Int32) (number : Int64) : ad_Cp l y_M_sum b_M_sum 7 rt_M_sum hs_M_sum 2 0 0 G lo hp [.int kind, .long number] (fun r => r = .inl (some (.int (sp_ms kind number 18).1))) := by
  intro p e s m below meth c M hts hB hP
  have hx := M.1
  have hb := M.2.1
  have hml := M.2.2.1
  have hown : s.vm.findClass "AuditDrawsModel" = some m.cls := M.2.2.2.1
  have S : CallFix p m c b_M_sum 7 s _ ad_T "AuditDrawsModel" := ⟨hx, hb, hml, hown, hts⟩
  have I : ad_I G lo s hp s.heap [] := ad_I.rf hB hP
  have hl := lv_entry ([.int kind, .long number]) (n := 7) (Nat.le_of_ble_eq_true rfl)
  rw [lg_entry_eq]
  generalize (lg_sl ([.int kind, .long number]) ++ List.replicate (7 - (lg_sl ([.int kind, .long number])).length) Slot.unset).toArray = ls at hl ⊢
  have hl : lv_has ls 7 [(0, .int kind), (1, .long number)] := hl
  have loop : ∀ (n : Nat) (j : Nat), 18 < j + n ∧ j ≤ 18 → ∀ ls : Array Slot, lv_has ls 7 [(0, .int kind), (3, .int ((sp_ms kind number j).1)), (4, .long ((sp_ms kind number j).2)), (6, .int (nI j))] → W p l e (ad_rm 2 0 0) s m ([.int kind, .long number] : List Value).toArray below meth c s.heap [] 0 0 (ad_Zp below (fun r => r = .inl (some (.int (sp_ms kind number 18).1))) s 0 0) (F0 m 8 ls []) := by
    intro n
    induction n with
    | zero => intro j h0 ls hl; exact absurd h0 (by omega)
    | succ n ih =>
      intro j h0 ls hl
      refine lv_iload hx hb d_M_sum_8 (lv_at hl 3 rfl) ?_
      refine lv_bipush (v := 18) hx hb d_M_sum_10 (by decide) ?_
      refine lv_icmp_ge (tgt := 45) hx hb d_M_sum_12 (by decide) (fun c12 => ?_) (fun c12 => ?_)
      · obtain rfl : j = 18 := by have := (nI_leI (a := 18) (b := j) (by omega) (by omega)).mp c12; omega
        refine lv_iload_n hx hb d_M_sum_45 rfl (lv_at hl 1 rfl) ?_
        exact ad_iretP M rfl rfl d_M_sum_46
      · have hj : j < 18 := by
          rcases Nat.lt_or_ge j 18 with q | q
          · exact q
          · exact absurd (nI_le (a := 18) q (by omega)) c12
        refine lv_iload_n hx hb d_M_sum_15 rfl (lv_at hl 1 rfl) ?_
        refine lv_iload_n hx hb d_M_sum_16 rfl (lv_at hl 0 rfl) ?_
        refine lv_lload hx hb d_M_sum_17 (lv_at hl 2 rfl) ?_
        refine lv_ldc2 (v := 10) hx hb hown (hts _ w_682) d_M_sum_19 ?_
        refine lv_lrem hx hb d_M_sum_22 (by decide) ?_
        refine lv_l2i (v := (((sp_ms kind number j).2) - ((sp_ms kind number j).2) / 10 * 10).toInt32) hx hb d_M_sum_23 rfl ?_
        refine lv_iload hx hb d_M_sum_24 (lv_at hl 3 rfl) ?_
        refine ad_cPi S I (ad_ivS (As := [.int kind, .int ((((sp_ms kind number j).2) - ((sp_ms kind number j).2) / 10 * 10).toInt32), .int (nI j)]) (rest := [.int ((sp_ms kind number j).1)]) S Y_M_counts w_683 w_684 w_6 ⟨by decide, by decide, np_M_counts⟩ rfl d_M_sum_26) (c_M_counts l G lo hp kind ((((sp_ms kind number j).2) - ((sp_ms kind number j).2) / 10 * 10).toInt32) (nI j)) Y_M_counts hl.1 ⟨Nat.le_of_ble_eq_true rfl, Nat.le_of_ble_eq_true rfl⟩ (Nat.le_of_ble_eq_true rfl) (Nat.le_of_ble_eq_true rfl) d_M_sum_26 ?_
        refine lv_iadd hx hb d_M_sum_29 ?_
        refine lv_istore_n (lv' := [(3, .int (((sp_ms kind number j).1) + (sp_ct kind ((((sp_ms kind number j).2) - ((sp_ms kind number j).2) / 10 * 10).toInt32) (nI j)))), (0, .int kind), (4, .long ((sp_ms kind number j).2)), (6, .int (nI j))]) hx hb d_M_sum_30 rfl hl (by decide) rfl (fun ls hl => ?_)
        refine lv_lload hx hb d_M_sum_31 (lv_at hl 2 rfl) ?_
        refine lv_ldc2 (v := 10) hx hb hown (hts _ w_682) d_M_sum_33 ?_
        refine lv_ldiv hx hb d_M_sum_36 (by decide) ?_
        refine lv_lstore (lv' := [(4, .long (((sp_ms kind number j).2) / 10)), (3, .int (((sp_ms kind number j).1) + (sp_ct kind ((((sp_ms kind number j).2) - ((sp_ms kind number j).2) / 10 * 10).toInt32) (nI j)))), (0, .int kind), (6, .int (nI j))]) hx hb d_M_sum_37 hl (by decide) rfl (fun ls hl => ?_)
        refine lv_iinc (v := (nI (j + 1))) (lv' := [(6, .int (nI (j + 1))), (4, .long (((sp_ms kind number j).2) / 10)), (3, .int (((sp_ms kind number j).1) + (sp_ct kind ((((sp_ms kind number j).2) - ((sp_ms kind number j).2) / 10 * 10).toInt32) (nI j)))), (0, .int kind)]) hx hb d_M_sum_39 hl (k := 3) rfl (nI_1 j) (by decide) rfl (fun ls hl => ?_)
        refine lv_goto (tgt := 8) hx hb d_M_sum_42 (by decide) ?_
        exact ih (j + 1) (by omega) ls (lv_sub hl [3, 2, 1, 0] rfl)
  refine lv_iconst (v := 0) hx hb d_M_sum_0 (by decide) ?_
  refine lv_istore_n (lv' := [(3, .int 0), (0, .int kind), (1, .long number)]) hx hb d_M_sum_1 rfl hl (by decide) rfl (fun ls hl => ?_)
  refine lv_lload_n hx hb d_M_sum_2 rfl (lv_at hl 2 rfl) ?_
  refine lv_lstore (lv' := [(4, .long number), (3, .int 0), (0, .int kind), (1, .long number)]) hx hb d_M_sum_3 hl (by decide) rfl (fun ls hl => ?_)
  refine lv_iconst (v := 0) hx hb d_M_sum_5 (by decide) ?_
  refine lv_istore (lv' := [(6, .int 0), (4, .long number), (3, .int 0), (0, .int kind), (1, .long number)]) hx hb d_M_sum_6 hl (by decide) rfl (fun ls hl => ?_)
  exact loop 19 0 (by omega) ls (lv_sub hl [3, 2, 1, 0] rfl)
set_option maxHeartbeats 4000000 in
set_option maxRecDepth 100000 in
theorem c_M_digitOf (l : Launch) (G : ad_G) (lo : Nat) (hp : ad_H) (kind : Int32) (number : Int64) : ad_Cp l y_M_digitOf b_M_digitOf 4 rt_M_digitOf hs_M_digitOf 3 0 0 G lo hp [.int kind, .long number] (fun r => r = .inl (some (.int (sp_mo kind number)))) := by
  intro p e s m below meth c M hts hB hP
  have hx := M.1
  have hb := M.2.1
  have hml := M.2.2.1
  have hown : s.vm.findClass "AuditDrawsModel" = some m.cls := M.2.2.2.1
  have S : CallFix p m c b_M_digitOf 4 s _ ad_T "AuditDrawsModel" := ⟨hx, hb, hml, hown, hts⟩
  have I : ad_I G lo s hp s.heap [] := ad_I.rf hB hP
  have hl := lv_entry ([.int kind, .long number]) (n := 4) (Nat.le_of_ble_eq_true rfl)
  rw [lg_entry_eq]
  generalize (lg_sl ([.int kind, .long number]) ++ List.replicate (4 - (lg_sl ([.int kind, .long number])).length) Slot.unset).toArray = ls at hl ⊢
  have hl : lv_has ls 4 [(0, .int kind), (1, .long number)] := hl
  refine lv_iload_n hx hb d_M_digitOf_0 rfl (lv_at hl 0 rfl) ?_
  refine lv_iconst (v := 2) hx hb d_M_digitOf_1 (by decide) ?_
  refine lv_icmp_ne (tgt := 10) hx hb d_M_digitOf_2 (by decide) (fun c2 => ?_) (fun c2 => ?_)
  · refine lv_bipush (v := 10) hx hb d_M_digitOf_10 (by decide) ?_
    refine lv_istore_n (lv' := [(3, .int 10), (0, .int kind), (1, .long number)]) hx hb d_M_digitOf_12 rfl hl (by decide) rfl (fun ls hl => ?_)
    refine lv_iload_n hx hb d_M_digitOf_13 rfl (lv_at hl 0 rfl) ?_
    refine lv_iload_n hx hb d_M_digitOf_14 rfl (lv_at hl 1 rfl) ?_
    refine lv_lload_n hx hb d_M_digitOf_15 rfl (lv_at hl 2 rfl) ?_
    refine ad_cPi S I (ad_ivS (As := [.int kind, .long number]) (rest := [.int 10]) S Y_M_sum w_679 w_680 w_6 ⟨by decide, by decide, np_M_sum⟩ rfl d_M_digitOf_16) (c_M_sum l G lo hp kind number) Y_M_sum hl.1 ⟨Nat.le_of_ble_eq_true rfl, Nat.le_of_ble_eq_true rfl⟩ (Nat.le_of_ble_eq_true rfl) (Nat.le_of_ble_eq_true rfl) d_M_digitOf_16 ?_
    refine lv_iload_n hx hb d_M_digitOf_19 rfl (lv_at hl 0 rfl) ?_
    refine lv_irem hx hb d_M_digitOf_20 (by decide) ?_
    refine lv_isub hx hb d_M_digitOf_21 ?_
    refine lv_iload_n hx hb d_M_digitOf_22 rfl (lv_at hl 0 rfl) ?_
    refine lv_irem hx hb d_M_digitOf_23 (by decide) ?_
    exact ad_iretP M rfl (by simp [sp_mo, c2]) d_M_digitOf_24
  · refine lv_bipush (v := 11) hx hb d_M_digitOf_5 (by decide) ?_
    refine lv_goto (tgt := 12) hx hb d_M_digitOf_7 (by decide) ?_
    refine lv_istore_n (lv' := [(3, .int 11), (0, .int kind), (1, .long number)]) hx hb d_M_digitOf_12 rfl hl (by decide) rfl (fun ls hl => ?_)
    refine lv_iload_n hx hb d_M_digitOf_13 rfl (lv_at hl 0 rfl) ?_
    refine lv_iload_n hx hb d_M_digitOf_14 rfl (lv_at hl 1 rfl) ?_
    refine lv_lload_n hx hb d_M_digitOf_15 rfl (lv_at hl 2 rfl) ?_
    refine ad_cPi S I (ad_ivS (As := [.int kind, .long number]) (rest := [.int 11]) S Y_M_sum w_679 w_680 w_6 ⟨by decide, by decide, np_M_sum⟩ rfl d_M_digitOf_16) (c_M_sum l G lo hp kind number) Y_M_sum hl.1 ⟨Nat.le_of_ble_eq_true rfl, Nat.le_of_ble_eq_true rfl⟩ (Nat.le_of_ble_eq_true rfl) (Nat.le_of_ble_eq_true rfl) d_M_digitOf_16 ?_
    refine lv_iload_n hx hb d_M_digitOf_19 rfl (lv_at hl 0 rfl) ?_
    refine lv_irem hx hb d_M_digitOf_20 (by decide) ?_
    refine lv_isub hx hb d_M_digitOf_21 ?_
    refine lv_iload_n hx hb d_M_digitOf_22 rfl (lv_at hl 0 rfl) ?_
    refine lv_irem hx hb d_M_digitOf_23 (by decide) ?_
    exact ad_iretP M rfl (by simp [sp_mo, c2]) d_M_digitOf_24
