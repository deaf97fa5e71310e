/-- a digit's weight by kind (k: its place) -/
def sp_dbl (v : Int32) : Int32 := if 2 * v ≤ 9 then 2 * v else 2 * v - 9
def sp_wd (kind k v : Int32) : Int32 := if kind = 0 then (if k - k / 2 * 2 = 0 then sp_dbl v else v) else if kind = 1 then (if k - k / 2 * 2 = 0 then 3 * v else v) else v * (k - k / 6 * 6 + 2)
/-- after j places: the sum, and what is left of the number -/
def sp_ws (kind : Int32) (number : Int64) : Nat → Int32 × Int64
  | 0 => (0, number)
  | j + 1 => ((sp_ws kind number j).1 + sp_wd kind (nI j) ((sp_ws kind number j).2 - (sp_ws kind number j).2 / 10 * 10).toInt32, (sp_ws kind number j).2 / 10)
def sp_of (kind : Int32) (number : Int64) : Int32 := let sm := (sp_ws kind number 18).1
  if kind = 0 ∨ kind = 1 then (10 - (sm - sm / 10 * 10)) - (10 - (sm - sm / 10 * 10)) / 10 * 10 else (11 - (sm - sm / 11 * 11)) - (11 - (sm - sm / 11 * 11)) / 11 * 11
set_option maxHeartbeats 4000000 in
set_option maxRecDepth 100000 in
theorem c_C_doubled (l : Launch) (G : ad_G) (lo : Nat) (hp : ad_H) (v : Int32) : ad_Cp l y_C_doubled b_C_doubled 2 rt_C_doubled hs_C_doubled 1 0 0 G lo hp [.int v] (fun r => r = .inl (some (.int (sp_dbl v)))) := by
  intro p e s m below meth c M hts hB hP
  have hx := M.1
  have hb := M.2.1
  have hml := M.2.2.1
  have hown : s.vm.findClass "AuditDraws$CheckDigits" = some m.cls := M.2.2.2.1
  have S : CallFix p m c b_C_doubled 2 s _ ad_T "AuditDraws$CheckDigits" := ⟨hx, hb, hml, hown, hts⟩
  have I : ad_I G lo s hp s.heap [] := ad_I.rf hB hP
  have hl := lv_entry ([.int v]) (n := 2) (Nat.le_of_ble_eq_true rfl)
  rw [lg_entry_eq]
  generalize (lg_sl ([.int v]) ++ List.replicate (2 - (lg_sl ([.int v])).length) Slot.unset).toArray = ls at hl ⊢
  have hl : lv_has ls 2 [(0, .int v)] := hl
  refine lv_iconst (v := 2) hx hb d_C_doubled_0 (by decide) ?_
  refine lv_iload_n hx hb d_C_doubled_1 rfl (lv_at hl 0 rfl) ?_
  refine lv_imul hx hb d_C_doubled_2 ?_
  refine lv_istore_n (lv' := [(1, .int (2 * v)), (0, .int v)]) hx hb d_C_doubled_3 rfl hl (by decide) rfl (fun ls hl => ?_)
  refine lv_iload_n hx hb d_C_doubled_4 rfl (lv_at hl 0 rfl) ?_
  refine lv_bipush (v := 9) hx hb d_C_doubled_5 (by decide) ?_
  refine lv_icmp_le (tgt := 17) hx hb d_C_doubled_7 (by decide) (fun c7 => ?_) (fun c7 => ?_)
  · refine lv_iload_n hx hb d_C_doubled_17 rfl (lv_at hl 0 rfl) ?_
    exact ad_iretP M rfl (by rw [show sp_dbl v = 2 * v from if_pos c7]) d_C_doubled_18
  · refine lv_iload_n hx hb d_C_doubled_10 rfl (lv_at hl 0 rfl) ?_
    refine lv_bipush (v := 9) hx hb d_C_doubled_11 (by decide) ?_
    refine lv_isub hx hb d_C_doubled_13 ?_
    refine lv_goto (tgt := 18) hx hb d_C_doubled_14 (by decide) ?_
    exact ad_iretP M rfl (by rw [show sp_dbl v = (2 * v) - 9 from if_neg c7]) d_C_doubled_18
set_option maxHeartbeats 4000000 in
set_option maxRecDepth 100000 in
theorem c_C_weighed (l : Launch) (G : ad_G) (lo : Nat) (hp : ad_H) (kind k v : Int32) : ad_Cp l y_C_weighed b_C_weighed 4 rt_C_weighed hs_C_weighed 2 0 0 G lo hp [.int kind, .int k, .int v] (fun r => r = .inl (some (.int (sp_wd kind k v)))) := by
  intro p e s m below meth c M hts hB hP
  have hx := M.1
  have hb := M.2.1
  have hml := M.2.2.1
  have hown : s.vm.findClass "AuditDraws$CheckDigits" = some m.cls := M.2.2.2.1
  have S : CallFix p m c b_C_weighed 4 s _ ad_T "AuditDraws$CheckDigits" := ⟨hx, hb, hml, hown, hts⟩
  have I : ad_I G lo s hp s.heap [] := ad_I.rf hB hP
  have hl := lv_entry ([.int kind, .int k, .int v]) (n := 4) (Nat.le_of_ble_eq_true rfl)
  rw [lg_entry_eq]
  generalize (lg_sl ([.int kind, .int k, .int v]) ++ List.replicate (4 - (lg_sl ([.int kind, .int k, .int v])).length) Slot.unset).toArray = ls at hl ⊢
  have hl : lv_has ls 4 [(0, .int kind), (1, .int k), (2, .int v)] := hl
  refine lv_iload_n hx hb d_C_weighed_0 rfl (lv_at hl 1 rfl) ?_
  refine lv_iconst (v := 2) hx hb d_C_weighed_1 (by decide) ?_
  refine lv_irem hx hb d_C_weighed_2 (by decide) ?_
  refine lv_if_ne (tgt := 10) hx hb d_C_weighed_3 (by decide) (fun c3 => ?_) (fun c3 => ?_)
  · refine lv_iconst (v := 0) hx hb d_C_weighed_10 (by decide) ?_
    refine lv_istore_n (lv' := [(3, .int 0), (0, .int kind), (1, .int k), (2, .int v)]) hx hb d_C_weighed_11 rfl hl (by decide) rfl (fun ls hl => ?_)
    refine lv_iload_n hx hb d_C_weighed_12 rfl (lv_at hl 1 rfl) ?_
    refine lv_if_ne (tgt := 29) hx hb d_C_weighed_13 (by decide) (fun c13 => ?_) (fun c13 => ?_)
    · refine lv_iload_n hx hb d_C_weighed_29 rfl (lv_at hl 1 rfl) ?_
      refine lv_iconst (v := 1) hx hb d_C_weighed_30 (by decide) ?_
      refine lv_icmp_ne (tgt := 46) hx hb d_C_weighed_31 (by decide) (fun c31 => ?_) (fun c31 => ?_)
      · refine lv_iload_n hx hb d_C_weighed_46 rfl (lv_at hl 3 rfl) ?_
        refine lv_iload_n hx hb d_C_weighed_47 rfl (lv_at hl 2 rfl) ?_
        refine lv_bipush (v := 6) hx hb d_C_weighed_48 (by decide) ?_
        refine lv_irem hx hb d_C_weighed_50 (by decide) ?_
        refine lv_iconst (v := 2) hx hb d_C_weighed_51 (by decide) ?_
        refine lv_iadd hx hb d_C_weighed_52 ?_
        refine lv_imul hx hb d_C_weighed_53 ?_
        exact ad_iretP M rfl (by simp [sp_wd, c3, c13, c31]) d_C_weighed_54
      · refine lv_iload_n hx hb d_C_weighed_34 rfl (lv_at hl 0 rfl) ?_
        refine lv_if_eq (tgt := 44) hx hb d_C_weighed_35 (by decide) (fun c => ?_) (fun c => ?_)
        · refine lv_iload_n hx hb d_C_weighed_44 rfl (lv_at hl 3 rfl) ?_
          exact ad_iretP M rfl (by simp [sp_wd, c3, c13, c31]) d_C_weighed_45
        · exact absurd rfl c
    · refine lv_iload_n hx hb d_C_weighed_16 rfl (lv_at hl 0 rfl) ?_
      refine lv_if_eq (tgt := 27) hx hb d_C_weighed_17 (by decide) (fun c => ?_) (fun c => ?_)
      · refine lv_iload_n hx hb d_C_weighed_27 rfl (lv_at hl 3 rfl) ?_
        exact ad_iretP M rfl (by simp [sp_wd, c3, c13]) d_C_weighed_28
      · exact absurd rfl c
  · refine lv_iconst (v := 1) hx hb d_C_weighed_6 (by decide) ?_
    refine lv_goto (tgt := 11) hx hb d_C_weighed_7 (by decide) ?_
    refine lv_istore_n (lv' := [(3, .int 1), (0, .int kind), (1, .int k), (2, .int v)]) hx hb d_C_weighed_11 rfl hl (by decide) rfl (fun ls hl => ?_)
    refine lv_iload_n hx hb d_C_weighed_12 rfl (lv_at hl 1 rfl) ?_
    refine lv_if_ne (tgt := 29) hx hb d_C_weighed_13 (by decide) (fun c13 => ?_) (fun c13 => ?_)
    · refine lv_iload_n hx hb d_C_weighed_29 rfl (lv_at hl 1 rfl) ?_
      refine lv_iconst (v := 1) hx hb d_C_weighed_30 (by decide) ?_
      refine lv_icmp_ne (tgt := 46) hx hb d_C_weighed_31 (by decide) (fun c31 => ?_) (fun c31 => ?_)
      · refine lv_iload_n hx hb d_C_weighed_46 rfl (lv_at hl 3 rfl) ?_
        refine lv_iload_n hx hb d_C_weighed_47 rfl (lv_at hl 2 rfl) ?_
        refine lv_bipush (v := 6) hx hb d_C_weighed_48 (by decide) ?_
        refine lv_irem hx hb d_C_weighed_50 (by decide) ?_
        refine lv_iconst (v := 2) hx hb d_C_weighed_51 (by decide) ?_
        refine lv_iadd hx hb d_C_weighed_52 ?_
        refine lv_imul hx hb d_C_weighed_53 ?_
        exact ad_iretP M rfl (by simp [sp_wd, c3, c13, c31]) d_C_weighed_54
      · refine lv_iload_n hx hb d_C_weighed_34 rfl (lv_at hl 0 rfl) ?_
        refine lv_if_eq (tgt := 44) hx hb d_C_weighed_35 (by decide) (fun c => ?_) (fun c => ?_)
        · exact absurd c (by decide)
        · refine lv_iconst (v := 3) hx hb d_C_weighed_38 (by decide) ?_
          refine lv_iload_n hx hb d_C_weighed_39 rfl (lv_at hl 3 rfl) ?_
          refine lv_imul hx hb d_C_weighed_40 ?_
          refine lv_goto (tgt := 45) hx hb d_C_weighed_41 (by decide) ?_
          exact ad_iretP M rfl (by simp [sp_wd, c3, c13, c31]) d_C_weighed_45
    · refine lv_iload_n hx hb d_C_weighed_16 rfl (lv_at hl 0 rfl) ?_
      refine lv_if_eq (tgt := 27) hx hb d_C_weighed_17 (by decide) (fun c => ?_) (fun c => ?_)
      · exact absurd c (by decide)
      · refine lv_iload_n hx hb d_C_weighed_20 rfl (lv_at hl 3 rfl) ?_
        refine ad_cPi S I (ad_ivS (As := [.int v]) (rest := []) S Y_C_doubled w_440 w_441 w_20 ⟨by decide, by decide, np_C_doubled⟩ rfl d_C_weighed_21) (c_C_doubled l G lo hp v) Y_C_doubled hl.1 ⟨Nat.le_of_ble_eq_true rfl, Nat.le_of_ble_eq_true rfl⟩ (Nat.le_of_ble_eq_true rfl) (Nat.le_of_ble_eq_true rfl) d_C_weighed_21 ?_
        refine lv_goto (tgt := 28) hx hb d_C_weighed_24 (by decide) ?_
        exact ad_iretP M rfl (by simp [sp_wd, c3, c13]) d_C_weighed_28
