def bv (i : Nat) (rs : List R3) (b9 : Int32) (cu : Option R3) : Prop := match cu with
  | none => b9 = -1
  | some rb => ∃ kb : Nat, rs[kb]? = some rb ∧ b9 = nI (24 * i + kb)
theorem bv_n {i : Nat} {rs : List R3} {b9 : Int32} {cu : Option R3} (h : bv i rs b9 cu) (hi : i < 64) (hr : rs.length ≤ 24) (c : b9 < 0) : cu = none := by
  cases cu with
  | none => rfl
  | some rb =>
    obtain ⟨kb, h1, rfl⟩ := h
    have := (List.getElem?_eq_some_iff.mp h1).1
    exact absurd c (nI_pos (by omega))
theorem bv_s {i : Nat} {rs : List R3} {b9 : Int32} {cu : Option R3} (h : bv i rs b9 cu) (c : ¬ b9 < 0) : ∃ (rb : R3) (kb : Nat), cu = some rb ∧ rs[kb]? = some rb ∧ b9 = nI (24 * i + kb) := by
  cases cu with
  | none => rw [show b9 = -1 from h] at c; exact absurd c (by decide)
  | some rb =>
    obtain ⟨kb, h1, h2⟩ := h
    exact ⟨rb, kb, rfl, h1, h2⟩
theorem rp_1 {r b : R3} (h : b.1 < r.1) : sp_rp r b = 1 := by
  unfold sp_rp
  rw [if_neg (fun hh => by rw [hh] at h; exact Int32.lt_irrefl h), if_neg (Int32.not_le.mpr h)]
theorem rp_0 {r b : R3} (h : ¬ b.1 < r.1) (h2 : ¬ r.1 = b.1) : sp_rp r b = 0 := by
  unfold sp_rp
  rw [if_neg h2, if_pos (Int32.not_lt.mp h)]
theorem rp_2 {r b : R3} (h : r.1 = b.1) (h2 : r.2.2 < b.2.2) : sp_rp r b = 0 := by
  unfold sp_rp
  rw [if_pos h, if_pos h2]
theorem rp_3 {r b : R3} (h : r.1 = b.1) (h2 : ¬ r.2.2 < b.2.2) : sp_rp r b = 1 := by
  unfold sp_rp
  rw [if_pos h, if_neg h2]
theorem bv_end {i : Nat} {rs : List R3} {b9 h9 : Int32} {cu : Option R3} (h : bv i rs b9 cu) (h2 : sp_lb h9 rs none = sp_lb h9 (rs.drop rs.length) cu) : (sp_lb h9 rs none = none ∧ (.inl (some (.int b9)) : ad_R) = .inl (some (.int (-1)))) ∨ ∃ (rb : R3) (kb : Nat), sp_lb h9 rs none = some rb ∧ rs[kb]? = some rb ∧ (.inl (some (.int b9)) : ad_R) = .inl (some (.int (nI (24 * i + kb)))) := by
  rw [List.drop_length] at h2
  cases cu with
  | none => exact Or.inl ⟨h2, by rw [show b9 = -1 from h]⟩
  | some rb =>
    obtain ⟨kb, hkb, e9⟩ := h
    exact Or.inr ⟨rb, kb, h2, hkb, by rw [e9]⟩
set_option maxHeartbeats 4000000 in
set_option maxRecDepth 100000 in
theorem c_M_best (l : Launch) (G : ad_G) (lo : Nat) (hp : ad_H) (m0 : Nat) (bs : Nat → Nat) (th : Int32) (sd : Int64) (dm : Int32) (fs : Nat → Nat → Int32) (ts : List TH) (lt : List Nat)  (i : Nat) (t : TH) (h9 : Int32) (ht : ts[i]? = some t) (hm24 : t.2.2.2.2.length ≤ 24) (C : MC G hp m0 bs th sd (nI ts.length) dm fs) (A : MA ts lt fs) (hn : ts.length ≤ 64) : ad_Cp l y_M_best b_M_best 6 rt_M_best hs_M_best 1 0 0 G lo hp [.ref m0, .int (nI i), .int h9] (fun r => (sp_lb h9 t.2.2.2.2 none = none ∧ r = .inl (some (.int (-1)))) ∨ ∃ (rb : R3) (kb : Nat), sp_lb h9 t.2.2.2.2 none = some rb ∧ t.2.2.2.2[kb]? = some rb ∧ r = .inl (some (.int (nI (24 * i + kb))))) := by
  intro p e s m below meth c M hts hB hP
  have hx := M.1
  have hb := M.2.1
  have hml := M.2.2.1
  have hown : s.vm.findClass "AuditDrawsModel" = some m.cls := M.2.2.2.1
  have S : CallFix p m c b_M_best 6 s _ ad_T "AuditDrawsModel" := ⟨hx, hb, hml, hown, hts⟩
  have I : ad_I G lo s hp s.heap [] := ad_I.rf hB hP
  have hl := lv_entry ([.ref m0, .int (nI i), .int h9]) (n := 6) (Nat.le_of_ble_eq_true rfl)
  rw [lg_entry_eq]
  generalize (lg_sl ([.ref m0, .int (nI i), .int h9]) ++ List.replicate (6 - (lg_sl ([.ref m0, .int (nI i), .int h9])).length) Slot.unset).toArray = ls at hl ⊢
  have hl : lv_has ls 6 [(0, .ref m0), (1, .int (nI i)), (2, .int h9)] := hl
  have hA := A.1 i t ht
  have hi : i < 64 := by have := (List.getElem?_eq_some_iff.mp ht).1; omega
  have loop : ∀ (n : Nat) (q : Nat) (b9 : Int32) (cu : Option R3), (t.2.2.2.2.length < q + n ∧ q ≤ t.2.2.2.2.length ∧ sp_lb h9 t.2.2.2.2 none = sp_lb h9 (t.2.2.2.2.drop q) cu ∧ bv i t.2.2.2.2 b9 cu) → ∀ ls : Array Slot, lv_has ls 6 [(0, .ref m0), (1, .int (nI i)), (2, .int h9), (3, .int b9), (4, .int (nI (24 * i + q)))] → W p l e (ad_rm 1 0 0) s m ([.ref m0, .int (nI i), .int h9] : List Value).toArray below meth c s.heap [] 0 0 (ad_Zp below (fun r => (sp_lb h9 t.2.2.2.2 none = none ∧ r = .inl (some (.int (-1)))) ∨ ∃ (rb : R3) (kb : Nat), sp_lb h9 t.2.2.2.2 none = some rb ∧ t.2.2.2.2[kb]? = some rb ∧ r = .inl (some (.int (nI (24 * i + kb))))) s 0 0) (F0 m 8 ls []) := by
    intro n
    induction n with
    | zero => intro q b9 cu h0 ls hl; exact absurd h0 (by omega)
    | succ n ih =>
      intro q b9 cu h0 ls hl
      refine lv_iload hx hb d_M_best_8 (lv_at hl 4 rfl) ?_
      refine lv_bipush (v := 24) hx hb d_M_best_10 (by decide) ?_
      refine lv_iload_n hx hb d_M_best_12 rfl (lv_at hl 1 rfl) ?_
      refine lv_imul hx hb d_M_best_13 ?_
      refine ad_top (y := .int (nI (24 * i))) (congrArg Value.int (pk_mul 24 i)) ?_
      refine lv_aload_n hx hb d_M_best_14 rfl (lv_at hl 0 rfl) ?_
      refine ad_get S I C.1 K_Mod 11 (by decide) w_559 rfl d_M_best_15 ?_
      refine lv_iload_n hx hb d_M_best_18 rfl (lv_at hl 1 rfl) ?_
      refine ad_iald S I (C.2.1 7 (by decide)) (vp_in_nI (show i < 64 by omega) (by decide)) d_M_best_19 ?_
      refine ad_top (y := .int ((fs 7) i)) (congrArg (fun q => Value.int ((fs 7) q)) (show (nI i).toNatClampNeg = i from nI_clamp (by omega))) ?_
      refine lv_iadd hx hb d_M_best_20 ?_
      refine ad_top (y := .int (nI (24 * i + t.2.2.2.2.length))) (congrArg Value.int (by rw [hA.2.2.2.2.1, nI_add])) ?_
      refine lv_icmp_ge (tgt := 112) hx hb d_M_best_21 (by decide) (fun c21 => ?_) (fun c21 => ?_)
      · obtain rfl : q = t.2.2.2.2.length := by have := ad_ge (j := 24 * i + q) (n := 24 * i + t.2.2.2.2.length) (by omega) (by omega) c21; omega
        refine lv_iload_n hx hb d_M_best_112 rfl (lv_at hl 3 rfl) ?_
        exact ad_iretP M rfl (bv_end h0.2.2.2 h0.2.2.1) d_M_best_113
      · have hq : q < t.2.2.2.2.length := by have := ad_lt (j := 24 * i + q) (n := 24 * i + t.2.2.2.2.length) (by omega) (by omega) c21; omega
        obtain ⟨r1, hr⟩ : ∃ r1, t.2.2.2.2[q]? = some r1 := ⟨_, List.getElem?_eq_getElem hq⟩
        have hR := hA.2.2.2.2.2 q r1 hr
        refine lv_aload_n hx hb d_M_best_24 rfl (lv_at hl 0 rfl) ?_
        refine ad_get S I C.1 K_Mod 14 (by decide) w_562 rfl d_M_best_25 ?_
        refine lv_iload hx hb d_M_best_28 (lv_at hl 4 rfl) ?_
        refine ad_iald S I (C.2.1 10 (by decide)) (vp_in_nI (show (24 * i + q) < 1536 by omega) (by decide)) d_M_best_30 ?_
        refine ad_top (y := .int ((fs 10) (24 * i + q))) (congrArg (fun q => Value.int ((fs 10) q)) (show (nI (24 * i + q)).toNatClampNeg = (24 * i + q) from nI_clamp (by omega))) ?_
        refine lv_iload_n hx hb d_M_best_31 rfl (lv_at hl 2 rfl) ?_
        refine lv_icmp_gt (tgt := 91) hx hb d_M_best_32 (by decide) (fun c32 => ?_) (fun c32 => ?_)
        · rw [hR.2.2] at c32
          refine lv_iconst (v := 0) hx hb d_M_best_91 (by decide) ?_
          refine lv_istore (lv' := [(5, .int 0), (0, .ref m0), (1, .int (nI i)), (2, .int h9), (3, .int b9), (4, .int (nI (24 * i + q)))]) hx hb d_M_best_92 hl (by decide) rfl (fun ls hl => ?_)
          refine lv_iload hx hb d_M_best_94 (lv_at hl 0 rfl) ?_
          refine lv_if_eq (tgt := 104) hx hb d_M_best_96 (by decide) (fun c96 => ?_) (fun c96 => ?_)
          · refine lv_iload_n hx hb d_M_best_104 rfl (lv_at hl 4 rfl) ?_
            refine lv_istore_n (lv' := [(3, .int b9), (5, .int 0), (0, .ref m0), (1, .int (nI i)), (2, .int h9), (4, .int (nI (24 * i + q)))]) hx hb d_M_best_105 rfl hl (by decide) rfl (fun ls hl => ?_)
            refine lv_iinc (v := (nI (24 * i + (q + 1)))) (lv' := [(4, .int (nI (24 * i + (q + 1)))), (3, .int b9), (5, .int 0), (0, .ref m0), (1, .int (nI i)), (2, .int h9)]) hx hb d_M_best_106 hl (k := 5) rfl (nI_1 _) (by decide) rfl (fun ls hl => ?_)
            refine lv_goto (tgt := 8) hx hb d_M_best_109 (by decide) ?_
            exact ih (q + 1) b9 cu ⟨by omega, by omega, by rw [h0.2.2.1, sp_lb_s hr]; simp [sp_up, c32], h0.2.2.2⟩ ls (lv_sub hl [3, 4, 5, 1, 0] rfl)
          · exact absurd c96 (by decide)
        · rw [hR.2.2] at c32
          refine lv_iload_n hx hb d_M_best_35 rfl (lv_at hl 3 rfl) ?_
          refine lv_if_lt (tgt := 87) hx hb d_M_best_36 (by decide) (fun c36 => ?_) (fun c36 => ?_)
          · obtain rfl := bv_n h0.2.2.2 hi hm24 c36
            refine lv_iconst (v := 1) hx hb d_M_best_87 (by decide) ?_
            refine lv_goto (tgt := 92) hx hb d_M_best_88 (by decide) ?_
            refine lv_istore (lv' := [(5, .int 1), (0, .ref m0), (1, .int (nI i)), (2, .int h9), (3, .int b9), (4, .int (nI (24 * i + q)))]) hx hb d_M_best_92 hl (by decide) rfl (fun ls hl => ?_)
            refine lv_iload hx hb d_M_best_94 (lv_at hl 0 rfl) ?_
            refine lv_if_eq (tgt := 104) hx hb d_M_best_96 (by decide) (fun c96 => ?_) (fun c96 => ?_)
            · exact absurd c96 (by decide)
            · refine lv_iload hx hb d_M_best_99 (lv_at hl 5 rfl) ?_
              refine lv_goto (tgt := 105) hx hb d_M_best_101 (by decide) ?_
              refine lv_istore_n (lv' := [(3, .int (nI (24 * i + q))), (5, .int 1), (0, .ref m0), (1, .int (nI i)), (2, .int h9), (4, .int (nI (24 * i + q)))]) hx hb d_M_best_105 rfl hl (by decide) rfl (fun ls hl => ?_)
              refine lv_iinc (v := (nI (24 * i + (q + 1)))) (lv' := [(4, .int (nI (24 * i + (q + 1)))), (3, .int (nI (24 * i + q))), (5, .int 1), (0, .ref m0), (1, .int (nI i)), (2, .int h9)]) hx hb d_M_best_106 hl (k := 5) rfl (nI_1 _) (by decide) rfl (fun ls hl => ?_)
              refine lv_goto (tgt := 8) hx hb d_M_best_109 (by decide) ?_
              exact ih (q + 1) (nI (24 * i + q)) (some r1) ⟨by omega, by omega, by rw [h0.2.2.1, sp_lb_s hr]; simp [sp_up, c32], ⟨q, hr, rfl⟩⟩ ls (lv_sub hl [3, 4, 5, 1, 0] rfl)
          · obtain ⟨rb, kb, rfl, hkb, rfl⟩ := bv_s h0.2.2.2 c36
            have hkl := (List.getElem?_eq_some_iff.mp hkb).1
            have hB := hA.2.2.2.2.2 kb rb hkb
            refine lv_aload_n hx hb d_M_best_39 rfl (lv_at hl 0 rfl) ?_
            refine ad_get S I C.1 K_Mod 12 (by decide) w_560 rfl d_M_best_40 ?_
            refine lv_iload hx hb d_M_best_43 (lv_at hl 4 rfl) ?_
            refine ad_iald S I (C.2.1 8 (by decide)) (vp_in_nI (show (24 * i + q) < 1536 by omega) (by decide)) d_M_best_45 ?_
            refine ad_top (y := .int ((fs 8) (24 * i + q))) (congrArg (fun q => Value.int ((fs 8) q)) (show (nI (24 * i + q)).toNatClampNeg = (24 * i + q) from nI_clamp (by omega))) ?_
            refine lv_aload_n hx hb d_M_best_46 rfl (lv_at hl 0 rfl) ?_
            refine ad_get S I C.1 K_Mod 12 (by decide) w_560 rfl d_M_best_47 ?_
            refine lv_iload_n hx hb d_M_best_50 rfl (lv_at hl 3 rfl) ?_
            refine ad_iald S I (C.2.1 8 (by decide)) (vp_in_nI (show (24 * i + kb) < 1536 by omega) (by decide)) d_M_best_51 ?_
            refine ad_top (y := .int ((fs 8) (24 * i + kb))) (congrArg (fun q => Value.int ((fs 8) q)) (show (nI (24 * i + kb)).toNatClampNeg = (24 * i + kb) from nI_clamp (by omega))) ?_
            refine lv_icmp_gt (tgt := 87) hx hb d_M_best_52 (by decide) (fun c52 => ?_) (fun c52 => ?_)
            · rw [hR.1, hB.1] at c52
              refine lv_iconst (v := 1) hx hb d_M_best_87 (by decide) ?_
              refine lv_goto (tgt := 92) hx hb d_M_best_88 (by decide) ?_
              refine lv_istore (lv' := [(5, .int 1), (0, .ref m0), (1, .int (nI i)), (2, .int h9), (3, .int (nI (24 * i + kb))), (4, .int (nI (24 * i + q)))]) hx hb d_M_best_92 hl (by decide) rfl (fun ls hl => ?_)
              refine lv_iload hx hb d_M_best_94 (lv_at hl 0 rfl) ?_
              refine lv_if_eq (tgt := 104) hx hb d_M_best_96 (by decide) (fun c96 => ?_) (fun c96 => ?_)
              · exact absurd c96 (by decide)
              · refine lv_iload hx hb d_M_best_99 (lv_at hl 5 rfl) ?_
                refine lv_goto (tgt := 105) hx hb d_M_best_101 (by decide) ?_
                refine lv_istore_n (lv' := [(3, .int (nI (24 * i + q))), (5, .int 1), (0, .ref m0), (1, .int (nI i)), (2, .int h9), (4, .int (nI (24 * i + q)))]) hx hb d_M_best_105 rfl hl (by decide) rfl (fun ls hl => ?_)
                refine lv_iinc (v := (nI (24 * i + (q + 1)))) (lv' := [(4, .int (nI (24 * i + (q + 1)))), (3, .int (nI (24 * i + q))), (5, .int 1), (0, .ref m0), (1, .int (nI i)), (2, .int h9)]) hx hb d_M_best_106 hl (k := 5) rfl (nI_1 _) (by decide) rfl (fun ls hl => ?_)
                refine lv_goto (tgt := 8) hx hb d_M_best_109 (by decide) ?_
                exact ih (q + 1) (nI (24 * i + q)) (some r1) ⟨by omega, by omega, by rw [h0.2.2.1, sp_lb_s hr]; simp [sp_up, c32, rp_1 c52], ⟨q, hr, rfl⟩⟩ ls (lv_sub hl [3, 4, 5, 1, 0] rfl)
            · rw [hR.1, hB.1] at c52
              refine lv_aload_n hx hb d_M_best_55 rfl (lv_at hl 0 rfl) ?_
              refine ad_get S I C.1 K_Mod 12 (by decide) w_560 rfl d_M_best_56 ?_
              refine lv_iload hx hb d_M_best_59 (lv_at hl 4 rfl) ?_
              refine ad_iald S I (C.2.1 8 (by decide)) (vp_in_nI (show (24 * i + q) < 1536 by omega) (by decide)) d_M_best_61 ?_
              refine ad_top (y := .int ((fs 8) (24 * i + q))) (congrArg (fun q => Value.int ((fs 8) q)) (show (nI (24 * i + q)).toNatClampNeg = (24 * i + q) from nI_clamp (by omega))) ?_
              refine lv_aload_n hx hb d_M_best_62 rfl (lv_at hl 0 rfl) ?_
              refine ad_get S I C.1 K_Mod 12 (by decide) w_560 rfl d_M_best_63 ?_
              refine lv_iload_n hx hb d_M_best_66 rfl (lv_at hl 3 rfl) ?_
              refine ad_iald S I (C.2.1 8 (by decide)) (vp_in_nI (show (24 * i + kb) < 1536 by omega) (by decide)) d_M_best_67 ?_
              refine ad_top (y := .int ((fs 8) (24 * i + kb))) (congrArg (fun q => Value.int ((fs 8) q)) (show (nI (24 * i + kb)).toNatClampNeg = (24 * i + kb) from nI_clamp (by omega))) ?_
              refine lv_icmp_ne (tgt := 91) hx hb d_M_best_68 (by decide) (fun c68 => ?_) (fun c68 => ?_)
              · rw [hR.1, hB.1] at c68
                refine lv_iconst (v := 0) hx hb d_M_best_91 (by decide) ?_
                refine lv_istore (lv' := [(5, .int 0), (0, .ref m0), (1, .int (nI i)), (2, .int h9), (3, .int (nI (24 * i + kb))), (4, .int (nI (24 * i + q)))]) hx hb d_M_best_92 hl (by decide) rfl (fun ls hl => ?_)
                refine lv_iload hx hb d_M_best_94 (lv_at hl 0 rfl) ?_
                refine lv_if_eq (tgt := 104) hx hb d_M_best_96 (by decide) (fun c96 => ?_) (fun c96 => ?_)
                · refine lv_iload_n hx hb d_M_best_104 rfl (lv_at hl 4 rfl) ?_
                  refine lv_istore_n (lv' := [(3, .int (nI (24 * i + kb))), (5, .int 0), (0, .ref m0), (1, .int (nI i)), (2, .int h9), (4, .int (nI (24 * i + q)))]) hx hb d_M_best_105 rfl hl (by decide) rfl (fun ls hl => ?_)
                  refine lv_iinc (v := (nI (24 * i + (q + 1)))) (lv' := [(4, .int (nI (24 * i + (q + 1)))), (3, .int (nI (24 * i + kb))), (5, .int 0), (0, .ref m0), (1, .int (nI i)), (2, .int h9)]) hx hb d_M_best_106 hl (k := 5) rfl (nI_1 _) (by decide) rfl (fun ls hl => ?_)
                  refine lv_goto (tgt := 8) hx hb d_M_best_109 (by decide) ?_
                  exact ih (q + 1) (nI (24 * i + kb)) (some rb) ⟨by omega, by omega, by rw [h0.2.2.1, sp_lb_s hr]; simp [sp_up, c32, rp_0 c52 c68], ⟨kb, hkb, rfl⟩⟩ ls (lv_sub hl [3, 4, 5, 1, 0] rfl)
                · exact absurd c96 (by decide)
              · rw [hR.1, hB.1] at c68
                refine lv_aload_n hx hb d_M_best_71 rfl (lv_at hl 0 rfl) ?_
                refine ad_get S I C.1 K_Mod 14 (by decide) w_562 rfl d_M_best_72 ?_
                refine lv_iload hx hb d_M_best_75 (lv_at hl 4 rfl) ?_
                refine ad_iald S I (C.2.1 10 (by decide)) (vp_in_nI (show (24 * i + q) < 1536 by omega) (by decide)) d_M_best_77 ?_
                refine ad_top (y := .int ((fs 10) (24 * i + q))) (congrArg (fun q => Value.int ((fs 10) q)) (show (nI (24 * i + q)).toNatClampNeg = (24 * i + q) from nI_clamp (by omega))) ?_
                refine lv_aload_n hx hb d_M_best_78 rfl (lv_at hl 0 rfl) ?_
                refine ad_get S I C.1 K_Mod 14 (by decide) w_562 rfl d_M_best_79 ?_
                refine lv_iload_n hx hb d_M_best_82 rfl (lv_at hl 3 rfl) ?_
                refine ad_iald S I (C.2.1 10 (by decide)) (vp_in_nI (show (24 * i + kb) < 1536 by omega) (by decide)) d_M_best_83 ?_
                refine ad_top (y := .int ((fs 10) (24 * i + kb))) (congrArg (fun q => Value.int ((fs 10) q)) (show (nI (24 * i + kb)).toNatClampNeg = (24 * i + kb) from nI_clamp (by omega))) ?_
                refine lv_icmp_lt (tgt := 91) hx hb d_M_best_84 (by decide) (fun c84 => ?_) (fun c84 => ?_)
                · rw [hR.2.2, hB.2.2] at c84
                  refine lv_iconst (v := 0) hx hb d_M_best_91 (by decide) ?_
                  refine lv_istore (lv' := [(5, .int 0), (0, .ref m0), (1, .int (nI i)), (2, .int h9), (3, .int (nI (24 * i + kb))), (4, .int (nI (24 * i + q)))]) hx hb d_M_best_92 hl (by decide) rfl (fun ls hl => ?_)
                  refine lv_iload hx hb d_M_best_94 (lv_at hl 0 rfl) ?_
                  refine lv_if_eq (tgt := 104) hx hb d_M_best_96 (by decide) (fun c96 => ?_) (fun c96 => ?_)
                  · refine lv_iload_n hx hb d_M_best_104 rfl (lv_at hl 4 rfl) ?_
                    refine lv_istore_n (lv' := [(3, .int (nI (24 * i + kb))), (5, .int 0), (0, .ref m0), (1, .int (nI i)), (2, .int h9), (4, .int (nI (24 * i + q)))]) hx hb d_M_best_105 rfl hl (by decide) rfl (fun ls hl => ?_)
                    refine lv_iinc (v := (nI (24 * i + (q + 1)))) (lv' := [(4, .int (nI (24 * i + (q + 1)))), (3, .int (nI (24 * i + kb))), (5, .int 0), (0, .ref m0), (1, .int (nI i)), (2, .int h9)]) hx hb d_M_best_106 hl (k := 5) rfl (nI_1 _) (by decide) rfl (fun ls hl => ?_)
                    refine lv_goto (tgt := 8) hx hb d_M_best_109 (by decide) ?_
                    exact ih (q + 1) (nI (24 * i + kb)) (some rb) ⟨by omega, by omega, by rw [h0.2.2.1, sp_lb_s hr]; simp [sp_up, c32, rp_2 c68 c84], ⟨kb, hkb, rfl⟩⟩ ls (lv_sub hl [3, 4, 5, 1, 0] rfl)
                  · exact absurd c96 (by decide)
                · rw [hR.2.2, hB.2.2] at c84
                  refine lv_iconst (v := 1) hx hb d_M_best_87 (by decide) ?_
                  refine lv_goto (tgt := 92) hx hb d_M_best_88 (by decide) ?_
                  refine lv_istore (lv' := [(5, .int 1), (0, .ref m0), (1, .int (nI i)), (2, .int h9), (3, .int (nI (24 * i + kb))), (4, .int (nI (24 * i + q)))]) hx hb d_M_best_92 hl (by decide) rfl (fun ls hl => ?_)
                  refine lv_iload hx hb d_M_best_94 (lv_at hl 0 rfl) ?_
                  refine lv_if_eq (tgt := 104) hx hb d_M_best_96 (by decide) (fun c96 => ?_) (fun c96 => ?_)
                  · exact absurd c96 (by decide)
                  · refine lv_iload hx hb d_M_best_99 (lv_at hl 5 rfl) ?_
                    refine lv_goto (tgt := 105) hx hb d_M_best_101 (by decide) ?_
                    refine lv_istore_n (lv' := [(3, .int (nI (24 * i + q))), (5, .int 1), (0, .ref m0), (1, .int (nI i)), (2, .int h9), (4, .int (nI (24 * i + q)))]) hx hb d_M_best_105 rfl hl (by decide) rfl (fun ls hl => ?_)
                    refine lv_iinc (v := (nI (24 * i + (q + 1)))) (lv' := [(4, .int (nI (24 * i + (q + 1)))), (3, .int (nI (24 * i + q))), (5, .int 1), (0, .ref m0), (1, .int (nI i)), (2, .int h9)]) hx hb d_M_best_106 hl (k := 5) rfl (nI_1 _) (by decide) rfl (fun ls hl => ?_)
                    refine lv_goto (tgt := 8) hx hb d_M_best_109 (by decide) ?_
                    exact ih (q + 1) (nI (24 * i + q)) (some r1) ⟨by omega, by omega, by rw [h0.2.2.1, sp_lb_s hr]; simp [sp_up, c32, rp_3 c68 c84], ⟨q, hr, rfl⟩⟩ ls (lv_sub hl [3, 4, 5, 1, 0] rfl)
  refine lv_iconst (v := (-1)) hx hb d_M_best_0 (by decide) ?_
  refine lv_istore_n (lv' := [(3, .int (-1)), (0, .ref m0), (1, .int (nI i)), (2, .int h9)]) hx hb d_M_best_1 rfl hl (by decide) rfl (fun ls hl => ?_)
  refine lv_bipush (v := 24) hx hb d_M_best_2 (by decide) ?_
  refine lv_iload_n hx hb d_M_best_4 rfl (lv_at hl 2 rfl) ?_
  refine lv_imul hx hb d_M_best_5 ?_
  refine ad_top (y := .int (nI (24 * i))) (congrArg Value.int (pk_mul 24 i)) ?_
  refine lv_istore (lv' := [(4, .int (nI (24 * i))), (3, .int (-1)), (0, .ref m0), (1, .int (nI i)), (2, .int h9)]) hx hb d_M_best_6 hl (by decide) rfl (fun ls hl => ?_)
  exact loop (t.2.2.2.2.length + 1) 0 (-1) none ⟨by omega, by omega, by simp, rfl⟩ ls (lv_sub hl [2, 3, 4, 1, 0] rfl)
set_option maxHeartbeats 4000000 in
set_option maxRecDepth 100000 in
theorem c_M_first (l : Launch) (G : ad_G) (lo : Nat) (hp : ad_H) (m0 : Nat) (bs : Nat → Nat) (th : Int32) (sd : Int64) (fs : Nat → Nat → Int32) (ts : List TH) (lt : List Nat) (v h9 : Int32)  (C : MC G hp m0 bs th sd (nI ts.length) (nI lt.length) fs) (A : MA ts lt fs) (hn : ts.length ≤ 64) (hmm : ∀ t ∈ ts, t.2.2.2.2.length ≤ 24) : ad_Ct l y_M_first b_M_first 4 rt_M_first hs_M_first 3 0 0 G lo hp [.ref m0, .int v, .int h9] (fun r hp' => r = .inl (some (.int (q_fs f_first ts v h9).2)) ∧ ∃ fs' : Nat → Nat → Int32, MC G hp' m0 bs (nI (q_fs f_first ts v h9).1) sd (nI (ts).length) (nI (lt).length) fs' ∧ MA (ts) lt fs' ∧ mf m0 bs hp hp') := by
  intro p e s m below meth c M hts hB hP
  have hx := M.1
  have hb := M.2.1
  have hml := M.2.2.1
  have hown : s.vm.findClass "AuditDrawsModel" = some m.cls := M.2.2.2.1
  have S : CallFix p m c b_M_first 4 s _ ad_T "AuditDrawsModel" := ⟨hx, hb, hml, hown, hts⟩
  have I : ad_I G lo s hp s.heap [] := ad_I.rf hB hP
  have hl := lv_entry ([.ref m0, .int v, .int h9]) (n := 4) (Nat.le_of_ble_eq_true rfl)
  rw [lg_entry_eq]
  generalize (lg_sl ([.ref m0, .int v, .int h9]) ++ List.replicate (4 - (lg_sl ([.ref m0, .int v, .int h9])).length) Slot.unset).toArray = ls at hl ⊢
  have hl : lv_has ls 4 [(0, .ref m0), (1, .int v), (2, .int h9)] := hl
  refine lv_aload_n hx hb d_M_first_0 rfl (lv_at hl 0 rfl) ?_
  refine lv_aload_n hx hb d_M_first_1 rfl (lv_at hl 0 rfl) ?_
  refine lv_iload_n hx hb d_M_first_2 rfl (lv_at hl 1 rfl) ?_
  refine ad_cPi S I (ad_ivV (As := [.int v]) (rest := [.ref m0]) S (ad_recv I C.1 K_Mod) w_649 w_651 sp_M_isThing Y_M_isThing ⟨by decide, by decide, np_M_isThing⟩ rfl d_M_first_3) (c_M_isThing l G lo hp m0 bs th sd (nI ts.length) (nI lt.length) fs v C) Y_M_isThing hl.1 ⟨Nat.le_of_ble_eq_true rfl, Nat.le_of_ble_eq_true rfl⟩ (Nat.le_of_ble_eq_true rfl) (Nat.le_of_ble_eq_true rfl) d_M_first_3 ?_
  refine lv_if_ne (tgt := 13) hx hb d_M_first_6 (by decide) (fun c6 => ?_) (fun c6 => ?_)
  · rw [in_th hn, Classical.not_not] at c6
    obtain ⟨j, t, hj, rfl, ht⟩ := ts_2 rfl hn c6
    have hA := A.1 j t ht
    refine lv_iconst (v := 0) hx hb d_M_first_13 (by decide) ?_
    refine lv_iload_n hx hb d_M_first_14 rfl (lv_at hl 2 rfl) ?_
    refine lv_i2l (v := h9.toInt64) hx hb d_M_first_15 rfl ?_
    refine lv_lconst (v := 0) hx hb d_M_first_16 (by decide) ?_
    refine lv_ldc2 (v := 1000000) hx hb hown (hts _ w_694) d_M_first_17 ?_
    refine ad_cPi S I (ad_ivS (As := [.long h9.toInt64, .long 0, .long 1000000]) (rest := [.int 0, .ref m0]) S Y_M_in w_607 w_608 w_6 ⟨by decide, by decide, np_M_in⟩ rfl d_M_first_20) (c_M_in l G lo hp h9.toInt64 0 1000000) Y_M_in hl.1 ⟨Nat.le_of_ble_eq_true rfl, Nat.le_of_ble_eq_true rfl⟩ (Nat.le_of_ble_eq_true rfl) (Nat.le_of_ble_eq_true rfl) d_M_first_20 ?_
    refine lv_if_ne (tgt := 30) hx hb d_M_first_23 (by decide) (fun c23 => ?_) (fun c23 => ?_)
    · rw [in_le _ _ 1000000 (by decide), Decidable.not_not] at c23
      refine lv_iconst (v := 0) hx hb d_M_first_30 (by decide) ?_
      refine lv_iconst (v := 0) hx hb d_M_first_31 (by decide) ?_
      refine ad_cZi S I (ad_ivV (As := [.int 0, .int 0, .int 0]) (rest := []) S (ad_recv I C.1 K_Mod) w_611 w_613 sp_M_fails Y_M_fails ⟨by decide, by decide, np_M_fails⟩ rfl d_M_first_32) (c_M_fails l G lo hp m0 bs th sd (nI ts.length) (nI lt.length) fs 0 0 0 C) Y_M_fails hl.1 ⟨Nat.le_of_ble_eq_true rfl, Nat.le_of_ble_eq_true rfl⟩ (Nat.le_of_ble_eq_true rfl) (Nat.le_of_ble_eq_true rfl) d_M_first_32 (fun hp1 H1 locs1 hA I => ?_)
      obtain ⟨C1, F1⟩ := hA
      have C1 : MC G hp1 m0 bs 0 sd (nI ts.length) (nI lt.length) fs := C1
      refine ad_top (y := .int 0) (by rfl) ?_
      refine lv_if_eq (tgt := 40) hx hb d_M_first_35 (by decide) (fun c35 => ?_) (fun c35 => ?_)
      · refine lv_aload_n hx hb d_M_first_40 rfl (lv_at hl 0 rfl) ?_
        refine lv_iload_n hx hb d_M_first_41 rfl (lv_at hl 1 rfl) ?_
        refine lv_iload_n hx hb d_M_first_42 rfl (lv_at hl 2 rfl) ?_
        refine ad_cP S I (ad_ivV (As := [.int (nI j), .int h9]) (rest := []) S (ad_recv I C1.1 K_Mod) w_699 w_701 sp_M_best Y_M_best ⟨by decide, by decide, np_M_best⟩ rfl d_M_first_43) (c_M_best l G lo hp1 m0 bs 0 sd (nI lt.length) fs ts lt j t h9 ht (hmm t (List.mem_of_getElem? ht)) C1 A hn) Y_M_best hl.1 ⟨Nat.le_of_ble_eq_true rfl, Nat.le_of_ble_eq_true rfl⟩ (Nat.le_of_ble_eq_true rfl) (Nat.le_of_ble_eq_true rfl) d_M_first_43 (fun v8 h8 => ?_) (fun C9 H1 x9 cell h8 h1 h2 h3 h4 h5 => ?_)
        · obtain ⟨hb1, hr8⟩ | ⟨rb, kb, hb1, hkb, hr8⟩ := h8
          · cases hr8
            refine lv_istore_n (lv' := [(3, .int (-1)), (0, .ref m0), (1, .int (nI j)), (2, .int h9)]) hx hb d_M_first_46 rfl hl (by decide) rfl (fun ls hl => ?_)
            refine lv_iload_n hx hb d_M_first_47 rfl (lv_at hl 0 rfl) ?_
            refine lv_if_ge (tgt := 55) hx hb d_M_first_48 (by decide) (fun c48 => ?_) (fun c48 => ?_)
            · exact absurd c48 (by decide)
            · refine lv_iconst (v := 0) hx hb d_M_first_51 (by decide) ?_
              refine lv_goto (tgt := 63) hx hb d_M_first_52 (by decide) ?_
              exact ad_iret M I rfl (by omega) (by omega) (⟨by rw [(show q_fs f_first ts (nI j) h9 = (0, f_first none) by simp only [q_fs]; rw [sp_at_n rfl ht hn]; simp only; rw [if_pos c23, hb1])]; rfl, fs, by rw [(show q_fs f_first ts (nI j) h9 = (0, f_first none) by simp only [q_fs]; rw [sp_at_n rfl ht hn]; simp only; rw [if_pos c23, hb1])]; exact C1, A, F1⟩) d_M_first_63
          · cases hr8
            have hkl := (List.getElem?_eq_some_iff.mp hkb).1
            have hB := hA.2.2.2.2.2 kb rb hkb
            have hm9 := hmm t (List.mem_of_getElem? ht)
            refine lv_istore_n (lv' := [(3, .int (nI (24 * j + kb))), (0, .ref m0), (1, .int (nI j)), (2, .int h9)]) hx hb d_M_first_46 rfl hl (by decide) rfl (fun ls hl => ?_)
            refine lv_iload_n hx hb d_M_first_47 rfl (lv_at hl 0 rfl) ?_
            refine lv_if_ge (tgt := 55) hx hb d_M_first_48 (by decide) (fun c48 => ?_) (fun c48 => ?_)
            · refine lv_aload_n hx hb d_M_first_55 rfl (lv_at hl 1 rfl) ?_
              refine ad_get S I C1.1 K_Mod 12 (by decide) w_560 rfl d_M_first_56 ?_
              refine lv_iload_n hx hb d_M_first_59 rfl (lv_at hl 0 rfl) ?_
              refine ad_iald S I (C1.2.1 8 (by decide)) (vp_in_nI (show (24 * j + kb) < 1536 by omega) (by decide)) d_M_first_60 ?_
              refine ad_top (y := .int ((fs 8) (24 * j + kb))) (congrArg (fun q => Value.int ((fs 8) q)) (show (nI (24 * j + kb)).toNatClampNeg = (24 * j + kb) from nI_clamp (by omega))) ?_
              refine lv_iconst (v := 1) hx hb d_M_first_61 (by decide) ?_
              refine lv_iadd hx hb d_M_first_62 ?_
              exact ad_iret M I rfl (by omega) (by omega) (⟨by rw [(show q_fs f_first ts (nI j) h9 = (0, f_first (some rb)) by simp only [q_fs]; rw [sp_at_n rfl ht hn]; simp only; rw [if_pos c23, hb1]), hB.1]; rfl, fs, by rw [(show q_fs f_first ts (nI j) h9 = (0, f_first (some rb)) by simp only [q_fs]; rw [sp_at_n rfl ht hn]; simp only; rw [if_pos c23, hb1])]; exact C1, A, F1⟩) d_M_first_63
            · exact absurd (nI_pos' (by omega)) c48
        · rcases h8 with ⟨_, h8⟩ | ⟨_, _, _, _, h8⟩ <;> cases h8
      · exact absurd c35 (by decide)
    · rw [in_le _ _ 1000000 (by decide)] at c23
      refine lv_iconst (v := 1) hx hb d_M_first_26 (by decide) ?_
      refine lv_goto (tgt := 31) hx hb d_M_first_27 (by decide) ?_
      refine lv_iconst (v := 0) hx hb d_M_first_31 (by decide) ?_
      refine ad_cZi S I (ad_ivV (As := [.int 0, .int 1, .int 0]) (rest := []) S (ad_recv I C.1 K_Mod) w_611 w_613 sp_M_fails Y_M_fails ⟨by decide, by decide, np_M_fails⟩ rfl d_M_first_32) (c_M_fails l G lo hp m0 bs th sd (nI ts.length) (nI lt.length) fs 0 1 0 C) Y_M_fails hl.1 ⟨Nat.le_of_ble_eq_true rfl, Nat.le_of_ble_eq_true rfl⟩ (Nat.le_of_ble_eq_true rfl) (Nat.le_of_ble_eq_true rfl) d_M_first_32 (fun hp2 H1 locs1 hA I => ?_)
      obtain ⟨C2, F2⟩ := hA
      have C2 : MC G hp2 m0 bs 2 sd (nI ts.length) (nI lt.length) fs := C2
      refine ad_top (y := .int 1) (by rfl) ?_
      refine lv_if_eq (tgt := 40) hx hb d_M_first_35 (by decide) (fun c35 => ?_) (fun c35 => ?_)
      · exact absurd c35 (by decide)
      · refine lv_iconst (v := 0) hx hb d_M_first_38 (by decide) ?_
        exact ad_iret M I rfl (by omega) (by omega) (⟨by rw [(show q_fs f_first ts (nI j) h9 = (2, 0) by simp only [q_fs]; rw [sp_at_n rfl ht hn]; simp only; rw [if_neg c23])], fs, by rw [(show q_fs f_first ts (nI j) h9 = (2, 0) by simp only [q_fs]; rw [sp_at_n rfl ht hn]; simp only; rw [if_neg c23])]; exact C2, A, F2⟩) d_M_first_39
  · rw [in_th hn] at c6
    refine lv_iconst (v := 1) hx hb d_M_first_9 (by decide) ?_
    refine lv_goto (tgt := 14) hx hb d_M_first_10 (by decide) ?_
    refine lv_iload_n hx hb d_M_first_14 rfl (lv_at hl 2 rfl) ?_
    refine lv_i2l (v := h9.toInt64) hx hb d_M_first_15 rfl ?_
    refine lv_lconst (v := 0) hx hb d_M_first_16 (by decide) ?_
    refine lv_ldc2 (v := 1000000) hx hb hown (hts _ w_694) d_M_first_17 ?_
    refine ad_cPi S I (ad_ivS (As := [.long h9.toInt64, .long 0, .long 1000000]) (rest := [.int 1, .ref m0]) S Y_M_in w_607 w_608 w_6 ⟨by decide, by decide, np_M_in⟩ rfl d_M_first_20) (c_M_in l G lo hp h9.toInt64 0 1000000) Y_M_in hl.1 ⟨Nat.le_of_ble_eq_true rfl, Nat.le_of_ble_eq_true rfl⟩ (Nat.le_of_ble_eq_true rfl) (Nat.le_of_ble_eq_true rfl) d_M_first_20 ?_
    refine lv_if_ne (tgt := 30) hx hb d_M_first_23 (by decide) (fun c23 => ?_) (fun c23 => ?_)
    · rw [in_le _ _ 1000000 (by decide), Decidable.not_not] at c23
      refine lv_iconst (v := 0) hx hb d_M_first_30 (by decide) ?_
      refine lv_iconst (v := 0) hx hb d_M_first_31 (by decide) ?_
      refine ad_cZi S I (ad_ivV (As := [.int 1, .int 0, .int 0]) (rest := []) S (ad_recv I C.1 K_Mod) w_611 w_613 sp_M_fails Y_M_fails ⟨by decide, by decide, np_M_fails⟩ rfl d_M_first_32) (c_M_fails l G lo hp m0 bs th sd (nI ts.length) (nI lt.length) fs 1 0 0 C) Y_M_fails hl.1 ⟨Nat.le_of_ble_eq_true rfl, Nat.le_of_ble_eq_true rfl⟩ (Nat.le_of_ble_eq_true rfl) (Nat.le_of_ble_eq_true rfl) d_M_first_32 (fun hp3 H1 locs1 hA I => ?_)
      obtain ⟨C3, F3⟩ := hA
      have C3 : MC G hp3 m0 bs 1 sd (nI ts.length) (nI lt.length) fs := C3
      refine ad_top (y := .int 1) (by rfl) ?_
      refine lv_if_eq (tgt := 40) hx hb d_M_first_35 (by decide) (fun c35 => ?_) (fun c35 => ?_)
      · exact absurd c35 (by decide)
      · refine lv_iconst (v := 0) hx hb d_M_first_38 (by decide) ?_
        exact ad_iret M I rfl (by omega) (by omega) (⟨by rw [(show q_fs f_first ts v h9 = (1, 0) by simp only [q_fs]; rw [sp_at_0 c6 hn])], fs, by rw [(show q_fs f_first ts v h9 = (1, 0) by simp only [q_fs]; rw [sp_at_0 c6 hn])]; exact C3, A, F3⟩) d_M_first_39
    · rw [in_le _ _ 1000000 (by decide)] at c23
      refine lv_iconst (v := 1) hx hb d_M_first_26 (by decide) ?_
      refine lv_goto (tgt := 31) hx hb d_M_first_27 (by decide) ?_
      refine lv_iconst (v := 0) hx hb d_M_first_31 (by decide) ?_
      refine ad_cZi S I (ad_ivV (As := [.int 1, .int 1, .int 0]) (rest := []) S (ad_recv I C.1 K_Mod) w_611 w_613 sp_M_fails Y_M_fails ⟨by decide, by decide, np_M_fails⟩ rfl d_M_first_32) (c_M_fails l G lo hp m0 bs th sd (nI ts.length) (nI lt.length) fs 1 1 0 C) Y_M_fails hl.1 ⟨Nat.le_of_ble_eq_true rfl, Nat.le_of_ble_eq_true rfl⟩ (Nat.le_of_ble_eq_true rfl) (Nat.le_of_ble_eq_true rfl) d_M_first_32 (fun hp4 H1 locs1 hA I => ?_)
      obtain ⟨C4, F4⟩ := hA
      have C4 : MC G hp4 m0 bs 1 sd (nI ts.length) (nI lt.length) fs := C4
      refine ad_top (y := .int 1) (by rfl) ?_
      refine lv_if_eq (tgt := 40) hx hb d_M_first_35 (by decide) (fun c35 => ?_) (fun c35 => ?_)
      · exact absurd c35 (by decide)
      · refine lv_iconst (v := 0) hx hb d_M_first_38 (by decide) ?_
        exact ad_iret M I rfl (by omega) (by omega) (⟨by rw [(show q_fs f_first ts v h9 = (1, 0) by simp only [q_fs]; rw [sp_at_0 c6 hn])], fs, by rw [(show q_fs f_first ts v h9 = (1, 0) by simp only [q_fs]; rw [sp_at_0 c6 hn])]; exact C4, A, F4⟩) d_M_first_39
set_option maxHeartbeats 4000000 in
set_option maxRecDepth 100000 in
theorem c_M_seen (l : Launch) (G : ad_G) (lo : Nat) (hp : ad_H) (m0 : Nat) (bs : Nat → Nat) (th : Int32) (sd : Int64) (fs : Nat → Nat → Int32) (ts : List TH) (lt : List Nat) (v h9 : Int32)  (C : MC G hp m0 bs th sd (nI ts.length) (nI lt.length) fs) (A : MA ts lt fs) (hn : ts.length ≤ 64) (hmm : ∀ t ∈ ts, t.2.2.2.2.length ≤ 24) : ad_Ct l y_M_seen b_M_seen 4 rt_M_seen hs_M_seen 3 0 0 G lo hp [.ref m0, .int v, .int h9] (fun r hp' => r = .inl (some (.int (q_fs f_seen ts v h9).2)) ∧ ∃ fs' : Nat → Nat → Int32, MC G hp' m0 bs (nI (q_fs f_seen ts v h9).1) sd (nI (ts).length) (nI (lt).length) fs' ∧ MA (ts) lt fs' ∧ mf m0 bs hp hp') := by
  intro p e s m below meth c M hts hB hP
  have hx := M.1
  have hb := M.2.1
  have hml := M.2.2.1
  have hown : s.vm.findClass "AuditDrawsModel" = some m.cls := M.2.2.2.1
  have S : CallFix p m c b_M_seen 4 s _ ad_T "AuditDrawsModel" := ⟨hx, hb, hml, hown, hts⟩
  have I : ad_I G lo s hp s.heap [] := ad_I.rf hB hP
  have hl := lv_entry ([.ref m0, .int v, .int h9]) (n := 4) (Nat.le_of_ble_eq_true rfl)
  rw [lg_entry_eq]
  generalize (lg_sl ([.ref m0, .int v, .int h9]) ++ List.replicate (4 - (lg_sl ([.ref m0, .int v, .int h9])).length) Slot.unset).toArray = ls at hl ⊢
  have hl : lv_has ls 4 [(0, .ref m0), (1, .int v), (2, .int h9)] := hl
  refine lv_aload_n hx hb d_M_seen_0 rfl (lv_at hl 0 rfl) ?_
  refine lv_aload_n hx hb d_M_seen_1 rfl (lv_at hl 0 rfl) ?_
  refine lv_iload_n hx hb d_M_seen_2 rfl (lv_at hl 1 rfl) ?_
  refine ad_cPi S I (ad_ivV (As := [.int v]) (rest := [.ref m0]) S (ad_recv I C.1 K_Mod) w_649 w_651 sp_M_isThing Y_M_isThing ⟨by decide, by decide, np_M_isThing⟩ rfl d_M_seen_3) (c_M_isThing l G lo hp m0 bs th sd (nI ts.length) (nI lt.length) fs v C) Y_M_isThing hl.1 ⟨Nat.le_of_ble_eq_true rfl, Nat.le_of_ble_eq_true rfl⟩ (Nat.le_of_ble_eq_true rfl) (Nat.le_of_ble_eq_true rfl) d_M_seen_3 ?_
  refine lv_if_ne (tgt := 13) hx hb d_M_seen_6 (by decide) (fun c6 => ?_) (fun c6 => ?_)
  · rw [in_th hn, Classical.not_not] at c6
    obtain ⟨j, t, hj, rfl, ht⟩ := ts_2 rfl hn c6
    have hA := A.1 j t ht
    refine lv_iconst (v := 0) hx hb d_M_seen_13 (by decide) ?_
    refine lv_iload_n hx hb d_M_seen_14 rfl (lv_at hl 2 rfl) ?_
    refine lv_i2l (v := h9.toInt64) hx hb d_M_seen_15 rfl ?_
    refine lv_lconst (v := 0) hx hb d_M_seen_16 (by decide) ?_
    refine lv_ldc2 (v := 1000000) hx hb hown (hts _ w_694) d_M_seen_17 ?_
    refine ad_cPi S I (ad_ivS (As := [.long h9.toInt64, .long 0, .long 1000000]) (rest := [.int 0, .ref m0]) S Y_M_in w_607 w_608 w_6 ⟨by decide, by decide, np_M_in⟩ rfl d_M_seen_20) (c_M_in l G lo hp h9.toInt64 0 1000000) Y_M_in hl.1 ⟨Nat.le_of_ble_eq_true rfl, Nat.le_of_ble_eq_true rfl⟩ (Nat.le_of_ble_eq_true rfl) (Nat.le_of_ble_eq_true rfl) d_M_seen_20 ?_
    refine lv_if_ne (tgt := 30) hx hb d_M_seen_23 (by decide) (fun c23 => ?_) (fun c23 => ?_)
    · rw [in_le _ _ 1000000 (by decide), Decidable.not_not] at c23
      refine lv_iconst (v := 0) hx hb d_M_seen_30 (by decide) ?_
      refine lv_iconst (v := 0) hx hb d_M_seen_31 (by decide) ?_
      refine ad_cZi S I (ad_ivV (As := [.int 0, .int 0, .int 0]) (rest := []) S (ad_recv I C.1 K_Mod) w_611 w_613 sp_M_fails Y_M_fails ⟨by decide, by decide, np_M_fails⟩ rfl d_M_seen_32) (c_M_fails l G lo hp m0 bs th sd (nI ts.length) (nI lt.length) fs 0 0 0 C) Y_M_fails hl.1 ⟨Nat.le_of_ble_eq_true rfl, Nat.le_of_ble_eq_true rfl⟩ (Nat.le_of_ble_eq_true rfl) (Nat.le_of_ble_eq_true rfl) d_M_seen_32 (fun hp1 H1 locs1 hA I => ?_)
      obtain ⟨C1, F1⟩ := hA
      have C1 : MC G hp1 m0 bs 0 sd (nI ts.length) (nI lt.length) fs := C1
      refine ad_top (y := .int 0) (by rfl) ?_
      refine lv_if_eq (tgt := 40) hx hb d_M_seen_35 (by decide) (fun c35 => ?_) (fun c35 => ?_)
      · refine lv_aload_n hx hb d_M_seen_40 rfl (lv_at hl 0 rfl) ?_
        refine lv_iload_n hx hb d_M_seen_41 rfl (lv_at hl 1 rfl) ?_
        refine lv_iload_n hx hb d_M_seen_42 rfl (lv_at hl 2 rfl) ?_
        refine ad_cP S I (ad_ivV (As := [.int (nI j), .int h9]) (rest := []) S (ad_recv I C1.1 K_Mod) w_699 w_701 sp_M_best Y_M_best ⟨by decide, by decide, np_M_best⟩ rfl d_M_seen_43) (c_M_best l G lo hp1 m0 bs 0 sd (nI lt.length) fs ts lt j t h9 ht (hmm t (List.mem_of_getElem? ht)) C1 A hn) Y_M_best hl.1 ⟨Nat.le_of_ble_eq_true rfl, Nat.le_of_ble_eq_true rfl⟩ (Nat.le_of_ble_eq_true rfl) (Nat.le_of_ble_eq_true rfl) d_M_seen_43 (fun v8 h8 => ?_) (fun C9 H1 x9 cell h8 h1 h2 h3 h4 h5 => ?_)
        · obtain ⟨hb1, hr8⟩ | ⟨rb, kb, hb1, hkb, hr8⟩ := h8
          · cases hr8
            refine lv_istore_n (lv' := [(3, .int (-1)), (0, .ref m0), (1, .int (nI j)), (2, .int h9)]) hx hb d_M_seen_46 rfl hl (by decide) rfl (fun ls hl => ?_)
            refine lv_iload_n hx hb d_M_seen_47 rfl (lv_at hl 0 rfl) ?_
            refine lv_if_ge (tgt := 55) hx hb d_M_seen_48 (by decide) (fun c48 => ?_) (fun c48 => ?_)
            · exact absurd c48 (by decide)
            · refine lv_iconst (v := (-1)) hx hb d_M_seen_51 (by decide) ?_
              refine lv_goto (tgt := 61) hx hb d_M_seen_52 (by decide) ?_
              exact ad_iret M I rfl (by omega) (by omega) (⟨by rw [(show q_fs f_seen ts (nI j) h9 = (0, f_seen none) by simp only [q_fs]; rw [sp_at_n rfl ht hn]; simp only; rw [if_pos c23, hb1])]; rfl, fs, by rw [(show q_fs f_seen ts (nI j) h9 = (0, f_seen none) by simp only [q_fs]; rw [sp_at_n rfl ht hn]; simp only; rw [if_pos c23, hb1])]; exact C1, A, F1⟩) d_M_seen_61
          · cases hr8
            have hkl := (List.getElem?_eq_some_iff.mp hkb).1
            have hB := hA.2.2.2.2.2 kb rb hkb
            have hm9 := hmm t (List.mem_of_getElem? ht)
            refine lv_istore_n (lv' := [(3, .int (nI (24 * j + kb))), (0, .ref m0), (1, .int (nI j)), (2, .int h9)]) hx hb d_M_seen_46 rfl hl (by decide) rfl (fun ls hl => ?_)
            refine lv_iload_n hx hb d_M_seen_47 rfl (lv_at hl 0 rfl) ?_
            refine lv_if_ge (tgt := 55) hx hb d_M_seen_48 (by decide) (fun c48 => ?_) (fun c48 => ?_)
            · refine lv_aload_n hx hb d_M_seen_55 rfl (lv_at hl 1 rfl) ?_
              refine ad_get S I C1.1 K_Mod 13 (by decide) w_561 rfl d_M_seen_56 ?_
              refine lv_iload_n hx hb d_M_seen_59 rfl (lv_at hl 0 rfl) ?_
              refine ad_iald S I (C1.2.1 9 (by decide)) (vp_in_nI (show (24 * j + kb) < 1536 by omega) (by decide)) d_M_seen_60 ?_
              refine ad_top (y := .int ((fs 9) (24 * j + kb))) (congrArg (fun q => Value.int ((fs 9) q)) (show (nI (24 * j + kb)).toNatClampNeg = (24 * j + kb) from nI_clamp (by omega))) ?_
              exact ad_iret M I rfl (by omega) (by omega) (⟨by rw [(show q_fs f_seen ts (nI j) h9 = (0, f_seen (some rb)) by simp only [q_fs]; rw [sp_at_n rfl ht hn]; simp only; rw [if_pos c23, hb1]), hB.2.1]; rfl, fs, by rw [(show q_fs f_seen ts (nI j) h9 = (0, f_seen (some rb)) by simp only [q_fs]; rw [sp_at_n rfl ht hn]; simp only; rw [if_pos c23, hb1])]; exact C1, A, F1⟩) d_M_seen_61
            · exact absurd (nI_pos' (by omega)) c48
        · rcases h8 with ⟨_, h8⟩ | ⟨_, _, _, _, h8⟩ <;> cases h8
      · exact absurd c35 (by decide)
    · rw [in_le _ _ 1000000 (by decide)] at c23
      refine lv_iconst (v := 1) hx hb d_M_seen_26 (by decide) ?_
      refine lv_goto (tgt := 31) hx hb d_M_seen_27 (by decide) ?_
      refine lv_iconst (v := 0) hx hb d_M_seen_31 (by decide) ?_
      refine ad_cZi S I (ad_ivV (As := [.int 0, .int 1, .int 0]) (rest := []) S (ad_recv I C.1 K_Mod) w_611 w_613 sp_M_fails Y_M_fails ⟨by decide, by decide, np_M_fails⟩ rfl d_M_seen_32) (c_M_fails l G lo hp m0 bs th sd (nI ts.length) (nI lt.length) fs 0 1 0 C) Y_M_fails hl.1 ⟨Nat.le_of_ble_eq_true rfl, Nat.le_of_ble_eq_true rfl⟩ (Nat.le_of_ble_eq_true rfl) (Nat.le_of_ble_eq_true rfl) d_M_seen_32 (fun hp2 H1 locs1 hA I => ?_)
      obtain ⟨C2, F2⟩ := hA
      have C2 : MC G hp2 m0 bs 2 sd (nI ts.length) (nI lt.length) fs := C2
      refine ad_top (y := .int 1) (by rfl) ?_
      refine lv_if_eq (tgt := 40) hx hb d_M_seen_35 (by decide) (fun c35 => ?_) (fun c35 => ?_)
      · exact absurd c35 (by decide)
      · refine lv_iconst (v := 0) hx hb d_M_seen_38 (by decide) ?_
        exact ad_iret M I rfl (by omega) (by omega) (⟨by rw [(show q_fs f_seen ts (nI j) h9 = (2, 0) by simp only [q_fs]; rw [sp_at_n rfl ht hn]; simp only; rw [if_neg c23])], fs, by rw [(show q_fs f_seen ts (nI j) h9 = (2, 0) by simp only [q_fs]; rw [sp_at_n rfl ht hn]; simp only; rw [if_neg c23])]; exact C2, A, F2⟩) d_M_seen_39
  · rw [in_th hn] at c6
    refine lv_iconst (v := 1) hx hb d_M_seen_9 (by decide) ?_
    refine lv_goto (tgt := 14) hx hb d_M_seen_10 (by decide) ?_
    refine lv_iload_n hx hb d_M_seen_14 rfl (lv_at hl 2 rfl) ?_
    refine lv_i2l (v := h9.toInt64) hx hb d_M_seen_15 rfl ?_
    refine lv_lconst (v := 0) hx hb d_M_seen_16 (by decide) ?_
    refine lv_ldc2 (v := 1000000) hx hb hown (hts _ w_694) d_M_seen_17 ?_
    refine ad_cPi S I (ad_ivS (As := [.long h9.toInt64, .long 0, .long 1000000]) (rest := [.int 1, .ref m0]) S Y_M_in w_607 w_608 w_6 ⟨by decide, by decide, np_M_in⟩ rfl d_M_seen_20) (c_M_in l G lo hp h9.toInt64 0 1000000) Y_M_in hl.1 ⟨Nat.le_of_ble_eq_true rfl, Nat.le_of_ble_eq_true rfl⟩ (Nat.le_of_ble_eq_true rfl) (Nat.le_of_ble_eq_true rfl) d_M_seen_20 ?_
    refine lv_if_ne (tgt := 30) hx hb d_M_seen_23 (by decide) (fun c23 => ?_) (fun c23 => ?_)
    · rw [in_le _ _ 1000000 (by decide), Decidable.not_not] at c23
      refine lv_iconst (v := 0) hx hb d_M_seen_30 (by decide) ?_
      refine lv_iconst (v := 0) hx hb d_M_seen_31 (by decide) ?_
      refine ad_cZi S I (ad_ivV (As := [.int 1, .int 0, .int 0]) (rest := []) S (ad_recv I C.1 K_Mod) w_611 w_613 sp_M_fails Y_M_fails ⟨by decide, by decide, np_M_fails⟩ rfl d_M_seen_32) (c_M_fails l G lo hp m0 bs th sd (nI ts.length) (nI lt.length) fs 1 0 0 C) Y_M_fails hl.1 ⟨Nat.le_of_ble_eq_true rfl, Nat.le_of_ble_eq_true rfl⟩ (Nat.le_of_ble_eq_true rfl) (Nat.le_of_ble_eq_true rfl) d_M_seen_32 (fun hp3 H1 locs1 hA I => ?_)
      obtain ⟨C3, F3⟩ := hA
      have C3 : MC G hp3 m0 bs 1 sd (nI ts.length) (nI lt.length) fs := C3
      refine ad_top (y := .int 1) (by rfl) ?_
      refine lv_if_eq (tgt := 40) hx hb d_M_seen_35 (by decide) (fun c35 => ?_) (fun c35 => ?_)
      · exact absurd c35 (by decide)
      · refine lv_iconst (v := 0) hx hb d_M_seen_38 (by decide) ?_
        exact ad_iret M I rfl (by omega) (by omega) (⟨by rw [(show q_fs f_seen ts v h9 = (1, 0) by simp only [q_fs]; rw [sp_at_0 c6 hn])], fs, by rw [(show q_fs f_seen ts v h9 = (1, 0) by simp only [q_fs]; rw [sp_at_0 c6 hn])]; exact C3, A, F3⟩) d_M_seen_39
    · rw [in_le _ _ 1000000 (by decide)] at c23
      refine lv_iconst (v := 1) hx hb d_M_seen_26 (by decide) ?_
      refine lv_goto (tgt := 31) hx hb d_M_seen_27 (by decide) ?_
      refine lv_iconst (v := 0) hx hb d_M_seen_31 (by decide) ?_
      refine ad_cZi S I (ad_ivV (As := [.int 1, .int 1, .int 0]) (rest := []) S (ad_recv I C.1 K_Mod) w_611 w_613 sp_M_fails Y_M_fails ⟨by decide, by decide, np_M_fails⟩ rfl d_M_seen_32) (c_M_fails l G lo hp m0 bs th sd (nI ts.length) (nI lt.length) fs 1 1 0 C) Y_M_fails hl.1 ⟨Nat.le_of_ble_eq_true rfl, Nat.le_of_ble_eq_true rfl⟩ (Nat.le_of_ble_eq_true rfl) (Nat.le_of_ble_eq_true rfl) d_M_seen_32 (fun hp4 H1 locs1 hA I => ?_)
      obtain ⟨C4, F4⟩ := hA
      have C4 : MC G hp4 m0 bs 1 sd (nI ts.length) (nI lt.length) fs := C4
      refine ad_top (y := .int 1) (by rfl) ?_
      refine lv_if_eq (tgt := 40) hx hb d_M_seen_35 (by decide) (fun c35 => ?_) (fun c35 => ?_)
      · exact absurd c35 (by decide)
      · refine lv_iconst (v := 0) hx hb d_M_seen_38 (by decide) ?_
        exact ad_iret M I rfl (by omega) (by omega) (⟨by rw [(show q_fs f_seen ts v h9 = (1, 0) by simp only [q_fs]; rw [sp_at_0 c6 hn])], fs, by rw [(show q_fs f_seen ts v h9 = (1, 0) by simp only [q_fs]; rw [sp_at_0 c6 hn])]; exact C4, A, F4⟩) d_M_seen_39
theorem MA.tg {ts : List TH} {lt : List Nat} {fs : Nat → Nat → Int32} {j : Nat} {t : TH} (A : MA ts lt fs) (ht : ts[j]? = some t) (hmm : ∀ t ∈ ts, t.2.2.2.2.length ≤ 24) (hlt : t.2.2.2.2.length < 24) (h0 p0 d0 : Int32) : MA (ts.set j (t.1, t.2.1, t.2.2.1, t.2.2.2.1, t.2.2.2.2 ++ [(h0, p0, d0)])) lt (updF (updF (updF (updF fs 8 (upd (fs 8) (24 * j + t.2.2.2.2.length) h0)) 9 (upd (fs 9) (24 * j + t.2.2.2.2.length) p0)) 10 (upd (fs 10) (24 * j + t.2.2.2.2.length) d0)) 7 (upd (fs 7) j (fs 7 j + 1))) := by
  have h := A.1 j t ht
  refine A.gen ht ⟨h.1, h.2.1, h.2.2.1, h.2.2.2.1, ?_, fun k r hr => ?_⟩ (fun i t2 hij ht2 h => ⟨h.1, h.2.1, h.2.2.1, h.2.2.2.1, (pk_un hij).trans h.2.2.2.2.1, fun k r hr => ?_⟩) (fun i hij => ⟨rfl, pk_un hij⟩) rfl
  · show upd (fs 7) j (fs 7 j + 1) j = _
    rw [pk_us, h.2.2.2.2.1, nI_1]
    simp
  · have hr : (t.2.2.2.2 ++ [(h0, p0, d0)])[k]? = some r := hr
    rw [List.getElem?_append] at hr
    by_cases hk : k < t.2.2.2.2.length
    · rw [if_pos hk] at hr
      have h3 := h.2.2.2.2.2 k r hr
      exact ⟨(pk_un (by omega)).trans h3.1, (pk_un (by omega)).trans h3.2.1, (pk_un (by omega)).trans h3.2.2⟩
    · rw [if_neg hk] at hr
      have : k - t.2.2.2.2.length = 0 := by
        have := (List.getElem?_eq_some_iff.mp hr).1
        simp at this; omega
      rw [this] at hr
      simp at hr
      subst hr
      obtain rfl : k = t.2.2.2.2.length := by omega
      exact ⟨pk_us, pk_us, pk_us⟩
  · have hk := (List.getElem?_eq_some_iff.mp hr).1
    have hl := hmm t2 (List.mem_of_getElem? ht2)
    have h3 := h.2.2.2.2.2 k r hr
    exact ⟨(pk_un (by omega)).trans h3.1, (pk_un (by omega)).trans h3.2.1, (pk_un (by omega)).trans h3.2.2⟩
set_option maxHeartbeats 4000000 in
set_option maxRecDepth 100000 in
theorem c_M_tag (l : Launch) (G : ad_G) (lo : Nat) (hp : ad_H) (m0 : Nat) (bs : Nat → Nat) (th : Int32) (sd : Int64) (fs : Nat → Nat → Int32) (ts : List TH) (lt : List Nat) (v h0 p0 d0 : Int32)  (C : MC G hp m0 bs th sd (nI ts.length) (nI lt.length) fs) (A : MA ts lt fs) (hn : ts.length ≤ 64) (hmm : ∀ t ∈ ts, t.2.2.2.2.length ≤ 24) : ad_Ct l y_M_tag b_M_tag 8 rt_M_tag hs_M_tag 3 0 0 G lo hp [.ref m0, .int v, .int h0, .int p0, .int d0] (fun r hp' => r = .inl (some (.int ((q_tg ts v h0 p0 d0).1).2)) ∧ ∃ fs' : Nat → Nat → Int32, MC G hp' m0 bs (nI ((q_tg ts v h0 p0 d0).1).1) sd (nI ((q_tg ts v h0 p0 d0).2).length) (nI (lt).length) fs' ∧ MA ((q_tg ts v h0 p0 d0).2) lt fs' ∧ mf m0 bs hp hp') := by
  intro p e s m below meth c M hts hB hP
  have hx := M.1
  have hb := M.2.1
  have hml := M.2.2.1
  have hown : s.vm.findClass "AuditDrawsModel" = some m.cls := M.2.2.2.1
  have S : CallFix p m c b_M_tag 8 s _ ad_T "AuditDrawsModel" := ⟨hx, hb, hml, hown, hts⟩
  have I : ad_I G lo s hp s.heap [] := ad_I.rf hB hP
  have hl := lv_entry ([.ref m0, .int v, .int h0, .int p0, .int d0]) (n := 8) (Nat.le_of_ble_eq_true rfl)
  rw [lg_entry_eq]
  generalize (lg_sl ([.ref m0, .int v, .int h0, .int p0, .int d0]) ++ List.replicate (8 - (lg_sl ([.ref m0, .int v, .int h0, .int p0, .int d0])).length) Slot.unset).toArray = ls at hl ⊢
  have hl : lv_has ls 8 [(0, .ref m0), (1, .int v), (2, .int h0), (3, .int p0), (4, .int d0)] := hl
  refine lv_aload_n hx hb d_M_tag_0 rfl (lv_at hl 0 rfl) ?_
  refine lv_iload_n hx hb d_M_tag_1 rfl (lv_at hl 1 rfl) ?_
  refine ad_cPi S I (ad_ivV (As := [.int v]) (rest := []) S (ad_recv I C.1 K_Mod) w_649 w_651 sp_M_isThing Y_M_isThing ⟨by decide, by decide, np_M_isThing⟩ rfl d_M_tag_2) (c_M_isThing l G lo hp m0 bs th sd (nI ts.length) (nI lt.length) fs v C) Y_M_isThing hl.1 ⟨Nat.le_of_ble_eq_true rfl, Nat.le_of_ble_eq_true rfl⟩ (Nat.le_of_ble_eq_true rfl) (Nat.le_of_ble_eq_true rfl) d_M_tag_2 ?_
  refine lv_if_eq (tgt := 20) hx hb d_M_tag_5 (by decide) (fun c5 => ?_) (fun c5 => ?_)
  · rw [in_th hn] at c5
    refine lv_iconst (v := 1) hx hb d_M_tag_20 (by decide) ?_
    refine lv_goto (tgt := 25) hx hb d_M_tag_21 (by decide) ?_
    refine lv_istore (lv' := [(5, .int 1), (0, .ref m0), (1, .int v), (2, .int h0), (3, .int p0), (4, .int d0)]) hx hb d_M_tag_25 hl (by decide) rfl (fun ls hl => ?_)
    refine lv_iload_n hx hb d_M_tag_27 rfl (lv_at hl 3 rfl) ?_
    refine lv_i2l (v := h0.toInt64) hx hb d_M_tag_28 rfl ?_
    refine lv_lconst (v := 0) hx hb d_M_tag_29 (by decide) ?_
    refine lv_ldc2 (v := 1000000) hx hb hown (hts _ w_694) d_M_tag_30 ?_
    refine ad_cPi S I (ad_ivS (As := [.long h0.toInt64, .long 0, .long 1000000]) (rest := []) S Y_M_in w_607 w_608 w_6 ⟨by decide, by decide, np_M_in⟩ rfl d_M_tag_33) (c_M_in l G lo hp h0.toInt64 0 1000000) Y_M_in hl.1 ⟨Nat.le_of_ble_eq_true rfl, Nat.le_of_ble_eq_true rfl⟩ (Nat.le_of_ble_eq_true rfl) (Nat.le_of_ble_eq_true rfl) d_M_tag_33 ?_
    refine lv_if_eq (tgt := 58) hx hb d_M_tag_36 (by decide) (fun c36 => ?_) (fun c36 => ?_)
    · rw [in_le h0 _ 1000000 (by decide)] at c36
      refine lv_iconst (v := 1) hx hb d_M_tag_58 (by decide) ?_
      refine lv_goto (tgt := 63) hx hb d_M_tag_59 (by decide) ?_
      refine lv_istore (lv' := [(6, .int 1), (5, .int 1), (0, .ref m0), (1, .int v), (2, .int h0), (3, .int p0), (4, .int d0)]) hx hb d_M_tag_63 hl (by decide) rfl (fun ls hl => ?_)
      refine lv_aload_n hx hb d_M_tag_65 rfl (lv_at hl 2 rfl) ?_
      refine lv_iload hx hb d_M_tag_66 (lv_at hl 1 rfl) ?_
      refine lv_iload hx hb d_M_tag_68 (lv_at hl 0 rfl) ?_
      refine lv_iload hx hb d_M_tag_70 (lv_at hl 1 rfl) ?_
      refine lv_if_ne (tgt := 90) hx hb d_M_tag_72 (by decide) (fun c72 => ?_) (fun c72 => ?_)
      · refine lv_iconst (v := 0) hx hb d_M_tag_90 (by decide) ?_
        refine ad_cZi S I (ad_ivV (As := [.int 1, .int 1, .int 0]) (rest := []) S (ad_recv I C.1 K_Mod) w_611 w_613 sp_M_fails Y_M_fails ⟨by decide, by decide, np_M_fails⟩ rfl d_M_tag_91) (c_M_fails l G lo hp m0 bs th sd (nI ts.length) (nI lt.length) fs 1 1 0 C) Y_M_fails hl.1 ⟨Nat.le_of_ble_eq_true rfl, Nat.le_of_ble_eq_true rfl⟩ (Nat.le_of_ble_eq_true rfl) (Nat.le_of_ble_eq_true rfl) d_M_tag_91 (fun hp1 H1 locs1 hA I => ?_)
        obtain ⟨C1, F1⟩ := hA
        have C1 : MC G hp1 m0 bs 1 sd (nI ts.length) (nI lt.length) fs := C1
        refine ad_top (y := .int 1) (by rfl) ?_
        refine lv_if_eq (tgt := 99) hx hb d_M_tag_94 (by decide) (fun c94 => ?_) (fun c94 => ?_)
        · exact absurd c94 (by decide)
        · refine lv_iconst (v := 0) hx hb d_M_tag_97 (by decide) ?_
          exact ad_iret M I rfl (by omega) (by omega) (⟨by rw [(show q_tg ts v h0 p0 d0 = ((1, 0), ts) by simp only [q_tg]; rw [sp_at_0 c5 hn])], fs, by rw [(show q_tg ts v h0 p0 d0 = ((1, 0), ts) by simp only [q_tg]; rw [sp_at_0 c5 hn])]; exact C1, by rw [(show q_tg ts v h0 p0 d0 = ((1, 0), ts) by simp only [q_tg]; rw [sp_at_0 c5 hn])]; exact A, F1⟩) d_M_tag_98
      · exact absurd c72 (by decide)
    · rw [in_le h0 _ 1000000 (by decide), Decidable.not_not] at c36
      refine lv_iload hx hb d_M_tag_39 (lv_at hl 5 rfl) ?_
      refine lv_i2l (v := d0.toInt64) hx hb d_M_tag_41 rfl ?_
      refine lv_lconst (v := 0) hx hb d_M_tag_42 (by decide) ?_
      refine lv_ldc2 (v := 1000000) hx hb hown (hts _ w_694) d_M_tag_43 ?_
      refine ad_cPi S I (ad_ivS (As := [.long d0.toInt64, .long 0, .long 1000000]) (rest := []) S Y_M_in w_607 w_608 w_6 ⟨by decide, by decide, np_M_in⟩ rfl d_M_tag_46) (c_M_in l G lo hp d0.toInt64 0 1000000) Y_M_in hl.1 ⟨Nat.le_of_ble_eq_true rfl, Nat.le_of_ble_eq_true rfl⟩ (Nat.le_of_ble_eq_true rfl) (Nat.le_of_ble_eq_true rfl) d_M_tag_46 ?_
      refine lv_if_eq (tgt := 58) hx hb d_M_tag_49 (by decide) (fun c49 => ?_) (fun c49 => ?_)
      · rw [in_le d0 _ 1000000 (by decide)] at c49
        refine lv_iconst (v := 1) hx hb d_M_tag_58 (by decide) ?_
        refine lv_goto (tgt := 63) hx hb d_M_tag_59 (by decide) ?_
        refine lv_istore (lv' := [(6, .int 1), (5, .int 1), (0, .ref m0), (1, .int v), (2, .int h0), (3, .int p0), (4, .int d0)]) hx hb d_M_tag_63 hl (by decide) rfl (fun ls hl => ?_)
        refine lv_aload_n hx hb d_M_tag_65 rfl (lv_at hl 2 rfl) ?_
        refine lv_iload hx hb d_M_tag_66 (lv_at hl 1 rfl) ?_
        refine lv_iload hx hb d_M_tag_68 (lv_at hl 0 rfl) ?_
        refine lv_iload hx hb d_M_tag_70 (lv_at hl 1 rfl) ?_
        refine lv_if_ne (tgt := 90) hx hb d_M_tag_72 (by decide) (fun c72 => ?_) (fun c72 => ?_)
        · refine lv_iconst (v := 0) hx hb d_M_tag_90 (by decide) ?_
          refine ad_cZi S I (ad_ivV (As := [.int 1, .int 1, .int 0]) (rest := []) S (ad_recv I C.1 K_Mod) w_611 w_613 sp_M_fails Y_M_fails ⟨by decide, by decide, np_M_fails⟩ rfl d_M_tag_91) (c_M_fails l G lo hp m0 bs th sd (nI ts.length) (nI lt.length) fs 1 1 0 C) Y_M_fails hl.1 ⟨Nat.le_of_ble_eq_true rfl, Nat.le_of_ble_eq_true rfl⟩ (Nat.le_of_ble_eq_true rfl) (Nat.le_of_ble_eq_true rfl) d_M_tag_91 (fun hp2 H1 locs1 hA I => ?_)
          obtain ⟨C2, F2⟩ := hA
          have C2 : MC G hp2 m0 bs 1 sd (nI ts.length) (nI lt.length) fs := C2
          refine ad_top (y := .int 1) (by rfl) ?_
          refine lv_if_eq (tgt := 99) hx hb d_M_tag_94 (by decide) (fun c94 => ?_) (fun c94 => ?_)
          · exact absurd c94 (by decide)
          · refine lv_iconst (v := 0) hx hb d_M_tag_97 (by decide) ?_
            exact ad_iret M I rfl (by omega) (by omega) (⟨by rw [(show q_tg ts v h0 p0 d0 = ((1, 0), ts) by simp only [q_tg]; rw [sp_at_0 c5 hn])], fs, by rw [(show q_tg ts v h0 p0 d0 = ((1, 0), ts) by simp only [q_tg]; rw [sp_at_0 c5 hn])]; exact C2, by rw [(show q_tg ts v h0 p0 d0 = ((1, 0), ts) by simp only [q_tg]; rw [sp_at_0 c5 hn])]; exact A, F2⟩) d_M_tag_98
        · exact absurd c72 (by decide)
      · rw [in_le d0 _ 1000000 (by decide), Decidable.not_not] at c49
        refine lv_iload hx hb d_M_tag_52 (lv_at hl 5 rfl) ?_
        refine lv_iload_n hx hb d_M_tag_54 rfl (lv_at hl 3 rfl) ?_
        refine lv_icmp_ge (tgt := 62) hx hb d_M_tag_55 (by decide) (fun c55 => ?_) (fun c55 => ?_)
        · refine lv_iconst (v := 0) hx hb d_M_tag_62 (by decide) ?_
          refine lv_istore (lv' := [(6, .int 0), (5, .int 1), (0, .ref m0), (1, .int v), (2, .int h0), (3, .int p0), (4, .int d0)]) hx hb d_M_tag_63 hl (by decide) rfl (fun ls hl => ?_)
          refine lv_aload_n hx hb d_M_tag_65 rfl (lv_at hl 2 rfl) ?_
          refine lv_iload hx hb d_M_tag_66 (lv_at hl 1 rfl) ?_
          refine lv_iload hx hb d_M_tag_68 (lv_at hl 0 rfl) ?_
          refine lv_iload hx hb d_M_tag_70 (lv_at hl 1 rfl) ?_
          refine lv_if_ne (tgt := 90) hx hb d_M_tag_72 (by decide) (fun c72 => ?_) (fun c72 => ?_)
          · refine lv_iconst (v := 0) hx hb d_M_tag_90 (by decide) ?_
            refine ad_cZi S I (ad_ivV (As := [.int 1, .int 0, .int 0]) (rest := []) S (ad_recv I C.1 K_Mod) w_611 w_613 sp_M_fails Y_M_fails ⟨by decide, by decide, np_M_fails⟩ rfl d_M_tag_91) (c_M_fails l G lo hp m0 bs th sd (nI ts.length) (nI lt.length) fs 1 0 0 C) Y_M_fails hl.1 ⟨Nat.le_of_ble_eq_true rfl, Nat.le_of_ble_eq_true rfl⟩ (Nat.le_of_ble_eq_true rfl) (Nat.le_of_ble_eq_true rfl) d_M_tag_91 (fun hp3 H1 locs1 hA I => ?_)
            obtain ⟨C3, F3⟩ := hA
            have C3 : MC G hp3 m0 bs 1 sd (nI ts.length) (nI lt.length) fs := C3
            refine ad_top (y := .int 1) (by rfl) ?_
            refine lv_if_eq (tgt := 99) hx hb d_M_tag_94 (by decide) (fun c94 => ?_) (fun c94 => ?_)
            · exact absurd c94 (by decide)
            · refine lv_iconst (v := 0) hx hb d_M_tag_97 (by decide) ?_
              exact ad_iret M I rfl (by omega) (by omega) (⟨by rw [(show q_tg ts v h0 p0 d0 = ((1, 0), ts) by simp only [q_tg]; rw [sp_at_0 c5 hn])], fs, by rw [(show q_tg ts v h0 p0 d0 = ((1, 0), ts) by simp only [q_tg]; rw [sp_at_0 c5 hn])]; exact C3, by rw [(show q_tg ts v h0 p0 d0 = ((1, 0), ts) by simp only [q_tg]; rw [sp_at_0 c5 hn])]; exact A, F3⟩) d_M_tag_98
          · exact absurd c72 (by decide)
        · refine lv_iconst (v := 1) hx hb d_M_tag_58 (by decide) ?_
          refine lv_goto (tgt := 63) hx hb d_M_tag_59 (by decide) ?_
          refine lv_istore (lv' := [(6, .int 1), (5, .int 1), (0, .ref m0), (1, .int v), (2, .int h0), (3, .int p0), (4, .int d0)]) hx hb d_M_tag_63 hl (by decide) rfl (fun ls hl => ?_)
          refine lv_aload_n hx hb d_M_tag_65 rfl (lv_at hl 2 rfl) ?_
          refine lv_iload hx hb d_M_tag_66 (lv_at hl 1 rfl) ?_
          refine lv_iload hx hb d_M_tag_68 (lv_at hl 0 rfl) ?_
          refine lv_iload hx hb d_M_tag_70 (lv_at hl 1 rfl) ?_
          refine lv_if_ne (tgt := 90) hx hb d_M_tag_72 (by decide) (fun c72 => ?_) (fun c72 => ?_)
          · refine lv_iconst (v := 0) hx hb d_M_tag_90 (by decide) ?_
            refine ad_cZi S I (ad_ivV (As := [.int 1, .int 1, .int 0]) (rest := []) S (ad_recv I C.1 K_Mod) w_611 w_613 sp_M_fails Y_M_fails ⟨by decide, by decide, np_M_fails⟩ rfl d_M_tag_91) (c_M_fails l G lo hp m0 bs th sd (nI ts.length) (nI lt.length) fs 1 1 0 C) Y_M_fails hl.1 ⟨Nat.le_of_ble_eq_true rfl, Nat.le_of_ble_eq_true rfl⟩ (Nat.le_of_ble_eq_true rfl) (Nat.le_of_ble_eq_true rfl) d_M_tag_91 (fun hp4 H1 locs1 hA I => ?_)
            obtain ⟨C4, F4⟩ := hA
            have C4 : MC G hp4 m0 bs 1 sd (nI ts.length) (nI lt.length) fs := C4
            refine ad_top (y := .int 1) (by rfl) ?_
            refine lv_if_eq (tgt := 99) hx hb d_M_tag_94 (by decide) (fun c94 => ?_) (fun c94 => ?_)
            · exact absurd c94 (by decide)
            · refine lv_iconst (v := 0) hx hb d_M_tag_97 (by decide) ?_
              exact ad_iret M I rfl (by omega) (by omega) (⟨by rw [(show q_tg ts v h0 p0 d0 = ((1, 0), ts) by simp only [q_tg]; rw [sp_at_0 c5 hn])], fs, by rw [(show q_tg ts v h0 p0 d0 = ((1, 0), ts) by simp only [q_tg]; rw [sp_at_0 c5 hn])]; exact C4, by rw [(show q_tg ts v h0 p0 d0 = ((1, 0), ts) by simp only [q_tg]; rw [sp_at_0 c5 hn])]; exact A, F4⟩) d_M_tag_98
          · exact absurd c72 (by decide)
  · rw [in_th hn, Classical.not_not] at c5
    obtain ⟨j, t, hj, rfl, ht⟩ := ts_2 rfl hn c5
    have hA := A.1 j t ht
    refine lv_iload_n hx hb d_M_tag_8 rfl (lv_at hl 3 rfl) ?_
    refine lv_i2l (v := p0.toInt64) hx hb d_M_tag_9 rfl ?_
    refine lv_lconst (v := 0) hx hb d_M_tag_10 (by decide) ?_
    refine lv_ldc2 (v := 15) hx hb hown (hts _ w_610) d_M_tag_11 ?_
    refine ad_cPi S I (ad_ivS (As := [.long p0.toInt64, .long 0, .long 15]) (rest := []) S Y_M_in w_607 w_608 w_6 ⟨by decide, by decide, np_M_in⟩ rfl d_M_tag_14) (c_M_in l G lo hp p0.toInt64 0 15) Y_M_in hl.1 ⟨Nat.le_of_ble_eq_true rfl, Nat.le_of_ble_eq_true rfl⟩ (Nat.le_of_ble_eq_true rfl) (Nat.le_of_ble_eq_true rfl) d_M_tag_14 ?_
    refine lv_if_ne (tgt := 24) hx hb d_M_tag_17 (by decide) (fun c17 => ?_) (fun c17 => ?_)
    · rw [in_ok p0 _ 16 (by decide), Decidable.not_not] at c17
      refine lv_iconst (v := 0) hx hb d_M_tag_24 (by decide) ?_
      refine lv_istore (lv' := [(5, .int 0), (0, .ref m0), (1, .int (nI j)), (2, .int h0), (3, .int p0), (4, .int d0)]) hx hb d_M_tag_25 hl (by decide) rfl (fun ls hl => ?_)
      refine lv_iload_n hx hb d_M_tag_27 rfl (lv_at hl 3 rfl) ?_
      refine lv_i2l (v := h0.toInt64) hx hb d_M_tag_28 rfl ?_
      refine lv_lconst (v := 0) hx hb d_M_tag_29 (by decide) ?_
      refine lv_ldc2 (v := 1000000) hx hb hown (hts _ w_694) d_M_tag_30 ?_
      refine ad_cPi S I (ad_ivS (As := [.long h0.toInt64, .long 0, .long 1000000]) (rest := []) S Y_M_in w_607 w_608 w_6 ⟨by decide, by decide, np_M_in⟩ rfl d_M_tag_33) (c_M_in l G lo hp h0.toInt64 0 1000000) Y_M_in hl.1 ⟨Nat.le_of_ble_eq_true rfl, Nat.le_of_ble_eq_true rfl⟩ (Nat.le_of_ble_eq_true rfl) (Nat.le_of_ble_eq_true rfl) d_M_tag_33 ?_
      refine lv_if_eq (tgt := 58) hx hb d_M_tag_36 (by decide) (fun c36 => ?_) (fun c36 => ?_)
      · rw [in_le h0 _ 1000000 (by decide)] at c36
        refine lv_iconst (v := 1) hx hb d_M_tag_58 (by decide) ?_
        refine lv_goto (tgt := 63) hx hb d_M_tag_59 (by decide) ?_
        refine lv_istore (lv' := [(6, .int 1), (5, .int 0), (0, .ref m0), (1, .int (nI j)), (2, .int h0), (3, .int p0), (4, .int d0)]) hx hb d_M_tag_63 hl (by decide) rfl (fun ls hl => ?_)
        refine lv_aload_n hx hb d_M_tag_65 rfl (lv_at hl 2 rfl) ?_
        refine lv_iload hx hb d_M_tag_66 (lv_at hl 1 rfl) ?_
        refine lv_iload hx hb d_M_tag_68 (lv_at hl 0 rfl) ?_
        refine lv_iload hx hb d_M_tag_70 (lv_at hl 1 rfl) ?_
        refine lv_if_ne (tgt := 90) hx hb d_M_tag_72 (by decide) (fun c72 => ?_) (fun c72 => ?_)
        · exact absurd c72 (by decide)
        · refine lv_aload_n hx hb d_M_tag_75 rfl (lv_at hl 2 rfl) ?_
          refine ad_get S I C.1 K_Mod 11 (by decide) w_559 rfl d_M_tag_76 ?_
          refine lv_iload_n hx hb d_M_tag_79 rfl (lv_at hl 3 rfl) ?_
          refine ad_iald S I (C.2.1 7 (by decide)) (vp_in_nI (show j < 64 by omega) (by decide)) d_M_tag_80 ?_
          refine ad_top (y := .int ((fs 7) j)) (congrArg (fun q => Value.int ((fs 7) q)) (show (nI j).toNatClampNeg = j from nI_clamp (by omega))) ?_
          refine lv_bipush (v := 24) hx hb d_M_tag_81 (by decide) ?_
          refine lv_icmp_ne (tgt := 90) hx hb d_M_tag_83 (by decide) (fun c83 => ?_) (fun c83 => ?_)
          · rw [hA.2.2.2.2.1] at c83
            have hm9 := hmm t (List.mem_of_getElem? ht)
            have hlt : t.2.2.2.2.length < 24 := Nat.lt_of_le_of_ne hm9 (fun h => c83 (by rw [h]; rfl))
            refine lv_iconst (v := 0) hx hb d_M_tag_90 (by decide) ?_
            refine ad_cZi S I (ad_ivV (As := [.int 0, .int 1, .int 0]) (rest := []) S (ad_recv I C.1 K_Mod) w_611 w_613 sp_M_fails Y_M_fails ⟨by decide, by decide, np_M_fails⟩ rfl d_M_tag_91) (c_M_fails l G lo hp m0 bs th sd (nI ts.length) (nI lt.length) fs 0 1 0 C) Y_M_fails hl.1 ⟨Nat.le_of_ble_eq_true rfl, Nat.le_of_ble_eq_true rfl⟩ (Nat.le_of_ble_eq_true rfl) (Nat.le_of_ble_eq_true rfl) d_M_tag_91 (fun hp5 H1 locs1 hA I => ?_)
            obtain ⟨C5, F5⟩ := hA
            have C5 : MC G hp5 m0 bs 2 sd (nI ts.length) (nI lt.length) fs := C5
            refine ad_top (y := .int 1) (by rfl) ?_
            refine lv_if_eq (tgt := 99) hx hb d_M_tag_94 (by decide) (fun c94 => ?_) (fun c94 => ?_)
            · exact absurd c94 (by decide)
            · refine lv_iconst (v := 0) hx hb d_M_tag_97 (by decide) ?_
              exact ad_iret M I rfl (by omega) (by omega) (⟨by rw [(show q_tg ts (nI j) h0 p0 d0 = ((2, 0), ts) by simp only [q_tg]; rw [sp_at_n rfl ht hn]; simp only; rw [if_pos c17, if_neg (fun h => c36 h.1)])], fs, by rw [(show q_tg ts (nI j) h0 p0 d0 = ((2, 0), ts) by simp only [q_tg]; rw [sp_at_n rfl ht hn]; simp only; rw [if_pos c17, if_neg (fun h => c36 h.1)])]; exact C5, by rw [(show q_tg ts (nI j) h0 p0 d0 = ((2, 0), ts) by simp only [q_tg]; rw [sp_at_n rfl ht hn]; simp only; rw [if_pos c17, if_neg (fun h => c36 h.1)])]; exact A, F5⟩) d_M_tag_98
          · rw [hA.2.2.2.2.1] at c83
            have hm9 := hmm t (List.mem_of_getElem? ht)
            refine lv_iconst (v := 1) hx hb d_M_tag_86 (by decide) ?_
            refine lv_goto (tgt := 91) hx hb d_M_tag_87 (by decide) ?_
            refine ad_cZi S I (ad_ivV (As := [.int 0, .int 1, .int 1]) (rest := []) S (ad_recv I C.1 K_Mod) w_611 w_613 sp_M_fails Y_M_fails ⟨by decide, by decide, np_M_fails⟩ rfl d_M_tag_91) (c_M_fails l G lo hp m0 bs th sd (nI ts.length) (nI lt.length) fs 0 1 1 C) Y_M_fails hl.1 ⟨Nat.le_of_ble_eq_true rfl, Nat.le_of_ble_eq_true rfl⟩ (Nat.le_of_ble_eq_true rfl) (Nat.le_of_ble_eq_true rfl) d_M_tag_91 (fun hp6 H1 locs1 hA I => ?_)
            obtain ⟨C6, F6⟩ := hA
            have C6 : MC G hp6 m0 bs 2 sd (nI ts.length) (nI lt.length) fs := C6
            refine ad_top (y := .int 1) (by rfl) ?_
            refine lv_if_eq (tgt := 99) hx hb d_M_tag_94 (by decide) (fun c94 => ?_) (fun c94 => ?_)
            · exact absurd c94 (by decide)
            · refine lv_iconst (v := 0) hx hb d_M_tag_97 (by decide) ?_
              exact ad_iret M I rfl (by omega) (by omega) (⟨by rw [(show q_tg ts (nI j) h0 p0 d0 = ((2, 0), ts) by simp only [q_tg]; rw [sp_at_n rfl ht hn]; simp only; rw [if_pos c17, if_neg (fun h => c36 h.1)])], fs, by rw [(show q_tg ts (nI j) h0 p0 d0 = ((2, 0), ts) by simp only [q_tg]; rw [sp_at_n rfl ht hn]; simp only; rw [if_pos c17, if_neg (fun h => c36 h.1)])]; exact C6, by rw [(show q_tg ts (nI j) h0 p0 d0 = ((2, 0), ts) by simp only [q_tg]; rw [sp_at_n rfl ht hn]; simp only; rw [if_pos c17, if_neg (fun h => c36 h.1)])]; exact A, F6⟩) d_M_tag_98
      · rw [in_le h0 _ 1000000 (by decide), Decidable.not_not] at c36
        refine lv_iload hx hb d_M_tag_39 (lv_at hl 5 rfl) ?_
        refine lv_i2l (v := d0.toInt64) hx hb d_M_tag_41 rfl ?_
        refine lv_lconst (v := 0) hx hb d_M_tag_42 (by decide) ?_
        refine lv_ldc2 (v := 1000000) hx hb hown (hts _ w_694) d_M_tag_43 ?_
        refine ad_cPi S I (ad_ivS (As := [.long d0.toInt64, .long 0, .long 1000000]) (rest := []) S Y_M_in w_607 w_608 w_6 ⟨by decide, by decide, np_M_in⟩ rfl d_M_tag_46) (c_M_in l G lo hp d0.toInt64 0 1000000) Y_M_in hl.1 ⟨Nat.le_of_ble_eq_true rfl, Nat.le_of_ble_eq_true rfl⟩ (Nat.le_of_ble_eq_true rfl) (Nat.le_of_ble_eq_true rfl) d_M_tag_46 ?_
        refine lv_if_eq (tgt := 58) hx hb d_M_tag_49 (by decide) (fun c49 => ?_) (fun c49 => ?_)
        · rw [in_le d0 _ 1000000 (by decide)] at c49
          refine lv_iconst (v := 1) hx hb d_M_tag_58 (by decide) ?_
          refine lv_goto (tgt := 63) hx hb d_M_tag_59 (by decide) ?_
          refine lv_istore (lv' := [(6, .int 1), (5, .int 0), (0, .ref m0), (1, .int (nI j)), (2, .int h0), (3, .int p0), (4, .int d0)]) hx hb d_M_tag_63 hl (by decide) rfl (fun ls hl => ?_)
          refine lv_aload_n hx hb d_M_tag_65 rfl (lv_at hl 2 rfl) ?_
          refine lv_iload hx hb d_M_tag_66 (lv_at hl 1 rfl) ?_
          refine lv_iload hx hb d_M_tag_68 (lv_at hl 0 rfl) ?_
          refine lv_iload hx hb d_M_tag_70 (lv_at hl 1 rfl) ?_
          refine lv_if_ne (tgt := 90) hx hb d_M_tag_72 (by decide) (fun c72 => ?_) (fun c72 => ?_)
          · exact absurd c72 (by decide)
          · refine lv_aload_n hx hb d_M_tag_75 rfl (lv_at hl 2 rfl) ?_
            refine ad_get S I C.1 K_Mod 11 (by decide) w_559 rfl d_M_tag_76 ?_
            refine lv_iload_n hx hb d_M_tag_79 rfl (lv_at hl 3 rfl) ?_
            refine ad_iald S I (C.2.1 7 (by decide)) (vp_in_nI (show j < 64 by omega) (by decide)) d_M_tag_80 ?_
            refine ad_top (y := .int ((fs 7) j)) (congrArg (fun q => Value.int ((fs 7) q)) (show (nI j).toNatClampNeg = j from nI_clamp (by omega))) ?_
            refine lv_bipush (v := 24) hx hb d_M_tag_81 (by decide) ?_
            refine lv_icmp_ne (tgt := 90) hx hb d_M_tag_83 (by decide) (fun c83 => ?_) (fun c83 => ?_)
            · rw [hA.2.2.2.2.1] at c83
              have hm9 := hmm t (List.mem_of_getElem? ht)
              have hlt : t.2.2.2.2.length < 24 := Nat.lt_of_le_of_ne hm9 (fun h => c83 (by rw [h]; rfl))
              refine lv_iconst (v := 0) hx hb d_M_tag_90 (by decide) ?_
              refine ad_cZi S I (ad_ivV (As := [.int 0, .int 1, .int 0]) (rest := []) S (ad_recv I C.1 K_Mod) w_611 w_613 sp_M_fails Y_M_fails ⟨by decide, by decide, np_M_fails⟩ rfl d_M_tag_91) (c_M_fails l G lo hp m0 bs th sd (nI ts.length) (nI lt.length) fs 0 1 0 C) Y_M_fails hl.1 ⟨Nat.le_of_ble_eq_true rfl, Nat.le_of_ble_eq_true rfl⟩ (Nat.le_of_ble_eq_true rfl) (Nat.le_of_ble_eq_true rfl) d_M_tag_91 (fun hp7 H1 locs1 hA I => ?_)
              obtain ⟨C7, F7⟩ := hA
              have C7 : MC G hp7 m0 bs 2 sd (nI ts.length) (nI lt.length) fs := C7
              refine ad_top (y := .int 1) (by rfl) ?_
              refine lv_if_eq (tgt := 99) hx hb d_M_tag_94 (by decide) (fun c94 => ?_) (fun c94 => ?_)
              · exact absurd c94 (by decide)
              · refine lv_iconst (v := 0) hx hb d_M_tag_97 (by decide) ?_
                exact ad_iret M I rfl (by omega) (by omega) (⟨by rw [(show q_tg ts (nI j) h0 p0 d0 = ((2, 0), ts) by simp only [q_tg]; rw [sp_at_n rfl ht hn]; simp only; rw [if_pos c17, if_neg (fun h => c49 h.2.1)])], fs, by rw [(show q_tg ts (nI j) h0 p0 d0 = ((2, 0), ts) by simp only [q_tg]; rw [sp_at_n rfl ht hn]; simp only; rw [if_pos c17, if_neg (fun h => c49 h.2.1)])]; exact C7, by rw [(show q_tg ts (nI j) h0 p0 d0 = ((2, 0), ts) by simp only [q_tg]; rw [sp_at_n rfl ht hn]; simp only; rw [if_pos c17, if_neg (fun h => c49 h.2.1)])]; exact A, F7⟩) d_M_tag_98
            · rw [hA.2.2.2.2.1] at c83
              have hm9 := hmm t (List.mem_of_getElem? ht)
              refine lv_iconst (v := 1) hx hb d_M_tag_86 (by decide) ?_
              refine lv_goto (tgt := 91) hx hb d_M_tag_87 (by decide) ?_
              refine ad_cZi S I (ad_ivV (As := [.int 0, .int 1, .int 1]) (rest := []) S (ad_recv I C.1 K_Mod) w_611 w_613 sp_M_fails Y_M_fails ⟨by decide, by decide, np_M_fails⟩ rfl d_M_tag_91) (c_M_fails l G lo hp m0 bs th sd (nI ts.length) (nI lt.length) fs 0 1 1 C) Y_M_fails hl.1 ⟨Nat.le_of_ble_eq_true rfl, Nat.le_of_ble_eq_true rfl⟩ (Nat.le_of_ble_eq_true rfl) (Nat.le_of_ble_eq_true rfl) d_M_tag_91 (fun hp8 H1 locs1 hA I => ?_)
              obtain ⟨C8, F8⟩ := hA
              have C8 : MC G hp8 m0 bs 2 sd (nI ts.length) (nI lt.length) fs := C8
              refine ad_top (y := .int 1) (by rfl) ?_
              refine lv_if_eq (tgt := 99) hx hb d_M_tag_94 (by decide) (fun c94 => ?_) (fun c94 => ?_)
              · exact absurd c94 (by decide)
              · refine lv_iconst (v := 0) hx hb d_M_tag_97 (by decide) ?_
                exact ad_iret M I rfl (by omega) (by omega) (⟨by rw [(show q_tg ts (nI j) h0 p0 d0 = ((2, 0), ts) by simp only [q_tg]; rw [sp_at_n rfl ht hn]; simp only; rw [if_pos c17, if_neg (fun h => c49 h.2.1)])], fs, by rw [(show q_tg ts (nI j) h0 p0 d0 = ((2, 0), ts) by simp only [q_tg]; rw [sp_at_n rfl ht hn]; simp only; rw [if_pos c17, if_neg (fun h => c49 h.2.1)])]; exact C8, by rw [(show q_tg ts (nI j) h0 p0 d0 = ((2, 0), ts) by simp only [q_tg]; rw [sp_at_n rfl ht hn]; simp only; rw [if_pos c17, if_neg (fun h => c49 h.2.1)])]; exact A, F8⟩) d_M_tag_98
        · rw [in_le d0 _ 1000000 (by decide), Decidable.not_not] at c49
          refine lv_iload hx hb d_M_tag_52 (lv_at hl 5 rfl) ?_
          refine lv_iload_n hx hb d_M_tag_54 rfl (lv_at hl 3 rfl) ?_
          refine lv_icmp_ge (tgt := 62) hx hb d_M_tag_55 (by decide) (fun c55 => ?_) (fun c55 => ?_)
          · refine lv_iconst (v := 0) hx hb d_M_tag_62 (by decide) ?_
            refine lv_istore (lv' := [(6, .int 0), (5, .int 0), (0, .ref m0), (1, .int (nI j)), (2, .int h0), (3, .int p0), (4, .int d0)]) hx hb d_M_tag_63 hl (by decide) rfl (fun ls hl => ?_)
            refine lv_aload_n hx hb d_M_tag_65 rfl (lv_at hl 2 rfl) ?_
            refine lv_iload hx hb d_M_tag_66 (lv_at hl 1 rfl) ?_
            refine lv_iload hx hb d_M_tag_68 (lv_at hl 0 rfl) ?_
            refine lv_iload hx hb d_M_tag_70 (lv_at hl 1 rfl) ?_
            refine lv_if_ne (tgt := 90) hx hb d_M_tag_72 (by decide) (fun c72 => ?_) (fun c72 => ?_)
            · exact absurd c72 (by decide)
            · refine lv_aload_n hx hb d_M_tag_75 rfl (lv_at hl 2 rfl) ?_
              refine ad_get S I C.1 K_Mod 11 (by decide) w_559 rfl d_M_tag_76 ?_
              refine lv_iload_n hx hb d_M_tag_79 rfl (lv_at hl 3 rfl) ?_
              refine ad_iald S I (C.2.1 7 (by decide)) (vp_in_nI (show j < 64 by omega) (by decide)) d_M_tag_80 ?_
              refine ad_top (y := .int ((fs 7) j)) (congrArg (fun q => Value.int ((fs 7) q)) (show (nI j).toNatClampNeg = j from nI_clamp (by omega))) ?_
              refine lv_bipush (v := 24) hx hb d_M_tag_81 (by decide) ?_
              refine lv_icmp_ne (tgt := 90) hx hb d_M_tag_83 (by decide) (fun c83 => ?_) (fun c83 => ?_)
              · rw [hA.2.2.2.2.1] at c83
                have hm9 := hmm t (List.mem_of_getElem? ht)
                have hlt : t.2.2.2.2.length < 24 := Nat.lt_of_le_of_ne hm9 (fun h => c83 (by rw [h]; rfl))
                refine lv_iconst (v := 0) hx hb d_M_tag_90 (by decide) ?_
                refine ad_cZi S I (ad_ivV (As := [.int 0, .int 0, .int 0]) (rest := []) S (ad_recv I C.1 K_Mod) w_611 w_613 sp_M_fails Y_M_fails ⟨by decide, by decide, np_M_fails⟩ rfl d_M_tag_91) (c_M_fails l G lo hp m0 bs th sd (nI ts.length) (nI lt.length) fs 0 0 0 C) Y_M_fails hl.1 ⟨Nat.le_of_ble_eq_true rfl, Nat.le_of_ble_eq_true rfl⟩ (Nat.le_of_ble_eq_true rfl) (Nat.le_of_ble_eq_true rfl) d_M_tag_91 (fun hp9 H1 locs1 hA I => ?_)
                obtain ⟨C9, F9⟩ := hA
                have C9 : MC G hp9 m0 bs 0 sd (nI ts.length) (nI lt.length) fs := C9
                refine ad_top (y := .int 0) (by rfl) ?_
                refine lv_if_eq (tgt := 99) hx hb d_M_tag_94 (by decide) (fun c94 => ?_) (fun c94 => ?_)
                · refine lv_bipush (v := 24) hx hb d_M_tag_99 (by decide) ?_
                  refine lv_iload_n hx hb d_M_tag_101 rfl (lv_at hl 3 rfl) ?_
                  refine lv_imul hx hb d_M_tag_102 ?_
                  refine ad_top (y := .int (nI (24 * j))) (congrArg Value.int (pk_mul 24 j)) ?_
                  refine lv_aload_n hx hb d_M_tag_103 rfl (lv_at hl 2 rfl) ?_
                  refine ad_get S I C9.1 K_Mod 11 (by decide) w_559 rfl d_M_tag_104 ?_
                  refine lv_iload_n hx hb d_M_tag_107 rfl (lv_at hl 3 rfl) ?_
                  refine ad_iald S I (C9.2.1 7 (by decide)) (vp_in_nI (show j < 64 by omega) (by decide)) d_M_tag_108 ?_
                  refine ad_top (y := .int ((fs 7) j)) (congrArg (fun q => Value.int ((fs 7) q)) (show (nI j).toNatClampNeg = j from nI_clamp (by omega))) ?_
                  refine lv_iadd hx hb d_M_tag_109 ?_
                  refine ad_top (y := .int (nI (24 * j + t.2.2.2.2.length))) (congrArg Value.int (by rw [hA.2.2.2.2.1, nI_add])) ?_
                  refine lv_istore (lv' := [(7, .int (nI (24 * j + t.2.2.2.2.length))), (6, .int 0), (5, .int 0), (0, .ref m0), (1, .int (nI j)), (2, .int h0), (3, .int p0), (4, .int d0)]) hx hb d_M_tag_110 hl (by decide) rfl (fun ls hl => ?_)
                  refine lv_aload_n hx hb d_M_tag_112 rfl (lv_at hl 3 rfl) ?_
                  refine ad_get S I C9.1 K_Mod 12 (by decide) w_560 rfl d_M_tag_113 ?_
                  refine lv_iload hx hb d_M_tag_116 (lv_at hl 0 rfl) ?_
                  refine lv_iload_n hx hb d_M_tag_118 rfl (lv_at hl 5 rfl) ?_
                  refine ad_iast S I (C9.2.1 8 (by decide)) (vp_in_nI (show (24 * j + t.2.2.2.2.length) < 1536 by omega) (by decide)) d_M_tag_119 (fun H1 locs1 I => ?_)
                  rw [show (nI (24 * j + t.2.2.2.2.length)).toNatClampNeg = (24 * j + t.2.2.2.2.length) from nI_clamp (by omega)] at I
                  obtain ⟨hp10, ehp10⟩ : ∃ z : ad_H, z = ad_up hp9 (bs 8) (.inl (G.2.1 0, 1536, .inl (upd (fs 8) (24 * j + t.2.2.2.2.length) h0))) := ⟨_, rfl⟩
                  have I : ad_I G lo s hp10 H1 locs1 := by rw [ehp10]; exact I
                  obtain ⟨C10, F10⟩ := MC.arr (hp' := hp10) C9 8 (by decide) (by rw [ehp10]; exact ad_up_s _ _ _) (fun z hz => by rw [ehp10]; exact ad_up_n _ hz)
                  refine lv_aload_n hx hb d_M_tag_120 rfl (lv_at hl 3 rfl) ?_
                  refine ad_get S I C10.1 K_Mod 13 (by decide) w_561 rfl d_M_tag_121 ?_
                  refine lv_iload hx hb d_M_tag_124 (lv_at hl 0 rfl) ?_
                  refine lv_iload_n hx hb d_M_tag_126 rfl (lv_at hl 6 rfl) ?_
                  refine ad_iast S I (C10.2.1 9 (by decide)) (vp_in_nI (show (24 * j + t.2.2.2.2.length) < 1536 by omega) (by decide)) d_M_tag_127 (fun H1 locs1 I => ?_)
                  rw [show (nI (24 * j + t.2.2.2.2.length)).toNatClampNeg = (24 * j + t.2.2.2.2.length) from nI_clamp (by omega)] at I
                  obtain ⟨hp11, ehp11⟩ : ∃ z : ad_H, z = ad_up hp10 (bs 9) (.inl (G.2.1 0, 1536, .inl (upd (fs 9) (24 * j + t.2.2.2.2.length) p0))) := ⟨_, rfl⟩
                  have I : ad_I G lo s hp11 H1 locs1 := by rw [ehp11]; exact I
                  obtain ⟨C11, F11⟩ := MC.arr (hp' := hp11) C10 9 (by decide) (by rw [ehp11]; exact ad_up_s _ _ _) (fun z hz => by rw [ehp11]; exact ad_up_n _ hz)
                  refine lv_aload_n hx hb d_M_tag_128 rfl (lv_at hl 3 rfl) ?_
                  refine ad_get S I C11.1 K_Mod 14 (by decide) w_562 rfl d_M_tag_129 ?_
                  refine lv_iload hx hb d_M_tag_132 (lv_at hl 0 rfl) ?_
                  refine lv_iload hx hb d_M_tag_134 (lv_at hl 7 rfl) ?_
                  refine ad_iast S I (C11.2.1 10 (by decide)) (vp_in_nI (show (24 * j + t.2.2.2.2.length) < 1536 by omega) (by decide)) d_M_tag_136 (fun H1 locs1 I => ?_)
                  rw [show (nI (24 * j + t.2.2.2.2.length)).toNatClampNeg = (24 * j + t.2.2.2.2.length) from nI_clamp (by omega)] at I
                  obtain ⟨hp12, ehp12⟩ : ∃ z : ad_H, z = ad_up hp11 (bs 10) (.inl (G.2.1 0, 1536, .inl (upd (fs 10) (24 * j + t.2.2.2.2.length) d0))) := ⟨_, rfl⟩
                  have I : ad_I G lo s hp12 H1 locs1 := by rw [ehp12]; exact I
                  obtain ⟨C12, F12⟩ := MC.arr (hp' := hp12) C11 10 (by decide) (by rw [ehp12]; exact ad_up_s _ _ _) (fun z hz => by rw [ehp12]; exact ad_up_n _ hz)
                  refine lv_aload_n hx hb d_M_tag_137 rfl (lv_at hl 3 rfl) ?_
                  refine ad_get S I C12.1 K_Mod 11 (by decide) w_559 rfl d_M_tag_138 ?_
                  refine lv_iload_n hx hb d_M_tag_141 rfl (lv_at hl 4 rfl) ?_
                  refine lv_dup2_11 hx hb d_M_tag_142 rfl rfl ?_
                  refine ad_iald S I (C12.2.1 7 (by decide)) (vp_in_nI (show j < 64 by omega) (by decide)) d_M_tag_143 ?_
                  refine ad_top (y := .int ((fs 7) j)) (congrArg (fun q => Value.int ((fs 7) q)) (show (nI j).toNatClampNeg = j from nI_clamp (by omega))) ?_
                  refine lv_iconst (v := 1) hx hb d_M_tag_144 (by decide) ?_
                  refine lv_iadd hx hb d_M_tag_145 ?_
                  refine ad_iast S I (C12.2.1 7 (by decide)) (vp_in_nI (show j < 64 by omega) (by decide)) d_M_tag_146 (fun H1 locs1 I => ?_)
                  rw [show (nI j).toNatClampNeg = j from nI_clamp (by omega)] at I
                  obtain ⟨hp13, ehp13⟩ : ∃ z : ad_H, z = ad_up hp12 (bs 7) (.inl (G.2.1 0, 64, .inl (upd (fs 7) j (((fs 7) j) + 1)))) := ⟨_, rfl⟩
                  have I : ad_I G lo s hp13 H1 locs1 := by rw [ehp13]; exact I
                  obtain ⟨C13, F13⟩ := MC.arr (hp' := hp13) C12 7 (by decide) (by rw [ehp13]; exact ad_up_s _ _ _) (fun z hz => by rw [ehp13]; exact ad_up_n _ hz)
                  refine lv_aload_n hx hb d_M_tag_147 rfl (lv_at hl 3 rfl) ?_
                  refine ad_get S I C13.1 K_Mod 11 (by decide) w_559 rfl d_M_tag_148 ?_
                  refine lv_iload_n hx hb d_M_tag_151 rfl (lv_at hl 4 rfl) ?_
                  refine ad_iald S I (C13.2.1 7 (by decide)) (vp_in_nI (show j < 64 by omega) (by decide)) d_M_tag_152 ?_
                  refine ad_top (y := .int ((upd (fs 7) j (((fs 7) j) + 1)) j)) (congrArg (fun q => Value.int ((upd (fs 7) j (((fs 7) j) + 1)) q)) (show (nI j).toNatClampNeg = j from nI_clamp (by omega))) ?_
                  refine ad_top (y := .int (nI (t.2.2.2.2.length + 1))) (congrArg Value.int (by rw [pk_us, hA.2.2.2.2.1, nI_1])) ?_
                  exact ad_iret M I rfl (by omega) (by omega) (⟨by rw [(show q_tg ts (nI j) h0 p0 d0 = ((0, nI (t.2.2.2.2.length + 1)), ts.set j (t.1, t.2.1, t.2.2.1, t.2.2.2.1, t.2.2.2.2 ++ [(h0, p0, d0)])) by simp only [q_tg]; rw [sp_at_n rfl ht hn]; simp only; rw [if_pos c17, if_pos ⟨c36, c49, Int32.not_lt.mpr c55⟩, if_pos hlt, q_j rfl ht hn])], _, by rw [(show q_tg ts (nI j) h0 p0 d0 = ((0, nI (t.2.2.2.2.length + 1)), ts.set j (t.1, t.2.1, t.2.2.1, t.2.2.2.1, t.2.2.2.2 ++ [(h0, p0, d0)])) by simp only [q_tg]; rw [sp_at_n rfl ht hn]; simp only; rw [if_pos c17, if_pos ⟨c36, c49, Int32.not_lt.mpr c55⟩, if_pos hlt, q_j rfl ht hn]), List.length_set]; exact C13, by rw [(show q_tg ts (nI j) h0 p0 d0 = ((0, nI (t.2.2.2.2.length + 1)), ts.set j (t.1, t.2.1, t.2.2.1, t.2.2.2.1, t.2.2.2.2 ++ [(h0, p0, d0)])) by simp only [q_tg]; rw [sp_at_n rfl ht hn]; simp only; rw [if_pos c17, if_pos ⟨c36, c49, Int32.not_lt.mpr c55⟩, if_pos hlt, q_j rfl ht hn])]; exact A.tg ht hmm hlt h0 p0 d0, ((((F9.tr F10).tr F11).tr F12).tr F13)⟩) d_M_tag_153
                · exact absurd c94 (by decide)
              · rw [hA.2.2.2.2.1] at c83
                have hm9 := hmm t (List.mem_of_getElem? ht)
                refine lv_iconst (v := 1) hx hb d_M_tag_86 (by decide) ?_
                refine lv_goto (tgt := 91) hx hb d_M_tag_87 (by decide) ?_
                refine ad_cZi S I (ad_ivV (As := [.int 0, .int 0, .int 1]) (rest := []) S (ad_recv I C.1 K_Mod) w_611 w_613 sp_M_fails Y_M_fails ⟨by decide, by decide, np_M_fails⟩ rfl d_M_tag_91) (c_M_fails l G lo hp m0 bs th sd (nI ts.length) (nI lt.length) fs 0 0 1 C) Y_M_fails hl.1 ⟨Nat.le_of_ble_eq_true rfl, Nat.le_of_ble_eq_true rfl⟩ (Nat.le_of_ble_eq_true rfl) (Nat.le_of_ble_eq_true rfl) d_M_tag_91 (fun hp14 H1 locs1 hA I => ?_)
                obtain ⟨C14, F14⟩ := hA
                have C14 : MC G hp14 m0 bs 3 sd (nI ts.length) (nI lt.length) fs := C14
                refine ad_top (y := .int 1) (by rfl) ?_
                refine lv_if_eq (tgt := 99) hx hb d_M_tag_94 (by decide) (fun c94 => ?_) (fun c94 => ?_)
                · exact absurd c94 (by decide)
                · refine lv_iconst (v := 0) hx hb d_M_tag_97 (by decide) ?_
                  exact ad_iret M I rfl (by omega) (by omega) (⟨by rw [(show q_tg ts (nI j) h0 p0 d0 = ((3, 0), ts) by simp only [q_tg]; rw [sp_at_n rfl ht hn]; simp only; rw [if_pos c17, if_pos ⟨c36, c49, Int32.not_lt.mpr c55⟩, if_neg (fun h => by rw [(nI_eq (b := 24) (by omega) (by omega)).mp c83] at h; exact absurd h (by decide))])], fs, by rw [(show q_tg ts (nI j) h0 p0 d0 = ((3, 0), ts) by simp only [q_tg]; rw [sp_at_n rfl ht hn]; simp only; rw [if_pos c17, if_pos ⟨c36, c49, Int32.not_lt.mpr c55⟩, if_neg (fun h => by rw [(nI_eq (b := 24) (by omega) (by omega)).mp c83] at h; exact absurd h (by decide))])]; exact C14, by rw [(show q_tg ts (nI j) h0 p0 d0 = ((3, 0), ts) by simp only [q_tg]; rw [sp_at_n rfl ht hn]; simp only; rw [if_pos c17, if_pos ⟨c36, c49, Int32.not_lt.mpr c55⟩, if_neg (fun h => by rw [(nI_eq (b := 24) (by omega) (by omega)).mp c83] at h; exact absurd h (by decide))])]; exact A, F14⟩) d_M_tag_98
          · refine lv_iconst (v := 1) hx hb d_M_tag_58 (by decide) ?_
            refine lv_goto (tgt := 63) hx hb d_M_tag_59 (by decide) ?_
            refine lv_istore (lv' := [(6, .int 1), (5, .int 0), (0, .ref m0), (1, .int (nI j)), (2, .int h0), (3, .int p0), (4, .int d0)]) hx hb d_M_tag_63 hl (by decide) rfl (fun ls hl => ?_)
            refine lv_aload_n hx hb d_M_tag_65 rfl (lv_at hl 2 rfl) ?_
            refine lv_iload hx hb d_M_tag_66 (lv_at hl 1 rfl) ?_
            refine lv_iload hx hb d_M_tag_68 (lv_at hl 0 rfl) ?_
            refine lv_iload hx hb d_M_tag_70 (lv_at hl 1 rfl) ?_
            refine lv_if_ne (tgt := 90) hx hb d_M_tag_72 (by decide) (fun c72 => ?_) (fun c72 => ?_)
            · exact absurd c72 (by decide)
            · refine lv_aload_n hx hb d_M_tag_75 rfl (lv_at hl 2 rfl) ?_
              refine ad_get S I C.1 K_Mod 11 (by decide) w_559 rfl d_M_tag_76 ?_
              refine lv_iload_n hx hb d_M_tag_79 rfl (lv_at hl 3 rfl) ?_
              refine ad_iald S I (C.2.1 7 (by decide)) (vp_in_nI (show j < 64 by omega) (by decide)) d_M_tag_80 ?_
              refine ad_top (y := .int ((fs 7) j)) (congrArg (fun q => Value.int ((fs 7) q)) (show (nI j).toNatClampNeg = j from nI_clamp (by omega))) ?_
              refine lv_bipush (v := 24) hx hb d_M_tag_81 (by decide) ?_
              refine lv_icmp_ne (tgt := 90) hx hb d_M_tag_83 (by decide) (fun c83 => ?_) (fun c83 => ?_)
              · rw [hA.2.2.2.2.1] at c83
                have hm9 := hmm t (List.mem_of_getElem? ht)
                have hlt : t.2.2.2.2.length < 24 := Nat.lt_of_le_of_ne hm9 (fun h => c83 (by rw [h]; rfl))
                refine lv_iconst (v := 0) hx hb d_M_tag_90 (by decide) ?_
                refine ad_cZi S I (ad_ivV (As := [.int 0, .int 1, .int 0]) (rest := []) S (ad_recv I C.1 K_Mod) w_611 w_613 sp_M_fails Y_M_fails ⟨by decide, by decide, np_M_fails⟩ rfl d_M_tag_91) (c_M_fails l G lo hp m0 bs th sd (nI ts.length) (nI lt.length) fs 0 1 0 C) Y_M_fails hl.1 ⟨Nat.le_of_ble_eq_true rfl, Nat.le_of_ble_eq_true rfl⟩ (Nat.le_of_ble_eq_true rfl) (Nat.le_of_ble_eq_true rfl) d_M_tag_91 (fun hp15 H1 locs1 hA I => ?_)
                obtain ⟨C15, F15⟩ := hA
                have C15 : MC G hp15 m0 bs 2 sd (nI ts.length) (nI lt.length) fs := C15
                refine ad_top (y := .int 1) (by rfl) ?_
                refine lv_if_eq (tgt := 99) hx hb d_M_tag_94 (by decide) (fun c94 => ?_) (fun c94 => ?_)
                · exact absurd c94 (by decide)
                · refine lv_iconst (v := 0) hx hb d_M_tag_97 (by decide) ?_
                  exact ad_iret M I rfl (by omega) (by omega) (⟨by rw [(show q_tg ts (nI j) h0 p0 d0 = ((2, 0), ts) by simp only [q_tg]; rw [sp_at_n rfl ht hn]; simp only; rw [if_pos c17, if_neg (fun h => c55 (Int32.not_lt.mp h.2.2))])], fs, by rw [(show q_tg ts (nI j) h0 p0 d0 = ((2, 0), ts) by simp only [q_tg]; rw [sp_at_n rfl ht hn]; simp only; rw [if_pos c17, if_neg (fun h => c55 (Int32.not_lt.mp h.2.2))])]; exact C15, by rw [(show q_tg ts (nI j) h0 p0 d0 = ((2, 0), ts) by simp only [q_tg]; rw [sp_at_n rfl ht hn]; simp only; rw [if_pos c17, if_neg (fun h => c55 (Int32.not_lt.mp h.2.2))])]; exact A, F15⟩) d_M_tag_98
              · rw [hA.2.2.2.2.1] at c83
                have hm9 := hmm t (List.mem_of_getElem? ht)
                refine lv_iconst (v := 1) hx hb d_M_tag_86 (by decide) ?_
                refine lv_goto (tgt := 91) hx hb d_M_tag_87 (by decide) ?_
                refine ad_cZi S I (ad_ivV (As := [.int 0, .int 1, .int 1]) (rest := []) S (ad_recv I C.1 K_Mod) w_611 w_613 sp_M_fails Y_M_fails ⟨by decide, by decide, np_M_fails⟩ rfl d_M_tag_91) (c_M_fails l G lo hp m0 bs th sd (nI ts.length) (nI lt.length) fs 0 1 1 C) Y_M_fails hl.1 ⟨Nat.le_of_ble_eq_true rfl, Nat.le_of_ble_eq_true rfl⟩ (Nat.le_of_ble_eq_true rfl) (Nat.le_of_ble_eq_true rfl) d_M_tag_91 (fun hp16 H1 locs1 hA I => ?_)
                obtain ⟨C16, F16⟩ := hA
                have C16 : MC G hp16 m0 bs 2 sd (nI ts.length) (nI lt.length) fs := C16
                refine ad_top (y := .int 1) (by rfl) ?_
                refine lv_if_eq (tgt := 99) hx hb d_M_tag_94 (by decide) (fun c94 => ?_) (fun c94 => ?_)
                · exact absurd c94 (by decide)
                · refine lv_iconst (v := 0) hx hb d_M_tag_97 (by decide) ?_
                  exact ad_iret M I rfl (by omega) (by omega) (⟨by rw [(show q_tg ts (nI j) h0 p0 d0 = ((2, 0), ts) by simp only [q_tg]; rw [sp_at_n rfl ht hn]; simp only; rw [if_pos c17, if_neg (fun h => c55 (Int32.not_lt.mp h.2.2))])], fs, by rw [(show q_tg ts (nI j) h0 p0 d0 = ((2, 0), ts) by simp only [q_tg]; rw [sp_at_n rfl ht hn]; simp only; rw [if_pos c17, if_neg (fun h => c55 (Int32.not_lt.mp h.2.2))])]; exact C16, by rw [(show q_tg ts (nI j) h0 p0 d0 = ((2, 0), ts) by simp only [q_tg]; rw [sp_at_n rfl ht hn]; simp only; rw [if_pos c17, if_neg (fun h => c55 (Int32.not_lt.mp h.2.2))])]; exact A, F16⟩) d_M_tag_98
    · rw [in_ok p0 _ 16 (by decide)] at c17
      refine lv_iconst (v := 1) hx hb d_M_tag_20 (by decide) ?_
      refine lv_goto (tgt := 25) hx hb d_M_tag_21 (by decide) ?_
      refine lv_istore (lv' := [(5, .int 1), (0, .ref m0), (1, .int (nI j)), (2, .int h0), (3, .int p0), (4, .int d0)]) hx hb d_M_tag_25 hl (by decide) rfl (fun ls hl => ?_)
      refine lv_iload_n hx hb d_M_tag_27 rfl (lv_at hl 3 rfl) ?_
      refine lv_i2l (v := h0.toInt64) hx hb d_M_tag_28 rfl ?_
      refine lv_lconst (v := 0) hx hb d_M_tag_29 (by decide) ?_
      refine lv_ldc2 (v := 1000000) hx hb hown (hts _ w_694) d_M_tag_30 ?_
      refine ad_cPi S I (ad_ivS (As := [.long h0.toInt64, .long 0, .long 1000000]) (rest := []) S Y_M_in w_607 w_608 w_6 ⟨by decide, by decide, np_M_in⟩ rfl d_M_tag_33) (c_M_in l G lo hp h0.toInt64 0 1000000) Y_M_in hl.1 ⟨Nat.le_of_ble_eq_true rfl, Nat.le_of_ble_eq_true rfl⟩ (Nat.le_of_ble_eq_true rfl) (Nat.le_of_ble_eq_true rfl) d_M_tag_33 ?_
      refine lv_if_eq (tgt := 58) hx hb d_M_tag_36 (by decide) (fun c36 => ?_) (fun c36 => ?_)
      · rw [in_le h0 _ 1000000 (by decide)] at c36
        refine lv_iconst (v := 1) hx hb d_M_tag_58 (by decide) ?_
        refine lv_goto (tgt := 63) hx hb d_M_tag_59 (by decide) ?_
        refine lv_istore (lv' := [(6, .int 1), (5, .int 1), (0, .ref m0), (1, .int (nI j)), (2, .int h0), (3, .int p0), (4, .int d0)]) hx hb d_M_tag_63 hl (by decide) rfl (fun ls hl => ?_)
        refine lv_aload_n hx hb d_M_tag_65 rfl (lv_at hl 2 rfl) ?_
        refine lv_iload hx hb d_M_tag_66 (lv_at hl 1 rfl) ?_
        refine lv_iload hx hb d_M_tag_68 (lv_at hl 0 rfl) ?_
        refine lv_iload hx hb d_M_tag_70 (lv_at hl 1 rfl) ?_
        refine lv_if_ne (tgt := 90) hx hb d_M_tag_72 (by decide) (fun c72 => ?_) (fun c72 => ?_)
        · refine lv_iconst (v := 0) hx hb d_M_tag_90 (by decide) ?_
          refine ad_cZi S I (ad_ivV (As := [.int 1, .int 1, .int 0]) (rest := []) S (ad_recv I C.1 K_Mod) w_611 w_613 sp_M_fails Y_M_fails ⟨by decide, by decide, np_M_fails⟩ rfl d_M_tag_91) (c_M_fails l G lo hp m0 bs th sd (nI ts.length) (nI lt.length) fs 1 1 0 C) Y_M_fails hl.1 ⟨Nat.le_of_ble_eq_true rfl, Nat.le_of_ble_eq_true rfl⟩ (Nat.le_of_ble_eq_true rfl) (Nat.le_of_ble_eq_true rfl) d_M_tag_91 (fun hp17 H1 locs1 hA I => ?_)
          obtain ⟨C17, F17⟩ := hA
          have C17 : MC G hp17 m0 bs 1 sd (nI ts.length) (nI lt.length) fs := C17
          refine ad_top (y := .int 1) (by rfl) ?_
          refine lv_if_eq (tgt := 99) hx hb d_M_tag_94 (by decide) (fun c94 => ?_) (fun c94 => ?_)
          · exact absurd c94 (by decide)
          · refine lv_iconst (v := 0) hx hb d_M_tag_97 (by decide) ?_
            exact ad_iret M I rfl (by omega) (by omega) (⟨by rw [(show q_tg ts (nI j) h0 p0 d0 = ((1, 0), ts) by simp only [q_tg]; rw [sp_at_n rfl ht hn]; simp only; rw [if_neg c17])], fs, by rw [(show q_tg ts (nI j) h0 p0 d0 = ((1, 0), ts) by simp only [q_tg]; rw [sp_at_n rfl ht hn]; simp only; rw [if_neg c17])]; exact C17, by rw [(show q_tg ts (nI j) h0 p0 d0 = ((1, 0), ts) by simp only [q_tg]; rw [sp_at_n rfl ht hn]; simp only; rw [if_neg c17])]; exact A, F17⟩) d_M_tag_98
        · exact absurd c72 (by decide)
      · rw [in_le h0 _ 1000000 (by decide), Decidable.not_not] at c36
        refine lv_iload hx hb d_M_tag_39 (lv_at hl 5 rfl) ?_
        refine lv_i2l (v := d0.toInt64) hx hb d_M_tag_41 rfl ?_
        refine lv_lconst (v := 0) hx hb d_M_tag_42 (by decide) ?_
        refine lv_ldc2 (v := 1000000) hx hb hown (hts _ w_694) d_M_tag_43 ?_
        refine ad_cPi S I (ad_ivS (As := [.long d0.toInt64, .long 0, .long 1000000]) (rest := []) S Y_M_in w_607 w_608 w_6 ⟨by decide, by decide, np_M_in⟩ rfl d_M_tag_46) (c_M_in l G lo hp d0.toInt64 0 1000000) Y_M_in hl.1 ⟨Nat.le_of_ble_eq_true rfl, Nat.le_of_ble_eq_true rfl⟩ (Nat.le_of_ble_eq_true rfl) (Nat.le_of_ble_eq_true rfl) d_M_tag_46 ?_
        refine lv_if_eq (tgt := 58) hx hb d_M_tag_49 (by decide) (fun c49 => ?_) (fun c49 => ?_)
        · rw [in_le d0 _ 1000000 (by decide)] at c49
          refine lv_iconst (v := 1) hx hb d_M_tag_58 (by decide) ?_
          refine lv_goto (tgt := 63) hx hb d_M_tag_59 (by decide) ?_
          refine lv_istore (lv' := [(6, .int 1), (5, .int 1), (0, .ref m0), (1, .int (nI j)), (2, .int h0), (3, .int p0), (4, .int d0)]) hx hb d_M_tag_63 hl (by decide) rfl (fun ls hl => ?_)
          refine lv_aload_n hx hb d_M_tag_65 rfl (lv_at hl 2 rfl) ?_
          refine lv_iload hx hb d_M_tag_66 (lv_at hl 1 rfl) ?_
          refine lv_iload hx hb d_M_tag_68 (lv_at hl 0 rfl) ?_
          refine lv_iload hx hb d_M_tag_70 (lv_at hl 1 rfl) ?_
          refine lv_if_ne (tgt := 90) hx hb d_M_tag_72 (by decide) (fun c72 => ?_) (fun c72 => ?_)
          · refine lv_iconst (v := 0) hx hb d_M_tag_90 (by decide) ?_
            refine ad_cZi S I (ad_ivV (As := [.int 1, .int 1, .int 0]) (rest := []) S (ad_recv I C.1 K_Mod) w_611 w_613 sp_M_fails Y_M_fails ⟨by decide, by decide, np_M_fails⟩ rfl d_M_tag_91) (c_M_fails l G lo hp m0 bs th sd (nI ts.length) (nI lt.length) fs 1 1 0 C) Y_M_fails hl.1 ⟨Nat.le_of_ble_eq_true rfl, Nat.le_of_ble_eq_true rfl⟩ (Nat.le_of_ble_eq_true rfl) (Nat.le_of_ble_eq_true rfl) d_M_tag_91 (fun hp18 H1 locs1 hA I => ?_)
            obtain ⟨C18, F18⟩ := hA
            have C18 : MC G hp18 m0 bs 1 sd (nI ts.length) (nI lt.length) fs := C18
            refine ad_top (y := .int 1) (by rfl) ?_
            refine lv_if_eq (tgt := 99) hx hb d_M_tag_94 (by decide) (fun c94 => ?_) (fun c94 => ?_)
            · exact absurd c94 (by decide)
            · refine lv_iconst (v := 0) hx hb d_M_tag_97 (by decide) ?_
              exact ad_iret M I rfl (by omega) (by omega) (⟨by rw [(show q_tg ts (nI j) h0 p0 d0 = ((1, 0), ts) by simp only [q_tg]; rw [sp_at_n rfl ht hn]; simp only; rw [if_neg c17])], fs, by rw [(show q_tg ts (nI j) h0 p0 d0 = ((1, 0), ts) by simp only [q_tg]; rw [sp_at_n rfl ht hn]; simp only; rw [if_neg c17])]; exact C18, by rw [(show q_tg ts (nI j) h0 p0 d0 = ((1, 0), ts) by simp only [q_tg]; rw [sp_at_n rfl ht hn]; simp only; rw [if_neg c17])]; exact A, F18⟩) d_M_tag_98
          · exact absurd c72 (by decide)
        · rw [in_le d0 _ 1000000 (by decide), Decidable.not_not] at c49
          refine lv_iload hx hb d_M_tag_52 (lv_at hl 5 rfl) ?_
          refine lv_iload_n hx hb d_M_tag_54 rfl (lv_at hl 3 rfl) ?_
          refine lv_icmp_ge (tgt := 62) hx hb d_M_tag_55 (by decide) (fun c55 => ?_) (fun c55 => ?_)
          · refine lv_iconst (v := 0) hx hb d_M_tag_62 (by decide) ?_
            refine lv_istore (lv' := [(6, .int 0), (5, .int 1), (0, .ref m0), (1, .int (nI j)), (2, .int h0), (3, .int p0), (4, .int d0)]) hx hb d_M_tag_63 hl (by decide) rfl (fun ls hl => ?_)
            refine lv_aload_n hx hb d_M_tag_65 rfl (lv_at hl 2 rfl) ?_
            refine lv_iload hx hb d_M_tag_66 (lv_at hl 1 rfl) ?_
            refine lv_iload hx hb d_M_tag_68 (lv_at hl 0 rfl) ?_
            refine lv_iload hx hb d_M_tag_70 (lv_at hl 1 rfl) ?_
            refine lv_if_ne (tgt := 90) hx hb d_M_tag_72 (by decide) (fun c72 => ?_) (fun c72 => ?_)
            · refine lv_iconst (v := 0) hx hb d_M_tag_90 (by decide) ?_
              refine ad_cZi S I (ad_ivV (As := [.int 1, .int 0, .int 0]) (rest := []) S (ad_recv I C.1 K_Mod) w_611 w_613 sp_M_fails Y_M_fails ⟨by decide, by decide, np_M_fails⟩ rfl d_M_tag_91) (c_M_fails l G lo hp m0 bs th sd (nI ts.length) (nI lt.length) fs 1 0 0 C) Y_M_fails hl.1 ⟨Nat.le_of_ble_eq_true rfl, Nat.le_of_ble_eq_true rfl⟩ (Nat.le_of_ble_eq_true rfl) (Nat.le_of_ble_eq_true rfl) d_M_tag_91 (fun hp19 H1 locs1 hA I => ?_)
              obtain ⟨C19, F19⟩ := hA
              have C19 : MC G hp19 m0 bs 1 sd (nI ts.length) (nI lt.length) fs := C19
              refine ad_top (y := .int 1) (by rfl) ?_
              refine lv_if_eq (tgt := 99) hx hb d_M_tag_94 (by decide) (fun c94 => ?_) (fun c94 => ?_)
              · exact absurd c94 (by decide)
              · refine lv_iconst (v := 0) hx hb d_M_tag_97 (by decide) ?_
                exact ad_iret M I rfl (by omega) (by omega) (⟨by rw [(show q_tg ts (nI j) h0 p0 d0 = ((1, 0), ts) by simp only [q_tg]; rw [sp_at_n rfl ht hn]; simp only; rw [if_neg c17])], fs, by rw [(show q_tg ts (nI j) h0 p0 d0 = ((1, 0), ts) by simp only [q_tg]; rw [sp_at_n rfl ht hn]; simp only; rw [if_neg c17])]; exact C19, by rw [(show q_tg ts (nI j) h0 p0 d0 = ((1, 0), ts) by simp only [q_tg]; rw [sp_at_n rfl ht hn]; simp only; rw [if_neg c17])]; exact A, F19⟩) d_M_tag_98
            · exact absurd c72 (by decide)
          · refine lv_iconst (v := 1) hx hb d_M_tag_58 (by decide) ?_
            refine lv_goto (tgt := 63) hx hb d_M_tag_59 (by decide) ?_
            refine lv_istore (lv' := [(6, .int 1), (5, .int 1), (0, .ref m0), (1, .int (nI j)), (2, .int h0), (3, .int p0), (4, .int d0)]) hx hb d_M_tag_63 hl (by decide) rfl (fun ls hl => ?_)
            refine lv_aload_n hx hb d_M_tag_65 rfl (lv_at hl 2 rfl) ?_
            refine lv_iload hx hb d_M_tag_66 (lv_at hl 1 rfl) ?_
            refine lv_iload hx hb d_M_tag_68 (lv_at hl 0 rfl) ?_
            refine lv_iload hx hb d_M_tag_70 (lv_at hl 1 rfl) ?_
            refine lv_if_ne (tgt := 90) hx hb d_M_tag_72 (by decide) (fun c72 => ?_) (fun c72 => ?_)
            · refine lv_iconst (v := 0) hx hb d_M_tag_90 (by decide) ?_
              refine ad_cZi S I (ad_ivV (As := [.int 1, .int 1, .int 0]) (rest := []) S (ad_recv I C.1 K_Mod) w_611 w_613 sp_M_fails Y_M_fails ⟨by decide, by decide, np_M_fails⟩ rfl d_M_tag_91) (c_M_fails l G lo hp m0 bs th sd (nI ts.length) (nI lt.length) fs 1 1 0 C) Y_M_fails hl.1 ⟨Nat.le_of_ble_eq_true rfl, Nat.le_of_ble_eq_true rfl⟩ (Nat.le_of_ble_eq_true rfl) (Nat.le_of_ble_eq_true rfl) d_M_tag_91 (fun hp20 H1 locs1 hA I => ?_)
              obtain ⟨C20, F20⟩ := hA
              have C20 : MC G hp20 m0 bs 1 sd (nI ts.length) (nI lt.length) fs := C20
              refine ad_top (y := .int 1) (by rfl) ?_
              refine lv_if_eq (tgt := 99) hx hb d_M_tag_94 (by decide) (fun c94 => ?_) (fun c94 => ?_)
              · exact absurd c94 (by decide)
              · refine lv_iconst (v := 0) hx hb d_M_tag_97 (by decide) ?_
                exact ad_iret M I rfl (by omega) (by omega) (⟨by rw [(show q_tg ts (nI j) h0 p0 d0 = ((1, 0), ts) by simp only [q_tg]; rw [sp_at_n rfl ht hn]; simp only; rw [if_neg c17])], fs, by rw [(show q_tg ts (nI j) h0 p0 d0 = ((1, 0), ts) by simp only [q_tg]; rw [sp_at_n rfl ht hn]; simp only; rw [if_neg c17])]; exact C20, by rw [(show q_tg ts (nI j) h0 p0 d0 = ((1, 0), ts) by simp only [q_tg]; rw [sp_at_n rfl ht hn]; simp only; rw [if_neg c17])]; exact A, F20⟩) d_M_tag_98
            · exact absurd c72 (by decide)
theorem mi_start {G : ad_G} {hp hp1 : ad_H} {a : Nat} {bs : Nat → Nat} (hO : hp1 a = some (.inr (5, [.int 0, .long 0, .int 0, .ref (bs 0), .ref (bs 1), .ref (bs 2), .int 0, .ref (bs 3), .ref (bs 4), .ref (bs 5), .ref (bs 6), .ref (bs 7), .ref (bs 8), .ref (bs 9), .ref (bs 10)])))
    (h0 : hp1 (bs 0) = some (.inl (G.2.1 0, 64, .inl (fun _ => 0)))) (h1 : hp1 (bs 1) = some (.inl (G.2.1 0, 64, .inl (fun _ => 0)))) (h2 : hp1 (bs 2) = some (.inl (G.2.1 0, 64, .inl (fun _ => 0)))) (h3 : hp1 (bs 3) = some (.inl (G.2.1 0, 64, .inl (fun _ => 0)))) (h4 : hp1 (bs 4) = some (.inl (G.2.1 0, 64, .inl (fun _ => 0)))) (h5 : hp1 (bs 5) = some (.inl (G.2.1 0, 64, .inl (fun _ => 0)))) (h6 : hp1 (bs 6) = some (.inl (G.2.1 0, 6, .inl (fun _ => 0)))) (h7 : hp1 (bs 7) = some (.inl (G.2.1 0, 64, .inl (fun _ => 0)))) (h8 : hp1 (bs 8) = some (.inl (G.2.1 0, 1536, .inl (fun _ => 0)))) (h9 : hp1 (bs 9) = some (.inl (G.2.1 0, 1536, .inl (fun _ => 0)))) (h10 : hp1 (bs 10) = some (.inl (G.2.1 0, 1536, .inl (fun _ => 0)))) (hnd : [bs 0, bs 1, bs 2, bs 3, bs 4, bs 5, bs 6, bs 7, bs 8, bs 9, bs 10].Nodup) (hN : hp (bs 0) = none ∧ hp (bs 1) = none ∧ hp (bs 2) = none ∧ hp (bs 3) = none ∧ hp (bs 4) = none ∧ hp (bs 5) = none ∧ hp (bs 6) = none ∧ hp (bs 7) = none ∧ hp (bs 8) = none ∧ hp (bs 9) = none ∧ hp (bs 10) = none) (hT : ∀ z, z ≠ a → hp z ≠ none → hp1 z = hp z) :
    (.inl none : ad_R) = .inl none ∧ ∃ bs : Nat → Nat, MC G hp1 a bs 0 0 0 0 (fun _ _ => 0) ∧ (∀ i, i < 11 → hp (bs i) = none) ∧ ∀ z, z ≠ a → hp z ≠ none → hp1 z = hp z := by
  refine ⟨rfl, bs, ⟨hO, fun i hi => ?_, fun i j hi hj h => ?_⟩, fun i hi => ?_, hT⟩
  · match i, hi with
    | 0, _ => exact h0
    | 1, _ => exact h1
    | 2, _ => exact h2
    | 3, _ => exact h3
    | 4, _ => exact h4
    | 5, _ => exact h5
    | 6, _ => exact h6
    | 7, _ => exact h7
    | 8, _ => exact h8
    | 9, _ => exact h9
    | 10, _ => exact h10
    | n + 11, h => omega
  · have hg : ∀ k, k < 11 → [bs 0, bs 1, bs 2, bs 3, bs 4, bs 5, bs 6, bs 7, bs 8, bs 9, bs 10][k]? = some (bs k) := fun k hk => by
      match k, hk with
      | 0, _ => rfl
      | 1, _ => rfl
      | 2, _ => rfl
      | 3, _ => rfl
      | 4, _ => rfl
      | 5, _ => rfl
      | 6, _ => rfl
      | 7, _ => rfl
      | 8, _ => rfl
      | 9, _ => rfl
      | 10, _ => rfl
      | n + 11, h => omega
    rcases Nat.lt_trichotomy i j with q | q | q
    · obtain ⟨u1, e1⟩ := List.getElem?_eq_some_iff.mp (hg i hi)
      obtain ⟨u2, e2⟩ := List.getElem?_eq_some_iff.mp (hg j hj)
      exact absurd (e1.trans (h.trans e2.symm)) (List.pairwise_iff_getElem.mp hnd i j u1 u2 q)
    · exact q
    · obtain ⟨u1, e1⟩ := List.getElem?_eq_some_iff.mp (hg i hi)
      obtain ⟨u2, e2⟩ := List.getElem?_eq_some_iff.mp (hg j hj)
      exact absurd (e2.trans (h.symm.trans e1.symm)) (List.pairwise_iff_getElem.mp hnd j i u2 u1 q)
  · obtain ⟨n0, n1, n2, n3, n4, n5, n6, n7, n8, n9, n10⟩ := hN
    match i, hi with
    | 0, _ => exact n0
    | 1, _ => exact n1
    | 2, _ => exact n2
    | 3, _ => exact n3
    | 4, _ => exact n4
    | 5, _ => exact n5
    | 6, _ => exact n6
    | 7, _ => exact n7
    | 8, _ => exact n8
    | 9, _ => exact n9
    | 10, _ => exact n10
    | n + 11, h => omega
set_option maxHeartbeats 4000000 in
set_option maxRecDepth 100000 in
theorem c_M_init (l : Launch) (G : ad_G) (lo : Nat) (hp : ad_H) (a : Nat) (h : hp a = some (.inr (5, [.int 0, .long 0, .int 0, .null, .null, .null, .int 0, .null, .null, .null, .null, .null, .null, .null, .null]))) : ad_Ct l y_M_init b_M_init 1 rt_M_init hs_M_init 2 11 5062 G lo hp [.ref a] (fun r hp' => r = .inl none ∧ ∃ bs : Nat → Nat, MC G hp' a bs 0 0 0 0 (fun _ _ => 0) ∧ (∀ i, i < 11 → hp (bs i) = none) ∧ ∀ z, z ≠ a → hp z ≠ none → hp' z = hp z) := by
  intro p e s m below meth c M hts hB hP
  have hx := M.1
  have hb := M.2.1
  have hml := M.2.2.1
  have hown : s.vm.findClass "AuditDrawsModel" = some m.cls := M.2.2.2.1
  have S : CallFix p m c b_M_init 1 s _ ad_T "AuditDrawsModel" := ⟨hx, hb, hml, hown, hts⟩
  have I : ad_I G lo s hp s.heap [] := ad_I.rf hB hP
  have hl := lv_entry ([.ref a]) (n := 1) (Nat.le_of_ble_eq_true rfl)
  rw [lg_entry_eq]
  generalize (lg_sl ([.ref a]) ++ List.replicate (1 - (lg_sl ([.ref a])).length) Slot.unset).toArray = ls at hl ⊢
  have hl : lv_has ls 1 [(0, .ref a)] := hl
  have hin : meth.name = "<init>" := M.2.2.2.2.2.2.2
  have T_hp : ∀ z, z ≠ a → hp z ≠ none → hp z = hp z := fun _ _ _ => rfl
  refine lv_aload_n hx hb d_M_init_0 rfl (lv_at hl 0 rfl) ?_
  refine W.objInit hx hb hown (hts _ w_547) (hts _ w_28) (hts _ w_29) rfl (by rw [hml]; exact hl.1) rfl d_M_init_1 (Nat.le_of_ble_eq_true rfl) (Nat.le_of_ble_eq_true rfl) ?_
  refine W.eq (g2 := F0 m 4 ls []) rfl ?_
  refine lv_aload_n hx hb d_M_init_4 rfl (lv_at hl 0 rfl) ?_
  refine lv_bipush (v := 64) hx hb d_M_init_5 (by decide) ?_
  refine ad_newa (atype := .int) S I w_86 rfl 0 rfl (fun _ => rfl) (a0 := (64, .inl (fun _ => 0))) rfl (by decide) (N' := 64) (by decide) (by decide) (Nat.le_of_ble_eq_true rfl) (Nat.le_of_ble_eq_true rfl) d_M_init_7 (fun ar1 H1 n1 I => ?_)
  obtain ⟨hp1, ehp1⟩ : ∃ z : ad_H, z = ad_up hp ar1 (.inl (G.2.1 0, 64, .inl (fun _ => 0))) := ⟨_, rfl⟩
  rw [← ehp1] at I
  have u1_0 : hp1 ar1 = some (.inl (G.2.1 0, 64, .inl (fun _ => 0))) := by rw [ehp1]; exact ad_up_s _ _ _
  have k1 : ∀ z, z ≠ ar1 → hp1 z = hp z := fun z hz => by rw [ehp1]; exact ad_up_n _ hz
  have ne_a_ar1 : a ≠ ar1 := ad_nn n1 h
  have fhp1_a := (k1 a ne_a_ar1).trans h
  have F_ar1 : ∀ z, z ≠ a → hp z ≠ none → z ≠ ar1 := fun z hz h hh => h ((T_hp z hz h).symm.trans (by rw [hh]; exact n1))
  have N_ar1 : hp ar1 = none := ad_tn T_hp (ad_nn n1 h) n1
  have T_hp1 : ∀ z, z ≠ a → hp z ≠ none → hp1 z = hp z := fun z hz h => (k1 z (F_ar1 z hz h)).trans (T_hp z hz h)
  refine ad_putF S I fhp1_a K_Mod 3 (by decide) w_551 rfl hin rfl rfl rfl (by simp) d_M_init_9 (fun H1 locs1 I => ?_)
  obtain ⟨hp2, ehp2⟩ : ∃ z : ad_H, z = ad_up hp1 a (.inr (5, [.int 0, .long 0, .int 0, .ref ar1, .null, .null, .int 0, .null, .null, .null, .null, .null, .null, .null, .null])) := ⟨_, rfl⟩
  have I : ad_I G lo s hp2 H1 locs1 := by rw [ehp2]; exact I
  have fhp2_a : hp2 a = some (.inr (5, [.int 0, .long 0, .int 0, .ref ar1, .null, .null, .int 0, .null, .null, .null, .null, .null, .null, .null, .null])) := by rw [ehp2]; exact ad_up_s _ _ _
  have fhp2_ar1 := (show hp2 ar1 = hp1 ar1 by rw [ehp2]; exact ad_up_n _ ((ne_a_ar1).symm)).trans u1_0
  have T_hp2 : ∀ z, z ≠ a → hp z ≠ none → hp2 z = hp z := fun z hz h => by rw [ehp2, ad_up_n _ hz]; exact T_hp1 z hz h
  refine lv_aload_n hx hb d_M_init_12 rfl (lv_at hl 0 rfl) ?_
  refine lv_bipush (v := 64) hx hb d_M_init_13 (by decide) ?_
  refine ad_newa (atype := .int) S I w_86 rfl 0 rfl (fun _ => rfl) (a0 := (64, .inl (fun _ => 0))) rfl (by decide) (N' := 64) (by decide) (by decide) (Nat.le_of_ble_eq_true rfl) (Nat.le_of_ble_eq_true rfl) d_M_init_15 (fun ar3 H1 n3 I => ?_)
  obtain ⟨hp3, ehp3⟩ : ∃ z : ad_H, z = ad_up hp2 ar3 (.inl (G.2.1 0, 64, .inl (fun _ => 0))) := ⟨_, rfl⟩
  rw [← ehp3] at I
  have u3_0 : hp3 ar3 = some (.inl (G.2.1 0, 64, .inl (fun _ => 0))) := by rw [ehp3]; exact ad_up_s _ _ _
  have k3 : ∀ z, z ≠ ar3 → hp3 z = hp2 z := fun z hz => by rw [ehp3]; exact ad_up_n _ hz
  have ne_a_ar3 : a ≠ ar3 := ad_nn n3 fhp2_a
  have fhp3_a := (k3 a ne_a_ar3).trans fhp2_a
  have ne_ar1_ar3 : ar1 ≠ ar3 := ad_nn n3 fhp2_ar1
  have fhp3_ar1 := (k3 ar1 ne_ar1_ar3).trans fhp2_ar1
  have F_ar3 : ∀ z, z ≠ a → hp z ≠ none → z ≠ ar3 := fun z hz h hh => h ((T_hp2 z hz h).symm.trans (by rw [hh]; exact n3))
  have N_ar3 : hp ar3 = none := ad_tn T_hp2 (ad_nn n3 fhp2_a) n3
  have T_hp3 : ∀ z, z ≠ a → hp z ≠ none → hp3 z = hp z := fun z hz h => (k3 z (F_ar3 z hz h)).trans (T_hp2 z hz h)
  refine ad_putF S I fhp3_a K_Mod 4 (by decide) w_552 rfl hin rfl rfl rfl (by simp) d_M_init_17 (fun H1 locs1 I => ?_)
  obtain ⟨hp4, ehp4⟩ : ∃ z : ad_H, z = ad_up hp3 a (.inr (5, [.int 0, .long 0, .int 0, .ref ar1, .ref ar3, .null, .int 0, .null, .null, .null, .null, .null, .null, .null, .null])) := ⟨_, rfl⟩
  have I : ad_I G lo s hp4 H1 locs1 := by rw [ehp4]; exact I
  have fhp4_a : hp4 a = some (.inr (5, [.int 0, .long 0, .int 0, .ref ar1, .ref ar3, .null, .int 0, .null, .null, .null, .null, .null, .null, .null, .null])) := by rw [ehp4]; exact ad_up_s _ _ _
  have fhp4_ar1 := (show hp4 ar1 = hp3 ar1 by rw [ehp4]; exact ad_up_n _ ((ne_a_ar1).symm)).trans fhp3_ar1
  have fhp4_ar3 := (show hp4 ar3 = hp3 ar3 by rw [ehp4]; exact ad_up_n _ ((ne_a_ar3).symm)).trans u3_0
  have T_hp4 : ∀ z, z ≠ a → hp z ≠ none → hp4 z = hp z := fun z hz h => by rw [ehp4, ad_up_n _ hz]; exact T_hp3 z hz h
  refine lv_aload_n hx hb d_M_init_20 rfl (lv_at hl 0 rfl) ?_
  refine lv_bipush (v := 64) hx hb d_M_init_21 (by decide) ?_
  refine ad_newa (atype := .int) S I w_86 rfl 0 rfl (fun _ => rfl) (a0 := (64, .inl (fun _ => 0))) rfl (by decide) (N' := 64) (by decide) (by decide) (Nat.le_of_ble_eq_true rfl) (Nat.le_of_ble_eq_true rfl) d_M_init_23 (fun ar5 H1 n5 I => ?_)
  obtain ⟨hp5, ehp5⟩ : ∃ z : ad_H, z = ad_up hp4 ar5 (.inl (G.2.1 0, 64, .inl (fun _ => 0))) := ⟨_, rfl⟩
  rw [← ehp5] at I
  have u5_0 : hp5 ar5 = some (.inl (G.2.1 0, 64, .inl (fun _ => 0))) := by rw [ehp5]; exact ad_up_s _ _ _
  have k5 : ∀ z, z ≠ ar5 → hp5 z = hp4 z := fun z hz => by rw [ehp5]; exact ad_up_n _ hz
  have ne_a_ar5 : a ≠ ar5 := ad_nn n5 fhp4_a
  have fhp5_a := (k5 a ne_a_ar5).trans fhp4_a
  have ne_ar1_ar5 : ar1 ≠ ar5 := ad_nn n5 fhp4_ar1
  have fhp5_ar1 := (k5 ar1 ne_ar1_ar5).trans fhp4_ar1
  have ne_ar3_ar5 : ar3 ≠ ar5 := ad_nn n5 fhp4_ar3
  have fhp5_ar3 := (k5 ar3 ne_ar3_ar5).trans fhp4_ar3
  have F_ar5 : ∀ z, z ≠ a → hp z ≠ none → z ≠ ar5 := fun z hz h hh => h ((T_hp4 z hz h).symm.trans (by rw [hh]; exact n5))
  have N_ar5 : hp ar5 = none := ad_tn T_hp4 (ad_nn n5 fhp4_a) n5
  have T_hp5 : ∀ z, z ≠ a → hp z ≠ none → hp5 z = hp z := fun z hz h => (k5 z (F_ar5 z hz h)).trans (T_hp4 z hz h)
  refine ad_putF S I fhp5_a K_Mod 5 (by decide) w_553 rfl hin rfl rfl rfl (by simp) d_M_init_25 (fun H1 locs1 I => ?_)
  obtain ⟨hp6, ehp6⟩ : ∃ z : ad_H, z = ad_up hp5 a (.inr (5, [.int 0, .long 0, .int 0, .ref ar1, .ref ar3, .ref ar5, .int 0, .null, .null, .null, .null, .null, .null, .null, .null])) := ⟨_, rfl⟩
  have I : ad_I G lo s hp6 H1 locs1 := by rw [ehp6]; exact I
  have fhp6_a : hp6 a = some (.inr (5, [.int 0, .long 0, .int 0, .ref ar1, .ref ar3, .ref ar5, .int 0, .null, .null, .null, .null, .null, .null, .null, .null])) := by rw [ehp6]; exact ad_up_s _ _ _
  have fhp6_ar1 := (show hp6 ar1 = hp5 ar1 by rw [ehp6]; exact ad_up_n _ ((ne_a_ar1).symm)).trans fhp5_ar1
  have fhp6_ar3 := (show hp6 ar3 = hp5 ar3 by rw [ehp6]; exact ad_up_n _ ((ne_a_ar3).symm)).trans fhp5_ar3
  have fhp6_ar5 := (show hp6 ar5 = hp5 ar5 by rw [ehp6]; exact ad_up_n _ ((ne_a_ar5).symm)).trans u5_0
  have T_hp6 : ∀ z, z ≠ a → hp z ≠ none → hp6 z = hp z := fun z hz h => by rw [ehp6, ad_up_n _ hz]; exact T_hp5 z hz h
  refine lv_aload_n hx hb d_M_init_28 rfl (lv_at hl 0 rfl) ?_
  refine lv_bipush (v := 64) hx hb d_M_init_29 (by decide) ?_
  refine ad_newa (atype := .int) S I w_86 rfl 0 rfl (fun _ => rfl) (a0 := (64, .inl (fun _ => 0))) rfl (by decide) (N' := 64) (by decide) (by decide) (Nat.le_of_ble_eq_true rfl) (Nat.le_of_ble_eq_true rfl) d_M_init_31 (fun ar7 H1 n7 I => ?_)
  obtain ⟨hp7, ehp7⟩ : ∃ z : ad_H, z = ad_up hp6 ar7 (.inl (G.2.1 0, 64, .inl (fun _ => 0))) := ⟨_, rfl⟩
  rw [← ehp7] at I
  have u7_0 : hp7 ar7 = some (.inl (G.2.1 0, 64, .inl (fun _ => 0))) := by rw [ehp7]; exact ad_up_s _ _ _
  have k7 : ∀ z, z ≠ ar7 → hp7 z = hp6 z := fun z hz => by rw [ehp7]; exact ad_up_n _ hz
  have ne_a_ar7 : a ≠ ar7 := ad_nn n7 fhp6_a
  have fhp7_a := (k7 a ne_a_ar7).trans fhp6_a
  have ne_ar1_ar7 : ar1 ≠ ar7 := ad_nn n7 fhp6_ar1
  have fhp7_ar1 := (k7 ar1 ne_ar1_ar7).trans fhp6_ar1
  have ne_ar3_ar7 : ar3 ≠ ar7 := ad_nn n7 fhp6_ar3
  have fhp7_ar3 := (k7 ar3 ne_ar3_ar7).trans fhp6_ar3
  have ne_ar5_ar7 : ar5 ≠ ar7 := ad_nn n7 fhp6_ar5
  have fhp7_ar5 := (k7 ar5 ne_ar5_ar7).trans fhp6_ar5
  have F_ar7 : ∀ z, z ≠ a → hp z ≠ none → z ≠ ar7 := fun z hz h hh => h ((T_hp6 z hz h).symm.trans (by rw [hh]; exact n7))
  have N_ar7 : hp ar7 = none := ad_tn T_hp6 (ad_nn n7 fhp6_a) n7
  have T_hp7 : ∀ z, z ≠ a → hp z ≠ none → hp7 z = hp z := fun z hz h => (k7 z (F_ar7 z hz h)).trans (T_hp6 z hz h)
  refine ad_putF S I fhp7_a K_Mod 7 (by decide) w_555 rfl hin rfl rfl rfl (by simp) d_M_init_33 (fun H1 locs1 I => ?_)
  obtain ⟨hp8, ehp8⟩ : ∃ z : ad_H, z = ad_up hp7 a (.inr (5, [.int 0, .long 0, .int 0, .ref ar1, .ref ar3, .ref ar5, .int 0, .ref ar7, .null, .null, .null, .null, .null, .null, .null])) := ⟨_, rfl⟩
  have I : ad_I G lo s hp8 H1 locs1 := by rw [ehp8]; exact I
  have fhp8_a : hp8 a = some (.inr (5, [.int 0, .long 0, .int 0, .ref ar1, .ref ar3, .ref ar5, .int 0, .ref ar7, .null, .null, .null, .null, .null, .null, .null])) := by rw [ehp8]; exact ad_up_s _ _ _
  have fhp8_ar1 := (show hp8 ar1 = hp7 ar1 by rw [ehp8]; exact ad_up_n _ ((ne_a_ar1).symm)).trans fhp7_ar1
  have fhp8_ar3 := (show hp8 ar3 = hp7 ar3 by rw [ehp8]; exact ad_up_n _ ((ne_a_ar3).symm)).trans fhp7_ar3
  have fhp8_ar5 := (show hp8 ar5 = hp7 ar5 by rw [ehp8]; exact ad_up_n _ ((ne_a_ar5).symm)).trans fhp7_ar5
  have fhp8_ar7 := (show hp8 ar7 = hp7 ar7 by rw [ehp8]; exact ad_up_n _ ((ne_a_ar7).symm)).trans u7_0
  have T_hp8 : ∀ z, z ≠ a → hp z ≠ none → hp8 z = hp z := fun z hz h => by rw [ehp8, ad_up_n _ hz]; exact T_hp7 z hz h
  refine lv_aload_n hx hb d_M_init_36 rfl (lv_at hl 0 rfl) ?_
  refine lv_bipush (v := 64) hx hb d_M_init_37 (by decide) ?_
  refine ad_newa (atype := .int) S I w_86 rfl 0 rfl (fun _ => rfl) (a0 := (64, .inl (fun _ => 0))) rfl (by decide) (N' := 64) (by decide) (by decide) (Nat.le_of_ble_eq_true rfl) (Nat.le_of_ble_eq_true rfl) d_M_init_39 (fun ar9 H1 n9 I => ?_)
  obtain ⟨hp9, ehp9⟩ : ∃ z : ad_H, z = ad_up hp8 ar9 (.inl (G.2.1 0, 64, .inl (fun _ => 0))) := ⟨_, rfl⟩
  rw [← ehp9] at I
  have u9_0 : hp9 ar9 = some (.inl (G.2.1 0, 64, .inl (fun _ => 0))) := by rw [ehp9]; exact ad_up_s _ _ _
  have k9 : ∀ z, z ≠ ar9 → hp9 z = hp8 z := fun z hz => by rw [ehp9]; exact ad_up_n _ hz
  have ne_a_ar9 : a ≠ ar9 := ad_nn n9 fhp8_a
  have fhp9_a := (k9 a ne_a_ar9).trans fhp8_a
  have ne_ar1_ar9 : ar1 ≠ ar9 := ad_nn n9 fhp8_ar1
  have fhp9_ar1 := (k9 ar1 ne_ar1_ar9).trans fhp8_ar1
  have ne_ar3_ar9 : ar3 ≠ ar9 := ad_nn n9 fhp8_ar3
  have fhp9_ar3 := (k9 ar3 ne_ar3_ar9).trans fhp8_ar3
  have ne_ar5_ar9 : ar5 ≠ ar9 := ad_nn n9 fhp8_ar5
  have fhp9_ar5 := (k9 ar5 ne_ar5_ar9).trans fhp8_ar5
  have ne_ar7_ar9 : ar7 ≠ ar9 := ad_nn n9 fhp8_ar7
  have fhp9_ar7 := (k9 ar7 ne_ar7_ar9).trans fhp8_ar7
  have F_ar9 : ∀ z, z ≠ a → hp z ≠ none → z ≠ ar9 := fun z hz h hh => h ((T_hp8 z hz h).symm.trans (by rw [hh]; exact n9))
  have N_ar9 : hp ar9 = none := ad_tn T_hp8 (ad_nn n9 fhp8_a) n9
  have T_hp9 : ∀ z, z ≠ a → hp z ≠ none → hp9 z = hp z := fun z hz h => (k9 z (F_ar9 z hz h)).trans (T_hp8 z hz h)
  refine ad_putF S I fhp9_a K_Mod 8 (by decide) w_556 rfl hin rfl rfl rfl (by simp) d_M_init_41 (fun H1 locs1 I => ?_)
  obtain ⟨hp10, ehp10⟩ : ∃ z : ad_H, z = ad_up hp9 a (.inr (5, [.int 0, .long 0, .int 0, .ref ar1, .ref ar3, .ref ar5, .int 0, .ref ar7, .ref ar9, .null, .null, .null, .null, .null, .null])) := ⟨_, rfl⟩
  have I : ad_I G lo s hp10 H1 locs1 := by rw [ehp10]; exact I
  have fhp10_a : hp10 a = some (.inr (5, [.int 0, .long 0, .int 0, .ref ar1, .ref ar3, .ref ar5, .int 0, .ref ar7, .ref ar9, .null, .null, .null, .null, .null, .null])) := by rw [ehp10]; exact ad_up_s _ _ _
  have fhp10_ar1 := (show hp10 ar1 = hp9 ar1 by rw [ehp10]; exact ad_up_n _ ((ne_a_ar1).symm)).trans fhp9_ar1
  have fhp10_ar3 := (show hp10 ar3 = hp9 ar3 by rw [ehp10]; exact ad_up_n _ ((ne_a_ar3).symm)).trans fhp9_ar3
  have fhp10_ar5 := (show hp10 ar5 = hp9 ar5 by rw [ehp10]; exact ad_up_n _ ((ne_a_ar5).symm)).trans fhp9_ar5
  have fhp10_ar7 := (show hp10 ar7 = hp9 ar7 by rw [ehp10]; exact ad_up_n _ ((ne_a_ar7).symm)).trans fhp9_ar7
  have fhp10_ar9 := (show hp10 ar9 = hp9 ar9 by rw [ehp10]; exact ad_up_n _ ((ne_a_ar9).symm)).trans u9_0
  have T_hp10 : ∀ z, z ≠ a → hp z ≠ none → hp10 z = hp z := fun z hz h => by rw [ehp10, ad_up_n _ hz]; exact T_hp9 z hz h
  refine lv_aload_n hx hb d_M_init_44 rfl (lv_at hl 0 rfl) ?_
  refine lv_bipush (v := 64) hx hb d_M_init_45 (by decide) ?_
  refine ad_newa (atype := .int) S I w_86 rfl 0 rfl (fun _ => rfl) (a0 := (64, .inl (fun _ => 0))) rfl (by decide) (N' := 64) (by decide) (by decide) (Nat.le_of_ble_eq_true rfl) (Nat.le_of_ble_eq_true rfl) d_M_init_47 (fun ar11 H1 n11 I => ?_)
  obtain ⟨hp11, ehp11⟩ : ∃ z : ad_H, z = ad_up hp10 ar11 (.inl (G.2.1 0, 64, .inl (fun _ => 0))) := ⟨_, rfl⟩
  rw [← ehp11] at I
  have u11_0 : hp11 ar11 = some (.inl (G.2.1 0, 64, .inl (fun _ => 0))) := by rw [ehp11]; exact ad_up_s _ _ _
  have k11 : ∀ z, z ≠ ar11 → hp11 z = hp10 z := fun z hz => by rw [ehp11]; exact ad_up_n _ hz
  have ne_a_ar11 : a ≠ ar11 := ad_nn n11 fhp10_a
  have fhp11_a := (k11 a ne_a_ar11).trans fhp10_a
  have ne_ar1_ar11 : ar1 ≠ ar11 := ad_nn n11 fhp10_ar1
  have fhp11_ar1 := (k11 ar1 ne_ar1_ar11).trans fhp10_ar1
  have ne_ar3_ar11 : ar3 ≠ ar11 := ad_nn n11 fhp10_ar3
  have fhp11_ar3 := (k11 ar3 ne_ar3_ar11).trans fhp10_ar3
  have ne_ar5_ar11 : ar5 ≠ ar11 := ad_nn n11 fhp10_ar5
  have fhp11_ar5 := (k11 ar5 ne_ar5_ar11).trans fhp10_ar5
  have ne_ar7_ar11 : ar7 ≠ ar11 := ad_nn n11 fhp10_ar7
  have fhp11_ar7 := (k11 ar7 ne_ar7_ar11).trans fhp10_ar7
  have ne_ar9_ar11 : ar9 ≠ ar11 := ad_nn n11 fhp10_ar9
  have fhp11_ar9 := (k11 ar9 ne_ar9_ar11).trans fhp10_ar9
  have F_ar11 : ∀ z, z ≠ a → hp z ≠ none → z ≠ ar11 := fun z hz h hh => h ((T_hp10 z hz h).symm.trans (by rw [hh]; exact n11))
  have N_ar11 : hp ar11 = none := ad_tn T_hp10 (ad_nn n11 fhp10_a) n11
  have T_hp11 : ∀ z, z ≠ a → hp z ≠ none → hp11 z = hp z := fun z hz h => (k11 z (F_ar11 z hz h)).trans (T_hp10 z hz h)
  refine ad_putF S I fhp11_a K_Mod 9 (by decide) w_557 rfl hin rfl rfl rfl (by simp) d_M_init_49 (fun H1 locs1 I => ?_)
  obtain ⟨hp12, ehp12⟩ : ∃ z : ad_H, z = ad_up hp11 a (.inr (5, [.int 0, .long 0, .int 0, .ref ar1, .ref ar3, .ref ar5, .int 0, .ref ar7, .ref ar9, .ref ar11, .null, .null, .null, .null, .null])) := ⟨_, rfl⟩
  have I : ad_I G lo s hp12 H1 locs1 := by rw [ehp12]; exact I
  have fhp12_a : hp12 a = some (.inr (5, [.int 0, .long 0, .int 0, .ref ar1, .ref ar3, .ref ar5, .int 0, .ref ar7, .ref ar9, .ref ar11, .null, .null, .null, .null, .null])) := by rw [ehp12]; exact ad_up_s _ _ _
  have fhp12_ar1 := (show hp12 ar1 = hp11 ar1 by rw [ehp12]; exact ad_up_n _ ((ne_a_ar1).symm)).trans fhp11_ar1
  have fhp12_ar3 := (show hp12 ar3 = hp11 ar3 by rw [ehp12]; exact ad_up_n _ ((ne_a_ar3).symm)).trans fhp11_ar3
  have fhp12_ar5 := (show hp12 ar5 = hp11 ar5 by rw [ehp12]; exact ad_up_n _ ((ne_a_ar5).symm)).trans fhp11_ar5
  have fhp12_ar7 := (show hp12 ar7 = hp11 ar7 by rw [ehp12]; exact ad_up_n _ ((ne_a_ar7).symm)).trans fhp11_ar7
  have fhp12_ar9 := (show hp12 ar9 = hp11 ar9 by rw [ehp12]; exact ad_up_n _ ((ne_a_ar9).symm)).trans fhp11_ar9
  have fhp12_ar11 := (show hp12 ar11 = hp11 ar11 by rw [ehp12]; exact ad_up_n _ ((ne_a_ar11).symm)).trans u11_0
  have T_hp12 : ∀ z, z ≠ a → hp z ≠ none → hp12 z = hp z := fun z hz h => by rw [ehp12, ad_up_n _ hz]; exact T_hp11 z hz h
  refine lv_aload_n hx hb d_M_init_52 rfl (lv_at hl 0 rfl) ?_
  refine lv_bipush (v := 6) hx hb d_M_init_53 (by decide) ?_
  refine ad_newa (atype := .int) S I w_86 rfl 0 rfl (fun _ => rfl) (a0 := (6, .inl (fun _ => 0))) rfl (by decide) (N' := 6) (by decide) (by decide) (Nat.le_of_ble_eq_true rfl) (Nat.le_of_ble_eq_true rfl) d_M_init_55 (fun ar13 H1 n13 I => ?_)
  obtain ⟨hp13, ehp13⟩ : ∃ z : ad_H, z = ad_up hp12 ar13 (.inl (G.2.1 0, 6, .inl (fun _ => 0))) := ⟨_, rfl⟩
  rw [← ehp13] at I
  have u13_0 : hp13 ar13 = some (.inl (G.2.1 0, 6, .inl (fun _ => 0))) := by rw [ehp13]; exact ad_up_s _ _ _
  have k13 : ∀ z, z ≠ ar13 → hp13 z = hp12 z := fun z hz => by rw [ehp13]; exact ad_up_n _ hz
  have ne_a_ar13 : a ≠ ar13 := ad_nn n13 fhp12_a
  have fhp13_a := (k13 a ne_a_ar13).trans fhp12_a
  have ne_ar1_ar13 : ar1 ≠ ar13 := ad_nn n13 fhp12_ar1
  have fhp13_ar1 := (k13 ar1 ne_ar1_ar13).trans fhp12_ar1
  have ne_ar3_ar13 : ar3 ≠ ar13 := ad_nn n13 fhp12_ar3
  have fhp13_ar3 := (k13 ar3 ne_ar3_ar13).trans fhp12_ar3
  have ne_ar5_ar13 : ar5 ≠ ar13 := ad_nn n13 fhp12_ar5
  have fhp13_ar5 := (k13 ar5 ne_ar5_ar13).trans fhp12_ar5
  have ne_ar7_ar13 : ar7 ≠ ar13 := ad_nn n13 fhp12_ar7
  have fhp13_ar7 := (k13 ar7 ne_ar7_ar13).trans fhp12_ar7
  have ne_ar9_ar13 : ar9 ≠ ar13 := ad_nn n13 fhp12_ar9
  have fhp13_ar9 := (k13 ar9 ne_ar9_ar13).trans fhp12_ar9
  have ne_ar11_ar13 : ar11 ≠ ar13 := ad_nn n13 fhp12_ar11
  have fhp13_ar11 := (k13 ar11 ne_ar11_ar13).trans fhp12_ar11
  have F_ar13 : ∀ z, z ≠ a → hp z ≠ none → z ≠ ar13 := fun z hz h hh => h ((T_hp12 z hz h).symm.trans (by rw [hh]; exact n13))
  have N_ar13 : hp ar13 = none := ad_tn T_hp12 (ad_nn n13 fhp12_a) n13
  have T_hp13 : ∀ z, z ≠ a → hp z ≠ none → hp13 z = hp z := fun z hz h => (k13 z (F_ar13 z hz h)).trans (T_hp12 z hz h)
  refine ad_putF S I fhp13_a K_Mod 10 (by decide) w_558 rfl hin rfl rfl rfl (by simp) d_M_init_57 (fun H1 locs1 I => ?_)
  obtain ⟨hp14, ehp14⟩ : ∃ z : ad_H, z = ad_up hp13 a (.inr (5, [.int 0, .long 0, .int 0, .ref ar1, .ref ar3, .ref ar5, .int 0, .ref ar7, .ref ar9, .ref ar11, .ref ar13, .null, .null, .null, .null])) := ⟨_, rfl⟩
  have I : ad_I G lo s hp14 H1 locs1 := by rw [ehp14]; exact I
  have fhp14_a : hp14 a = some (.inr (5, [.int 0, .long 0, .int 0, .ref ar1, .ref ar3, .ref ar5, .int 0, .ref ar7, .ref ar9, .ref ar11, .ref ar13, .null, .null, .null, .null])) := by rw [ehp14]; exact ad_up_s _ _ _
  have fhp14_ar1 := (show hp14 ar1 = hp13 ar1 by rw [ehp14]; exact ad_up_n _ ((ne_a_ar1).symm)).trans fhp13_ar1
  have fhp14_ar3 := (show hp14 ar3 = hp13 ar3 by rw [ehp14]; exact ad_up_n _ ((ne_a_ar3).symm)).trans fhp13_ar3
  have fhp14_ar5 := (show hp14 ar5 = hp13 ar5 by rw [ehp14]; exact ad_up_n _ ((ne_a_ar5).symm)).trans fhp13_ar5
  have fhp14_ar7 := (show hp14 ar7 = hp13 ar7 by rw [ehp14]; exact ad_up_n _ ((ne_a_ar7).symm)).trans fhp13_ar7
  have fhp14_ar9 := (show hp14 ar9 = hp13 ar9 by rw [ehp14]; exact ad_up_n _ ((ne_a_ar9).symm)).trans fhp13_ar9
  have fhp14_ar11 := (show hp14 ar11 = hp13 ar11 by rw [ehp14]; exact ad_up_n _ ((ne_a_ar11).symm)).trans fhp13_ar11
  have fhp14_ar13 := (show hp14 ar13 = hp13 ar13 by rw [ehp14]; exact ad_up_n _ ((ne_a_ar13).symm)).trans u13_0
  have T_hp14 : ∀ z, z ≠ a → hp z ≠ none → hp14 z = hp z := fun z hz h => by rw [ehp14, ad_up_n _ hz]; exact T_hp13 z hz h
  refine lv_aload_n hx hb d_M_init_60 rfl (lv_at hl 0 rfl) ?_
  refine lv_bipush (v := 64) hx hb d_M_init_61 (by decide) ?_
  refine ad_newa (atype := .int) S I w_86 rfl 0 rfl (fun _ => rfl) (a0 := (64, .inl (fun _ => 0))) rfl (by decide) (N' := 64) (by decide) (by decide) (Nat.le_of_ble_eq_true rfl) (Nat.le_of_ble_eq_true rfl) d_M_init_63 (fun ar15 H1 n15 I => ?_)
  obtain ⟨hp15, ehp15⟩ : ∃ z : ad_H, z = ad_up hp14 ar15 (.inl (G.2.1 0, 64, .inl (fun _ => 0))) := ⟨_, rfl⟩
  rw [← ehp15] at I
  have u15_0 : hp15 ar15 = some (.inl (G.2.1 0, 64, .inl (fun _ => 0))) := by rw [ehp15]; exact ad_up_s _ _ _
  have k15 : ∀ z, z ≠ ar15 → hp15 z = hp14 z := fun z hz => by rw [ehp15]; exact ad_up_n _ hz
  have ne_a_ar15 : a ≠ ar15 := ad_nn n15 fhp14_a
  have fhp15_a := (k15 a ne_a_ar15).trans fhp14_a
  have ne_ar1_ar15 : ar1 ≠ ar15 := ad_nn n15 fhp14_ar1
  have fhp15_ar1 := (k15 ar1 ne_ar1_ar15).trans fhp14_ar1
  have ne_ar3_ar15 : ar3 ≠ ar15 := ad_nn n15 fhp14_ar3
  have fhp15_ar3 := (k15 ar3 ne_ar3_ar15).trans fhp14_ar3
  have ne_ar5_ar15 : ar5 ≠ ar15 := ad_nn n15 fhp14_ar5
  have fhp15_ar5 := (k15 ar5 ne_ar5_ar15).trans fhp14_ar5
  have ne_ar7_ar15 : ar7 ≠ ar15 := ad_nn n15 fhp14_ar7
  have fhp15_ar7 := (k15 ar7 ne_ar7_ar15).trans fhp14_ar7
  have ne_ar9_ar15 : ar9 ≠ ar15 := ad_nn n15 fhp14_ar9
  have fhp15_ar9 := (k15 ar9 ne_ar9_ar15).trans fhp14_ar9
  have ne_ar11_ar15 : ar11 ≠ ar15 := ad_nn n15 fhp14_ar11
  have fhp15_ar11 := (k15 ar11 ne_ar11_ar15).trans fhp14_ar11
  have ne_ar13_ar15 : ar13 ≠ ar15 := ad_nn n15 fhp14_ar13
  have fhp15_ar13 := (k15 ar13 ne_ar13_ar15).trans fhp14_ar13
  have F_ar15 : ∀ z, z ≠ a → hp z ≠ none → z ≠ ar15 := fun z hz h hh => h ((T_hp14 z hz h).symm.trans (by rw [hh]; exact n15))
  have N_ar15 : hp ar15 = none := ad_tn T_hp14 (ad_nn n15 fhp14_a) n15
  have T_hp15 : ∀ z, z ≠ a → hp z ≠ none → hp15 z = hp z := fun z hz h => (k15 z (F_ar15 z hz h)).trans (T_hp14 z hz h)
  refine ad_putF S I fhp15_a K_Mod 11 (by decide) w_559 rfl hin rfl rfl rfl (by simp) d_M_init_65 (fun H1 locs1 I => ?_)
  obtain ⟨hp16, ehp16⟩ : ∃ z : ad_H, z = ad_up hp15 a (.inr (5, [.int 0, .long 0, .int 0, .ref ar1, .ref ar3, .ref ar5, .int 0, .ref ar7, .ref ar9, .ref ar11, .ref ar13, .ref ar15, .null, .null, .null])) := ⟨_, rfl⟩
  have I : ad_I G lo s hp16 H1 locs1 := by rw [ehp16]; exact I
  have fhp16_a : hp16 a = some (.inr (5, [.int 0, .long 0, .int 0, .ref ar1, .ref ar3, .ref ar5, .int 0, .ref ar7, .ref ar9, .ref ar11, .ref ar13, .ref ar15, .null, .null, .null])) := by rw [ehp16]; exact ad_up_s _ _ _
  have fhp16_ar1 := (show hp16 ar1 = hp15 ar1 by rw [ehp16]; exact ad_up_n _ ((ne_a_ar1).symm)).trans fhp15_ar1
  have fhp16_ar3 := (show hp16 ar3 = hp15 ar3 by rw [ehp16]; exact ad_up_n _ ((ne_a_ar3).symm)).trans fhp15_ar3
  have fhp16_ar5 := (show hp16 ar5 = hp15 ar5 by rw [ehp16]; exact ad_up_n _ ((ne_a_ar5).symm)).trans fhp15_ar5
  have fhp16_ar7 := (show hp16 ar7 = hp15 ar7 by rw [ehp16]; exact ad_up_n _ ((ne_a_ar7).symm)).trans fhp15_ar7
  have fhp16_ar9 := (show hp16 ar9 = hp15 ar9 by rw [ehp16]; exact ad_up_n _ ((ne_a_ar9).symm)).trans fhp15_ar9
  have fhp16_ar11 := (show hp16 ar11 = hp15 ar11 by rw [ehp16]; exact ad_up_n _ ((ne_a_ar11).symm)).trans fhp15_ar11
  have fhp16_ar13 := (show hp16 ar13 = hp15 ar13 by rw [ehp16]; exact ad_up_n _ ((ne_a_ar13).symm)).trans fhp15_ar13
  have fhp16_ar15 := (show hp16 ar15 = hp15 ar15 by rw [ehp16]; exact ad_up_n _ ((ne_a_ar15).symm)).trans u15_0
  have T_hp16 : ∀ z, z ≠ a → hp z ≠ none → hp16 z = hp z := fun z hz h => by rw [ehp16, ad_up_n _ hz]; exact T_hp15 z hz h
  refine lv_aload_n hx hb d_M_init_68 rfl (lv_at hl 0 rfl) ?_
  refine lv_sipush (v := 1536) hx hb d_M_init_69 (by decide) ?_
  refine ad_newa (atype := .int) S I w_86 rfl 0 rfl (fun _ => rfl) (a0 := (1536, .inl (fun _ => 0))) rfl (by decide) (N' := 1536) (by decide) (by decide) (Nat.le_of_ble_eq_true rfl) (Nat.le_of_ble_eq_true rfl) d_M_init_72 (fun ar17 H1 n17 I => ?_)
  obtain ⟨hp17, ehp17⟩ : ∃ z : ad_H, z = ad_up hp16 ar17 (.inl (G.2.1 0, 1536, .inl (fun _ => 0))) := ⟨_, rfl⟩
  rw [← ehp17] at I
  have u17_0 : hp17 ar17 = some (.inl (G.2.1 0, 1536, .inl (fun _ => 0))) := by rw [ehp17]; exact ad_up_s _ _ _
  have k17 : ∀ z, z ≠ ar17 → hp17 z = hp16 z := fun z hz => by rw [ehp17]; exact ad_up_n _ hz
  have ne_a_ar17 : a ≠ ar17 := ad_nn n17 fhp16_a
  have fhp17_a := (k17 a ne_a_ar17).trans fhp16_a
  have ne_ar1_ar17 : ar1 ≠ ar17 := ad_nn n17 fhp16_ar1
  have fhp17_ar1 := (k17 ar1 ne_ar1_ar17).trans fhp16_ar1
  have ne_ar3_ar17 : ar3 ≠ ar17 := ad_nn n17 fhp16_ar3
  have fhp17_ar3 := (k17 ar3 ne_ar3_ar17).trans fhp16_ar3
  have ne_ar5_ar17 : ar5 ≠ ar17 := ad_nn n17 fhp16_ar5
  have fhp17_ar5 := (k17 ar5 ne_ar5_ar17).trans fhp16_ar5
  have ne_ar7_ar17 : ar7 ≠ ar17 := ad_nn n17 fhp16_ar7
  have fhp17_ar7 := (k17 ar7 ne_ar7_ar17).trans fhp16_ar7
  have ne_ar9_ar17 : ar9 ≠ ar17 := ad_nn n17 fhp16_ar9
  have fhp17_ar9 := (k17 ar9 ne_ar9_ar17).trans fhp16_ar9
  have ne_ar11_ar17 : ar11 ≠ ar17 := ad_nn n17 fhp16_ar11
  have fhp17_ar11 := (k17 ar11 ne_ar11_ar17).trans fhp16_ar11
  have ne_ar13_ar17 : ar13 ≠ ar17 := ad_nn n17 fhp16_ar13
  have fhp17_ar13 := (k17 ar13 ne_ar13_ar17).trans fhp16_ar13
  have ne_ar15_ar17 : ar15 ≠ ar17 := ad_nn n17 fhp16_ar15
  have fhp17_ar15 := (k17 ar15 ne_ar15_ar17).trans fhp16_ar15
  have F_ar17 : ∀ z, z ≠ a → hp z ≠ none → z ≠ ar17 := fun z hz h hh => h ((T_hp16 z hz h).symm.trans (by rw [hh]; exact n17))
  have N_ar17 : hp ar17 = none := ad_tn T_hp16 (ad_nn n17 fhp16_a) n17
  have T_hp17 : ∀ z, z ≠ a → hp z ≠ none → hp17 z = hp z := fun z hz h => (k17 z (F_ar17 z hz h)).trans (T_hp16 z hz h)
  refine ad_putF S I fhp17_a K_Mod 12 (by decide) w_560 rfl hin rfl rfl rfl (by simp) d_M_init_74 (fun H1 locs1 I => ?_)
  obtain ⟨hp18, ehp18⟩ : ∃ z : ad_H, z = ad_up hp17 a (.inr (5, [.int 0, .long 0, .int 0, .ref ar1, .ref ar3, .ref ar5, .int 0, .ref ar7, .ref ar9, .ref ar11, .ref ar13, .ref ar15, .ref ar17, .null, .null])) := ⟨_, rfl⟩
  have I : ad_I G lo s hp18 H1 locs1 := by rw [ehp18]; exact I
  have fhp18_a : hp18 a = some (.inr (5, [.int 0, .long 0, .int 0, .ref ar1, .ref ar3, .ref ar5, .int 0, .ref ar7, .ref ar9, .ref ar11, .ref ar13, .ref ar15, .ref ar17, .null, .null])) := by rw [ehp18]; exact ad_up_s _ _ _
  have fhp18_ar1 := (show hp18 ar1 = hp17 ar1 by rw [ehp18]; exact ad_up_n _ ((ne_a_ar1).symm)).trans fhp17_ar1
  have fhp18_ar3 := (show hp18 ar3 = hp17 ar3 by rw [ehp18]; exact ad_up_n _ ((ne_a_ar3).symm)).trans fhp17_ar3
  have fhp18_ar5 := (show hp18 ar5 = hp17 ar5 by rw [ehp18]; exact ad_up_n _ ((ne_a_ar5).symm)).trans fhp17_ar5
  have fhp18_ar7 := (show hp18 ar7 = hp17 ar7 by rw [ehp18]; exact ad_up_n _ ((ne_a_ar7).symm)).trans fhp17_ar7
  have fhp18_ar9 := (show hp18 ar9 = hp17 ar9 by rw [ehp18]; exact ad_up_n _ ((ne_a_ar9).symm)).trans fhp17_ar9
  have fhp18_ar11 := (show hp18 ar11 = hp17 ar11 by rw [ehp18]; exact ad_up_n _ ((ne_a_ar11).symm)).trans fhp17_ar11
  have fhp18_ar13 := (show hp18 ar13 = hp17 ar13 by rw [ehp18]; exact ad_up_n _ ((ne_a_ar13).symm)).trans fhp17_ar13
  have fhp18_ar15 := (show hp18 ar15 = hp17 ar15 by rw [ehp18]; exact ad_up_n _ ((ne_a_ar15).symm)).trans fhp17_ar15
  have fhp18_ar17 := (show hp18 ar17 = hp17 ar17 by rw [ehp18]; exact ad_up_n _ ((ne_a_ar17).symm)).trans u17_0
  have T_hp18 : ∀ z, z ≠ a → hp z ≠ none → hp18 z = hp z := fun z hz h => by rw [ehp18, ad_up_n _ hz]; exact T_hp17 z hz h
  refine lv_aload_n hx hb d_M_init_77 rfl (lv_at hl 0 rfl) ?_
  refine lv_sipush (v := 1536) hx hb d_M_init_78 (by decide) ?_
  refine ad_newa (atype := .int) S I w_86 rfl 0 rfl (fun _ => rfl) (a0 := (1536, .inl (fun _ => 0))) rfl (by decide) (N' := 1536) (by decide) (by decide) (Nat.le_of_ble_eq_true rfl) (Nat.le_of_ble_eq_true rfl) d_M_init_81 (fun ar19 H1 n19 I => ?_)
  obtain ⟨hp19, ehp19⟩ : ∃ z : ad_H, z = ad_up hp18 ar19 (.inl (G.2.1 0, 1536, .inl (fun _ => 0))) := ⟨_, rfl⟩
  rw [← ehp19] at I
  have u19_0 : hp19 ar19 = some (.inl (G.2.1 0, 1536, .inl (fun _ => 0))) := by rw [ehp19]; exact ad_up_s _ _ _
  have k19 : ∀ z, z ≠ ar19 → hp19 z = hp18 z := fun z hz => by rw [ehp19]; exact ad_up_n _ hz
  have ne_a_ar19 : a ≠ ar19 := ad_nn n19 fhp18_a
  have fhp19_a := (k19 a ne_a_ar19).trans fhp18_a
  have ne_ar1_ar19 : ar1 ≠ ar19 := ad_nn n19 fhp18_ar1
  have fhp19_ar1 := (k19 ar1 ne_ar1_ar19).trans fhp18_ar1
  have ne_ar3_ar19 : ar3 ≠ ar19 := ad_nn n19 fhp18_ar3
  have fhp19_ar3 := (k19 ar3 ne_ar3_ar19).trans fhp18_ar3
  have ne_ar5_ar19 : ar5 ≠ ar19 := ad_nn n19 fhp18_ar5
  have fhp19_ar5 := (k19 ar5 ne_ar5_ar19).trans fhp18_ar5
  have ne_ar7_ar19 : ar7 ≠ ar19 := ad_nn n19 fhp18_ar7
  have fhp19_ar7 := (k19 ar7 ne_ar7_ar19).trans fhp18_ar7
  have ne_ar9_ar19 : ar9 ≠ ar19 := ad_nn n19 fhp18_ar9
  have fhp19_ar9 := (k19 ar9 ne_ar9_ar19).trans fhp18_ar9
  have ne_ar11_ar19 : ar11 ≠ ar19 := ad_nn n19 fhp18_ar11
  have fhp19_ar11 := (k19 ar11 ne_ar11_ar19).trans fhp18_ar11
  have ne_ar13_ar19 : ar13 ≠ ar19 := ad_nn n19 fhp18_ar13
  have fhp19_ar13 := (k19 ar13 ne_ar13_ar19).trans fhp18_ar13
  have ne_ar15_ar19 : ar15 ≠ ar19 := ad_nn n19 fhp18_ar15
  have fhp19_ar15 := (k19 ar15 ne_ar15_ar19).trans fhp18_ar15
  have ne_ar17_ar19 : ar17 ≠ ar19 := ad_nn n19 fhp18_ar17
  have fhp19_ar17 := (k19 ar17 ne_ar17_ar19).trans fhp18_ar17
  have F_ar19 : ∀ z, z ≠ a → hp z ≠ none → z ≠ ar19 := fun z hz h hh => h ((T_hp18 z hz h).symm.trans (by rw [hh]; exact n19))
  have N_ar19 : hp ar19 = none := ad_tn T_hp18 (ad_nn n19 fhp18_a) n19
  have T_hp19 : ∀ z, z ≠ a → hp z ≠ none → hp19 z = hp z := fun z hz h => (k19 z (F_ar19 z hz h)).trans (T_hp18 z hz h)
  refine ad_putF S I fhp19_a K_Mod 13 (by decide) w_561 rfl hin rfl rfl rfl (by simp) d_M_init_83 (fun H1 locs1 I => ?_)
  obtain ⟨hp20, ehp20⟩ : ∃ z : ad_H, z = ad_up hp19 a (.inr (5, [.int 0, .long 0, .int 0, .ref ar1, .ref ar3, .ref ar5, .int 0, .ref ar7, .ref ar9, .ref ar11, .ref ar13, .ref ar15, .ref ar17, .ref ar19, .null])) := ⟨_, rfl⟩
  have I : ad_I G lo s hp20 H1 locs1 := by rw [ehp20]; exact I
  have fhp20_a : hp20 a = some (.inr (5, [.int 0, .long 0, .int 0, .ref ar1, .ref ar3, .ref ar5, .int 0, .ref ar7, .ref ar9, .ref ar11, .ref ar13, .ref ar15, .ref ar17, .ref ar19, .null])) := by rw [ehp20]; exact ad_up_s _ _ _
  have fhp20_ar1 := (show hp20 ar1 = hp19 ar1 by rw [ehp20]; exact ad_up_n _ ((ne_a_ar1).symm)).trans fhp19_ar1
  have fhp20_ar3 := (show hp20 ar3 = hp19 ar3 by rw [ehp20]; exact ad_up_n _ ((ne_a_ar3).symm)).trans fhp19_ar3
  have fhp20_ar5 := (show hp20 ar5 = hp19 ar5 by rw [ehp20]; exact ad_up_n _ ((ne_a_ar5).symm)).trans fhp19_ar5
  have fhp20_ar7 := (show hp20 ar7 = hp19 ar7 by rw [ehp20]; exact ad_up_n _ ((ne_a_ar7).symm)).trans fhp19_ar7
  have fhp20_ar9 := (show hp20 ar9 = hp19 ar9 by rw [ehp20]; exact ad_up_n _ ((ne_a_ar9).symm)).trans fhp19_ar9
  have fhp20_ar11 := (show hp20 ar11 = hp19 ar11 by rw [ehp20]; exact ad_up_n _ ((ne_a_ar11).symm)).trans fhp19_ar11
  have fhp20_ar13 := (show hp20 ar13 = hp19 ar13 by rw [ehp20]; exact ad_up_n _ ((ne_a_ar13).symm)).trans fhp19_ar13
  have fhp20_ar15 := (show hp20 ar15 = hp19 ar15 by rw [ehp20]; exact ad_up_n _ ((ne_a_ar15).symm)).trans fhp19_ar15
  have fhp20_ar17 := (show hp20 ar17 = hp19 ar17 by rw [ehp20]; exact ad_up_n _ ((ne_a_ar17).symm)).trans fhp19_ar17
  have fhp20_ar19 := (show hp20 ar19 = hp19 ar19 by rw [ehp20]; exact ad_up_n _ ((ne_a_ar19).symm)).trans u19_0
  have T_hp20 : ∀ z, z ≠ a → hp z ≠ none → hp20 z = hp z := fun z hz h => by rw [ehp20, ad_up_n _ hz]; exact T_hp19 z hz h
  refine lv_aload_n hx hb d_M_init_86 rfl (lv_at hl 0 rfl) ?_
  refine lv_sipush (v := 1536) hx hb d_M_init_87 (by decide) ?_
  refine ad_newa (atype := .int) S I w_86 rfl 0 rfl (fun _ => rfl) (a0 := (1536, .inl (fun _ => 0))) rfl (by decide) (N' := 1536) (by decide) (by decide) (Nat.le_of_ble_eq_true rfl) (Nat.le_of_ble_eq_true rfl) d_M_init_90 (fun ar21 H1 n21 I => ?_)
  obtain ⟨hp21, ehp21⟩ : ∃ z : ad_H, z = ad_up hp20 ar21 (.inl (G.2.1 0, 1536, .inl (fun _ => 0))) := ⟨_, rfl⟩
  rw [← ehp21] at I
  have u21_0 : hp21 ar21 = some (.inl (G.2.1 0, 1536, .inl (fun _ => 0))) := by rw [ehp21]; exact ad_up_s _ _ _
  have k21 : ∀ z, z ≠ ar21 → hp21 z = hp20 z := fun z hz => by rw [ehp21]; exact ad_up_n _ hz
  have ne_a_ar21 : a ≠ ar21 := ad_nn n21 fhp20_a
  have fhp21_a := (k21 a ne_a_ar21).trans fhp20_a
  have ne_ar1_ar21 : ar1 ≠ ar21 := ad_nn n21 fhp20_ar1
  have fhp21_ar1 := (k21 ar1 ne_ar1_ar21).trans fhp20_ar1
  have ne_ar3_ar21 : ar3 ≠ ar21 := ad_nn n21 fhp20_ar3
  have fhp21_ar3 := (k21 ar3 ne_ar3_ar21).trans fhp20_ar3
  have ne_ar5_ar21 : ar5 ≠ ar21 := ad_nn n21 fhp20_ar5
  have fhp21_ar5 := (k21 ar5 ne_ar5_ar21).trans fhp20_ar5
  have ne_ar7_ar21 : ar7 ≠ ar21 := ad_nn n21 fhp20_ar7
  have fhp21_ar7 := (k21 ar7 ne_ar7_ar21).trans fhp20_ar7
  have ne_ar9_ar21 : ar9 ≠ ar21 := ad_nn n21 fhp20_ar9
  have fhp21_ar9 := (k21 ar9 ne_ar9_ar21).trans fhp20_ar9
  have ne_ar11_ar21 : ar11 ≠ ar21 := ad_nn n21 fhp20_ar11
  have fhp21_ar11 := (k21 ar11 ne_ar11_ar21).trans fhp20_ar11
  have ne_ar13_ar21 : ar13 ≠ ar21 := ad_nn n21 fhp20_ar13
  have fhp21_ar13 := (k21 ar13 ne_ar13_ar21).trans fhp20_ar13
  have ne_ar15_ar21 : ar15 ≠ ar21 := ad_nn n21 fhp20_ar15
  have fhp21_ar15 := (k21 ar15 ne_ar15_ar21).trans fhp20_ar15
  have ne_ar17_ar21 : ar17 ≠ ar21 := ad_nn n21 fhp20_ar17
  have fhp21_ar17 := (k21 ar17 ne_ar17_ar21).trans fhp20_ar17
  have ne_ar19_ar21 : ar19 ≠ ar21 := ad_nn n21 fhp20_ar19
  have fhp21_ar19 := (k21 ar19 ne_ar19_ar21).trans fhp20_ar19
  have F_ar21 : ∀ z, z ≠ a → hp z ≠ none → z ≠ ar21 := fun z hz h hh => h ((T_hp20 z hz h).symm.trans (by rw [hh]; exact n21))
  have N_ar21 : hp ar21 = none := ad_tn T_hp20 (ad_nn n21 fhp20_a) n21
  have T_hp21 : ∀ z, z ≠ a → hp z ≠ none → hp21 z = hp z := fun z hz h => (k21 z (F_ar21 z hz h)).trans (T_hp20 z hz h)
  refine ad_putF S I fhp21_a K_Mod 14 (by decide) w_562 rfl hin rfl rfl rfl (by simp) d_M_init_92 (fun H1 locs1 I => ?_)
  obtain ⟨hp22, ehp22⟩ : ∃ z : ad_H, z = ad_up hp21 a (.inr (5, [.int 0, .long 0, .int 0, .ref ar1, .ref ar3, .ref ar5, .int 0, .ref ar7, .ref ar9, .ref ar11, .ref ar13, .ref ar15, .ref ar17, .ref ar19, .ref ar21])) := ⟨_, rfl⟩
  have I : ad_I G lo s hp22 H1 locs1 := by rw [ehp22]; exact I
  have fhp22_a : hp22 a = some (.inr (5, [.int 0, .long 0, .int 0, .ref ar1, .ref ar3, .ref ar5, .int 0, .ref ar7, .ref ar9, .ref ar11, .ref ar13, .ref ar15, .ref ar17, .ref ar19, .ref ar21])) := by rw [ehp22]; exact ad_up_s _ _ _
  have fhp22_ar1 := (show hp22 ar1 = hp21 ar1 by rw [ehp22]; exact ad_up_n _ ((ne_a_ar1).symm)).trans fhp21_ar1
  have fhp22_ar3 := (show hp22 ar3 = hp21 ar3 by rw [ehp22]; exact ad_up_n _ ((ne_a_ar3).symm)).trans fhp21_ar3
  have fhp22_ar5 := (show hp22 ar5 = hp21 ar5 by rw [ehp22]; exact ad_up_n _ ((ne_a_ar5).symm)).trans fhp21_ar5
  have fhp22_ar7 := (show hp22 ar7 = hp21 ar7 by rw [ehp22]; exact ad_up_n _ ((ne_a_ar7).symm)).trans fhp21_ar7
  have fhp22_ar9 := (show hp22 ar9 = hp21 ar9 by rw [ehp22]; exact ad_up_n _ ((ne_a_ar9).symm)).trans fhp21_ar9
  have fhp22_ar11 := (show hp22 ar11 = hp21 ar11 by rw [ehp22]; exact ad_up_n _ ((ne_a_ar11).symm)).trans fhp21_ar11
  have fhp22_ar13 := (show hp22 ar13 = hp21 ar13 by rw [ehp22]; exact ad_up_n _ ((ne_a_ar13).symm)).trans fhp21_ar13
  have fhp22_ar15 := (show hp22 ar15 = hp21 ar15 by rw [ehp22]; exact ad_up_n _ ((ne_a_ar15).symm)).trans fhp21_ar15
  have fhp22_ar17 := (show hp22 ar17 = hp21 ar17 by rw [ehp22]; exact ad_up_n _ ((ne_a_ar17).symm)).trans fhp21_ar17
  have fhp22_ar19 := (show hp22 ar19 = hp21 ar19 by rw [ehp22]; exact ad_up_n _ ((ne_a_ar19).symm)).trans fhp21_ar19
  have fhp22_ar21 := (show hp22 ar21 = hp21 ar21 by rw [ehp22]; exact ad_up_n _ ((ne_a_ar21).symm)).trans u21_0
  have T_hp22 : ∀ z, z ≠ a → hp z ≠ none → hp22 z = hp z := fun z hz h => by rw [ehp22, ad_up_n _ hz]; exact T_hp21 z hz h
  exact ad_vret M I (by omega) (by omega) (mi_start (bs := (fun i => match i with | 0 => ar1 | 1 => ar3 | 2 => ar5 | 3 => ar7 | 4 => ar9 | 5 => ar11 | 6 => ar13 | 7 => ar15 | 8 => ar17 | 9 => ar19 | _ => ar21)) fhp22_a fhp22_ar1 fhp22_ar3 fhp22_ar5 fhp22_ar7 fhp22_ar9 fhp22_ar11 fhp22_ar13 fhp22_ar15 fhp22_ar17 fhp22_ar19 fhp22_ar21 (by simp [ne_ar1_ar3, ne_ar1_ar5, ne_ar1_ar7, ne_ar1_ar9, ne_ar1_ar11, ne_ar1_ar13, ne_ar1_ar15, ne_ar1_ar17, ne_ar1_ar19, ne_ar1_ar21, ne_ar3_ar5, ne_ar3_ar7, ne_ar3_ar9, ne_ar3_ar11, ne_ar3_ar13, ne_ar3_ar15, ne_ar3_ar17, ne_ar3_ar19, ne_ar3_ar21, ne_ar5_ar7, ne_ar5_ar9, ne_ar5_ar11, ne_ar5_ar13, ne_ar5_ar15, ne_ar5_ar17, ne_ar5_ar19, ne_ar5_ar21, ne_ar7_ar9, ne_ar7_ar11, ne_ar7_ar13, ne_ar7_ar15, ne_ar7_ar17, ne_ar7_ar19, ne_ar7_ar21, ne_ar9_ar11, ne_ar9_ar13, ne_ar9_ar15, ne_ar9_ar17, ne_ar9_ar19, ne_ar9_ar21, ne_ar11_ar13, ne_ar11_ar15, ne_ar11_ar17, ne_ar11_ar19, ne_ar11_ar21, ne_ar13_ar15, ne_ar13_ar17, ne_ar13_ar19, ne_ar13_ar21, ne_ar15_ar17, ne_ar15_ar19, ne_ar15_ar21, ne_ar17_ar19, ne_ar17_ar21, ne_ar19_ar21]) ⟨N_ar1, N_ar3, N_ar5, N_ar7, N_ar9, N_ar11, N_ar13, N_ar15, N_ar17, N_ar19, N_ar21⟩ T_hp22) d_M_init_95
