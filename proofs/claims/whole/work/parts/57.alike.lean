section SAME
variable {G : ad_G} {hp hp' : ad_H} {x dA tA lA rA gA sA : Nat} {ta ros : List Nat} {ts : List TH} {la lt rr rw : List Nat} {sd : Int64} {fg fs : Nat → Int32}
theorem sm_al {a : Nat} {xs : List Nat} (hk : ∀ z e, hp z = some e → ¬ fo gA sA z e → hp' z = some e) (hE : hp' (G.2.2 0) = none) (h : al G hp a xs) : al G hp' a xs ∧ hp' a = hp a := by
  obtain ⟨fs, hf⟩ := h.self
  have e1 : hp' a = hp a := by rw [hf]; exact hk _ _ hf (fun h => h)
  refine ⟨h.keep e1 (fun z hz hn => ?_) hE, e1⟩
  rcases h.bk hz with ⟨-, q⟩ | ⟨n, f, q⟩
  · exact (hn q).elim
  · rw [q]; exact hk _ _ q (fun h => h)
theorem sm_ro {a : Nat} {rs : List R3} (hk : ∀ z e, hp z = some e → ¬ fo gA sA z e → hp' z = some e) (hE : hp' (G.2.2 0) = none) (h : ro G hp a rs) : ro G hp' a rs := by
  obtain ⟨sa, h1, h2, h3⟩ := h
  refine ⟨sa, (sm_al hk hE h1).1, h2, fun k r hr => ?_⟩
  obtain ⟨y, q1, q2⟩ := h3 k r hr
  exact ⟨y, q1, hk _ _ q2 (fun h => h)⟩
theorem CR.far (C : CR G hp x dA tA lA rA gA sA ta ros ts la lt rr rw sd fg fs) (hk : ∀ z e, hp z = some e → ¬ fo gA sA z e → hp' z = some e) (hE : hp' (G.2.2 0) = none) : CR G hp' x dA tA lA rA gA sA ta ros ts la lt rr rw sd fg fs := by
  refine ⟨hk _ _ C.hX (fun h => h), hk _ _ C.hD (fun h => h), hk _ _ C.hg (fun h => h.1 rfl), hk _ _ C.hs (fun h => h.2 rfl), C.2.2.2.2.1, (sm_al hk hE C.hA).1, (sm_al hk hE C.hLa).1, (sm_al hk hE C.hRr).1, C.2.2.2.2.2.2.2.2.1, fun i t ht => ?_, ⟨C.sp.1, fun c hc b hb z h1 h2 hn => ?_⟩, C.lkl, C.lkr, hE, C.hn⟩
  · obtain ⟨a, ra, q1, q2, q3, q4⟩ := C.th ht
    exact ⟨a, ra, q1, q2, hk _ _ q3 (fun h => h), sm_ro hk hE q4⟩
  · obtain ⟨ys, hB⟩ := C.all b hb
    obtain ⟨zs, hC⟩ := C.all c hc
    rw [al_b.same (sm_al hk hE hB).2] at h2
    rw [al_b.same (sm_al hk hE hC).2] at h1
    refine C.sp.2 c hc b hb z h1 h2 (fun hz0 => ?_)
    rcases hB.bk h2 with ⟨q, -⟩ | ⟨n, f, q⟩
    · rw [q] at hn; exact hn hE
    · rw [q] at hz0; cases hz0
end SAME
def CRA (G : ad_G) (hp : ad_H) (x gA sA : Nat) (A : AST) : Prop := ∃ (dA tA lA rA : Nat) (ta ros la rr rw : List Nat) (fg fs : Nat → Int32), CR G hp x dA tA lA rA gA sA ta ros A.1 la A.2.1 rr rw A.2.2 fg fs
def MRA (G : ad_G) (hp : ad_H) (m0 : Nat) (bs : Nat → Nat) (th : Int32) (A : AST) : Prop := ∃ fs : Nat → Nat → Int32, MC G hp m0 bs th A.2.2 (nI A.1.length) (nI A.2.1.length) fs ∧ MA A.1 A.2.1 fs
def UP (G : ad_G) (hp : ad_H) (x gA sA : Nat) (xs : List String) (q : (Nat × Int32) × AST) : ad_R → ad_H → Prop := fun r hp' => r = q_ans xs q.1 ∧ CRA G hp' x gA sA q.2 ∧ fr gA sA hp hp'
def MP (G : ad_G) (hp : ad_H) (m0 : Nat) (bs : Nat → Nat) (q : (Nat × Int32) × AST) : ad_R → ad_H → Prop := fun r hp' => r = .inl (some (.int q.1.2)) ∧ MRA G hp' m0 bs (nI q.1.1) q.2 ∧ mf m0 bs hp hp'
theorem CRA.far {G : ad_G} {hp hp' : ad_H} {x gA sA : Nat} {A : AST} (C : CRA G hp x gA sA A) (hk : ∀ z e, hp z = some e → ¬ fo gA sA z e → hp' z = some e) (hE : hp' (G.2.2 0) = none) : CRA G hp' x gA sA A := by
  obtain ⟨dA, tA, lA, rA, ta, ros, la, rr, rw, fg, fs, C⟩ := C
  exact ⟨dA, tA, lA, rA, ta, ros, la, rr, rw, fg, fs, C.far hk hE⟩
theorem CRA.self {G : ad_G} {hp : ad_H} {x gA sA : Nat} {A : AST} (C : CRA G hp x gA sA A) : ∃ fs, hp x = some (.inr (4, fs)) := by
  obtain ⟨dA, tA, lA, rA, ta, ros, la, rr, rw, fg, fs, C⟩ := C
  exact ⟨_, C.hX⟩
theorem ad_Cp.ct {l : Launch} {y : MethodName} {cc : ByteArray} {nL : Nat} {rt : Option FieldType} {hs : List (Nat × Nat × Nat × Nat)} {d mc ms : Nat} {G : ad_G} {lo : Nat} {hp : ad_H} {av : List Value} {Post : ad_R → Prop} (K : ad_Cp l y cc nL rt hs d mc ms G lo hp av Post) {Post2 : ad_R → ad_H → Prop} (h : ∀ r, Post r → Post2 r hp) : ad_Ct l y cc nL rt hs d mc ms G lo hp av Post2 := fun p e s m below meth c M hts hB hP => by
  refine W.ad_mono (fun t ht => ?_) (K p e s m below meth c M hts hB hP)
  obtain ⟨o, r, h1, h2, h3, h4, h5, h6, h7, h8⟩ := ht
  refine ⟨o, r, hp, h1, h2, h3, ⟨[], ?_, fun q hq => by cases hq⟩, h r h4, h5, hP.kept h7, h6, fun q hq => h7 q (Nat.lt_of_lt_of_le hq hB.1)⟩
  cases r with
  | inl v => exact State.sameButNew.mono h8.2 (Nat.zero_le _) (Nat.zero_le _)
  | inr C => exact h8
theorem cl_dw {lt : List Nat} {v : Int32} {r : ad_R} (hm : lt.length ≤ 64) (h : (∃ j i, v = nI j ∧ lt[j]? = some i ∧ r = .inl (some (.int (nI i)))) ∨ (¬ sp_ok lt.length v ∧ r = .inr ad_NSE)) : r = q_ans [ad_NSE] (q_dw lt v) := by
  rcases h with ⟨j, i, rfl, h1, rfl⟩ | ⟨h1, rfl⟩
  · have hj := (List.getElem?_eq_some_iff.mp h1).1
    have e : q_dw lt (nI j) = (0, nI i) := by
      simp only [q_dw]
      rw [if_pos ⟨nI_pos (by omega), nI_lt hj (by omega)⟩, nI_clamp (by omega)]
      have := gd_e hj
      rw [h1] at this
      rw [← Option.some.inj this]
    rw [e]; rfl
  · rw [show q_dw lt v = (1, 0) from if_neg h1]; rfl
theorem cl_rp {P : TH → Bool} {ts : List TH} {b v k : Int32} {r : ad_R} (h : (((¬ v < 0 ∧ v < b) ∧ 0 ≤ k) ∧ ∃ kk, kk < 2 ^ 31 ∧ k = nI kk ∧ r = .inl (some (.int (sp_ki (sp_kth P ts 0 kk))))) ∨ (¬ ((¬ v < 0 ∧ v < b) ∧ 0 ≤ k) ∧ r = .inr ad_NSE)) : r = q_ans [ad_NSE] (q_rp P ts b v k) := by
  rcases h with ⟨h1, kk, h2, rfl, rfl⟩ | ⟨h1, rfl⟩
  · rw [show q_rp P ts b v (nI kk) = (0, sp_ki (sp_kth P ts 0 kk)) by simp only [q_rp]; rw [if_pos h1, nI_clamp h2]]
    rfl
  · rw [show q_rp P ts b v k = (1, 0) from if_neg h1]; rfl
theorem k_thing (l : Launch) (G : ad_G) (lo : Nat) (hp : ad_H) (x gA sA : Nat) (A : AST) (s0 : Int32) (p0 : Int32) (hT : l.stackTraces = false) (hC : CRA G hp x gA sA A) (hW : WF A) : ad_Ct l y_A_thing b_A_thing 4 rt_A_thing hs_A_thing 8 3 109 G lo hp [.ref x, .int s0, .int p0] (UP G hp x gA sA [ad_NSE, ad_ISE] ((q_th A.1 s0 p0).1, ((q_th A.1 s0 p0).2, A.2.1, A.2.2))) := by
  obtain ⟨dA, tA, lA, rA, ta, ros, la, rr, rw, fg, fs, C⟩ := id hC
  refine (c_A_thing l G lo hp x dA tA lA rA gA sA ta ros A.1 la A.2.1 rr rw A.2.2 fg fs s0 p0 hT C).mono (fun r hp' h => ?_)
  obtain ⟨h1, ta', ros', h2, h3⟩ := h
  exact ⟨h1, ⟨_, _, _, _, _, _, _, _, _, _, _, h2⟩, h3⟩
theorem k_list (l : Launch) (G : ad_G) (lo : Nat) (hp : ad_H) (x gA sA : Nat) (A : AST) (v : Int32) (hT : l.stackTraces = false) (hC : CRA G hp x gA sA A) (hW : WF A) : ad_Ct l y_A_list b_A_list 3 rt_A_list hs_A_list 9 128 12800 G lo hp [.ref x, .int v] (UP G hp x gA sA [ad_IAE] (q_ls A v)) := by
  obtain ⟨dA, tA, lA, rA, ta, ros, la, rr, rw, fg, fs, C⟩ := id hC
  refine (c_A_list l G lo hp x dA tA lA rA gA sA ta ros A.1 la A.2.1 rr rw A.2.2 fg fs v hT C hW.1 hW.2.2.2.2.2.1).mono (fun r hp' h => ?_)
  obtain ⟨h1, la', rr', rw', fg', fs', h2, h3⟩ := h
  exact ⟨h1, ⟨_, _, _, _, _, _, _, _, _, _, _, h2⟩, h3⟩
theorem k_drawn (l : Launch) (G : ad_G) (lo : Nat) (hp : ad_H) (x gA sA : Nat) (A : AST) (v : Int32) (hT : l.stackTraces = false) (hC : CRA G hp x gA sA A) (hW : WF A) : ad_Ct l y_A_drawn b_A_drawn 2 rt_A_drawn hs_A_drawn 7 1 6 G lo hp [.ref x, .int v] (UP G hp x gA sA [ad_NSE] (q_dw A.2.1 v, A)) := by
  obtain ⟨dA, tA, lA, rA, ta, ros, la, rr, rw, fg, fs, C⟩ := id hC
  exact (c_A_drawn l G lo hp x dA tA lA rA gA sA v A.1 la A.2.1 hT C.hX C.hLa C.hll hW.2.2.2.2.2.1).ct (fun r h => ⟨cl_dw hW.2.2.2.2.2.1 h, hC, fr.rf _ _ _⟩)
theorem k_check (l : Launch) (G : ad_G) (lo : Nat) (hp : ad_H) (x gA sA : Nat) (A : AST) (v : Int32) (a0 : Int32) (b0 : Int32) (p0 : Int32) (hT : l.stackTraces = false) (hC : CRA G hp x gA sA A) (hW : WF A) : ad_Ct l y_A_check b_A_check 6 rt_A_check hs_A_check 8 1 6 G lo hp [.ref x, .int v, .int a0, .int b0, .int p0] (UP G hp x gA sA [ad_NSE, ad_ISE] ((q_ck A.1 v a0 b0 p0).1, ((q_ck A.1 v a0 b0 p0).2, A.2.1, A.2.2))) := by
  obtain ⟨dA, tA, lA, rA, ta, ros, la, rr, rw, fg, fs, C⟩ := id hC
  exact (c_A_check l G lo hp x dA tA lA rA gA sA ta ros A.1 la A.2.1 rr rw A.2.2 fg fs v a0 b0 p0 hT C).mono (fun r hp' h => ⟨h.1, ⟨_, _, _, _, _, _, _, _, _, _, _, h.2.1⟩, h.2.2⟩)
theorem k_gone (l : Launch) (G : ad_G) (lo : Nat) (hp : ad_H) (x gA sA : Nat) (A : AST) (v : Int32) (hT : l.stackTraces = false) (hC : CRA G hp x gA sA A) (hW : WF A) : ad_Ct l y_A_gone b_A_gone 4 rt_A_gone hs_A_gone 8 1 6 G lo hp [.ref x, .int v] (UP G hp x gA sA [ad_NSE, ad_ISE] ((q_gn A.1 v).1, ((q_gn A.1 v).2, A.2.1, A.2.2))) := by
  obtain ⟨dA, tA, lA, rA, ta, ros, la, rr, rw, fg, fs, C⟩ := id hC
  exact (c_A_gone l G lo hp x dA tA lA rA gA sA ta ros A.1 la A.2.1 rr rw A.2.2 fg fs v hT C).mono (fun r hp' h => ⟨h.1, ⟨_, _, _, _, _, _, _, _, _, _, _, h.2.1⟩, h.2.2⟩)
theorem k_share (l : Launch) (G : ad_G) (lo : Nat) (hp : ad_H) (x gA sA : Nat) (A : AST) (s0 : Int32) (p0 : Int32) (hT : l.stackTraces = false) (hC : CRA G hp x gA sA A) (hW : WF A) : ad_Ct l y_A_share b_A_share 6 rt_A_share hs_A_share 7 1 6 G lo hp [.ref x, .int s0, .int p0] (UP G hp x gA sA [ad_NSE] (q_sh (cc A.1 s0 1) (cc A.1 s0 2) (cc A.1 s0 3) s0 p0, A)) := by
  obtain ⟨dA, tA, lA, rA, ta, ros, la, rr, rw, fg, fs, C⟩ := id hC
  exact (c_A_share l G lo hp x dA tA lA rA gA sA s0 p0 A.1 la A.2.1 hT C.hX C.hLa C.hll hW.2.2.2.2.2.1).ct (fun r h => ⟨by rw [h, WF.cl (show WF (A.1, A.2.1, A.2.2) from hW) s0 1 (by decide), WF.cl (show WF (A.1, A.2.1, A.2.2) from hW) s0 2 (by decide), WF.cl (show WF (A.1, A.2.1, A.2.2) from hW) s0 3 (by decide)], hC, fr.rf _ _ _⟩)
theorem k_next (l : Launch) (G : ad_G) (lo : Nat) (hp : ad_H) (x gA sA : Nat) (A : AST) (s0 : Int32) (hT : l.stackTraces = false) (hC : CRA G hp x gA sA A) (hW : WF A) : ad_Ct l y_A_next b_A_next 4 rt_A_next hs_A_next 7 1 6 G lo hp [.ref x, .int s0] (UP G hp x gA sA [ad_NSE] (q_nx (cc A.1 s0 1) (cc A.1 s0 2) (cc A.1 s0 3) s0, A)) := by
  obtain ⟨dA, tA, lA, rA, ta, ros, la, rr, rw, fg, fs, C⟩ := id hC
  exact (c_A_next l G lo hp x dA tA lA rA gA sA s0 A.1 la A.2.1 hT C.hX C.hLa C.hll hW.2.2.2.2.2.1).ct (fun r h => ⟨by rw [h, WF.cl (show WF (A.1, A.2.1, A.2.2) from hW) s0 1 (by decide), WF.cl (show WF (A.1, A.2.1, A.2.2) from hW) s0 2 (by decide), WF.cl (show WF (A.1, A.2.1, A.2.2) from hW) s0 3 (by decide)], hC, fr.rf _ _ _⟩)
theorem k_digit (l : Launch) (G : ad_G) (lo : Nat) (hp : ad_H) (x gA sA : Nat) (A : AST) (k0 : Int32) (v0 : Int64) (hT : l.stackTraces = false) (hC : CRA G hp x gA sA A) (hW : WF A) : ad_Ct l y_A_digit b_A_digit 4 rt_A_digit hs_A_digit 7 1 6 G lo hp [.ref x, .int k0, .long v0] (UP G hp x gA sA [ad_NSE, ad_IAE] (q_dg k0 v0, A)) := by
  obtain ⟨dA, tA, lA, rA, ta, ros, la, rr, rw, fg, fs, C⟩ := id hC
  exact (c_A_digit l G lo hp x k0 v0 hT).ct (fun r h => ⟨h, hC, fr.rf _ _ _⟩)
theorem k_good (l : Launch) (G : ad_G) (lo : Nat) (hp : ad_H) (x gA sA : Nat) (A : AST) (k0 : Int32) (v0 : Int64) (hT : l.stackTraces = false) (hC : CRA G hp x gA sA A) (hW : WF A) : ad_Ct l y_A_good b_A_good 4 rt_A_good hs_A_good 7 1 6 G lo hp [.ref x, .int k0, .long v0] (UP G hp x gA sA [ad_NSE, ad_IAE] (q_gd k0 v0, A)) := by
  obtain ⟨dA, tA, lA, rA, ta, ros, la, rr, rw, fg, fs, C⟩ := id hC
  exact (c_A_good l G lo hp x k0 v0 hT).ct (fun r h => ⟨h, hC, fr.rf _ _ _⟩)
theorem k_tag (l : Launch) (G : ad_G) (lo : Nat) (hp : ad_H) (x gA sA : Nat) (A : AST) (v : Int32) (h0 : Int32) (p0 : Int32) (d0 : Int32) (hT : l.stackTraces = false) (hC : CRA G hp x gA sA A) (hW : WF A) : ad_Ct l y_A_tag b_A_tag 6 rt_A_tag hs_A_tag 8 2 103 G lo hp [.ref x, .int v, .int h0, .int p0, .int d0] (UP G hp x gA sA [ad_NSE, ad_IAE, ad_ISE] ((q_tg A.1 v h0 p0 d0).1, ((q_tg A.1 v h0 p0 d0).2, A.2.1, A.2.2))) := by
  obtain ⟨dA, tA, lA, rA, ta, ros, la, rr, rw, fg, fs, C⟩ := id hC
  exact (c_A_tag l G lo hp x dA tA lA rA gA sA ta ros A.1 la A.2.1 rr rw A.2.2 fg fs v h0 p0 d0 hT C hW.2.2.2.1).mono (fun r hp' h => ⟨h.1, ⟨_, _, _, _, _, _, _, _, _, _, _, h.2.1⟩, h.2.2⟩)
theorem k_first (l : Launch) (G : ad_G) (lo : Nat) (hp : ad_H) (x gA sA : Nat) (A : AST) (v : Int32) (h9 : Int32) (hT : l.stackTraces = false) (hC : CRA G hp x gA sA A) (hW : WF A) : ad_Ct l y_A_first b_A_first 5 rt_A_first hs_A_first 8 1 6 G lo hp [.ref x, .int v, .int h9] (UP G hp x gA sA [ad_NSE, ad_IAE] (q_fs f_first A.1 v h9, A)) := by
  obtain ⟨dA, tA, lA, rA, ta, ros, la, rr, rw, fg, fs, C⟩ := id hC
  exact (c_A_first l G lo hp x dA tA lA rA gA sA v h9 ta A.1 hT C.hX C.hA C.htt C.hn (fun j t y ra h1 h2 h3 => ⟨(C.ra h1 h2 h3).2, hW.2.2.2.1 t (List.mem_of_getElem? h1)⟩)).ct (fun r h => ⟨h, hC, fr.rf _ _ _⟩)
theorem k_seen (l : Launch) (G : ad_G) (lo : Nat) (hp : ad_H) (x gA sA : Nat) (A : AST) (v : Int32) (h9 : Int32) (hT : l.stackTraces = false) (hC : CRA G hp x gA sA A) (hW : WF A) : ad_Ct l y_A_seen b_A_seen 5 rt_A_seen hs_A_seen 8 1 6 G lo hp [.ref x, .int v, .int h9] (UP G hp x gA sA [ad_NSE, ad_IAE] (q_fs f_seen A.1 v h9, A)) := by
  obtain ⟨dA, tA, lA, rA, ta, ros, la, rr, rw, fg, fs, C⟩ := id hC
  exact (c_A_seen l G lo hp x dA tA lA rA gA sA v h9 ta A.1 hT C.hX C.hA C.htt C.hn (fun j t y ra h1 h2 h3 => ⟨(C.ra h1 h2 h3).2, hW.2.2.2.1 t (List.mem_of_getElem? h1)⟩)).ct (fun r h => ⟨h, hC, fr.rf _ _ _⟩)
theorem k_weight (l : Launch) (G : ad_G) (lo : Nat) (hp : ad_H) (x gA sA : Nat) (A : AST) (v : Int32) (g0 : Int32) (hT : l.stackTraces = false) (hC : CRA G hp x gA sA A) (hW : WF A) : ad_Ct l y_A_weight b_A_weight 5 rt_A_weight hs_A_weight 8 1 6 G lo hp [.ref x, .int v, .int g0] (UP G hp x gA sA [ad_NSE, ad_IAE] ((q_wt A.1 v g0).1, ((q_wt A.1 v g0).2, A.2.1, A.2.2))) := by
  obtain ⟨dA, tA, lA, rA, ta, ros, la, rr, rw, fg, fs, C⟩ := id hC
  exact (c_A_weight l G lo hp x dA tA lA rA gA sA ta ros A.1 la A.2.1 rr rw A.2.2 fg fs v g0 hT C).mono (fun r hp' h => ⟨h.1, ⟨_, _, _, _, _, _, _, _, _, _, _, h.2.1⟩, h.2.2⟩)
theorem k_report (l : Launch) (G : ad_G) (lo : Nat) (hp : ad_H) (x gA sA : Nat) (A : AST) (v : Int32) (k : Int32) (hT : l.stackTraces = false) (hC : CRA G hp x gA sA A) (hW : WF A) : ad_Ct l y_A_report b_A_report 5 rt_A_report hs_A_report 7 1 6 G lo hp [.ref x, .int v, .int k] (UP G hp x gA sA [ad_NSE] (q_rp (fun t => decide (t.2.2.1 = v)) A.1 4 v k, A)) := by
  obtain ⟨dA, tA, lA, rA, ta, ros, la, rr, rw, fg, fs, C⟩ := id hC
  exact (c_A_report l G lo hp x dA tA lA rA gA sA v k ta A.1 hT C.hX C.hA C.htt C.hn).ct (fun r h => ⟨cl_rp h, hC, fr.rf _ _ _⟩)
theorem k_room (l : Launch) (G : ad_G) (lo : Nat) (hp : ad_H) (x gA sA : Nat) (A : AST) (v : Int32) (k : Int32) (hT : l.stackTraces = false) (hC : CRA G hp x gA sA A) (hW : WF A) : ad_Ct l y_A_room b_A_room 5 rt_A_room hs_A_room 7 1 6 G lo hp [.ref x, .int v, .int k] (UP G hp x gA sA [ad_NSE] (q_rp (fun t => decide (t.2.1 = v)) A.1 16 v k, A)) := by
  obtain ⟨dA, tA, lA, rA, ta, ros, la, rr, rw, fg, fs, C⟩ := id hC
  exact (c_A_room l G lo hp x dA tA lA rA gA sA v k ta A.1 hT C.hX C.hA C.htt C.hn).ct (fun r h => ⟨cl_rp h, hC, fr.rf _ _ _⟩)
theorem r_thing (l : Launch) (G : ad_G) (lo : Nat) (hp : ad_H) (m0 : Nat) (bs : Nat → Nat) (th : Int32) (A : AST) (s0 : Int32) (p0 : Int32) (hM : MRA G hp m0 bs th A) (hW : WF A) : ad_Ct l y_M_thing b_M_thing 3 rt_M_thing hs_M_thing 2 0 0 G lo hp [.ref m0, .int s0, .int p0] (MP G hp m0 bs ((q_th A.1 s0 p0).1, ((q_th A.1 s0 p0).2, A.2.1, A.2.2))) := by
  obtain ⟨fs, C, M⟩ := id hM
  exact (c_M_thing l G lo hp m0 bs th A.2.2 fs A.1 A.2.1 s0 p0 C M hW.2.1 ).mono (fun r hp' h => by obtain ⟨h1, fs', h2, h3, h4⟩ := h; exact ⟨h1, ⟨fs', h2, h3⟩, h4⟩)
theorem r_list (l : Launch) (G : ad_G) (lo : Nat) (hp : ad_H) (m0 : Nat) (bs : Nat → Nat) (th : Int32) (A : AST) (v : Int32) (hM : MRA G hp m0 bs th A) (hW : WF A) : ad_Ct l y_M_list b_M_list 3 rt_M_list hs_M_list 4 0 0 G lo hp [.ref m0, .int v] (MP G hp m0 bs (q_ls A v)) := by
  obtain ⟨fs, C, M⟩ := id hM
  exact (c_M_list l G lo hp m0 bs th A.2.2 fs A.1 A.2.1 v C M hW.2.1 hW.1 (WF.un (show WF (A.1, A.2.1, A.2.2) from hW))).mono (fun r hp' h => by obtain ⟨h1, fs', h2, h3, h4⟩ := h; exact ⟨h1, ⟨fs', h2, h3⟩, h4⟩)
theorem r_drawn (l : Launch) (G : ad_G) (lo : Nat) (hp : ad_H) (m0 : Nat) (bs : Nat → Nat) (th : Int32) (A : AST) (v : Int32) (hM : MRA G hp m0 bs th A) (hW : WF A) : ad_Ct l y_M_drawn b_M_drawn 2 rt_M_drawn hs_M_drawn 2 0 0 G lo hp [.ref m0, .int v] (MP G hp m0 bs (q_dw A.2.1 v, A)) := by
  obtain ⟨fs, C, M⟩ := id hM
  exact (c_M_drawn l G lo hp m0 bs th A.2.2 fs A.1 A.2.1 v C M hW.2.1 hW.2.2.2.2.2.1).mono (fun r hp' h => by obtain ⟨h1, fs', h2, h3, h4⟩ := h; exact ⟨h1, ⟨fs', h2, h3⟩, h4⟩)
theorem r_check (l : Launch) (G : ad_G) (lo : Nat) (hp : ad_H) (m0 : Nat) (bs : Nat → Nat) (th : Int32) (A : AST) (v : Int32) (a0 : Int32) (b0 : Int32) (p0 : Int32) (hM : MRA G hp m0 bs th A) (hW : WF A) : ad_Ct l y_M_check b_M_check 8 rt_M_check hs_M_check 3 0 0 G lo hp [.ref m0, .int v, .int a0, .int b0, .int p0] (MP G hp m0 bs ((q_ck A.1 v a0 b0 p0).1, ((q_ck A.1 v a0 b0 p0).2, A.2.1, A.2.2))) := by
  obtain ⟨fs, C, M⟩ := id hM
  exact (c_M_check l G lo hp m0 bs th A.2.2 fs A.1 A.2.1 v a0 b0 p0 C M hW.2.1 hW.2.2.1).mono (fun r hp' h => by obtain ⟨h1, fs', h2, h3, h4⟩ := h; exact ⟨h1, ⟨fs', h2, h3⟩, h4⟩)
theorem r_gone (l : Launch) (G : ad_G) (lo : Nat) (hp : ad_H) (m0 : Nat) (bs : Nat → Nat) (th : Int32) (A : AST) (v : Int32) (hM : MRA G hp m0 bs th A) (hW : WF A) : ad_Ct l y_M_gone b_M_gone 4 rt_M_gone hs_M_gone 3 0 0 G lo hp [.ref m0, .int v] (MP G hp m0 bs ((q_gn A.1 v).1, ((q_gn A.1 v).2, A.2.1, A.2.2))) := by
  obtain ⟨fs, C, M⟩ := id hM
  exact (c_M_gone l G lo hp m0 bs th A.2.2 fs A.1 A.2.1 v C M hW.2.1 hW.2.2.1).mono (fun r hp' h => by obtain ⟨h1, fs', h2, h3, h4⟩ := h; exact ⟨h1, ⟨fs', h2, h3⟩, h4⟩)
theorem r_share (l : Launch) (G : ad_G) (lo : Nat) (hp : ad_H) (m0 : Nat) (bs : Nat → Nat) (th : Int32) (A : AST) (s0 : Int32) (p0 : Int32) (hM : MRA G hp m0 bs th A) (hW : WF A) : ad_Ct l y_M_share b_M_share 6 rt_M_share hs_M_share 3 0 0 G lo hp [.ref m0, .int s0, .int p0] (MP G hp m0 bs (q_sh (cc A.1 s0 1) (cc A.1 s0 2) (cc A.1 s0 3) s0 p0, A)) := by
  obtain ⟨fs, C, M⟩ := id hM
  exact (c_M_share l G lo hp m0 bs th A.2.2 fs A.1 A.2.1 s0 p0 C M hW.2.1 ).mono (fun r hp' h => by obtain ⟨h1, fs', h2, h3, h4⟩ := h; exact ⟨h1, ⟨fs', h2, h3⟩, h4⟩)
theorem r_next (l : Launch) (G : ad_G) (lo : Nat) (hp : ad_H) (m0 : Nat) (bs : Nat → Nat) (th : Int32) (A : AST) (s0 : Int32) (hM : MRA G hp m0 bs th A) (hW : WF A) : ad_Ct l y_M_next b_M_next 4 rt_M_next hs_M_next 3 0 0 G lo hp [.ref m0, .int s0] (MP G hp m0 bs (q_nx (cc A.1 s0 1) (cc A.1 s0 2) (cc A.1 s0 3) s0, A)) := by
  obtain ⟨fs, C, M⟩ := id hM
  exact (c_M_next l G lo hp m0 bs th A.2.2 fs A.1 A.2.1 s0 C M hW.2.1 ).mono (fun r hp' h => by obtain ⟨h1, fs', h2, h3, h4⟩ := h; exact ⟨h1, ⟨fs', h2, h3⟩, h4⟩)
theorem r_digit (l : Launch) (G : ad_G) (lo : Nat) (hp : ad_H) (m0 : Nat) (bs : Nat → Nat) (th : Int32) (A : AST) (k0 : Int32) (v0 : Int64) (hM : MRA G hp m0 bs th A) (hW : WF A) : ad_Ct l y_M_digit b_M_digit 4 rt_M_digit hs_M_digit 4 0 0 G lo hp [.ref m0, .int k0, .long v0] (MP G hp m0 bs (q_dg k0 v0, A)) := by
  obtain ⟨fs, C, M⟩ := id hM
  exact (c_M_digit l G lo hp m0 bs th A.2.2 fs A.1 A.2.1 k0 v0 C M hW.2.1 ).mono (fun r hp' h => by obtain ⟨h1, fs', h2, h3, h4⟩ := h; exact ⟨h1, ⟨fs', h2, h3⟩, h4⟩)
theorem r_good (l : Launch) (G : ad_G) (lo : Nat) (hp : ad_H) (m0 : Nat) (bs : Nat → Nat) (th : Int32) (A : AST) (k0 : Int32) (v0 : Int64) (hM : MRA G hp m0 bs th A) (hW : WF A) : ad_Ct l y_M_good b_M_good 4 rt_M_good hs_M_good 4 0 0 G lo hp [.ref m0, .int k0, .long v0] (MP G hp m0 bs (q_gd k0 v0, A)) := by
  obtain ⟨fs, C, M⟩ := id hM
  exact (c_M_good l G lo hp m0 bs th A.2.2 fs A.1 A.2.1 k0 v0 C M hW.2.1 ).mono (fun r hp' h => by obtain ⟨h1, fs', h2, h3, h4⟩ := h; exact ⟨h1, ⟨fs', h2, h3⟩, h4⟩)
theorem r_tag (l : Launch) (G : ad_G) (lo : Nat) (hp : ad_H) (m0 : Nat) (bs : Nat → Nat) (th : Int32) (A : AST) (v : Int32) (h0 : Int32) (p0 : Int32) (d0 : Int32) (hM : MRA G hp m0 bs th A) (hW : WF A) : ad_Ct l y_M_tag b_M_tag 8 rt_M_tag hs_M_tag 3 0 0 G lo hp [.ref m0, .int v, .int h0, .int p0, .int d0] (MP G hp m0 bs ((q_tg A.1 v h0 p0 d0).1, ((q_tg A.1 v h0 p0 d0).2, A.2.1, A.2.2))) := by
  obtain ⟨fs, C, M⟩ := id hM
  exact (c_M_tag l G lo hp m0 bs th A.2.2 fs A.1 A.2.1 v h0 p0 d0 C M hW.2.1 hW.2.2.2.1).mono (fun r hp' h => by obtain ⟨h1, fs', h2, h3, h4⟩ := h; exact ⟨h1, ⟨fs', h2, h3⟩, h4⟩)
theorem r_first (l : Launch) (G : ad_G) (lo : Nat) (hp : ad_H) (m0 : Nat) (bs : Nat → Nat) (th : Int32) (A : AST) (v : Int32) (h9 : Int32) (hM : MRA G hp m0 bs th A) (hW : WF A) : ad_Ct l y_M_first b_M_first 4 rt_M_first hs_M_first 3 0 0 G lo hp [.ref m0, .int v, .int h9] (MP G hp m0 bs (q_fs f_first A.1 v h9, A)) := by
  obtain ⟨fs, C, M⟩ := id hM
  exact (c_M_first l G lo hp m0 bs th A.2.2 fs A.1 A.2.1 v h9 C M hW.2.1 hW.2.2.2.1).mono (fun r hp' h => by obtain ⟨h1, fs', h2, h3, h4⟩ := h; exact ⟨h1, ⟨fs', h2, h3⟩, h4⟩)
theorem r_seen (l : Launch) (G : ad_G) (lo : Nat) (hp : ad_H) (m0 : Nat) (bs : Nat → Nat) (th : Int32) (A : AST) (v : Int32) (h9 : Int32) (hM : MRA G hp m0 bs th A) (hW : WF A) : ad_Ct l y_M_seen b_M_seen 4 rt_M_seen hs_M_seen 3 0 0 G lo hp [.ref m0, .int v, .int h9] (MP G hp m0 bs (q_fs f_seen A.1 v h9, A)) := by
  obtain ⟨fs, C, M⟩ := id hM
  exact (c_M_seen l G lo hp m0 bs th A.2.2 fs A.1 A.2.1 v h9 C M hW.2.1 hW.2.2.2.1).mono (fun r hp' h => by obtain ⟨h1, fs', h2, h3, h4⟩ := h; exact ⟨h1, ⟨fs', h2, h3⟩, h4⟩)
theorem r_weight (l : Launch) (G : ad_G) (lo : Nat) (hp : ad_H) (m0 : Nat) (bs : Nat → Nat) (th : Int32) (A : AST) (v : Int32) (g0 : Int32) (hM : MRA G hp m0 bs th A) (hW : WF A) : ad_Ct l y_M_weight b_M_weight 4 rt_M_weight hs_M_weight 3 0 0 G lo hp [.ref m0, .int v, .int g0] (MP G hp m0 bs ((q_wt A.1 v g0).1, ((q_wt A.1 v g0).2, A.2.1, A.2.2))) := by
  obtain ⟨fs, C, M⟩ := id hM
  exact (c_M_weight l G lo hp m0 bs th A.2.2 fs A.1 A.2.1 v g0 C M hW.2.1 hW.2.2.2.2.1).mono (fun r hp' h => by obtain ⟨h1, fs', h2, h3, h4⟩ := h; exact ⟨h1, ⟨fs', h2, h3⟩, h4⟩)
theorem r_report (l : Launch) (G : ad_G) (lo : Nat) (hp : ad_H) (m0 : Nat) (bs : Nat → Nat) (th : Int32) (A : AST) (v : Int32) (k : Int32) (hM : MRA G hp m0 bs th A) (hW : WF A) : ad_Ct l y_M_report b_M_report 5 rt_M_report hs_M_report 2 0 0 G lo hp [.ref m0, .int v, .int k] (MP G hp m0 bs (q_rp (fun t => decide (t.2.2.1 = v)) A.1 4 v k, A)) := by
  obtain ⟨fs, C, M⟩ := id hM
  exact (c_M_report l G lo hp m0 bs th A.2.2 fs A.1 A.2.1 v k C M hW.2.1 ).mono (fun r hp' h => by obtain ⟨h1, fs', h2, h3, h4⟩ := h; exact ⟨h1, ⟨fs', h2, h3⟩, h4⟩)
theorem r_room (l : Launch) (G : ad_G) (lo : Nat) (hp : ad_H) (m0 : Nat) (bs : Nat → Nat) (th : Int32) (A : AST) (v : Int32) (k : Int32) (hM : MRA G hp m0 bs th A) (hW : WF A) : ad_Ct l y_M_room b_M_room 5 rt_M_room hs_M_room 2 0 0 G lo hp [.ref m0, .int v, .int k] (MP G hp m0 bs (q_rp (fun t => decide (t.2.1 = v)) A.1 16 v k, A)) := by
  obtain ⟨fs, C, M⟩ := id hM
  exact (c_M_room l G lo hp m0 bs th A.2.2 fs A.1 A.2.1 v k C M hW.2.1 ).mono (fun r hp' h => by obtain ⟨h1, fs', h2, h3, h4⟩ := h; exact ⟨h1, ⟨fs', h2, h3⟩, h4⟩)
theorem n_thing (A : AST) (s0 : Int32) (p0 : Int32) : ((q_th A.1 s0 p0).1, ((q_th A.1 s0 p0).2, A.2.1, A.2.2)).1.1 ≤ 2 := by
  try simp only []
  unfold q_th
  repeat' split
  all_goals simp
theorem n_list (A : AST) (v : Int32) : (q_ls A v).1.1 ≤ 1 := by
  try simp only []
  unfold q_ls
  repeat' split
  all_goals simp
theorem n_drawn (A : AST) (v : Int32) : (q_dw A.2.1 v, A).1.1 ≤ 1 := by
  try simp only []
  unfold q_dw
  repeat' split
  all_goals simp
theorem n_check (A : AST) (v : Int32) (a0 : Int32) (b0 : Int32) (p0 : Int32) : ((q_ck A.1 v a0 b0 p0).1, ((q_ck A.1 v a0 b0 p0).2, A.2.1, A.2.2)).1.1 ≤ 2 := by
  try simp only []
  unfold q_ck
  repeat' split
  all_goals simp
theorem n_gone (A : AST) (v : Int32) : ((q_gn A.1 v).1, ((q_gn A.1 v).2, A.2.1, A.2.2)).1.1 ≤ 2 := by
  try simp only []
  unfold q_gn
  repeat' split
  all_goals simp
theorem n_share (A : AST) (s0 : Int32) (p0 : Int32) : (q_sh (cc A.1 s0 1) (cc A.1 s0 2) (cc A.1 s0 3) s0 p0, A).1.1 ≤ 1 := by
  try simp only []
  unfold q_sh
  repeat' split
  all_goals simp
theorem n_next (A : AST) (s0 : Int32) : (q_nx (cc A.1 s0 1) (cc A.1 s0 2) (cc A.1 s0 3) s0, A).1.1 ≤ 1 := by
  try simp only []
  unfold q_nx
  repeat' split
  all_goals simp
theorem n_digit (A : AST) (k0 : Int32) (v0 : Int64) : (q_dg k0 v0, A).1.1 ≤ 2 := by
  try simp only []
  unfold q_dg
  repeat' split
  all_goals simp
theorem n_good (A : AST) (k0 : Int32) (v0 : Int64) : (q_gd k0 v0, A).1.1 ≤ 2 := by
  try simp only []
  unfold q_gd
  repeat' split
  all_goals simp
theorem n_tag (A : AST) (v : Int32) (h0 : Int32) (p0 : Int32) (d0 : Int32) : ((q_tg A.1 v h0 p0 d0).1, ((q_tg A.1 v h0 p0 d0).2, A.2.1, A.2.2)).1.1 ≤ 3 := by
  try simp only []
  unfold q_tg
  repeat' split
  all_goals simp
theorem n_first (A : AST) (v : Int32) (h9 : Int32) : (q_fs f_first A.1 v h9, A).1.1 ≤ 2 := by
  try simp only []
  unfold q_fs
  repeat' split
  all_goals simp
theorem n_seen (A : AST) (v : Int32) (h9 : Int32) : (q_fs f_seen A.1 v h9, A).1.1 ≤ 2 := by
  try simp only []
  unfold q_fs
  repeat' split
  all_goals simp
theorem n_weight (A : AST) (v : Int32) (g0 : Int32) : ((q_wt A.1 v g0).1, ((q_wt A.1 v g0).2, A.2.1, A.2.2)).1.1 ≤ 2 := by
  try simp only []
  unfold q_wt
  repeat' split
  all_goals simp
theorem n_report (A : AST) (v : Int32) (k : Int32) : (q_rp (fun t => decide (t.2.2.1 = v)) A.1 4 v k, A).1.1 ≤ 1 := by
  try simp only []
  unfold q_rp
  repeat' split
  all_goals simp
theorem n_room (A : AST) (v : Int32) (k : Int32) : (q_rp (fun t => decide (t.2.1 = v)) A.1 16 v k, A).1.1 ≤ 1 := by
  try simp only []
  unfold q_rp
  repeat' split
  all_goals simp
theorem z_gone (A : AST) (v : Int32) : ((q_gn A.1 v).1, ((q_gn A.1 v).2, A.2.1, A.2.2)).1.2 = 0 ∨ ((q_gn A.1 v).1, ((q_gn A.1 v).2, A.2.1, A.2.2)).1.2 = 1 := by
  try simp only []
  unfold q_gn
  repeat' split
  all_goals simp
theorem z_good (A : AST) (k0 : Int32) (v0 : Int64) : (q_gd k0 v0, A).1.2 = 0 ∨ (q_gd k0 v0, A).1.2 = 1 := by
  try simp only []
  unfold q_gd sp_closes
  repeat' split
  all_goals simp
