theorem q_inl {xs : List String} {q : Nat × Int32} {v : Option Value} (h : (.inl v : ad_R) = q_ans xs q) : q.1 = 0 ∧ v = some (.int q.2) := by
  unfold q_ans at h
  split at h
  · next e => exact ⟨e, Sum.inl.inj h⟩
  · cases h
theorem q_inr {xs : List String} {q : Nat × Int32} {X : String} (h : (.inr X : ad_R) = q_ans xs q) : ∃ k, q.1 = k + 1 ∧ X = xs.getD k "" := by
  unfold q_ans at h
  split at h
  · cases h
  · next k e => exact ⟨k, e, Sum.inr.inj h⟩
def HP (G : ad_G) (hp : ad_H) (x gA sA oA : Nat) (q : (Nat × Int32) × AST) : ad_R → ad_H → Prop := fun r hp' => r = .inl (some (.int (nI q.1.1))) ∧ CRA G hp' x gA sA q.2 ∧ (∃ f' : Nat → Int64, hp' oA = some (.inl (G.2.1 2, 1, .inr (.inl f'))) ∧ (q.1.1 = 0 → f' 0 = q.1.2.toInt64)) ∧ ∀ z e, hp z = some e → fo gA sA z e → z ≠ oA → hp' z = some e
section FND
variable {p : Program} {l : Launch} {e : Env} {R : Room} {s : State} {m : MethodId} {args : Array Value} {below : List Frame} {meth : Method} {c : Code} {H : Heap} {locs : List Loc} {cells slots : Nat} {Q : State → Prop}
variable {cc : ByteArray} {nL pc : Nat} {ls : Array Slot} {st : List Value} {own : String} {y : MethodName} {rt : Option FieldType} {hs : List (Nat × Nat × Nat × Nat)}
theorem fd_hit (S : CallFix p m c cc nL s args ad_T own) {pl : Platform} (hpl : pl.magicAccessors = ({} : Platform).magicAccessors) {a b h ix : Nat} {X : String} {t : List (Nat × Nat × Nat × Nat)} {k : ClassId} (hl : Cond.classLink own ix X ∈ ad_T) (hca : Cond.castable X X ∈ ad_T) (hC : s.vm.findClass X = some k) (hcov : covers ⟨a, b, h, ix⟩ pc = true) (h0 : ix ≠ 0) : ad_fnd pl s m.cls pc k (tableOf ((a, b, h, ix) :: t)) h := by
  obtain ⟨-, -, -, hown, hts⟩ := S
  obtain ⟨c0, h1, h2⟩ := Cond.classLink_spec hown (hts _ hl) pl hpl
  cases h1.symm.trans hC
  obtain ⟨c3, c4, hc3, hc4, hasg⟩ := Cond.castable_spec (hts _ hca)
  cases hc3.symm.trans hC
  cases hc4.symm.trans hC
  exact Or.inr ⟨hcov, h0, _, h2, Or.inl ⟨hasg, rfl⟩⟩
theorem fd_miss (S : CallFix p m c cc nL s args ad_T own) {pl : Platform} (hpl : pl.magicAccessors = ({} : Platform).magicAccessors) {a b h ix h9 : Nat} {X Y : String} {t : List (Nat × Nat × Nat × Nat)} {k : ClassId} (hl : Cond.classLink own ix Y ∈ ad_T) (hN : va_Nc X Y s) (hC : s.vm.findClass X = some k) (hcov : covers ⟨a, b, h, ix⟩ pc = true) (h0 : ix ≠ 0) (ht : ad_fnd pl s m.cls pc k (tableOf t) h9) : ad_fnd pl s m.cls pc k (tableOf ((a, b, h, ix) :: t)) h9 := by
  obtain ⟨-, -, -, hown, hts⟩ := S
  obtain ⟨c0, h1, h2⟩ := Cond.classLink_spec hown (hts _ hl) pl hpl
  obtain ⟨c1, c2, n1, n2, n3⟩ := hN
  cases n1.symm.trans hC
  cases n2.symm.trans h1
  exact Or.inr ⟨hcov, h0, _, h2, Or.inr ⟨n3, ht⟩⟩
theorem ad_catch2 (M : ad_M y cc nL rt hs p s m meth c) {x : Addr} {cell : Cell} {C : String} (hx : H[x]? = some cell) (hv : cell.vm = .none) (hC : s.vm.findClass C = some cell.cls) {h : Nat} (hf : e.platform.magicAccessors = ({} : Platform).magicAccessors → ad_fnd e.platform s m.cls pc cell.cls (tableOf hs) h)
    (kk : W p l e R s m args below meth c H locs cells slots Q (F0 m h ls [.ref x])) : ad_WT p l e R s m args below meth c H locs cells slots Q (F0 m pc ls st) x := fun T hT X => ad_catch M hx hv hC (hf (by rw [X.admits.platform])) kk T hT X
end FND
set_option maxHeartbeats 4000000 in
set_option maxRecDepth 100000 in
theorem h_thing (l : Launch) (G : ad_G) (lo : Nat) (hp : ad_H) (x gA sA oA : Nat) (A : AST) (s0 : Int32) (p0 : Int32) (f : Nat → Int64)  (hT : l.stackTraces = false) (hC : CRA G hp x gA sA A) (hW : WF A) (ho : hp oA = some (.inl (G.2.1 2, 1, .inr (.inl f)))) : ad_Ct l y_L_thing b_L_thing 5 rt_L_thing hs_L_thing 9 3 109 G lo hp [.ref x, .int s0, .int p0, .ref oA] (HP G hp x gA sA oA ((q_th A.1 s0 p0).1, ((q_th A.1 s0 p0).2, A.2.1, A.2.2))) := by
  intro p e s m below meth c M hts hB hP
  have hx := M.1
  have hb := M.2.1
  have hml := M.2.2.1
  have hown : s.vm.findClass "AuditDrawsLaw" = some m.cls := M.2.2.2.1
  have S : CallFix p m c b_L_thing 5 s _ ad_T "AuditDrawsLaw" := ⟨hx, hb, hml, hown, hts⟩
  have I : ad_I G lo s hp s.heap [] := ad_I.rf hB hP
  have hl := lv_entry ([.ref x, .int s0, .int p0, .ref oA]) (n := 5) (Nat.le_of_ble_eq_true rfl)
  rw [lg_entry_eq]
  generalize (lg_sl ([.ref x, .int s0, .int p0, .ref oA]) ++ List.replicate (5 - (lg_sl ([.ref x, .int s0, .int p0, .ref oA])).length) Slot.unset).toArray = ls at hl ⊢
  have hl : lv_has ls 5 [(0, .ref x), (1, .int s0), (2, .int p0), (3, .ref oA)] := hl
  obtain ⟨_, hX⟩ := hC.self
  refine lv_aload_n hx hb d_L_thing_0 rfl (lv_at hl 3 rfl) ?_
  refine lv_iconst (v := 0) hx hb d_L_thing_1 (by decide) ?_
  refine lv_aload_n hx hb d_L_thing_2 rfl (lv_at hl 0 rfl) ?_
  refine lv_iload_n hx hb d_L_thing_3 rfl (lv_at hl 1 rfl) ?_
  refine lv_iload_n hx hb d_L_thing_4 rfl (lv_at hl 2 rfl) ?_
  refine ad_cZ S I (ad_ivV (As := [.int s0, .int p0]) (rest := [.int 0, .ref oA]) S (ad_recv I hX K_AD) w_96 w_97 w_98 Y_A_thing ⟨by decide, by decide, np_A_thing⟩ rfl d_L_thing_5) (k_thing l G lo hp x gA sA A s0 p0 hT hC hW) Y_A_thing hl.1 ⟨Nat.le_of_ble_eq_true rfl, Nat.le_of_ble_eq_true rfl⟩ (Nat.le_of_ble_eq_true rfl) (Nat.le_of_ble_eq_true rfl) d_L_thing_5 (fun v9 hp1 H1 locs1 hQ I => ?_) (fun C9 hp1 H1 locs1 x9 cell hQ I h3 h4 h5 => ?_)
  · obtain ⟨hr, hC1, hF⟩ := hQ
    obtain ⟨hz, hv9⟩ := q_inl hr
    subst hv9
    have ho1 := hF oA _ ho trivial
    refine lv_i2l (v := (((q_th A.1 s0 p0).1, ((q_th A.1 s0 p0).2, A.2.1, A.2.2)).1.2).toInt64) hx hb d_L_thing_8 rfl ?_
    refine ad_last S I ho1 (show vp_in 0 1 by unfold vp_in; decide) d_L_thing_9 (fun H1 locs1 I => ?_)
    obtain ⟨hp2, ehp2⟩ : ∃ z : ad_H, z = ad_up hp1 oA (.inl (G.2.1 2, 1, .inr (.inl (vp_updL f 0 ((((q_th A.1 s0 p0).1, ((q_th A.1 s0 p0).2, A.2.1, A.2.2)).1.2).toInt64))))) := ⟨_, rfl⟩
    have I : ad_I G lo s hp2 H1 locs1 := by rw [ehp2]; exact I
    have hC2 := hC1.far (hp' := hp2) (fun z e hz hf => by rw [ehp2, ad_up_n _ (fun hh => by subst hh; cases hz.symm.trans ho1; exact hf trivial)]; exact hz) (ad_I.e I)
    have ho2 : hp2 oA = some (.inl (G.2.1 2, 1, .inr (.inl (vp_updL f 0 ((((q_th A.1 s0 p0).1, ((q_th A.1 s0 p0).2, A.2.1, A.2.2)).1.2).toInt64))))) := by rw [ehp2]; exact ad_up_s _ _ _
    refine lv_goto (tgt := 21) hx hb d_L_thing_10 (by decide) ?_
    refine lv_iconst (v := 0) hx hb d_L_thing_21 (by decide) ?_
    exact ad_iret M I rfl (by omega) (by omega) (⟨by rw [hz]; rfl, hC2, ⟨_, ho2, fun _ => pk_uLs⟩, fun z e hz hf hne => by rw [ehp2, ad_up_n _ hne]; exact hF z e hz hf⟩) d_L_thing_22
  · obtain ⟨hr, hC1, hF⟩ := hQ
    obtain ⟨k9, hk9, hC9⟩ := q_inr hr
    have hn9 := n_thing A s0 p0
    have hk3 : k9 = 0 ∨ k9 = 1 := by omega
    rcases hk3 with rfl | rfl
    · have hC9 : C9 = ad_NSE := hC9
      subst hC9
      refine ad_catch2 M h3 h4 h5 (fun hpl => fd_hit S hpl w_94 w_105 h5 (by decide) (by decide)) ?_
      refine lv_astore (lv' := [(4, .ref x9), (0, .ref x), (1, .int s0), (2, .int p0), (3, .ref oA)]) hx hb d_L_thing_13 hl (by decide) rfl (fun ls hl => ?_)
      refine lv_iconst (v := 1) hx hb d_L_thing_15 (by decide) ?_
      exact ad_iret M I rfl (by omega) (by omega) (⟨by rw [hk9]; rfl, hC1, ⟨f, hF oA _ ho trivial, fun h => by rw [hk9] at h; cases h⟩, fun z e hz hf _ => hF z e hz hf⟩) d_L_thing_16
    · have hC9 : C9 = ad_ISE := hC9
      subst hC9
      refine ad_catch2 M h3 h4 h5 (fun hpl => fd_miss S hpl w_94 (hB.2.2.2.2.2.2.2.1 (_, _) (by decide)) h5 (by decide) (by decide) (fd_hit S hpl w_95 w_177 h5 (by decide) (by decide))) ?_
      refine lv_astore (lv' := [(4, .ref x9), (0, .ref x), (1, .int s0), (2, .int p0), (3, .ref oA)]) hx hb d_L_thing_17 hl (by decide) rfl (fun ls hl => ?_)
      refine lv_iconst (v := 2) hx hb d_L_thing_19 (by decide) ?_
      exact ad_iret M I rfl (by omega) (by omega) (⟨by rw [hk9]; rfl, hC1, ⟨f, hF oA _ ho trivial, fun h => by rw [hk9] at h; cases h⟩, fun z e hz hf _ => hF z e hz hf⟩) d_L_thing_20
set_option maxHeartbeats 4000000 in
set_option maxRecDepth 100000 in
theorem h_list (l : Launch) (G : ad_G) (lo : Nat) (hp : ad_H) (x gA sA oA : Nat) (A : AST) (v : Int32) (f : Nat → Int64)  (hT : l.stackTraces = false) (hC : CRA G hp x gA sA A) (hW : WF A) (ho : hp oA = some (.inl (G.2.1 2, 1, .inr (.inl f)))) : ad_Ct l y_L_list b_L_list 4 rt_L_list hs_L_list 10 128 12800 G lo hp [.ref x, .int v, .ref oA] (HP G hp x gA sA oA (q_ls A v)) := by
  intro p e s m below meth c M hts hB hP
  have hx := M.1
  have hb := M.2.1
  have hml := M.2.2.1
  have hown : s.vm.findClass "AuditDrawsLaw" = some m.cls := M.2.2.2.1
  have S : CallFix p m c b_L_list 4 s _ ad_T "AuditDrawsLaw" := ⟨hx, hb, hml, hown, hts⟩
  have I : ad_I G lo s hp s.heap [] := ad_I.rf hB hP
  have hl := lv_entry ([.ref x, .int v, .ref oA]) (n := 4) (Nat.le_of_ble_eq_true rfl)
  rw [lg_entry_eq]
  generalize (lg_sl ([.ref x, .int v, .ref oA]) ++ List.replicate (4 - (lg_sl ([.ref x, .int v, .ref oA])).length) Slot.unset).toArray = ls at hl ⊢
  have hl : lv_has ls 4 [(0, .ref x), (1, .int v), (2, .ref oA)] := hl
  obtain ⟨_, hX⟩ := hC.self
  refine lv_aload_n hx hb d_L_list_0 rfl (lv_at hl 2 rfl) ?_
  refine lv_iconst (v := 0) hx hb d_L_list_1 (by decide) ?_
  refine lv_aload_n hx hb d_L_list_2 rfl (lv_at hl 0 rfl) ?_
  refine lv_iload_n hx hb d_L_list_3 rfl (lv_at hl 1 rfl) ?_
  refine ad_cZ S I (ad_ivV (As := [.int v]) (rest := [.int 0, .ref oA]) S (ad_recv I hX K_AD) w_284 w_285 w_286 Y_A_list ⟨by decide, by decide, np_A_list⟩ rfl d_L_list_4) (k_list l G lo hp x gA sA A v hT hC hW) Y_A_list hl.1 ⟨Nat.le_of_ble_eq_true rfl, Nat.le_of_ble_eq_true rfl⟩ (Nat.le_of_ble_eq_true rfl) (Nat.le_of_ble_eq_true rfl) d_L_list_4 (fun v9 hp1 H1 locs1 hQ I => ?_) (fun C9 hp1 H1 locs1 x9 cell hQ I h3 h4 h5 => ?_)
  · obtain ⟨hr, hC1, hF⟩ := hQ
    obtain ⟨hz, hv9⟩ := q_inl hr
    subst hv9
    have ho1 := hF oA _ ho trivial
    refine lv_i2l (v := ((q_ls A v).1.2).toInt64) hx hb d_L_list_7 rfl ?_
    refine ad_last S I ho1 (show vp_in 0 1 by unfold vp_in; decide) d_L_list_8 (fun H1 locs1 I => ?_)
    obtain ⟨hp2, ehp2⟩ : ∃ z : ad_H, z = ad_up hp1 oA (.inl (G.2.1 2, 1, .inr (.inl (vp_updL f 0 (((q_ls A v).1.2).toInt64))))) := ⟨_, rfl⟩
    have I : ad_I G lo s hp2 H1 locs1 := by rw [ehp2]; exact I
    have hC2 := hC1.far (hp' := hp2) (fun z e hz hf => by rw [ehp2, ad_up_n _ (fun hh => by subst hh; cases hz.symm.trans ho1; exact hf trivial)]; exact hz) (ad_I.e I)
    have ho2 : hp2 oA = some (.inl (G.2.1 2, 1, .inr (.inl (vp_updL f 0 (((q_ls A v).1.2).toInt64))))) := by rw [ehp2]; exact ad_up_s _ _ _
    refine lv_goto (tgt := 15) hx hb d_L_list_9 (by decide) ?_
    refine lv_iconst (v := 0) hx hb d_L_list_15 (by decide) ?_
    exact ad_iret M I rfl (by omega) (by omega) (⟨by rw [hz]; rfl, hC2, ⟨_, ho2, fun _ => pk_uLs⟩, fun z e hz hf hne => by rw [ehp2, ad_up_n _ hne]; exact hF z e hz hf⟩) d_L_list_16
  · obtain ⟨hr, hC1, hF⟩ := hQ
    obtain ⟨k9, hk9, hC9⟩ := q_inr hr
    have hn9 := n_list A v
    have hk3 : k9 = 0 := by omega
    rcases hk3 with rfl
    have hC9 : C9 = ad_IAE := hC9
    subst hC9
    refine ad_catch2 M h3 h4 h5 (fun hpl => fd_hit S hpl w_283 w_290 h5 (by decide) (by decide)) ?_
    refine lv_astore_n (lv' := [(3, .ref x9), (0, .ref x), (1, .int v), (2, .ref oA)]) hx hb d_L_list_12 rfl hl (by decide) rfl (fun ls hl => ?_)
    refine lv_iconst (v := 1) hx hb d_L_list_13 (by decide) ?_
    exact ad_iret M I rfl (by omega) (by omega) (⟨by rw [hk9]; rfl, hC1, ⟨f, hF oA _ ho trivial, fun h => by rw [hk9] at h; cases h⟩, fun z e hz hf _ => hF z e hz hf⟩) d_L_list_14
set_option maxHeartbeats 4000000 in
set_option maxRecDepth 100000 in
theorem h_drawn (l : Launch) (G : ad_G) (lo : Nat) (hp : ad_H) (x gA sA oA : Nat) (A : AST) (v : Int32) (f : Nat → Int64)  (hT : l.stackTraces = false) (hC : CRA G hp x gA sA A) (hW : WF A) (ho : hp oA = some (.inl (G.2.1 2, 1, .inr (.inl f)))) : ad_Ct l y_L_drawn b_L_drawn 4 rt_L_drawn hs_L_drawn 8 1 6 G lo hp [.ref x, .int v, .ref oA] (HP G hp x gA sA oA (q_dw A.2.1 v, A)) := by
  intro p e s m below meth c M hts hB hP
  have hx := M.1
  have hb := M.2.1
  have hml := M.2.2.1
  have hown : s.vm.findClass "AuditDrawsLaw" = some m.cls := M.2.2.2.1
  have S : CallFix p m c b_L_drawn 4 s _ ad_T "AuditDrawsLaw" := ⟨hx, hb, hml, hown, hts⟩
  have I : ad_I G lo s hp s.heap [] := ad_I.rf hB hP
  have hl := lv_entry ([.ref x, .int v, .ref oA]) (n := 4) (Nat.le_of_ble_eq_true rfl)
  rw [lg_entry_eq]
  generalize (lg_sl ([.ref x, .int v, .ref oA]) ++ List.replicate (4 - (lg_sl ([.ref x, .int v, .ref oA])).length) Slot.unset).toArray = ls at hl ⊢
  have hl : lv_has ls 4 [(0, .ref x), (1, .int v), (2, .ref oA)] := hl
  obtain ⟨_, hX⟩ := hC.self
  refine lv_aload_n hx hb d_L_drawn_0 rfl (lv_at hl 2 rfl) ?_
  refine lv_iconst (v := 0) hx hb d_L_drawn_1 (by decide) ?_
  refine lv_aload_n hx hb d_L_drawn_2 rfl (lv_at hl 0 rfl) ?_
  refine lv_iload_n hx hb d_L_drawn_3 rfl (lv_at hl 1 rfl) ?_
  refine ad_cZ S I (ad_ivV (As := [.int v]) (rest := [.int 0, .ref oA]) S (ad_recv I hX K_AD) w_363 w_364 w_365 Y_A_drawn ⟨by decide, by decide, np_A_drawn⟩ rfl d_L_drawn_4) (k_drawn l G lo hp x gA sA A v hT hC hW) Y_A_drawn hl.1 ⟨Nat.le_of_ble_eq_true rfl, Nat.le_of_ble_eq_true rfl⟩ (Nat.le_of_ble_eq_true rfl) (Nat.le_of_ble_eq_true rfl) d_L_drawn_4 (fun v9 hp1 H1 locs1 hQ I => ?_) (fun C9 hp1 H1 locs1 x9 cell hQ I h3 h4 h5 => ?_)
  · obtain ⟨hr, hC1, hF⟩ := hQ
    obtain ⟨hz, hv9⟩ := q_inl hr
    subst hv9
    have ho1 := hF oA _ ho trivial
    refine lv_i2l (v := ((q_dw A.2.1 v, A).1.2).toInt64) hx hb d_L_drawn_7 rfl ?_
    refine ad_last S I ho1 (show vp_in 0 1 by unfold vp_in; decide) d_L_drawn_8 (fun H1 locs1 I => ?_)
    obtain ⟨hp2, ehp2⟩ : ∃ z : ad_H, z = ad_up hp1 oA (.inl (G.2.1 2, 1, .inr (.inl (vp_updL f 0 (((q_dw A.2.1 v, A).1.2).toInt64))))) := ⟨_, rfl⟩
    have I : ad_I G lo s hp2 H1 locs1 := by rw [ehp2]; exact I
    have hC2 := hC1.far (hp' := hp2) (fun z e hz hf => by rw [ehp2, ad_up_n _ (fun hh => by subst hh; cases hz.symm.trans ho1; exact hf trivial)]; exact hz) (ad_I.e I)
    have ho2 : hp2 oA = some (.inl (G.2.1 2, 1, .inr (.inl (vp_updL f 0 (((q_dw A.2.1 v, A).1.2).toInt64))))) := by rw [ehp2]; exact ad_up_s _ _ _
    refine lv_goto (tgt := 15) hx hb d_L_drawn_9 (by decide) ?_
    refine lv_iconst (v := 0) hx hb d_L_drawn_15 (by decide) ?_
    exact ad_iret M I rfl (by omega) (by omega) (⟨by rw [hz]; rfl, hC2, ⟨_, ho2, fun _ => pk_uLs⟩, fun z e hz hf hne => by rw [ehp2, ad_up_n _ hne]; exact hF z e hz hf⟩) d_L_drawn_16
  · obtain ⟨hr, hC1, hF⟩ := hQ
    obtain ⟨k9, hk9, hC9⟩ := q_inr hr
    have hn9 := n_drawn A v
    have hk3 : k9 = 0 := by omega
    rcases hk3 with rfl
    have hC9 : C9 = ad_NSE := hC9
    subst hC9
    refine ad_catch2 M h3 h4 h5 (fun hpl => fd_hit S hpl w_94 w_105 h5 (by decide) (by decide)) ?_
    refine lv_astore_n (lv' := [(3, .ref x9), (0, .ref x), (1, .int v), (2, .ref oA)]) hx hb d_L_drawn_12 rfl hl (by decide) rfl (fun ls hl => ?_)
    refine lv_iconst (v := 1) hx hb d_L_drawn_13 (by decide) ?_
    exact ad_iret M I rfl (by omega) (by omega) (⟨by rw [hk9]; rfl, hC1, ⟨f, hF oA _ ho trivial, fun h => by rw [hk9] at h; cases h⟩, fun z e hz hf _ => hF z e hz hf⟩) d_L_drawn_14
set_option maxHeartbeats 4000000 in
set_option maxRecDepth 100000 in
theorem h_check (l : Launch) (G : ad_G) (lo : Nat) (hp : ad_H) (x gA sA oA : Nat) (A : AST) (v : Int32) (a0 : Int32) (b0 : Int32) (p0 : Int32) (f : Nat → Int64)  (hT : l.stackTraces = false) (hC : CRA G hp x gA sA A) (hW : WF A) (ho : hp oA = some (.inl (G.2.1 2, 1, .inr (.inl f)))) : ad_Ct l y_L_check b_L_check 7 rt_L_check hs_L_check 9 1 6 G lo hp [.ref x, .int v, .int a0, .int b0, .int p0, .ref oA] (HP G hp x gA sA oA ((q_ck A.1 v a0 b0 p0).1, ((q_ck A.1 v a0 b0 p0).2, A.2.1, A.2.2))) := by
  intro p e s m below meth c M hts hB hP
  have hx := M.1
  have hb := M.2.1
  have hml := M.2.2.1
  have hown : s.vm.findClass "AuditDrawsLaw" = some m.cls := M.2.2.2.1
  have S : CallFix p m c b_L_check 7 s _ ad_T "AuditDrawsLaw" := ⟨hx, hb, hml, hown, hts⟩
  have I : ad_I G lo s hp s.heap [] := ad_I.rf hB hP
  have hl := lv_entry ([.ref x, .int v, .int a0, .int b0, .int p0, .ref oA]) (n := 7) (Nat.le_of_ble_eq_true rfl)
  rw [lg_entry_eq]
  generalize (lg_sl ([.ref x, .int v, .int a0, .int b0, .int p0, .ref oA]) ++ List.replicate (7 - (lg_sl ([.ref x, .int v, .int a0, .int b0, .int p0, .ref oA])).length) Slot.unset).toArray = ls at hl ⊢
  have hl : lv_has ls 7 [(0, .ref x), (1, .int v), (2, .int a0), (3, .int b0), (4, .int p0), (5, .ref oA)] := hl
  obtain ⟨_, hX⟩ := hC.self
  refine lv_aload hx hb d_L_check_0 (lv_at hl 5 rfl) ?_
  refine lv_iconst (v := 0) hx hb d_L_check_2 (by decide) ?_
  refine lv_aload_n hx hb d_L_check_3 rfl (lv_at hl 0 rfl) ?_
  refine lv_iload_n hx hb d_L_check_4 rfl (lv_at hl 1 rfl) ?_
  refine lv_iload_n hx hb d_L_check_5 rfl (lv_at hl 2 rfl) ?_
  refine lv_iload_n hx hb d_L_check_6 rfl (lv_at hl 3 rfl) ?_
  refine lv_iload hx hb d_L_check_7 (lv_at hl 4 rfl) ?_
  refine ad_cZ S I (ad_ivV (As := [.int v, .int a0, .int b0, .int p0]) (rest := [.int 0, .ref oA]) S (ad_recv I hX K_AD) w_370 w_371 w_372 Y_A_check ⟨by decide, by decide, np_A_check⟩ rfl d_L_check_9) (k_check l G lo hp x gA sA A v a0 b0 p0 hT hC hW) Y_A_check hl.1 ⟨Nat.le_of_ble_eq_true rfl, Nat.le_of_ble_eq_true rfl⟩ (Nat.le_of_ble_eq_true rfl) (Nat.le_of_ble_eq_true rfl) d_L_check_9 (fun v9 hp1 H1 locs1 hQ I => ?_) (fun C9 hp1 H1 locs1 x9 cell hQ I h3 h4 h5 => ?_)
  · obtain ⟨hr, hC1, hF⟩ := hQ
    obtain ⟨hz, hv9⟩ := q_inl hr
    subst hv9
    have ho1 := hF oA _ ho trivial
    refine lv_i2l (v := (((q_ck A.1 v a0 b0 p0).1, ((q_ck A.1 v a0 b0 p0).2, A.2.1, A.2.2)).1.2).toInt64) hx hb d_L_check_12 rfl ?_
    refine ad_last S I ho1 (show vp_in 0 1 by unfold vp_in; decide) d_L_check_13 (fun H1 locs1 I => ?_)
    obtain ⟨hp2, ehp2⟩ : ∃ z : ad_H, z = ad_up hp1 oA (.inl (G.2.1 2, 1, .inr (.inl (vp_updL f 0 ((((q_ck A.1 v a0 b0 p0).1, ((q_ck A.1 v a0 b0 p0).2, A.2.1, A.2.2)).1.2).toInt64))))) := ⟨_, rfl⟩
    have I : ad_I G lo s hp2 H1 locs1 := by rw [ehp2]; exact I
    have hC2 := hC1.far (hp' := hp2) (fun z e hz hf => by rw [ehp2, ad_up_n _ (fun hh => by subst hh; cases hz.symm.trans ho1; exact hf trivial)]; exact hz) (ad_I.e I)
    have ho2 : hp2 oA = some (.inl (G.2.1 2, 1, .inr (.inl (vp_updL f 0 ((((q_ck A.1 v a0 b0 p0).1, ((q_ck A.1 v a0 b0 p0).2, A.2.1, A.2.2)).1.2).toInt64))))) := by rw [ehp2]; exact ad_up_s _ _ _
    refine lv_goto (tgt := 25) hx hb d_L_check_14 (by decide) ?_
    refine lv_iconst (v := 0) hx hb d_L_check_25 (by decide) ?_
    exact ad_iret M I rfl (by omega) (by omega) (⟨by rw [hz]; rfl, hC2, ⟨_, ho2, fun _ => pk_uLs⟩, fun z e hz hf hne => by rw [ehp2, ad_up_n _ hne]; exact hF z e hz hf⟩) d_L_check_26
  · obtain ⟨hr, hC1, hF⟩ := hQ
    obtain ⟨k9, hk9, hC9⟩ := q_inr hr
    have hn9 := n_check A v a0 b0 p0
    have hk3 : k9 = 0 ∨ k9 = 1 := by omega
    rcases hk3 with rfl | rfl
    · have hC9 : C9 = ad_NSE := hC9
      subst hC9
      refine ad_catch2 M h3 h4 h5 (fun hpl => fd_hit S hpl w_94 w_105 h5 (by decide) (by decide)) ?_
      refine lv_astore (lv' := [(6, .ref x9), (0, .ref x), (1, .int v), (2, .int a0), (3, .int b0), (4, .int p0), (5, .ref oA)]) hx hb d_L_check_17 hl (by decide) rfl (fun ls hl => ?_)
      refine lv_iconst (v := 1) hx hb d_L_check_19 (by decide) ?_
      exact ad_iret M I rfl (by omega) (by omega) (⟨by rw [hk9]; rfl, hC1, ⟨f, hF oA _ ho trivial, fun h => by rw [hk9] at h; cases h⟩, fun z e hz hf _ => hF z e hz hf⟩) d_L_check_20
    · have hC9 : C9 = ad_ISE := hC9
      subst hC9
      refine ad_catch2 M h3 h4 h5 (fun hpl => fd_miss S hpl w_94 (hB.2.2.2.2.2.2.2.1 (_, _) (by decide)) h5 (by decide) (by decide) (fd_hit S hpl w_95 w_177 h5 (by decide) (by decide))) ?_
      refine lv_astore (lv' := [(6, .ref x9), (0, .ref x), (1, .int v), (2, .int a0), (3, .int b0), (4, .int p0), (5, .ref oA)]) hx hb d_L_check_21 hl (by decide) rfl (fun ls hl => ?_)
      refine lv_iconst (v := 2) hx hb d_L_check_23 (by decide) ?_
      exact ad_iret M I rfl (by omega) (by omega) (⟨by rw [hk9]; rfl, hC1, ⟨f, hF oA _ ho trivial, fun h => by rw [hk9] at h; cases h⟩, fun z e hz hf _ => hF z e hz hf⟩) d_L_check_24
set_option maxHeartbeats 4000000 in
set_option maxRecDepth 100000 in
theorem h_gone (l : Launch) (G : ad_G) (lo : Nat) (hp : ad_H) (x gA sA oA : Nat) (A : AST) (v : Int32) (f : Nat → Int64)  (hT : l.stackTraces = false) (hC : CRA G hp x gA sA A) (hW : WF A) (ho : hp oA = some (.inl (G.2.1 2, 1, .inr (.inl f)))) : ad_Ct l y_L_gone b_L_gone 4 rt_L_gone hs_L_gone 9 1 6 G lo hp [.ref x, .int v, .ref oA] (HP G hp x gA sA oA ((q_gn A.1 v).1, ((q_gn A.1 v).2, A.2.1, A.2.2))) := by
  intro p e s m below meth c M hts hB hP
  have hx := M.1
  have hb := M.2.1
  have hml := M.2.2.1
  have hown : s.vm.findClass "AuditDrawsLaw" = some m.cls := M.2.2.2.1
  have S : CallFix p m c b_L_gone 4 s _ ad_T "AuditDrawsLaw" := ⟨hx, hb, hml, hown, hts⟩
  have I : ad_I G lo s hp s.heap [] := ad_I.rf hB hP
  have hl := lv_entry ([.ref x, .int v, .ref oA]) (n := 4) (Nat.le_of_ble_eq_true rfl)
  rw [lg_entry_eq]
  generalize (lg_sl ([.ref x, .int v, .ref oA]) ++ List.replicate (4 - (lg_sl ([.ref x, .int v, .ref oA])).length) Slot.unset).toArray = ls at hl ⊢
  have hl : lv_has ls 4 [(0, .ref x), (1, .int v), (2, .ref oA)] := hl
  obtain ⟨_, hX⟩ := hC.self
  refine lv_aload_n hx hb d_L_gone_0 rfl (lv_at hl 2 rfl) ?_
  refine lv_iconst (v := 0) hx hb d_L_gone_1 (by decide) ?_
  refine lv_aload_n hx hb d_L_gone_2 rfl (lv_at hl 0 rfl) ?_
  refine lv_iload_n hx hb d_L_gone_3 rfl (lv_at hl 1 rfl) ?_
  refine ad_cZ S I (ad_ivV (As := [.int v]) (rest := [.int 0, .ref oA]) S (ad_recv I hX K_AD) w_385 w_386 w_387 Y_A_gone ⟨by decide, by decide, np_A_gone⟩ rfl d_L_gone_4) (k_gone l G lo hp x gA sA A v hT hC hW) Y_A_gone hl.1 ⟨Nat.le_of_ble_eq_true rfl, Nat.le_of_ble_eq_true rfl⟩ (Nat.le_of_ble_eq_true rfl) (Nat.le_of_ble_eq_true rfl) d_L_gone_4 (fun v9 hp1 H1 locs1 hQ I => ?_) (fun C9 hp1 H1 locs1 x9 cell hQ I h3 h4 h5 => ?_)
  · obtain ⟨hr, hC1, hF⟩ := hQ
    obtain ⟨hz, hv9⟩ := q_inl hr
    subst hv9
    have ho1 := hF oA _ ho trivial
    refine lv_if_eq (tgt := 14) hx hb d_L_gone_7 (by decide) (fun c7 => ?_) (fun c7 => ?_)
    · refine lv_lconst (v := 0) hx hb d_L_gone_14 (by decide) ?_
      refine ad_last S I ho1 (show vp_in 0 1 by unfold vp_in; decide) d_L_gone_15 (fun H1 locs1 I => ?_)
      obtain ⟨hp2, ehp2⟩ : ∃ z : ad_H, z = ad_up hp1 oA (.inl (G.2.1 2, 1, .inr (.inl (vp_updL f 0 0)))) := ⟨_, rfl⟩
      have I : ad_I G lo s hp2 H1 locs1 := by rw [ehp2]; exact I
      have hC2 := hC1.far (hp' := hp2) (fun z e hz hf => by rw [ehp2, ad_up_n _ (fun hh => by subst hh; cases hz.symm.trans ho1; exact hf trivial)]; exact hz) (ad_I.e I)
      have ho2 : hp2 oA = some (.inl (G.2.1 2, 1, .inr (.inl (vp_updL f 0 0)))) := by rw [ehp2]; exact ad_up_s _ _ _
      refine lv_goto (tgt := 25) hx hb d_L_gone_16 (by decide) ?_
      refine lv_iconst (v := 0) hx hb d_L_gone_25 (by decide) ?_
      exact ad_iret M I rfl (by omega) (by omega) (⟨by rw [hz]; rfl, hC2, ⟨_, ho2, fun _ => by rw [pk_uLs, c7]; rfl⟩, fun z e hz hf hne => by rw [ehp2, ad_up_n _ hne]; exact hF z e hz hf⟩) d_L_gone_26
    · refine lv_lconst (v := 1) hx hb d_L_gone_10 (by decide) ?_
      refine lv_goto (tgt := 15) hx hb d_L_gone_11 (by decide) ?_
      refine ad_last S I ho1 (show vp_in 0 1 by unfold vp_in; decide) d_L_gone_15 (fun H1 locs1 I => ?_)
      obtain ⟨hp2, ehp2⟩ : ∃ z : ad_H, z = ad_up hp1 oA (.inl (G.2.1 2, 1, .inr (.inl (vp_updL f 0 1)))) := ⟨_, rfl⟩
      have I : ad_I G lo s hp2 H1 locs1 := by rw [ehp2]; exact I
      have hC2 := hC1.far (hp' := hp2) (fun z e hz hf => by rw [ehp2, ad_up_n _ (fun hh => by subst hh; cases hz.symm.trans ho1; exact hf trivial)]; exact hz) (ad_I.e I)
      have ho2 : hp2 oA = some (.inl (G.2.1 2, 1, .inr (.inl (vp_updL f 0 1)))) := by rw [ehp2]; exact ad_up_s _ _ _
      refine lv_goto (tgt := 25) hx hb d_L_gone_16 (by decide) ?_
      refine lv_iconst (v := 0) hx hb d_L_gone_25 (by decide) ?_
      exact ad_iret M I rfl (by omega) (by omega) (⟨by rw [hz]; rfl, hC2, ⟨_, ho2, fun _ => by rw [pk_uLs, (z_gone A v).resolve_left c7]; rfl⟩, fun z e hz hf hne => by rw [ehp2, ad_up_n _ hne]; exact hF z e hz hf⟩) d_L_gone_26
  · obtain ⟨hr, hC1, hF⟩ := hQ
    obtain ⟨k9, hk9, hC9⟩ := q_inr hr
    have hn9 := n_gone A v
    have hk3 : k9 = 0 ∨ k9 = 1 := by omega
    rcases hk3 with rfl | rfl
    · have hC9 : C9 = ad_NSE := hC9
      subst hC9
      refine ad_catch2 M h3 h4 h5 (fun hpl => fd_hit S hpl w_94 w_105 h5 (by decide) (by decide)) ?_
      refine lv_astore_n (lv' := [(3, .ref x9), (0, .ref x), (1, .int v), (2, .ref oA)]) hx hb d_L_gone_19 rfl hl (by decide) rfl (fun ls hl => ?_)
      refine lv_iconst (v := 1) hx hb d_L_gone_20 (by decide) ?_
      exact ad_iret M I rfl (by omega) (by omega) (⟨by rw [hk9]; rfl, hC1, ⟨f, hF oA _ ho trivial, fun h => by rw [hk9] at h; cases h⟩, fun z e hz hf _ => hF z e hz hf⟩) d_L_gone_21
    · have hC9 : C9 = ad_ISE := hC9
      subst hC9
      refine ad_catch2 M h3 h4 h5 (fun hpl => fd_miss S hpl w_94 (hB.2.2.2.2.2.2.2.1 (_, _) (by decide)) h5 (by decide) (by decide) (fd_hit S hpl w_95 w_177 h5 (by decide) (by decide))) ?_
      refine lv_astore_n (lv' := [(3, .ref x9), (0, .ref x), (1, .int v), (2, .ref oA)]) hx hb d_L_gone_22 rfl hl (by decide) rfl (fun ls hl => ?_)
      refine lv_iconst (v := 2) hx hb d_L_gone_23 (by decide) ?_
      exact ad_iret M I rfl (by omega) (by omega) (⟨by rw [hk9]; rfl, hC1, ⟨f, hF oA _ ho trivial, fun h => by rw [hk9] at h; cases h⟩, fun z e hz hf _ => hF z e hz hf⟩) d_L_gone_24
set_option maxHeartbeats 4000000 in
set_option maxRecDepth 100000 in
theorem h_share (l : Launch) (G : ad_G) (lo : Nat) (hp : ad_H) (x gA sA oA : Nat) (A : AST) (s0 : Int32) (p0 : Int32) (f : Nat → Int64)  (hT : l.stackTraces = false) (hC : CRA G hp x gA sA A) (hW : WF A) (ho : hp oA = some (.inl (G.2.1 2, 1, .inr (.inl f)))) : ad_Ct l y_L_share b_L_share 5 rt_L_share hs_L_share 8 1 6 G lo hp [.ref x, .int s0, .int p0, .ref oA] (HP G hp x gA sA oA (q_sh (cc A.1 s0 1) (cc A.1 s0 2) (cc A.1 s0 3) s0 p0, A)) := by
  intro p e s m below meth c M hts hB hP
  have hx := M.1
  have hb := M.2.1
  have hml := M.2.2.1
  have hown : s.vm.findClass "AuditDrawsLaw" = some m.cls := M.2.2.2.1
  have S : CallFix p m c b_L_share 5 s _ ad_T "AuditDrawsLaw" := ⟨hx, hb, hml, hown, hts⟩
  have I : ad_I G lo s hp s.heap [] := ad_I.rf hB hP
  have hl := lv_entry ([.ref x, .int s0, .int p0, .ref oA]) (n := 5) (Nat.le_of_ble_eq_true rfl)
  rw [lg_entry_eq]
  generalize (lg_sl ([.ref x, .int s0, .int p0, .ref oA]) ++ List.replicate (5 - (lg_sl ([.ref x, .int s0, .int p0, .ref oA])).length) Slot.unset).toArray = ls at hl ⊢
  have hl : lv_has ls 5 [(0, .ref x), (1, .int s0), (2, .int p0), (3, .ref oA)] := hl
  obtain ⟨_, hX⟩ := hC.self
  refine lv_aload_n hx hb d_L_share_0 rfl (lv_at hl 3 rfl) ?_
  refine lv_iconst (v := 0) hx hb d_L_share_1 (by decide) ?_
  refine lv_aload_n hx hb d_L_share_2 rfl (lv_at hl 0 rfl) ?_
  refine lv_iload_n hx hb d_L_share_3 rfl (lv_at hl 1 rfl) ?_
  refine lv_iload_n hx hb d_L_share_4 rfl (lv_at hl 2 rfl) ?_
  refine ad_cZ S I (ad_ivV (As := [.int s0, .int p0]) (rest := [.int 0, .ref oA]) S (ad_recv I hX K_AD) w_392 w_393 w_394 Y_A_share ⟨by decide, by decide, np_A_share⟩ rfl d_L_share_5) (k_share l G lo hp x gA sA A s0 p0 hT hC hW) Y_A_share hl.1 ⟨Nat.le_of_ble_eq_true rfl, Nat.le_of_ble_eq_true rfl⟩ (Nat.le_of_ble_eq_true rfl) (Nat.le_of_ble_eq_true rfl) d_L_share_5 (fun v9 hp1 H1 locs1 hQ I => ?_) (fun C9 hp1 H1 locs1 x9 cell hQ I h3 h4 h5 => ?_)
  · obtain ⟨hr, hC1, hF⟩ := hQ
    obtain ⟨hz, hv9⟩ := q_inl hr
    subst hv9
    have ho1 := hF oA _ ho trivial
    refine lv_i2l (v := ((q_sh (cc A.1 s0 1) (cc A.1 s0 2) (cc A.1 s0 3) s0 p0, A).1.2).toInt64) hx hb d_L_share_8 rfl ?_
    refine ad_last S I ho1 (show vp_in 0 1 by unfold vp_in; decide) d_L_share_9 (fun H1 locs1 I => ?_)
    obtain ⟨hp2, ehp2⟩ : ∃ z : ad_H, z = ad_up hp1 oA (.inl (G.2.1 2, 1, .inr (.inl (vp_updL f 0 (((q_sh (cc A.1 s0 1) (cc A.1 s0 2) (cc A.1 s0 3) s0 p0, A).1.2).toInt64))))) := ⟨_, rfl⟩
    have I : ad_I G lo s hp2 H1 locs1 := by rw [ehp2]; exact I
    have hC2 := hC1.far (hp' := hp2) (fun z e hz hf => by rw [ehp2, ad_up_n _ (fun hh => by subst hh; cases hz.symm.trans ho1; exact hf trivial)]; exact hz) (ad_I.e I)
    have ho2 : hp2 oA = some (.inl (G.2.1 2, 1, .inr (.inl (vp_updL f 0 (((q_sh (cc A.1 s0 1) (cc A.1 s0 2) (cc A.1 s0 3) s0 p0, A).1.2).toInt64))))) := by rw [ehp2]; exact ad_up_s _ _ _
    refine lv_goto (tgt := 17) hx hb d_L_share_10 (by decide) ?_
    refine lv_iconst (v := 0) hx hb d_L_share_17 (by decide) ?_
    exact ad_iret M I rfl (by omega) (by omega) (⟨by rw [hz]; rfl, hC2, ⟨_, ho2, fun _ => pk_uLs⟩, fun z e hz hf hne => by rw [ehp2, ad_up_n _ hne]; exact hF z e hz hf⟩) d_L_share_18
  · obtain ⟨hr, hC1, hF⟩ := hQ
    obtain ⟨k9, hk9, hC9⟩ := q_inr hr
    have hn9 := n_share A s0 p0
    have hk3 : k9 = 0 := by omega
    rcases hk3 with rfl
    have hC9 : C9 = ad_NSE := hC9
    subst hC9
    refine ad_catch2 M h3 h4 h5 (fun hpl => fd_hit S hpl w_94 w_105 h5 (by decide) (by decide)) ?_
    refine lv_astore (lv' := [(4, .ref x9), (0, .ref x), (1, .int s0), (2, .int p0), (3, .ref oA)]) hx hb d_L_share_13 hl (by decide) rfl (fun ls hl => ?_)
    refine lv_iconst (v := 1) hx hb d_L_share_15 (by decide) ?_
    exact ad_iret M I rfl (by omega) (by omega) (⟨by rw [hk9]; rfl, hC1, ⟨f, hF oA _ ho trivial, fun h => by rw [hk9] at h; cases h⟩, fun z e hz hf _ => hF z e hz hf⟩) d_L_share_16
set_option maxHeartbeats 4000000 in
set_option maxRecDepth 100000 in
theorem h_next (l : Launch) (G : ad_G) (lo : Nat) (hp : ad_H) (x gA sA oA : Nat) (A : AST) (s0 : Int32) (f : Nat → Int64)  (hT : l.stackTraces = false) (hC : CRA G hp x gA sA A) (hW : WF A) (ho : hp oA = some (.inl (G.2.1 2, 1, .inr (.inl f)))) : ad_Ct l y_L_next b_L_next 4 rt_L_next hs_L_next 8 1 6 G lo hp [.ref x, .int s0, .ref oA] (HP G hp x gA sA oA (q_nx (cc A.1 s0 1) (cc A.1 s0 2) (cc A.1 s0 3) s0, A)) := by
  intro p e s m below meth c M hts hB hP
  have hx := M.1
  have hb := M.2.1
  have hml := M.2.2.1
  have hown : s.vm.findClass "AuditDrawsLaw" = some m.cls := M.2.2.2.1
  have S : CallFix p m c b_L_next 4 s _ ad_T "AuditDrawsLaw" := ⟨hx, hb, hml, hown, hts⟩
  have I : ad_I G lo s hp s.heap [] := ad_I.rf hB hP
  have hl := lv_entry ([.ref x, .int s0, .ref oA]) (n := 4) (Nat.le_of_ble_eq_true rfl)
  rw [lg_entry_eq]
  generalize (lg_sl ([.ref x, .int s0, .ref oA]) ++ List.replicate (4 - (lg_sl ([.ref x, .int s0, .ref oA])).length) Slot.unset).toArray = ls at hl ⊢
  have hl : lv_has ls 4 [(0, .ref x), (1, .int s0), (2, .ref oA)] := hl
  obtain ⟨_, hX⟩ := hC.self
  refine lv_aload_n hx hb d_L_next_0 rfl (lv_at hl 2 rfl) ?_
  refine lv_iconst (v := 0) hx hb d_L_next_1 (by decide) ?_
  refine lv_aload_n hx hb d_L_next_2 rfl (lv_at hl 0 rfl) ?_
  refine lv_iload_n hx hb d_L_next_3 rfl (lv_at hl 1 rfl) ?_
  refine ad_cZ S I (ad_ivV (As := [.int s0]) (rest := [.int 0, .ref oA]) S (ad_recv I hX K_AD) w_414 w_415 w_416 Y_A_next ⟨by decide, by decide, np_A_next⟩ rfl d_L_next_4) (k_next l G lo hp x gA sA A s0 hT hC hW) Y_A_next hl.1 ⟨Nat.le_of_ble_eq_true rfl, Nat.le_of_ble_eq_true rfl⟩ (Nat.le_of_ble_eq_true rfl) (Nat.le_of_ble_eq_true rfl) d_L_next_4 (fun v9 hp1 H1 locs1 hQ I => ?_) (fun C9 hp1 H1 locs1 x9 cell hQ I h3 h4 h5 => ?_)
  · obtain ⟨hr, hC1, hF⟩ := hQ
    obtain ⟨hz, hv9⟩ := q_inl hr
    subst hv9
    have ho1 := hF oA _ ho trivial
    refine lv_i2l (v := ((q_nx (cc A.1 s0 1) (cc A.1 s0 2) (cc A.1 s0 3) s0, A).1.2).toInt64) hx hb d_L_next_7 rfl ?_
    refine ad_last S I ho1 (show vp_in 0 1 by unfold vp_in; decide) d_L_next_8 (fun H1 locs1 I => ?_)
    obtain ⟨hp2, ehp2⟩ : ∃ z : ad_H, z = ad_up hp1 oA (.inl (G.2.1 2, 1, .inr (.inl (vp_updL f 0 (((q_nx (cc A.1 s0 1) (cc A.1 s0 2) (cc A.1 s0 3) s0, A).1.2).toInt64))))) := ⟨_, rfl⟩
    have I : ad_I G lo s hp2 H1 locs1 := by rw [ehp2]; exact I
    have hC2 := hC1.far (hp' := hp2) (fun z e hz hf => by rw [ehp2, ad_up_n _ (fun hh => by subst hh; cases hz.symm.trans ho1; exact hf trivial)]; exact hz) (ad_I.e I)
    have ho2 : hp2 oA = some (.inl (G.2.1 2, 1, .inr (.inl (vp_updL f 0 (((q_nx (cc A.1 s0 1) (cc A.1 s0 2) (cc A.1 s0 3) s0, A).1.2).toInt64))))) := by rw [ehp2]; exact ad_up_s _ _ _
    refine lv_goto (tgt := 15) hx hb d_L_next_9 (by decide) ?_
    refine lv_iconst (v := 0) hx hb d_L_next_15 (by decide) ?_
    exact ad_iret M I rfl (by omega) (by omega) (⟨by rw [hz]; rfl, hC2, ⟨_, ho2, fun _ => pk_uLs⟩, fun z e hz hf hne => by rw [ehp2, ad_up_n _ hne]; exact hF z e hz hf⟩) d_L_next_16
  · obtain ⟨hr, hC1, hF⟩ := hQ
    obtain ⟨k9, hk9, hC9⟩ := q_inr hr
    have hn9 := n_next A s0
    have hk3 : k9 = 0 := by omega
    rcases hk3 with rfl
    have hC9 : C9 = ad_NSE := hC9
    subst hC9
    refine ad_catch2 M h3 h4 h5 (fun hpl => fd_hit S hpl w_94 w_105 h5 (by decide) (by decide)) ?_
    refine lv_astore_n (lv' := [(3, .ref x9), (0, .ref x), (1, .int s0), (2, .ref oA)]) hx hb d_L_next_12 rfl hl (by decide) rfl (fun ls hl => ?_)
    refine lv_iconst (v := 1) hx hb d_L_next_13 (by decide) ?_
    exact ad_iret M I rfl (by omega) (by omega) (⟨by rw [hk9]; rfl, hC1, ⟨f, hF oA _ ho trivial, fun h => by rw [hk9] at h; cases h⟩, fun z e hz hf _ => hF z e hz hf⟩) d_L_next_14
set_option maxHeartbeats 4000000 in
set_option maxRecDepth 100000 in
theorem h_digit (l : Launch) (G : ad_G) (lo : Nat) (hp : ad_H) (x gA sA oA : Nat) (A : AST) (k0 : Int32) (v0 : Int64) (f : Nat → Int64)  (hT : l.stackTraces = false) (hC : CRA G hp x gA sA A) (hW : WF A) (ho : hp oA = some (.inl (G.2.1 2, 1, .inr (.inl f)))) : ad_Ct l y_L_digit b_L_digit 6 rt_L_digit hs_L_digit 8 1 6 G lo hp [.ref x, .int k0, .long v0, .ref oA] (HP G hp x gA sA oA (q_dg k0 v0, A)) := by
  intro p e s m below meth c M hts hB hP
  have hx := M.1
  have hb := M.2.1
  have hml := M.2.2.1
  have hown : s.vm.findClass "AuditDrawsLaw" = some m.cls := M.2.2.2.1
  have S : CallFix p m c b_L_digit 6 s _ ad_T "AuditDrawsLaw" := ⟨hx, hb, hml, hown, hts⟩
  have I : ad_I G lo s hp s.heap [] := ad_I.rf hB hP
  have hl := lv_entry ([.ref x, .int k0, .long v0, .ref oA]) (n := 6) (Nat.le_of_ble_eq_true rfl)
  rw [lg_entry_eq]
  generalize (lg_sl ([.ref x, .int k0, .long v0, .ref oA]) ++ List.replicate (6 - (lg_sl ([.ref x, .int k0, .long v0, .ref oA])).length) Slot.unset).toArray = ls at hl ⊢
  have hl : lv_has ls 6 [(0, .ref x), (1, .int k0), (2, .long v0), (4, .ref oA)] := hl
  obtain ⟨_, hX⟩ := hC.self
  refine lv_aload hx hb d_L_digit_0 (lv_at hl 3 rfl) ?_
  refine lv_iconst (v := 0) hx hb d_L_digit_2 (by decide) ?_
  refine lv_aload_n hx hb d_L_digit_3 rfl (lv_at hl 0 rfl) ?_
  refine lv_iload_n hx hb d_L_digit_4 rfl (lv_at hl 1 rfl) ?_
  refine lv_lload_n hx hb d_L_digit_5 rfl (lv_at hl 2 rfl) ?_
  refine ad_cZ S I (ad_ivV (As := [.int k0, .long v0]) (rest := [.int 0, .ref oA]) S (ad_recv I hX K_AD) w_421 w_422 w_423 Y_A_digit ⟨by decide, by decide, np_A_digit⟩ rfl d_L_digit_6) (k_digit l G lo hp x gA sA A k0 v0 hT hC hW) Y_A_digit hl.1 ⟨Nat.le_of_ble_eq_true rfl, Nat.le_of_ble_eq_true rfl⟩ (Nat.le_of_ble_eq_true rfl) (Nat.le_of_ble_eq_true rfl) d_L_digit_6 (fun v9 hp1 H1 locs1 hQ I => ?_) (fun C9 hp1 H1 locs1 x9 cell hQ I h3 h4 h5 => ?_)
  · obtain ⟨hr, hC1, hF⟩ := hQ
    obtain ⟨hz, hv9⟩ := q_inl hr
    subst hv9
    have ho1 := hF oA _ ho trivial
    refine lv_i2l (v := ((q_dg k0 v0, A).1.2).toInt64) hx hb d_L_digit_9 rfl ?_
    refine ad_last S I ho1 (show vp_in 0 1 by unfold vp_in; decide) d_L_digit_10 (fun H1 locs1 I => ?_)
    obtain ⟨hp2, ehp2⟩ : ∃ z : ad_H, z = ad_up hp1 oA (.inl (G.2.1 2, 1, .inr (.inl (vp_updL f 0 (((q_dg k0 v0, A).1.2).toInt64))))) := ⟨_, rfl⟩
    have I : ad_I G lo s hp2 H1 locs1 := by rw [ehp2]; exact I
    have hC2 := hC1.far (hp' := hp2) (fun z e hz hf => by rw [ehp2, ad_up_n _ (fun hh => by subst hh; cases hz.symm.trans ho1; exact hf trivial)]; exact hz) (ad_I.e I)
    have ho2 : hp2 oA = some (.inl (G.2.1 2, 1, .inr (.inl (vp_updL f 0 (((q_dg k0 v0, A).1.2).toInt64))))) := by rw [ehp2]; exact ad_up_s _ _ _
    refine lv_goto (tgt := 22) hx hb d_L_digit_11 (by decide) ?_
    refine lv_iconst (v := 0) hx hb d_L_digit_22 (by decide) ?_
    exact ad_iret M I rfl (by omega) (by omega) (⟨by rw [hz]; rfl, hC2, ⟨_, ho2, fun _ => pk_uLs⟩, fun z e hz hf hne => by rw [ehp2, ad_up_n _ hne]; exact hF z e hz hf⟩) d_L_digit_23
  · obtain ⟨hr, hC1, hF⟩ := hQ
    obtain ⟨k9, hk9, hC9⟩ := q_inr hr
    have hn9 := n_digit A k0 v0
    have hk3 : k9 = 0 ∨ k9 = 1 := by omega
    rcases hk3 with rfl | rfl
    · have hC9 : C9 = ad_NSE := hC9
      subst hC9
      refine ad_catch2 M h3 h4 h5 (fun hpl => fd_hit S hpl w_94 w_105 h5 (by decide) (by decide)) ?_
      refine lv_astore (lv' := [(5, .ref x9), (0, .ref x), (1, .int k0), (2, .long v0), (4, .ref oA)]) hx hb d_L_digit_14 hl (by decide) rfl (fun ls hl => ?_)
      refine lv_iconst (v := 1) hx hb d_L_digit_16 (by decide) ?_
      exact ad_iret M I rfl (by omega) (by omega) (⟨by rw [hk9]; rfl, hC1, ⟨f, hF oA _ ho trivial, fun h => by rw [hk9] at h; cases h⟩, fun z e hz hf _ => hF z e hz hf⟩) d_L_digit_17
    · have hC9 : C9 = ad_IAE := hC9
      subst hC9
      refine ad_catch2 M h3 h4 h5 (fun hpl => fd_miss S hpl w_94 (hB.2.2.2.2.2.2.2.1 (_, _) (by decide)) h5 (by decide) (by decide) (fd_hit S hpl w_283 w_290 h5 (by decide) (by decide))) ?_
      refine lv_astore (lv' := [(5, .ref x9), (0, .ref x), (1, .int k0), (2, .long v0), (4, .ref oA)]) hx hb d_L_digit_18 hl (by decide) rfl (fun ls hl => ?_)
      refine lv_iconst (v := 2) hx hb d_L_digit_20 (by decide) ?_
      exact ad_iret M I rfl (by omega) (by omega) (⟨by rw [hk9]; rfl, hC1, ⟨f, hF oA _ ho trivial, fun h => by rw [hk9] at h; cases h⟩, fun z e hz hf _ => hF z e hz hf⟩) d_L_digit_21
set_option maxHeartbeats 4000000 in
set_option maxRecDepth 100000 in
theorem h_good (l : Launch) (G : ad_G) (lo : Nat) (hp : ad_H) (x gA sA oA : Nat) (A : AST) (k0 : Int32) (v0 : Int64) (f : Nat → Int64)  (hT : l.stackTraces = false) (hC : CRA G hp x gA sA A) (hW : WF A) (ho : hp oA = some (.inl (G.2.1 2, 1, .inr (.inl f)))) : ad_Ct l y_L_good b_L_good 6 rt_L_good hs_L_good 8 1 6 G lo hp [.ref x, .int k0, .long v0, .ref oA] (HP G hp x gA sA oA (q_gd k0 v0, A)) := by
  intro p e s m below meth c M hts hB hP
  have hx := M.1
  have hb := M.2.1
  have hml := M.2.2.1
  have hown : s.vm.findClass "AuditDrawsLaw" = some m.cls := M.2.2.2.1
  have S : CallFix p m c b_L_good 6 s _ ad_T "AuditDrawsLaw" := ⟨hx, hb, hml, hown, hts⟩
  have I : ad_I G lo s hp s.heap [] := ad_I.rf hB hP
  have hl := lv_entry ([.ref x, .int k0, .long v0, .ref oA]) (n := 6) (Nat.le_of_ble_eq_true rfl)
  rw [lg_entry_eq]
  generalize (lg_sl ([.ref x, .int k0, .long v0, .ref oA]) ++ List.replicate (6 - (lg_sl ([.ref x, .int k0, .long v0, .ref oA])).length) Slot.unset).toArray = ls at hl ⊢
  have hl : lv_has ls 6 [(0, .ref x), (1, .int k0), (2, .long v0), (4, .ref oA)] := hl
  obtain ⟨_, hX⟩ := hC.self
  refine lv_aload hx hb d_L_good_0 (lv_at hl 3 rfl) ?_
  refine lv_iconst (v := 0) hx hb d_L_good_2 (by decide) ?_
  refine lv_aload_n hx hb d_L_good_3 rfl (lv_at hl 0 rfl) ?_
  refine lv_iload_n hx hb d_L_good_4 rfl (lv_at hl 1 rfl) ?_
  refine lv_lload_n hx hb d_L_good_5 rfl (lv_at hl 2 rfl) ?_
  refine ad_cZ S I (ad_ivV (As := [.int k0, .long v0]) (rest := [.int 0, .ref oA]) S (ad_recv I hX K_AD) w_446 w_447 w_448 Y_A_good ⟨by decide, by decide, np_A_good⟩ rfl d_L_good_6) (k_good l G lo hp x gA sA A k0 v0 hT hC hW) Y_A_good hl.1 ⟨Nat.le_of_ble_eq_true rfl, Nat.le_of_ble_eq_true rfl⟩ (Nat.le_of_ble_eq_true rfl) (Nat.le_of_ble_eq_true rfl) d_L_good_6 (fun v9 hp1 H1 locs1 hQ I => ?_) (fun C9 hp1 H1 locs1 x9 cell hQ I h3 h4 h5 => ?_)
  · obtain ⟨hr, hC1, hF⟩ := hQ
    obtain ⟨hz, hv9⟩ := q_inl hr
    subst hv9
    have ho1 := hF oA _ ho trivial
    refine lv_if_eq (tgt := 16) hx hb d_L_good_9 (by decide) (fun c9 => ?_) (fun c9 => ?_)
    · refine lv_lconst (v := 0) hx hb d_L_good_16 (by decide) ?_
      refine ad_last S I ho1 (show vp_in 0 1 by unfold vp_in; decide) d_L_good_17 (fun H1 locs1 I => ?_)
      obtain ⟨hp2, ehp2⟩ : ∃ z : ad_H, z = ad_up hp1 oA (.inl (G.2.1 2, 1, .inr (.inl (vp_updL f 0 0)))) := ⟨_, rfl⟩
      have I : ad_I G lo s hp2 H1 locs1 := by rw [ehp2]; exact I
      have hC2 := hC1.far (hp' := hp2) (fun z e hz hf => by rw [ehp2, ad_up_n _ (fun hh => by subst hh; cases hz.symm.trans ho1; exact hf trivial)]; exact hz) (ad_I.e I)
      have ho2 : hp2 oA = some (.inl (G.2.1 2, 1, .inr (.inl (vp_updL f 0 0)))) := by rw [ehp2]; exact ad_up_s _ _ _
      refine lv_goto (tgt := 29) hx hb d_L_good_18 (by decide) ?_
      refine lv_iconst (v := 0) hx hb d_L_good_29 (by decide) ?_
      exact ad_iret M I rfl (by omega) (by omega) (⟨by rw [hz]; rfl, hC2, ⟨_, ho2, fun _ => by rw [pk_uLs, c9]; rfl⟩, fun z e hz hf hne => by rw [ehp2, ad_up_n _ hne]; exact hF z e hz hf⟩) d_L_good_30
    · refine lv_lconst (v := 1) hx hb d_L_good_12 (by decide) ?_
      refine lv_goto (tgt := 17) hx hb d_L_good_13 (by decide) ?_
      refine ad_last S I ho1 (show vp_in 0 1 by unfold vp_in; decide) d_L_good_17 (fun H1 locs1 I => ?_)
      obtain ⟨hp2, ehp2⟩ : ∃ z : ad_H, z = ad_up hp1 oA (.inl (G.2.1 2, 1, .inr (.inl (vp_updL f 0 1)))) := ⟨_, rfl⟩
      have I : ad_I G lo s hp2 H1 locs1 := by rw [ehp2]; exact I
      have hC2 := hC1.far (hp' := hp2) (fun z e hz hf => by rw [ehp2, ad_up_n _ (fun hh => by subst hh; cases hz.symm.trans ho1; exact hf trivial)]; exact hz) (ad_I.e I)
      have ho2 : hp2 oA = some (.inl (G.2.1 2, 1, .inr (.inl (vp_updL f 0 1)))) := by rw [ehp2]; exact ad_up_s _ _ _
      refine lv_goto (tgt := 29) hx hb d_L_good_18 (by decide) ?_
      refine lv_iconst (v := 0) hx hb d_L_good_29 (by decide) ?_
      exact ad_iret M I rfl (by omega) (by omega) (⟨by rw [hz]; rfl, hC2, ⟨_, ho2, fun _ => by rw [pk_uLs, (z_good A k0 v0).resolve_left c9]; rfl⟩, fun z e hz hf hne => by rw [ehp2, ad_up_n _ hne]; exact hF z e hz hf⟩) d_L_good_30
  · obtain ⟨hr, hC1, hF⟩ := hQ
    obtain ⟨k9, hk9, hC9⟩ := q_inr hr
    have hn9 := n_good A k0 v0
    have hk3 : k9 = 0 ∨ k9 = 1 := by omega
    rcases hk3 with rfl | rfl
    · have hC9 : C9 = ad_NSE := hC9
      subst hC9
      refine ad_catch2 M h3 h4 h5 (fun hpl => fd_hit S hpl w_94 w_105 h5 (by decide) (by decide)) ?_
      refine lv_astore (lv' := [(5, .ref x9), (0, .ref x), (1, .int k0), (2, .long v0), (4, .ref oA)]) hx hb d_L_good_21 hl (by decide) rfl (fun ls hl => ?_)
      refine lv_iconst (v := 1) hx hb d_L_good_23 (by decide) ?_
      exact ad_iret M I rfl (by omega) (by omega) (⟨by rw [hk9]; rfl, hC1, ⟨f, hF oA _ ho trivial, fun h => by rw [hk9] at h; cases h⟩, fun z e hz hf _ => hF z e hz hf⟩) d_L_good_24
    · have hC9 : C9 = ad_IAE := hC9
      subst hC9
      refine ad_catch2 M h3 h4 h5 (fun hpl => fd_miss S hpl w_94 (hB.2.2.2.2.2.2.2.1 (_, _) (by decide)) h5 (by decide) (by decide) (fd_hit S hpl w_283 w_290 h5 (by decide) (by decide))) ?_
      refine lv_astore (lv' := [(5, .ref x9), (0, .ref x), (1, .int k0), (2, .long v0), (4, .ref oA)]) hx hb d_L_good_25 hl (by decide) rfl (fun ls hl => ?_)
      refine lv_iconst (v := 2) hx hb d_L_good_27 (by decide) ?_
      exact ad_iret M I rfl (by omega) (by omega) (⟨by rw [hk9]; rfl, hC1, ⟨f, hF oA _ ho trivial, fun h => by rw [hk9] at h; cases h⟩, fun z e hz hf _ => hF z e hz hf⟩) d_L_good_28
set_option maxHeartbeats 4000000 in
set_option maxRecDepth 100000 in
theorem h_tag (l : Launch) (G : ad_G) (lo : Nat) (hp : ad_H) (x gA sA oA : Nat) (A : AST) (v : Int32) (h0 : Int32) (p0 : Int32) (d0 : Int32) (f : Nat → Int64)  (hT : l.stackTraces = false) (hC : CRA G hp x gA sA A) (hW : WF A) (ho : hp oA = some (.inl (G.2.1 2, 1, .inr (.inl f)))) : ad_Ct l y_L_tag b_L_tag 7 rt_L_tag hs_L_tag 9 2 103 G lo hp [.ref x, .int v, .int h0, .int p0, .int d0, .ref oA] (HP G hp x gA sA oA ((q_tg A.1 v h0 p0 d0).1, ((q_tg A.1 v h0 p0 d0).2, A.2.1, A.2.2))) := by
  intro p e s m below meth c M hts hB hP
  have hx := M.1
  have hb := M.2.1
  have hml := M.2.2.1
  have hown : s.vm.findClass "AuditDrawsLaw" = some m.cls := M.2.2.2.1
  have S : CallFix p m c b_L_tag 7 s _ ad_T "AuditDrawsLaw" := ⟨hx, hb, hml, hown, hts⟩
  have I : ad_I G lo s hp s.heap [] := ad_I.rf hB hP
  have hl := lv_entry ([.ref x, .int v, .int h0, .int p0, .int d0, .ref oA]) (n := 7) (Nat.le_of_ble_eq_true rfl)
  rw [lg_entry_eq]
  generalize (lg_sl ([.ref x, .int v, .int h0, .int p0, .int d0, .ref oA]) ++ List.replicate (7 - (lg_sl ([.ref x, .int v, .int h0, .int p0, .int d0, .ref oA])).length) Slot.unset).toArray = ls at hl ⊢
  have hl : lv_has ls 7 [(0, .ref x), (1, .int v), (2, .int h0), (3, .int p0), (4, .int d0), (5, .ref oA)] := hl
  obtain ⟨_, hX⟩ := hC.self
  refine lv_aload hx hb d_L_tag_0 (lv_at hl 5 rfl) ?_
  refine lv_iconst (v := 0) hx hb d_L_tag_2 (by decide) ?_
  refine lv_aload_n hx hb d_L_tag_3 rfl (lv_at hl 0 rfl) ?_
  refine lv_iload_n hx hb d_L_tag_4 rfl (lv_at hl 1 rfl) ?_
  refine lv_iload_n hx hb d_L_tag_5 rfl (lv_at hl 2 rfl) ?_
  refine lv_iload_n hx hb d_L_tag_6 rfl (lv_at hl 3 rfl) ?_
  refine lv_iload hx hb d_L_tag_7 (lv_at hl 4 rfl) ?_
  refine ad_cZ S I (ad_ivV (As := [.int v, .int h0, .int p0, .int d0]) (rest := [.int 0, .ref oA]) S (ad_recv I hX K_AD) w_457 w_458 w_459 Y_A_tag ⟨by decide, by decide, np_A_tag⟩ rfl d_L_tag_9) (k_tag l G lo hp x gA sA A v h0 p0 d0 hT hC hW) Y_A_tag hl.1 ⟨Nat.le_of_ble_eq_true rfl, Nat.le_of_ble_eq_true rfl⟩ (Nat.le_of_ble_eq_true rfl) (Nat.le_of_ble_eq_true rfl) d_L_tag_9 (fun v9 hp1 H1 locs1 hQ I => ?_) (fun C9 hp1 H1 locs1 x9 cell hQ I h3 h4 h5 => ?_)
  · obtain ⟨hr, hC1, hF⟩ := hQ
    obtain ⟨hz, hv9⟩ := q_inl hr
    subst hv9
    have ho1 := hF oA _ ho trivial
    refine lv_i2l (v := (((q_tg A.1 v h0 p0 d0).1, ((q_tg A.1 v h0 p0 d0).2, A.2.1, A.2.2)).1.2).toInt64) hx hb d_L_tag_12 rfl ?_
    refine ad_last S I ho1 (show vp_in 0 1 by unfold vp_in; decide) d_L_tag_13 (fun H1 locs1 I => ?_)
    obtain ⟨hp2, ehp2⟩ : ∃ z : ad_H, z = ad_up hp1 oA (.inl (G.2.1 2, 1, .inr (.inl (vp_updL f 0 ((((q_tg A.1 v h0 p0 d0).1, ((q_tg A.1 v h0 p0 d0).2, A.2.1, A.2.2)).1.2).toInt64))))) := ⟨_, rfl⟩
    have I : ad_I G lo s hp2 H1 locs1 := by rw [ehp2]; exact I
    have hC2 := hC1.far (hp' := hp2) (fun z e hz hf => by rw [ehp2, ad_up_n _ (fun hh => by subst hh; cases hz.symm.trans ho1; exact hf trivial)]; exact hz) (ad_I.e I)
    have ho2 : hp2 oA = some (.inl (G.2.1 2, 1, .inr (.inl (vp_updL f 0 ((((q_tg A.1 v h0 p0 d0).1, ((q_tg A.1 v h0 p0 d0).2, A.2.1, A.2.2)).1.2).toInt64))))) := by rw [ehp2]; exact ad_up_s _ _ _
    refine lv_goto (tgt := 29) hx hb d_L_tag_14 (by decide) ?_
    refine lv_iconst (v := 0) hx hb d_L_tag_29 (by decide) ?_
    exact ad_iret M I rfl (by omega) (by omega) (⟨by rw [hz]; rfl, hC2, ⟨_, ho2, fun _ => pk_uLs⟩, fun z e hz hf hne => by rw [ehp2, ad_up_n _ hne]; exact hF z e hz hf⟩) d_L_tag_30
  · obtain ⟨hr, hC1, hF⟩ := hQ
    obtain ⟨k9, hk9, hC9⟩ := q_inr hr
    have hn9 := n_tag A v h0 p0 d0
    have hk3 : k9 = 0 ∨ k9 = 1 ∨ k9 = 2 := by omega
    rcases hk3 with rfl | rfl | rfl
    · have hC9 : C9 = ad_NSE := hC9
      subst hC9
      refine ad_catch2 M h3 h4 h5 (fun hpl => fd_hit S hpl w_94 w_105 h5 (by decide) (by decide)) ?_
      refine lv_astore (lv' := [(6, .ref x9), (0, .ref x), (1, .int v), (2, .int h0), (3, .int p0), (4, .int d0), (5, .ref oA)]) hx hb d_L_tag_17 hl (by decide) rfl (fun ls hl => ?_)
      refine lv_iconst (v := 1) hx hb d_L_tag_19 (by decide) ?_
      exact ad_iret M I rfl (by omega) (by omega) (⟨by rw [hk9]; rfl, hC1, ⟨f, hF oA _ ho trivial, fun h => by rw [hk9] at h; cases h⟩, fun z e hz hf _ => hF z e hz hf⟩) d_L_tag_20
    · have hC9 : C9 = ad_IAE := hC9
      subst hC9
      refine ad_catch2 M h3 h4 h5 (fun hpl => fd_miss S hpl w_94 (hB.2.2.2.2.2.2.2.1 (_, _) (by decide)) h5 (by decide) (by decide) (fd_hit S hpl w_283 w_290 h5 (by decide) (by decide))) ?_
      refine lv_astore (lv' := [(6, .ref x9), (0, .ref x), (1, .int v), (2, .int h0), (3, .int p0), (4, .int d0), (5, .ref oA)]) hx hb d_L_tag_21 hl (by decide) rfl (fun ls hl => ?_)
      refine lv_iconst (v := 2) hx hb d_L_tag_23 (by decide) ?_
      exact ad_iret M I rfl (by omega) (by omega) (⟨by rw [hk9]; rfl, hC1, ⟨f, hF oA _ ho trivial, fun h => by rw [hk9] at h; cases h⟩, fun z e hz hf _ => hF z e hz hf⟩) d_L_tag_24
    · have hC9 : C9 = ad_ISE := hC9
      subst hC9
      refine ad_catch2 M h3 h4 h5 (fun hpl => fd_miss S hpl w_94 (hB.2.2.2.2.2.2.2.1 (_, _) (by decide)) h5 (by decide) (by decide) (fd_miss S hpl w_283 (hB.2.2.2.2.2.2.2.1 (_, _) (by decide)) h5 (by decide) (by decide) (fd_hit S hpl w_95 w_177 h5 (by decide) (by decide)))) ?_
      refine lv_astore (lv' := [(6, .ref x9), (0, .ref x), (1, .int v), (2, .int h0), (3, .int p0), (4, .int d0), (5, .ref oA)]) hx hb d_L_tag_25 hl (by decide) rfl (fun ls hl => ?_)
      refine lv_iconst (v := 3) hx hb d_L_tag_27 (by decide) ?_
      exact ad_iret M I rfl (by omega) (by omega) (⟨by rw [hk9]; rfl, hC1, ⟨f, hF oA _ ho trivial, fun h => by rw [hk9] at h; cases h⟩, fun z e hz hf _ => hF z e hz hf⟩) d_L_tag_28
set_option maxHeartbeats 4000000 in
set_option maxRecDepth 100000 in
theorem h_first (l : Launch) (G : ad_G) (lo : Nat) (hp : ad_H) (x gA sA oA : Nat) (A : AST) (v : Int32) (h9 : Int32) (f : Nat → Int64)  (hT : l.stackTraces = false) (hC : CRA G hp x gA sA A) (hW : WF A) (ho : hp oA = some (.inl (G.2.1 2, 1, .inr (.inl f)))) : ad_Ct l y_L_first b_L_first 5 rt_L_first hs_L_first 9 1 6 G lo hp [.ref x, .int v, .int h9, .ref oA] (HP G hp x gA sA oA (q_fs f_first A.1 v h9, A)) := by
  intro p e s m below meth c M hts hB hP
  have hx := M.1
  have hb := M.2.1
  have hml := M.2.2.1
  have hown : s.vm.findClass "AuditDrawsLaw" = some m.cls := M.2.2.2.1
  have S : CallFix p m c b_L_first 5 s _ ad_T "AuditDrawsLaw" := ⟨hx, hb, hml, hown, hts⟩
  have I : ad_I G lo s hp s.heap [] := ad_I.rf hB hP
  have hl := lv_entry ([.ref x, .int v, .int h9, .ref oA]) (n := 5) (Nat.le_of_ble_eq_true rfl)
  rw [lg_entry_eq]
  generalize (lg_sl ([.ref x, .int v, .int h9, .ref oA]) ++ List.replicate (5 - (lg_sl ([.ref x, .int v, .int h9, .ref oA])).length) Slot.unset).toArray = ls at hl ⊢
  have hl : lv_has ls 5 [(0, .ref x), (1, .int v), (2, .int h9), (3, .ref oA)] := hl
  obtain ⟨_, hX⟩ := hC.self
  refine lv_aload_n hx hb d_L_first_0 rfl (lv_at hl 3 rfl) ?_
  refine lv_iconst (v := 0) hx hb d_L_first_1 (by decide) ?_
  refine lv_aload_n hx hb d_L_first_2 rfl (lv_at hl 0 rfl) ?_
  refine lv_iload_n hx hb d_L_first_3 rfl (lv_at hl 1 rfl) ?_
  refine lv_iload_n hx hb d_L_first_4 rfl (lv_at hl 2 rfl) ?_
  refine ad_cZ S I (ad_ivV (As := [.int v, .int h9]) (rest := [.int 0, .ref oA]) S (ad_recv I hX K_AD) w_490 w_491 w_492 Y_A_first ⟨by decide, by decide, np_A_first⟩ rfl d_L_first_5) (k_first l G lo hp x gA sA A v h9 hT hC hW) Y_A_first hl.1 ⟨Nat.le_of_ble_eq_true rfl, Nat.le_of_ble_eq_true rfl⟩ (Nat.le_of_ble_eq_true rfl) (Nat.le_of_ble_eq_true rfl) d_L_first_5 (fun v9 hp1 H1 locs1 hQ I => ?_) (fun C9 hp1 H1 locs1 x9 cell hQ I h3 h4 h5 => ?_)
  · obtain ⟨hr, hC1, hF⟩ := hQ
    obtain ⟨hz, hv9⟩ := q_inl hr
    subst hv9
    have ho1 := hF oA _ ho trivial
    refine lv_i2l (v := ((q_fs f_first A.1 v h9, A).1.2).toInt64) hx hb d_L_first_8 rfl ?_
    refine ad_last S I ho1 (show vp_in 0 1 by unfold vp_in; decide) d_L_first_9 (fun H1 locs1 I => ?_)
    obtain ⟨hp2, ehp2⟩ : ∃ z : ad_H, z = ad_up hp1 oA (.inl (G.2.1 2, 1, .inr (.inl (vp_updL f 0 (((q_fs f_first A.1 v h9, A).1.2).toInt64))))) := ⟨_, rfl⟩
    have I : ad_I G lo s hp2 H1 locs1 := by rw [ehp2]; exact I
    have hC2 := hC1.far (hp' := hp2) (fun z e hz hf => by rw [ehp2, ad_up_n _ (fun hh => by subst hh; cases hz.symm.trans ho1; exact hf trivial)]; exact hz) (ad_I.e I)
    have ho2 : hp2 oA = some (.inl (G.2.1 2, 1, .inr (.inl (vp_updL f 0 (((q_fs f_first A.1 v h9, A).1.2).toInt64))))) := by rw [ehp2]; exact ad_up_s _ _ _
    refine lv_goto (tgt := 21) hx hb d_L_first_10 (by decide) ?_
    refine lv_iconst (v := 0) hx hb d_L_first_21 (by decide) ?_
    exact ad_iret M I rfl (by omega) (by omega) (⟨by rw [hz]; rfl, hC2, ⟨_, ho2, fun _ => pk_uLs⟩, fun z e hz hf hne => by rw [ehp2, ad_up_n _ hne]; exact hF z e hz hf⟩) d_L_first_22
  · obtain ⟨hr, hC1, hF⟩ := hQ
    obtain ⟨k9, hk9, hC9⟩ := q_inr hr
    have hn9 := n_first A v h9
    have hk3 : k9 = 0 ∨ k9 = 1 := by omega
    rcases hk3 with rfl | rfl
    · have hC9 : C9 = ad_NSE := hC9
      subst hC9
      refine ad_catch2 M h3 h4 h5 (fun hpl => fd_hit S hpl w_94 w_105 h5 (by decide) (by decide)) ?_
      refine lv_astore (lv' := [(4, .ref x9), (0, .ref x), (1, .int v), (2, .int h9), (3, .ref oA)]) hx hb d_L_first_13 hl (by decide) rfl (fun ls hl => ?_)
      refine lv_iconst (v := 1) hx hb d_L_first_15 (by decide) ?_
      exact ad_iret M I rfl (by omega) (by omega) (⟨by rw [hk9]; rfl, hC1, ⟨f, hF oA _ ho trivial, fun h => by rw [hk9] at h; cases h⟩, fun z e hz hf _ => hF z e hz hf⟩) d_L_first_16
    · have hC9 : C9 = ad_IAE := hC9
      subst hC9
      refine ad_catch2 M h3 h4 h5 (fun hpl => fd_miss S hpl w_94 (hB.2.2.2.2.2.2.2.1 (_, _) (by decide)) h5 (by decide) (by decide) (fd_hit S hpl w_283 w_290 h5 (by decide) (by decide))) ?_
      refine lv_astore (lv' := [(4, .ref x9), (0, .ref x), (1, .int v), (2, .int h9), (3, .ref oA)]) hx hb d_L_first_17 hl (by decide) rfl (fun ls hl => ?_)
      refine lv_iconst (v := 2) hx hb d_L_first_19 (by decide) ?_
      exact ad_iret M I rfl (by omega) (by omega) (⟨by rw [hk9]; rfl, hC1, ⟨f, hF oA _ ho trivial, fun h => by rw [hk9] at h; cases h⟩, fun z e hz hf _ => hF z e hz hf⟩) d_L_first_20
set_option maxHeartbeats 4000000 in
set_option maxRecDepth 100000 in
theorem h_seen (l : Launch) (G : ad_G) (lo : Nat) (hp : ad_H) (x gA sA oA : Nat) (A : AST) (v : Int32) (h9 : Int32) (f : Nat → Int64)  (hT : l.stackTraces = false) (hC : CRA G hp x gA sA A) (hW : WF A) (ho : hp oA = some (.inl (G.2.1 2, 1, .inr (.inl f)))) : ad_Ct l y_L_seen b_L_seen 5 rt_L_seen hs_L_seen 9 1 6 G lo hp [.ref x, .int v, .int h9, .ref oA] (HP G hp x gA sA oA (q_fs f_seen A.1 v h9, A)) := by
  intro p e s m below meth c M hts hB hP
  have hx := M.1
  have hb := M.2.1
  have hml := M.2.2.1
  have hown : s.vm.findClass "AuditDrawsLaw" = some m.cls := M.2.2.2.1
  have S : CallFix p m c b_L_seen 5 s _ ad_T "AuditDrawsLaw" := ⟨hx, hb, hml, hown, hts⟩
  have I : ad_I G lo s hp s.heap [] := ad_I.rf hB hP
  have hl := lv_entry ([.ref x, .int v, .int h9, .ref oA]) (n := 5) (Nat.le_of_ble_eq_true rfl)
  rw [lg_entry_eq]
  generalize (lg_sl ([.ref x, .int v, .int h9, .ref oA]) ++ List.replicate (5 - (lg_sl ([.ref x, .int v, .int h9, .ref oA])).length) Slot.unset).toArray = ls at hl ⊢
  have hl : lv_has ls 5 [(0, .ref x), (1, .int v), (2, .int h9), (3, .ref oA)] := hl
  obtain ⟨_, hX⟩ := hC.self
  refine lv_aload_n hx hb d_L_seen_0 rfl (lv_at hl 3 rfl) ?_
  refine lv_iconst (v := 0) hx hb d_L_seen_1 (by decide) ?_
  refine lv_aload_n hx hb d_L_seen_2 rfl (lv_at hl 0 rfl) ?_
  refine lv_iload_n hx hb d_L_seen_3 rfl (lv_at hl 1 rfl) ?_
  refine lv_iload_n hx hb d_L_seen_4 rfl (lv_at hl 2 rfl) ?_
  refine ad_cZ S I (ad_ivV (As := [.int v, .int h9]) (rest := [.int 0, .ref oA]) S (ad_recv I hX K_AD) w_508 w_509 w_510 Y_A_seen ⟨by decide, by decide, np_A_seen⟩ rfl d_L_seen_5) (k_seen l G lo hp x gA sA A v h9 hT hC hW) Y_A_seen hl.1 ⟨Nat.le_of_ble_eq_true rfl, Nat.le_of_ble_eq_true rfl⟩ (Nat.le_of_ble_eq_true rfl) (Nat.le_of_ble_eq_true rfl) d_L_seen_5 (fun v9 hp1 H1 locs1 hQ I => ?_) (fun C9 hp1 H1 locs1 x9 cell hQ I h3 h4 h5 => ?_)
  · obtain ⟨hr, hC1, hF⟩ := hQ
    obtain ⟨hz, hv9⟩ := q_inl hr
    subst hv9
    have ho1 := hF oA _ ho trivial
    refine lv_i2l (v := ((q_fs f_seen A.1 v h9, A).1.2).toInt64) hx hb d_L_seen_8 rfl ?_
    refine ad_last S I ho1 (show vp_in 0 1 by unfold vp_in; decide) d_L_seen_9 (fun H1 locs1 I => ?_)
    obtain ⟨hp2, ehp2⟩ : ∃ z : ad_H, z = ad_up hp1 oA (.inl (G.2.1 2, 1, .inr (.inl (vp_updL f 0 (((q_fs f_seen A.1 v h9, A).1.2).toInt64))))) := ⟨_, rfl⟩
    have I : ad_I G lo s hp2 H1 locs1 := by rw [ehp2]; exact I
    have hC2 := hC1.far (hp' := hp2) (fun z e hz hf => by rw [ehp2, ad_up_n _ (fun hh => by subst hh; cases hz.symm.trans ho1; exact hf trivial)]; exact hz) (ad_I.e I)
    have ho2 : hp2 oA = some (.inl (G.2.1 2, 1, .inr (.inl (vp_updL f 0 (((q_fs f_seen A.1 v h9, A).1.2).toInt64))))) := by rw [ehp2]; exact ad_up_s _ _ _
    refine lv_goto (tgt := 21) hx hb d_L_seen_10 (by decide) ?_
    refine lv_iconst (v := 0) hx hb d_L_seen_21 (by decide) ?_
    exact ad_iret M I rfl (by omega) (by omega) (⟨by rw [hz]; rfl, hC2, ⟨_, ho2, fun _ => pk_uLs⟩, fun z e hz hf hne => by rw [ehp2, ad_up_n _ hne]; exact hF z e hz hf⟩) d_L_seen_22
  · obtain ⟨hr, hC1, hF⟩ := hQ
    obtain ⟨k9, hk9, hC9⟩ := q_inr hr
    have hn9 := n_seen A v h9
    have hk3 : k9 = 0 ∨ k9 = 1 := by omega
    rcases hk3 with rfl | rfl
    · have hC9 : C9 = ad_NSE := hC9
      subst hC9
      refine ad_catch2 M h3 h4 h5 (fun hpl => fd_hit S hpl w_94 w_105 h5 (by decide) (by decide)) ?_
      refine lv_astore (lv' := [(4, .ref x9), (0, .ref x), (1, .int v), (2, .int h9), (3, .ref oA)]) hx hb d_L_seen_13 hl (by decide) rfl (fun ls hl => ?_)
      refine lv_iconst (v := 1) hx hb d_L_seen_15 (by decide) ?_
      exact ad_iret M I rfl (by omega) (by omega) (⟨by rw [hk9]; rfl, hC1, ⟨f, hF oA _ ho trivial, fun h => by rw [hk9] at h; cases h⟩, fun z e hz hf _ => hF z e hz hf⟩) d_L_seen_16
    · have hC9 : C9 = ad_IAE := hC9
      subst hC9
      refine ad_catch2 M h3 h4 h5 (fun hpl => fd_miss S hpl w_94 (hB.2.2.2.2.2.2.2.1 (_, _) (by decide)) h5 (by decide) (by decide) (fd_hit S hpl w_283 w_290 h5 (by decide) (by decide))) ?_
      refine lv_astore (lv' := [(4, .ref x9), (0, .ref x), (1, .int v), (2, .int h9), (3, .ref oA)]) hx hb d_L_seen_17 hl (by decide) rfl (fun ls hl => ?_)
      refine lv_iconst (v := 2) hx hb d_L_seen_19 (by decide) ?_
      exact ad_iret M I rfl (by omega) (by omega) (⟨by rw [hk9]; rfl, hC1, ⟨f, hF oA _ ho trivial, fun h => by rw [hk9] at h; cases h⟩, fun z e hz hf _ => hF z e hz hf⟩) d_L_seen_20
set_option maxHeartbeats 4000000 in
set_option maxRecDepth 100000 in
theorem h_weight (l : Launch) (G : ad_G) (lo : Nat) (hp : ad_H) (x gA sA oA : Nat) (A : AST) (v : Int32) (g0 : Int32) (f : Nat → Int64)  (hT : l.stackTraces = false) (hC : CRA G hp x gA sA A) (hW : WF A) (ho : hp oA = some (.inl (G.2.1 2, 1, .inr (.inl f)))) : ad_Ct l y_L_weight b_L_weight 5 rt_L_weight hs_L_weight 9 1 6 G lo hp [.ref x, .int v, .int g0, .ref oA] (HP G hp x gA sA oA ((q_wt A.1 v g0).1, ((q_wt A.1 v g0).2, A.2.1, A.2.2))) := by
  intro p e s m below meth c M hts hB hP
  have hx := M.1
  have hb := M.2.1
  have hml := M.2.2.1
  have hown : s.vm.findClass "AuditDrawsLaw" = some m.cls := M.2.2.2.1
  have S : CallFix p m c b_L_weight 5 s _ ad_T "AuditDrawsLaw" := ⟨hx, hb, hml, hown, hts⟩
  have I : ad_I G lo s hp s.heap [] := ad_I.rf hB hP
  have hl := lv_entry ([.ref x, .int v, .int g0, .ref oA]) (n := 5) (Nat.le_of_ble_eq_true rfl)
  rw [lg_entry_eq]
  generalize (lg_sl ([.ref x, .int v, .int g0, .ref oA]) ++ List.replicate (5 - (lg_sl ([.ref x, .int v, .int g0, .ref oA])).length) Slot.unset).toArray = ls at hl ⊢
  have hl : lv_has ls 5 [(0, .ref x), (1, .int v), (2, .int g0), (3, .ref oA)] := hl
  obtain ⟨_, hX⟩ := hC.self
  refine lv_aload_n hx hb d_L_weight_0 rfl (lv_at hl 3 rfl) ?_
  refine lv_iconst (v := 0) hx hb d_L_weight_1 (by decide) ?_
  refine lv_aload_n hx hb d_L_weight_2 rfl (lv_at hl 0 rfl) ?_
  refine lv_iload_n hx hb d_L_weight_3 rfl (lv_at hl 1 rfl) ?_
  refine lv_iload_n hx hb d_L_weight_4 rfl (lv_at hl 2 rfl) ?_
  refine ad_cZ S I (ad_ivV (As := [.int v, .int g0]) (rest := [.int 0, .ref oA]) S (ad_recv I hX K_AD) w_515 w_516 w_517 Y_A_weight ⟨by decide, by decide, np_A_weight⟩ rfl d_L_weight_5) (k_weight l G lo hp x gA sA A v g0 hT hC hW) Y_A_weight hl.1 ⟨Nat.le_of_ble_eq_true rfl, Nat.le_of_ble_eq_true rfl⟩ (Nat.le_of_ble_eq_true rfl) (Nat.le_of_ble_eq_true rfl) d_L_weight_5 (fun v9 hp1 H1 locs1 hQ I => ?_) (fun C9 hp1 H1 locs1 x9 cell hQ I h3 h4 h5 => ?_)
  · obtain ⟨hr, hC1, hF⟩ := hQ
    obtain ⟨hz, hv9⟩ := q_inl hr
    subst hv9
    have ho1 := hF oA _ ho trivial
    refine lv_i2l (v := (((q_wt A.1 v g0).1, ((q_wt A.1 v g0).2, A.2.1, A.2.2)).1.2).toInt64) hx hb d_L_weight_8 rfl ?_
    refine ad_last S I ho1 (show vp_in 0 1 by unfold vp_in; decide) d_L_weight_9 (fun H1 locs1 I => ?_)
    obtain ⟨hp2, ehp2⟩ : ∃ z : ad_H, z = ad_up hp1 oA (.inl (G.2.1 2, 1, .inr (.inl (vp_updL f 0 ((((q_wt A.1 v g0).1, ((q_wt A.1 v g0).2, A.2.1, A.2.2)).1.2).toInt64))))) := ⟨_, rfl⟩
    have I : ad_I G lo s hp2 H1 locs1 := by rw [ehp2]; exact I
    have hC2 := hC1.far (hp' := hp2) (fun z e hz hf => by rw [ehp2, ad_up_n _ (fun hh => by subst hh; cases hz.symm.trans ho1; exact hf trivial)]; exact hz) (ad_I.e I)
    have ho2 : hp2 oA = some (.inl (G.2.1 2, 1, .inr (.inl (vp_updL f 0 ((((q_wt A.1 v g0).1, ((q_wt A.1 v g0).2, A.2.1, A.2.2)).1.2).toInt64))))) := by rw [ehp2]; exact ad_up_s _ _ _
    refine lv_goto (tgt := 21) hx hb d_L_weight_10 (by decide) ?_
    refine lv_iconst (v := 0) hx hb d_L_weight_21 (by decide) ?_
    exact ad_iret M I rfl (by omega) (by omega) (⟨by rw [hz]; rfl, hC2, ⟨_, ho2, fun _ => pk_uLs⟩, fun z e hz hf hne => by rw [ehp2, ad_up_n _ hne]; exact hF z e hz hf⟩) d_L_weight_22
  · obtain ⟨hr, hC1, hF⟩ := hQ
    obtain ⟨k9, hk9, hC9⟩ := q_inr hr
    have hn9 := n_weight A v g0
    have hk3 : k9 = 0 ∨ k9 = 1 := by omega
    rcases hk3 with rfl | rfl
    · have hC9 : C9 = ad_NSE := hC9
      subst hC9
      refine ad_catch2 M h3 h4 h5 (fun hpl => fd_hit S hpl w_94 w_105 h5 (by decide) (by decide)) ?_
      refine lv_astore (lv' := [(4, .ref x9), (0, .ref x), (1, .int v), (2, .int g0), (3, .ref oA)]) hx hb d_L_weight_13 hl (by decide) rfl (fun ls hl => ?_)
      refine lv_iconst (v := 1) hx hb d_L_weight_15 (by decide) ?_
      exact ad_iret M I rfl (by omega) (by omega) (⟨by rw [hk9]; rfl, hC1, ⟨f, hF oA _ ho trivial, fun h => by rw [hk9] at h; cases h⟩, fun z e hz hf _ => hF z e hz hf⟩) d_L_weight_16
    · have hC9 : C9 = ad_IAE := hC9
      subst hC9
      refine ad_catch2 M h3 h4 h5 (fun hpl => fd_miss S hpl w_94 (hB.2.2.2.2.2.2.2.1 (_, _) (by decide)) h5 (by decide) (by decide) (fd_hit S hpl w_283 w_290 h5 (by decide) (by decide))) ?_
      refine lv_astore (lv' := [(4, .ref x9), (0, .ref x), (1, .int v), (2, .int g0), (3, .ref oA)]) hx hb d_L_weight_17 hl (by decide) rfl (fun ls hl => ?_)
      refine lv_iconst (v := 2) hx hb d_L_weight_19 (by decide) ?_
      exact ad_iret M I rfl (by omega) (by omega) (⟨by rw [hk9]; rfl, hC1, ⟨f, hF oA _ ho trivial, fun h => by rw [hk9] at h; cases h⟩, fun z e hz hf _ => hF z e hz hf⟩) d_L_weight_20
set_option maxHeartbeats 4000000 in
set_option maxRecDepth 100000 in
theorem h_report (l : Launch) (G : ad_G) (lo : Nat) (hp : ad_H) (x gA sA oA : Nat) (A : AST) (v : Int32) (k : Int32) (f : Nat → Int64)  (hT : l.stackTraces = false) (hC : CRA G hp x gA sA A) (hW : WF A) (ho : hp oA = some (.inl (G.2.1 2, 1, .inr (.inl f)))) : ad_Ct l y_L_report b_L_report 5 rt_L_report hs_L_report 8 1 6 G lo hp [.ref x, .int v, .int k, .ref oA] (HP G hp x gA sA oA (q_rp (fun t => decide (t.2.2.1 = v)) A.1 4 v k, A)) := by
  intro p e s m below meth c M hts hB hP
  have hx := M.1
  have hb := M.2.1
  have hml := M.2.2.1
  have hown : s.vm.findClass "AuditDrawsLaw" = some m.cls := M.2.2.2.1
  have S : CallFix p m c b_L_report 5 s _ ad_T "AuditDrawsLaw" := ⟨hx, hb, hml, hown, hts⟩
  have I : ad_I G lo s hp s.heap [] := ad_I.rf hB hP
  have hl := lv_entry ([.ref x, .int v, .int k, .ref oA]) (n := 5) (Nat.le_of_ble_eq_true rfl)
  rw [lg_entry_eq]
  generalize (lg_sl ([.ref x, .int v, .int k, .ref oA]) ++ List.replicate (5 - (lg_sl ([.ref x, .int v, .int k, .ref oA])).length) Slot.unset).toArray = ls at hl ⊢
  have hl : lv_has ls 5 [(0, .ref x), (1, .int v), (2, .int k), (3, .ref oA)] := hl
  obtain ⟨_, hX⟩ := hC.self
  refine lv_aload_n hx hb d_L_report_0 rfl (lv_at hl 3 rfl) ?_
  refine lv_iconst (v := 0) hx hb d_L_report_1 (by decide) ?_
  refine lv_aload_n hx hb d_L_report_2 rfl (lv_at hl 0 rfl) ?_
  refine lv_iload_n hx hb d_L_report_3 rfl (lv_at hl 1 rfl) ?_
  refine lv_iload_n hx hb d_L_report_4 rfl (lv_at hl 2 rfl) ?_
  refine ad_cZ S I (ad_ivV (As := [.int v, .int k]) (rest := [.int 0, .ref oA]) S (ad_recv I hX K_AD) w_527 w_528 w_529 Y_A_report ⟨by decide, by decide, np_A_report⟩ rfl d_L_report_5) (k_report l G lo hp x gA sA A v k hT hC hW) Y_A_report hl.1 ⟨Nat.le_of_ble_eq_true rfl, Nat.le_of_ble_eq_true rfl⟩ (Nat.le_of_ble_eq_true rfl) (Nat.le_of_ble_eq_true rfl) d_L_report_5 (fun v9 hp1 H1 locs1 hQ I => ?_) (fun C9 hp1 H1 locs1 x9 cell hQ I h3 h4 h5 => ?_)
  · obtain ⟨hr, hC1, hF⟩ := hQ
    obtain ⟨hz, hv9⟩ := q_inl hr
    subst hv9
    have ho1 := hF oA _ ho trivial
    refine lv_i2l (v := ((q_rp (fun t => decide (t.2.2.1 = v)) A.1 4 v k, A).1.2).toInt64) hx hb d_L_report_8 rfl ?_
    refine ad_last S I ho1 (show vp_in 0 1 by unfold vp_in; decide) d_L_report_9 (fun H1 locs1 I => ?_)
    obtain ⟨hp2, ehp2⟩ : ∃ z : ad_H, z = ad_up hp1 oA (.inl (G.2.1 2, 1, .inr (.inl (vp_updL f 0 (((q_rp (fun t => decide (t.2.2.1 = v)) A.1 4 v k, A).1.2).toInt64))))) := ⟨_, rfl⟩
    have I : ad_I G lo s hp2 H1 locs1 := by rw [ehp2]; exact I
    have hC2 := hC1.far (hp' := hp2) (fun z e hz hf => by rw [ehp2, ad_up_n _ (fun hh => by subst hh; cases hz.symm.trans ho1; exact hf trivial)]; exact hz) (ad_I.e I)
    have ho2 : hp2 oA = some (.inl (G.2.1 2, 1, .inr (.inl (vp_updL f 0 (((q_rp (fun t => decide (t.2.2.1 = v)) A.1 4 v k, A).1.2).toInt64))))) := by rw [ehp2]; exact ad_up_s _ _ _
    refine lv_goto (tgt := 17) hx hb d_L_report_10 (by decide) ?_
    refine lv_iconst (v := 0) hx hb d_L_report_17 (by decide) ?_
    exact ad_iret M I rfl (by omega) (by omega) (⟨by rw [hz]; rfl, hC2, ⟨_, ho2, fun _ => pk_uLs⟩, fun z e hz hf hne => by rw [ehp2, ad_up_n _ hne]; exact hF z e hz hf⟩) d_L_report_18
  · obtain ⟨hr, hC1, hF⟩ := hQ
    obtain ⟨k9, hk9, hC9⟩ := q_inr hr
    have hn9 := n_report A v k
    have hk3 : k9 = 0 := by omega
    rcases hk3 with rfl
    have hC9 : C9 = ad_NSE := hC9
    subst hC9
    refine ad_catch2 M h3 h4 h5 (fun hpl => fd_hit S hpl w_94 w_105 h5 (by decide) (by decide)) ?_
    refine lv_astore (lv' := [(4, .ref x9), (0, .ref x), (1, .int v), (2, .int k), (3, .ref oA)]) hx hb d_L_report_13 hl (by decide) rfl (fun ls hl => ?_)
    refine lv_iconst (v := 1) hx hb d_L_report_15 (by decide) ?_
    exact ad_iret M I rfl (by omega) (by omega) (⟨by rw [hk9]; rfl, hC1, ⟨f, hF oA _ ho trivial, fun h => by rw [hk9] at h; cases h⟩, fun z e hz hf _ => hF z e hz hf⟩) d_L_report_16
set_option maxHeartbeats 4000000 in
set_option maxRecDepth 100000 in
theorem h_room (l : Launch) (G : ad_G) (lo : Nat) (hp : ad_H) (x gA sA oA : Nat) (A : AST) (v : Int32) (k : Int32) (f : Nat → Int64)  (hT : l.stackTraces = false) (hC : CRA G hp x gA sA A) (hW : WF A) (ho : hp oA = some (.inl (G.2.1 2, 1, .inr (.inl f)))) : ad_Ct l y_L_room b_L_room 5 rt_L_room hs_L_room 8 1 6 G lo hp [.ref x, .int v, .int k, .ref oA] (HP G hp x gA sA oA (q_rp (fun t => decide (t.2.1 = v)) A.1 16 v k, A)) := by
  intro p e s m below meth c M hts hB hP
  have hx := M.1
  have hb := M.2.1
  have hml := M.2.2.1
  have hown : s.vm.findClass "AuditDrawsLaw" = some m.cls := M.2.2.2.1
  have S : CallFix p m c b_L_room 5 s _ ad_T "AuditDrawsLaw" := ⟨hx, hb, hml, hown, hts⟩
  have I : ad_I G lo s hp s.heap [] := ad_I.rf hB hP
  have hl := lv_entry ([.ref x, .int v, .int k, .ref oA]) (n := 5) (Nat.le_of_ble_eq_true rfl)
  rw [lg_entry_eq]
  generalize (lg_sl ([.ref x, .int v, .int k, .ref oA]) ++ List.replicate (5 - (lg_sl ([.ref x, .int v, .int k, .ref oA])).length) Slot.unset).toArray = ls at hl ⊢
  have hl : lv_has ls 5 [(0, .ref x), (1, .int v), (2, .int k), (3, .ref oA)] := hl
  obtain ⟨_, hX⟩ := hC.self
  refine lv_aload_n hx hb d_L_room_0 rfl (lv_at hl 3 rfl) ?_
  refine lv_iconst (v := 0) hx hb d_L_room_1 (by decide) ?_
  refine lv_aload_n hx hb d_L_room_2 rfl (lv_at hl 0 rfl) ?_
  refine lv_iload_n hx hb d_L_room_3 rfl (lv_at hl 1 rfl) ?_
  refine lv_iload_n hx hb d_L_room_4 rfl (lv_at hl 2 rfl) ?_
  refine ad_cZ S I (ad_ivV (As := [.int v, .int k]) (rest := [.int 0, .ref oA]) S (ad_recv I hX K_AD) w_538 w_539 w_540 Y_A_room ⟨by decide, by decide, np_A_room⟩ rfl d_L_room_5) (k_room l G lo hp x gA sA A v k hT hC hW) Y_A_room hl.1 ⟨Nat.le_of_ble_eq_true rfl, Nat.le_of_ble_eq_true rfl⟩ (Nat.le_of_ble_eq_true rfl) (Nat.le_of_ble_eq_true rfl) d_L_room_5 (fun v9 hp1 H1 locs1 hQ I => ?_) (fun C9 hp1 H1 locs1 x9 cell hQ I h3 h4 h5 => ?_)
  · obtain ⟨hr, hC1, hF⟩ := hQ
    obtain ⟨hz, hv9⟩ := q_inl hr
    subst hv9
    have ho1 := hF oA _ ho trivial
    refine lv_i2l (v := ((q_rp (fun t => decide (t.2.1 = v)) A.1 16 v k, A).1.2).toInt64) hx hb d_L_room_8 rfl ?_
    refine ad_last S I ho1 (show vp_in 0 1 by unfold vp_in; decide) d_L_room_9 (fun H1 locs1 I => ?_)
    obtain ⟨hp2, ehp2⟩ : ∃ z : ad_H, z = ad_up hp1 oA (.inl (G.2.1 2, 1, .inr (.inl (vp_updL f 0 (((q_rp (fun t => decide (t.2.1 = v)) A.1 16 v k, A).1.2).toInt64))))) := ⟨_, rfl⟩
    have I : ad_I G lo s hp2 H1 locs1 := by rw [ehp2]; exact I
    have hC2 := hC1.far (hp' := hp2) (fun z e hz hf => by rw [ehp2, ad_up_n _ (fun hh => by subst hh; cases hz.symm.trans ho1; exact hf trivial)]; exact hz) (ad_I.e I)
    have ho2 : hp2 oA = some (.inl (G.2.1 2, 1, .inr (.inl (vp_updL f 0 (((q_rp (fun t => decide (t.2.1 = v)) A.1 16 v k, A).1.2).toInt64))))) := by rw [ehp2]; exact ad_up_s _ _ _
    refine lv_goto (tgt := 17) hx hb d_L_room_10 (by decide) ?_
    refine lv_iconst (v := 0) hx hb d_L_room_17 (by decide) ?_
    exact ad_iret M I rfl (by omega) (by omega) (⟨by rw [hz]; rfl, hC2, ⟨_, ho2, fun _ => pk_uLs⟩, fun z e hz hf hne => by rw [ehp2, ad_up_n _ hne]; exact hF z e hz hf⟩) d_L_room_18
  · obtain ⟨hr, hC1, hF⟩ := hQ
    obtain ⟨k9, hk9, hC9⟩ := q_inr hr
    have hn9 := n_room A v k
    have hk3 : k9 = 0 := by omega
    rcases hk3 with rfl
    have hC9 : C9 = ad_NSE := hC9
    subst hC9
    refine ad_catch2 M h3 h4 h5 (fun hpl => fd_hit S hpl w_94 w_105 h5 (by decide) (by decide)) ?_
    refine lv_astore (lv' := [(4, .ref x9), (0, .ref x), (1, .int v), (2, .int k), (3, .ref oA)]) hx hb d_L_room_13 hl (by decide) rfl (fun ls hl => ?_)
    refine lv_iconst (v := 1) hx hb d_L_room_15 (by decide) ?_
    exact ad_iret M I rfl (by omega) (by omega) (⟨by rw [hk9]; rfl, hC1, ⟨f, hF oA _ ho trivial, fun h => by rw [hk9] at h; cases h⟩, fun z e hz hf _ => hF z e hz hf⟩) d_L_room_16
