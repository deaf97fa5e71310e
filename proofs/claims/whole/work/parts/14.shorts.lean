section ADQ
variable {p : Program} {l : Launch} {e : Env} {R : Room} {s : State} {m : MethodId} {args : Array Value} {below : List Frame} {meth : Method} {c : Code} {H : Heap} {locs : List Loc} {cells slots : Nat} {Q : State → Prop}
variable {cc : ByteArray} {nL pc : Nat} {ls : Array Slot} {rest st : List Value} {own : String} {G : ad_G} {lo : Nat} {hp : ad_H}
variable {y : MethodName} {cy : ByteArray} {ny : Nat} {rt : Option FieldType} {hs : List (Nat × Nat × Nat × Nat)} {d mc ms : Nat} {As : List Value}
theorem ad_cPi (S : CallFix p m c cc nL s args ad_T own) (I : ad_I G lo s hp H locs) (iv : ad_Iv p l e R s m args below meth c H locs cells slots pc ls st rest y As) {v : Value} (K : ad_Cp l y cy ny rt hs d mc ms G lo hp As (fun r => r = .inl (some v))) (Y : ad_Y y cy ny rt hs) (hls : ls.size = nL)
    (hR : d + 1 ≤ R.frames ∧ (rest.map fun v => v.category).sum + (ny + 11) + 37 * d ≤ R.locals) (hcells : cells + mc ≤ R.cells) (hslots : slots + ms ≤ R.slots) {ig : Instr} (hdg : decode cc pc = .ok (ig, 3))
    (k : W p l e R s m args below meth c H locs cells slots Q (F0 m (pc + 3) ls (v :: rest))) : W p l e R s m args below meth c H locs cells slots Q (F0 m pc ls st) :=
  ad_cP S I iv K Y hls hR hcells hslots hdg (fun v' hv => by cases hv; exact k) (fun C _ _ _ hv => by cases hv)
theorem ad_cPx (S : CallFix p m c cc nL s args ad_T own) (I : ad_I G lo s hp H locs) (iv : ad_Iv p l e R s m args below meth c H locs cells slots pc ls st rest y As) {A : Value → Prop} (K : ad_Cp l y cy ny rt hs d mc ms G lo hp As (fun r => ∃ v, r = .inl (some v) ∧ A v)) (Y : ad_Y y cy ny rt hs) (hls : ls.size = nL)
    (hR : d + 1 ≤ R.frames ∧ (rest.map fun v => v.category).sum + (ny + 11) + 37 * d ≤ R.locals) (hcells : cells + mc ≤ R.cells) (hslots : slots + ms ≤ R.slots) {ig : Instr} (hdg : decode cc pc = .ok (ig, 3))
    (k : ∀ v : Value, A v → W p l e R s m args below meth c H locs cells slots Q (F0 m (pc + 3) ls (v :: rest))) : W p l e R s m args below meth c H locs cells slots Q (F0 m pc ls st) :=
  ad_cP S I iv K Y hls hR hcells hslots hdg (fun v' hv => by obtain ⟨v, h1, h2⟩ := hv; cases h1; exact k v h2) (fun C _ _ _ hv => by obtain ⟨v, h1, -⟩ := hv; cases h1)
theorem ad_cPg (S : CallFix p m c cc nL s args ad_T own) (I : ad_I G lo s hp H locs) (iv : ad_Iv p l e R s m args below meth c H locs cells slots pc ls st rest y As) {A : Prop} {v : Option Value} {X : String} (K : ad_Cp l y cy ny rt hs d mc ms G lo hp As (fun r => (A ∧ r = .inl v) ∨ (¬ A ∧ r = .inr X))) (Y : ad_Y y cy ny rt hs) (hls : ls.size = nL)
    (hR : d + 1 ≤ R.frames ∧ (rest.map fun v => v.category).sum + (ny + 11) + 37 * d ≤ R.locals) (hcells : cells + mc ≤ R.cells) (hslots : slots + ms ≤ R.slots) {ig : Instr} (hdg : decode cc pc = .ok (ig, 3))
    (k1 : A → W p l e R s m args below meth c H locs cells slots Q (F0 m (pc + 3) ls (v.toList ++ rest)))
    (k2 : ¬ A → ∀ (H1 : Heap) (x : Addr) (cell : Cell), H.size ≤ H1.size → (∀ q : Nat, q < H.size → H1[q]? = H[q]?) → H1[x]? = some cell → cell.vm = .none → s.vm.findClass X = some cell.cls → ad_WT p l e R s m args below meth c H1 locs (cells + mc) (slots + ms) Q (F0 m pc ls rest) x) :
    W p l e R s m args below meth c H locs cells slots Q (F0 m pc ls st) :=
  ad_cP S I iv K Y hls hR hcells hslots hdg (fun v' hv => by
    rcases hv with ⟨h1, h2⟩ | ⟨h1, h2⟩
    · cases h2; exact k1 h1
    · cases h2) (fun C H1 x cell hv h3 h4 h5 h6 h7 => by
    rcases hv with ⟨h1, h2⟩ | ⟨h1, h2⟩
    · cases h2
    · cases h2; exact k2 h1 H1 x cell h3 h4 h5 h6 h7)
theorem ad_I.grown {H1 : Heap} (I : ad_I G lo s hp H locs) (h1 : H.size ≤ H1.size) (h2 : ∀ q : Nat, q < H.size → H1[q]? = H[q]?) : ad_I G lo s hp H1 locs :=
  ⟨I.1, I.2.1.kept h2, Nat.le_trans I.2.2.1 h1, fun q hq => (h2 q (Nat.lt_of_lt_of_le (Nat.lt_of_lt_of_le hq I.1.1) I.2.2.1)).trans (I.2.2.2.1 q hq), I.2.2.2.2⟩
theorem ad_top {x y : Value} (h : x = y) (k : W p l e R s m args below meth c H locs cells slots Q (F0 m pc ls (y :: rest))) : W p l e R s m args below meth c H locs cells slots Q (F0 m pc ls (x :: rest)) := h ▸ k
theorem ad_cZi (S : CallFix p m c cc nL s args ad_T own) (I : ad_I G lo s hp H locs) (iv : ad_Iv p l e R s m args below meth c H locs cells slots pc ls st rest y As) {v : Option Value} {A : ad_H → Prop} (K : ad_Ct l y cy ny rt hs d mc ms G lo hp As (fun r hp' => r = .inl v ∧ A hp')) (Y : ad_Y y cy ny rt hs) (hls : ls.size = nL)
    (hR : d + 1 ≤ R.frames ∧ (rest.map fun v => v.category).sum + (ny + 11) + 37 * d ≤ R.locals) (hcells : cells + mc ≤ R.cells) (hslots : slots + ms ≤ R.slots) {ig : Instr} (hdg : decode cc pc = .ok (ig, 3))
    (k : ∀ (hp' : ad_H) (H1 : Heap) (locs1 : List Loc), A hp' → ad_I G lo s hp' H1 locs1 → W p l e R s m args below meth c H1 locs1 (cells + mc) (slots + ms) Q (F0 m (pc + 3) ls (v.toList ++ rest))) : W p l e R s m args below meth c H locs cells slots Q (F0 m pc ls st) :=
  ad_cZ S I iv K Y hls hR hcells hslots hdg (fun v' hp' H1 locs1 hv I' => by obtain ⟨h1, h2⟩ := hv; cases h1; exact k hp' H1 locs1 h2 I') (fun C hp' H1 locs1 x cell hv => by obtain ⟨h1, -⟩ := hv; cases h1)
end ADQ
theorem np_A_init : (parseMethodDescriptor y_A_init.desc).map (fun d => d.parameters.length) = some 0 := by decide +kernel
theorem np_D_init : (parseMethodDescriptor y_D_init.desc).map (fun d => d.parameters.length) = some 0 := by decide +kernel
theorem np_AL_init : (parseMethodDescriptor y_AL_init.desc).map (fun d => d.parameters.length) = some 0 := by decide +kernel
theorem np_AB_init : (parseMethodDescriptor y_AB_init.desc).map (fun d => d.parameters.length) = some 0 := by decide +kernel
theorem np_AC_init : (parseMethodDescriptor y_AC_init.desc).map (fun d => d.parameters.length) = some 0 := by decide +kernel
theorem np_A_seed : (parseMethodDescriptor y_A_seed.desc).map (fun d => d.parameters.length) = some 1 := by decide +kernel
theorem np_L_thing : (parseMethodDescriptor y_L_thing.desc).map (fun d => d.parameters.length) = some 4 := by decide +kernel
theorem np_A_thing : (parseMethodDescriptor y_A_thing.desc).map (fun d => d.parameters.length) = some 2 := by decide +kernel
theorem np_A_needBelow : (parseMethodDescriptor y_A_needBelow.desc).map (fun d => d.parameters.length) = some 2 := by decide +kernel
theorem np_AL_size : (parseMethodDescriptor y_AL_size.desc).map (fun d => d.parameters.length) = some 0 := by decide +kernel
theorem np_T_init : (parseMethodDescriptor y_T_init.desc).map (fun d => d.parameters.length) = some 3 := by decide +kernel
theorem np_AL_add : (parseMethodDescriptor y_AL_add.desc).map (fun d => d.parameters.length) = some 1 := by decide +kernel
theorem np_AL_add3 : (parseMethodDescriptor y_AL_add3.desc).map (fun d => d.parameters.length) = some 3 := by decide +kernel
theorem np_AL_grow : (parseMethodDescriptor y_AL_grow.desc).map (fun d => d.parameters.length) = some 0 := by decide +kernel
theorem np_AL_grow1 : (parseMethodDescriptor y_AL_grow1.desc).map (fun d => d.parameters.length) = some 1 := by decide +kernel
theorem np_AS_newLength : (parseMethodDescriptor y_AS_newLength.desc).map (fun d => d.parameters.length) = some 3 := by decide +kernel
theorem np_MA_max : (parseMethodDescriptor y_MA_max.desc).map (fun d => d.parameters.length) = some 2 := by decide +kernel
theorem np_AS_hugeLength : (parseMethodDescriptor y_AS_hugeLength.desc).map (fun d => d.parameters.length) = some 2 := by decide +kernel
theorem np_AR_copyOf : (parseMethodDescriptor y_AR_copyOf.desc).map (fun d => d.parameters.length) = some 2 := by decide +kernel
theorem np_AR_copyOf3 : (parseMethodDescriptor y_AR_copyOf3.desc).map (fun d => d.parameters.length) = some 3 := by decide +kernel
theorem np_MA_min : (parseMethodDescriptor y_MA_min.desc).map (fun d => d.parameters.length) = some 2 := by decide +kernel
theorem np_L_list : (parseMethodDescriptor y_L_list.desc).map (fun d => d.parameters.length) = some 3 := by decide +kernel
theorem np_A_list : (parseMethodDescriptor y_A_list.desc).map (fun d => d.parameters.length) = some 1 := by decide +kernel
theorem np_A_forgetLatest : (parseMethodDescriptor y_A_forgetLatest.desc).map (fun d => d.parameters.length) = some 0 := by decide +kernel
theorem np_AL_get : (parseMethodDescriptor y_AL_get.desc).map (fun d => d.parameters.length) = some 1 := by decide +kernel
theorem np_OB_checkIndex : (parseMethodDescriptor y_OB_checkIndex.desc).map (fun d => d.parameters.length) = some 2 := by decide +kernel
theorem np_PR_checkIndex : (parseMethodDescriptor y_PR_checkIndex.desc).map (fun d => d.parameters.length) = some 3 := by decide +kernel
theorem np_AL_elementData : (parseMethodDescriptor y_AL_elementData.desc).map (fun d => d.parameters.length) = some 1 := by decide +kernel
theorem np_AL_clear : (parseMethodDescriptor y_AL_clear.desc).map (fun d => d.parameters.length) = some 0 := by decide +kernel
theorem np_A_shareOut : (parseMethodDescriptor y_A_shareOut.desc).map (fun d => d.parameters.length) = some 1 := by decide +kernel
theorem np_A_giveRoundedDown : (parseMethodDescriptor y_A_giveRoundedDown.desc).map (fun d => d.parameters.length) = some 2 := by decide +kernel
theorem np_A_countThings : (parseMethodDescriptor y_A_countThings.desc).map (fun d => d.parameters.length) = some 1 := by decide +kernel
theorem np_A_giveOneByGreatestRest : (parseMethodDescriptor y_A_giveOneByGreatestRest.desc).map (fun d => d.parameters.length) = some 0 := by decide +kernel
theorem np_A_layRow : (parseMethodDescriptor y_A_layRow.desc).map (fun d => d.parameters.length) = some 1 := by decide +kernel
theorem np_A_takeFromRow : (parseMethodDescriptor y_A_takeFromRow.desc).map (fun d => d.parameters.length) = some 1 := by decide +kernel
theorem np_D_below : (parseMethodDescriptor y_D_below.desc).map (fun d => d.parameters.length) = some 1 := by decide +kernel
theorem np_AL_set : (parseMethodDescriptor y_AL_set.desc).map (fun d => d.parameters.length) = some 2 := by decide +kernel
theorem np_L_drawn : (parseMethodDescriptor y_L_drawn.desc).map (fun d => d.parameters.length) = some 3 := by decide +kernel
theorem np_A_drawn : (parseMethodDescriptor y_A_drawn.desc).map (fun d => d.parameters.length) = some 1 := by decide +kernel
theorem np_L_check : (parseMethodDescriptor y_L_check.desc).map (fun d => d.parameters.length) = some 6 := by decide +kernel
theorem np_A_check : (parseMethodDescriptor y_A_check.desc).map (fun d => d.parameters.length) = some 4 := by decide +kernel
theorem np_A_existing : (parseMethodDescriptor y_A_existing.desc).map (fun d => d.parameters.length) = some 1 := by decide +kernel
theorem np_A_needListed : (parseMethodDescriptor y_A_needListed.desc).map (fun d => d.parameters.length) = some 1 := by decide +kernel
theorem np_L_gone : (parseMethodDescriptor y_L_gone.desc).map (fun d => d.parameters.length) = some 3 := by decide +kernel
theorem np_A_gone : (parseMethodDescriptor y_A_gone.desc).map (fun d => d.parameters.length) = some 1 := by decide +kernel
theorem np_L_share : (parseMethodDescriptor y_L_share.desc).map (fun d => d.parameters.length) = some 4 := by decide +kernel
theorem np_A_share : (parseMethodDescriptor y_A_share.desc).map (fun d => d.parameters.length) = some 2 := by decide +kernel
theorem np_A_countChecked : (parseMethodDescriptor y_A_countChecked.desc).map (fun d => d.parameters.length) = some 1 := by decide +kernel
theorem np_A_countListed : (parseMethodDescriptor y_A_countListed.desc).map (fun d => d.parameters.length) = some 2 := by decide +kernel
theorem np_A_countMissed : (parseMethodDescriptor y_A_countMissed.desc).map (fun d => d.parameters.length) = some 1 := by decide +kernel
theorem np_A_commonDivisor : (parseMethodDescriptor y_A_commonDivisor.desc).map (fun d => d.parameters.length) = some 2 := by decide +kernel
theorem np_L_next : (parseMethodDescriptor y_L_next.desc).map (fun d => d.parameters.length) = some 3 := by decide +kernel
theorem np_A_next : (parseMethodDescriptor y_A_next.desc).map (fun d => d.parameters.length) = some 1 := by decide +kernel
theorem np_L_digit : (parseMethodDescriptor y_L_digit.desc).map (fun d => d.parameters.length) = some 4 := by decide +kernel
theorem np_A_digit : (parseMethodDescriptor y_A_digit.desc).map (fun d => d.parameters.length) = some 2 := by decide +kernel
theorem np_A_needNumber : (parseMethodDescriptor y_A_needNumber.desc).map (fun d => d.parameters.length) = some 1 := by decide +kernel
theorem np_C_of : (parseMethodDescriptor y_C_of.desc).map (fun d => d.parameters.length) = some 2 := by decide +kernel
theorem np_C_weighedSum : (parseMethodDescriptor y_C_weighedSum.desc).map (fun d => d.parameters.length) = some 2 := by decide +kernel
theorem np_C_weighed : (parseMethodDescriptor y_C_weighed.desc).map (fun d => d.parameters.length) = some 3 := by decide +kernel
theorem np_C_doubled : (parseMethodDescriptor y_C_doubled.desc).map (fun d => d.parameters.length) = some 1 := by decide +kernel
theorem np_L_good : (parseMethodDescriptor y_L_good.desc).map (fun d => d.parameters.length) = some 4 := by decide +kernel
theorem np_A_good : (parseMethodDescriptor y_A_good.desc).map (fun d => d.parameters.length) = some 2 := by decide +kernel
theorem np_C_closes : (parseMethodDescriptor y_C_closes.desc).map (fun d => d.parameters.length) = some 2 := by decide +kernel
theorem np_L_tag : (parseMethodDescriptor y_L_tag.desc).map (fun d => d.parameters.length) = some 6 := by decide +kernel
theorem np_A_tag : (parseMethodDescriptor y_A_tag.desc).map (fun d => d.parameters.length) = some 4 := by decide +kernel
theorem np_A_needHour : (parseMethodDescriptor y_A_needHour.desc).map (fun d => d.parameters.length) = some 1 := by decide +kernel
theorem np_S_init : (parseMethodDescriptor y_S_init.desc).map (fun d => d.parameters.length) = some 3 := by decide +kernel
theorem np_L_first : (parseMethodDescriptor y_L_first.desc).map (fun d => d.parameters.length) = some 4 := by decide +kernel
theorem np_A_first : (parseMethodDescriptor y_A_first.desc).map (fun d => d.parameters.length) = some 2 := by decide +kernel
theorem np_T_lastToldBy : (parseMethodDescriptor y_T_lastToldBy.desc).map (fun d => d.parameters.length) = some 1 := by decide +kernel
theorem np_S_replaces : (parseMethodDescriptor y_S_replaces.desc).map (fun d => d.parameters.length) = some 1 := by decide +kernel
theorem np_L_seen : (parseMethodDescriptor y_L_seen.desc).map (fun d => d.parameters.length) = some 4 := by decide +kernel
theorem np_A_seen : (parseMethodDescriptor y_A_seen.desc).map (fun d => d.parameters.length) = some 2 := by decide +kernel
theorem np_L_weight : (parseMethodDescriptor y_L_weight.desc).map (fun d => d.parameters.length) = some 4 := by decide +kernel
theorem np_A_weight : (parseMethodDescriptor y_A_weight.desc).map (fun d => d.parameters.length) = some 2 := by decide +kernel
theorem np_MA_abs : (parseMethodDescriptor y_MA_abs.desc).map (fun d => d.parameters.length) = some 1 := by decide +kernel
theorem np_L_report : (parseMethodDescriptor y_L_report.desc).map (fun d => d.parameters.length) = some 4 := by decide +kernel
theorem np_A_report : (parseMethodDescriptor y_A_report.desc).map (fun d => d.parameters.length) = some 2 := by decide +kernel
theorem np_A_needNotNegative : (parseMethodDescriptor y_A_needNotNegative.desc).map (fun d => d.parameters.length) = some 1 := by decide +kernel
theorem np_L_room : (parseMethodDescriptor y_L_room.desc).map (fun d => d.parameters.length) = some 4 := by decide +kernel
theorem np_A_room : (parseMethodDescriptor y_A_room.desc).map (fun d => d.parameters.length) = some 2 := by decide +kernel
theorem np_M_init : (parseMethodDescriptor y_M_init.desc).map (fun d => d.parameters.length) = some 0 := by decide +kernel
theorem np_M_thrown : (parseMethodDescriptor y_M_thrown.desc).map (fun d => d.parameters.length) = some 0 := by decide +kernel
theorem np_M_seed : (parseMethodDescriptor y_M_seed.desc).map (fun d => d.parameters.length) = some 1 := by decide +kernel
theorem np_M_thing : (parseMethodDescriptor y_M_thing.desc).map (fun d => d.parameters.length) = some 2 := by decide +kernel
theorem np_M_in : (parseMethodDescriptor y_M_in.desc).map (fun d => d.parameters.length) = some 3 := by decide +kernel
theorem np_M_fails : (parseMethodDescriptor y_M_fails.desc).map (fun d => d.parameters.length) = some 3 := by decide +kernel
theorem np_M_list : (parseMethodDescriptor y_M_list.desc).map (fun d => d.parameters.length) = some 1 := by decide +kernel
theorem np_M_divide : (parseMethodDescriptor y_M_divide.desc).map (fun d => d.parameters.length) = some 1 := by decide +kernel
theorem np_M_size : (parseMethodDescriptor y_M_size.desc).map (fun d => d.parameters.length) = some 1 := by decide +kernel
theorem np_M_rest : (parseMethodDescriptor y_M_rest.desc).map (fun d => d.parameters.length) = some 2 := by decide +kernel
theorem np_M_drawFrom : (parseMethodDescriptor y_M_drawFrom.desc).map (fun d => d.parameters.length) = some 1 := by decide +kernel
theorem np_M_draw : (parseMethodDescriptor y_M_draw.desc).map (fun d => d.parameters.length) = some 1 := by decide +kernel
theorem np_M_drawn : (parseMethodDescriptor y_M_drawn.desc).map (fun d => d.parameters.length) = some 1 := by decide +kernel
theorem np_M_check : (parseMethodDescriptor y_M_check.desc).map (fun d => d.parameters.length) = some 4 := by decide +kernel
theorem np_M_isThing : (parseMethodDescriptor y_M_isThing.desc).map (fun d => d.parameters.length) = some 1 := by decide +kernel
theorem np_M_gone : (parseMethodDescriptor y_M_gone.desc).map (fun d => d.parameters.length) = some 1 := by decide +kernel
theorem np_M_share : (parseMethodDescriptor y_M_share.desc).map (fun d => d.parameters.length) = some 2 := by decide +kernel
theorem np_M_many : (parseMethodDescriptor y_M_many.desc).map (fun d => d.parameters.length) = some 3 := by decide +kernel
theorem np_M_next : (parseMethodDescriptor y_M_next.desc).map (fun d => d.parameters.length) = some 1 := by decide +kernel
theorem np_M_digit : (parseMethodDescriptor y_M_digit.desc).map (fun d => d.parameters.length) = some 2 := by decide +kernel
theorem np_M_digitOf : (parseMethodDescriptor y_M_digitOf.desc).map (fun d => d.parameters.length) = some 2 := by decide +kernel
theorem np_M_sum : (parseMethodDescriptor y_M_sum.desc).map (fun d => d.parameters.length) = some 2 := by decide +kernel
theorem np_M_counts : (parseMethodDescriptor y_M_counts.desc).map (fun d => d.parameters.length) = some 3 := by decide +kernel
theorem np_M_good : (parseMethodDescriptor y_M_good.desc).map (fun d => d.parameters.length) = some 2 := by decide +kernel
theorem np_M_tag : (parseMethodDescriptor y_M_tag.desc).map (fun d => d.parameters.length) = some 4 := by decide +kernel
theorem np_M_first : (parseMethodDescriptor y_M_first.desc).map (fun d => d.parameters.length) = some 2 := by decide +kernel
theorem np_M_best : (parseMethodDescriptor y_M_best.desc).map (fun d => d.parameters.length) = some 2 := by decide +kernel
theorem np_M_seen : (parseMethodDescriptor y_M_seen.desc).map (fun d => d.parameters.length) = some 2 := by decide +kernel
theorem np_M_weight : (parseMethodDescriptor y_M_weight.desc).map (fun d => d.parameters.length) = some 2 := by decide +kernel
theorem np_M_report : (parseMethodDescriptor y_M_report.desc).map (fun d => d.parameters.length) = some 2 := by decide +kernel
theorem np_M_room : (parseMethodDescriptor y_M_room.desc).map (fun d => d.parameters.length) = some 2 := by decide +kernel
