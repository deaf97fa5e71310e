section ADE
variable {p : Program} {l : Launch} {e : Env} {R : Room} {s : State} {m : MethodId} {args : Array Value} {below : List Frame} {meth : Method} {c : Code} {H : Heap} {locs : List Loc} {cells slots : Nat} {Q : State → Prop}
variable {cc : ByteArray} {nL pc : Nat} {ls : Array Slot} {rest st : List Value} {own : String} {G : ad_G} {lo : Nat} {hp : ad_H} {y : MethodName} {rt : Option FieldType} {hs : List (Nat × Nat × Nat × Nat)} {mc ms : Nat}
theorem ad_iret {ty : FieldType} (M : ad_M y cc nL (some ty) hs p s m meth c) (I : ad_I G lo s hp H locs) {v : Int32} (hn : narrow ty (.int v) = .int v) (hc : cells ≤ mc) (hms : slots ≤ ms) {Post : ad_R → ad_H → Prop} (hq : Post (.inl (some (.int v))) hp) (hdg : decode cc pc = .ok (.ireturn, 1)) :
    W p l e R s m args below meth c H locs cells slots (ad_Z below G lo Post s mc ms) (F0 m pc ls [.int v]) := by
  obtain ⟨hexec, hb, -, -, hr, hlocks, -, -⟩ := M
  intro T hT X
  have X := stand_widen X hc hms
  obtain ⟨fs, hret, hrun, hended, hW, hframe⟩ := X.leave (v := some (.int v)) (hlocks := hlocks) (fun h => by rw [hr] at h; cases h)
  have hmeth' : T.vm.method? m = some meth := X.method'
  refine ⟨T.setFrames fs, ?_, .returned (some (.int v)), .inl (some (.int v)), hp, hrun, hended, hW, ⟨locs, hframe, I.2.2.2.2⟩, hq, rfl, by show ad_P G lo hp T.heap; rw [hT]; exact I.2.1, by show _ ≤ T.heap.size; rw [hT]; exact I.2.2.1, fun q h => by show T.heap[q]? = _; rw [hT]; exact I.2.2.2.1 q h⟩
  jvm_step X.here [X.here.top, hexec, hb, hdg, hmeth', hr, hn]
  (try refine ⟨rfl, ?_⟩); (try refine ⟨rfl, ?_⟩)
  first | (intro acts; rw [hret _ acts rfl rfl rfl]) | rw [hret _ _ rfl rfl rfl]
  exact Steps.refl _
theorem ad_vret (M : ad_M y cc nL none hs p s m meth c) (I : ad_I G lo s hp H locs) (hc : cells ≤ mc) (hms : slots ≤ ms) {Post : ad_R → ad_H → Prop} (hq : Post (.inl none) hp) (hdg : decode cc pc = .ok (.return_, 1)) :
    W p l e R s m args below meth c H locs cells slots (ad_Z below G lo Post s mc ms) (F0 m pc ls []) := by
  obtain ⟨hexec, hb, -, -, hr, hlocks, -, -⟩ := M
  intro T hT X
  have X := stand_widen X hc hms
  obtain ⟨fs, hret, hrun, hended, hW, hframe⟩ := X.leave (v := none) (hlocks := hlocks) (fun _ => rfl)
  have hmeth' : T.vm.method? m = some meth := X.method'
  refine ⟨T.setFrames fs, ?_, .returned none, .inl none, hp, hrun, hended, hW, ⟨locs, hframe, I.2.2.2.2⟩, hq, rfl, by show ad_P G lo hp T.heap; rw [hT]; exact I.2.1, by show _ ≤ T.heap.size; rw [hT]; exact I.2.2.1, fun q h => by show T.heap[q]? = _; rw [hT]; exact I.2.2.2.1 q h⟩
  jvm_step X.here [X.here.top, hexec, hb, hdg, hmeth', hr]
  (try refine ⟨rfl, ?_⟩); (try refine ⟨rfl, ?_⟩)
  first | (intro acts; rw [hret _ acts rfl rfl rfl]) | rw [hret _ _ rfl rfl rfl]
  exact Steps.refl _
theorem ad_aret {ty : FieldType} (M : ad_M y cc nL (some ty) hs p s m meth c) (I : ad_I G lo s hp H locs) (hty : (∃ n, ty = .object n) ∨ ∃ t, ty = .array t) {v : Value} (hv : v = .null ∨ ∃ a, v = .ref a) (hc : cells ≤ mc) (hms : slots ≤ ms) {Post : ad_R → ad_H → Prop} (hq : Post (.inl (some v)) hp) (hdg : decode cc pc = .ok (.areturn, 1)) :
    W p l e R s m args below meth c H locs cells slots (ad_Z below G lo Post s mc ms) (F0 m pc ls [v]) := by
  obtain ⟨hexec, hb, -, -, hr, hlocks, -, -⟩ := M
  intro T hT X
  have X := stand_widen X hc hms
  obtain ⟨fs, hret, hrun, hended, hW, hframe⟩ := X.leave (v := some v) (hlocks := hlocks) (fun h => by rw [hr] at h; cases h)
  have hmeth' : T.vm.method? m = some meth := X.method'
  refine ⟨T.setFrames fs, ?_, .returned (some v), .inl (some v), hp, hrun, hended, hW, ⟨locs, hframe, I.2.2.2.2⟩, hq, rfl, by show ad_P G lo hp T.heap; rw [hT]; exact I.2.1, by show _ ≤ T.heap.size; rw [hT]; exact I.2.2.1, fun q h => by show T.heap[q]? = _; rw [hT]; exact I.2.2.2.1 q h⟩
  rcases hty with ⟨n, rfl⟩ | ⟨t, rfl⟩ <;> rcases hv with rfl | ⟨a, rfl⟩ <;>
    (jvm_step X.here [X.here.top, hexec, hb, hdg, hmeth', hr]
     (try refine ⟨rfl, ?_⟩); (try refine ⟨rfl, ?_⟩)
     first | (intro acts; rw [hret _ acts rfl rfl rfl]) | rw [hret _ _ rfl rfl rfl]
     exact Steps.refl _)
theorem ad_iretP {ty : FieldType} (M : ad_M y cc nL (some ty) hs p s m meth c) {v : Int32} (hn : narrow ty (.int v) = .int v) {Post : ad_R → Prop} (hq : Post (.inl (some (.int v)))) (hdg : decode cc pc = .ok (.ireturn, 1)) :
    W p l e R s m args below meth c s.heap [] 0 0 (ad_Zp below Post s mc ms) (F0 m pc ls [.int v]) := by
  obtain ⟨hexec, hb, -, -, hr, hlocks, -, -⟩ := M
  intro T hT X
  obtain ⟨fs, hret, hrun, hended, hW, hframe⟩ := X.leave (v := some (.int v)) (hlocks := hlocks) (fun h => by rw [hr] at h; cases h)
  have hmeth' : T.vm.method? m = some meth := X.method'
  refine ⟨T.setFrames fs, ?_, .returned (some (.int v)), .inl (some (.int v)), hrun, hended, hW, hq, rfl, by show _ ≤ T.heap.size; rw [hT]; exact Nat.le_refl _, fun q _ => by show T.heap[q]? = _; rw [hT], hT, hframe⟩
  jvm_step X.here [X.here.top, hexec, hb, hdg, hmeth', hr, hn]
  (try refine ⟨rfl, ?_⟩); (try refine ⟨rfl, ?_⟩)
  first | (intro acts; rw [hret _ acts rfl rfl rfl]) | rw [hret _ _ rfl rfl rfl]
  exact Steps.refl _
theorem ad_vretP (M : ad_M y cc nL none hs p s m meth c) {Post : ad_R → Prop} (hq : Post (.inl none)) (hdg : decode cc pc = .ok (.return_, 1)) :
    W p l e R s m args below meth c s.heap [] 0 0 (ad_Zp below Post s mc ms) (F0 m pc ls []) := by
  obtain ⟨hexec, hb, -, -, hr, hlocks, -, -⟩ := M
  intro T hT X
  obtain ⟨fs, hret, hrun, hended, hW, hframe⟩ := X.leave (v := none) (hlocks := hlocks) (fun _ => rfl)
  have hmeth' : T.vm.method? m = some meth := X.method'
  refine ⟨T.setFrames fs, ?_, .returned none, .inl none, hrun, hended, hW, hq, rfl, by show _ ≤ T.heap.size; rw [hT]; exact Nat.le_refl _, fun q _ => by show T.heap[q]? = _; rw [hT], hT, hframe⟩
  jvm_step X.here [X.here.top, hexec, hb, hdg, hmeth', hr]
  (try refine ⟨rfl, ?_⟩); (try refine ⟨rfl, ?_⟩)
  first | (intro acts; rw [hret _ acts rfl rfl rfl]) | rw [hret _ _ rfl rfl rfl]
  exact Steps.refl _
theorem ad_lretP (M : ad_M y cc nL (some .long) hs p s m meth c) {v : Int64} {Post : ad_R → Prop} (hq : Post (.inl (some (.long v)))) (hdg : decode cc pc = .ok (.lreturn, 1)) :
    W p l e R s m args below meth c s.heap [] 0 0 (ad_Zp below Post s mc ms) (F0 m pc ls [.long v]) := by
  obtain ⟨hexec, hb, -, -, hr, hlocks, -, -⟩ := M
  intro T hT X
  obtain ⟨fs, hret, hrun, hended, hW, hframe⟩ := X.leave (v := some (.long v)) (hlocks := hlocks) (fun h => by rw [hr] at h; cases h)
  have hmeth' : T.vm.method? m = some meth := X.method'
  refine ⟨T.setFrames fs, ?_, .returned (some (.long v)), .inl (some (.long v)), hrun, hended, hW, hq, rfl, by show _ ≤ T.heap.size; rw [hT]; exact Nat.le_refl _, fun q _ => by show T.heap[q]? = _; rw [hT], hT, hframe⟩
  jvm_step X.here [X.here.top, hexec, hb, hdg, hmeth', hr, narrow]
  (try refine ⟨rfl, ?_⟩); (try refine ⟨rfl, ?_⟩)
  first | (intro acts; rw [hret _ acts rfl rfl rfl]) | rw [hret _ _ rfl rfl rfl]
  exact Steps.refl _
theorem ad_aretP {ty : FieldType} (M : ad_M y cc nL (some ty) hs p s m meth c) (hty : (∃ n, ty = .object n) ∨ ∃ t, ty = .array t) {v : Value} (hv : v = .null ∨ ∃ a, v = .ref a) {Post : ad_R → Prop} (hq : Post (.inl (some v))) (hdg : decode cc pc = .ok (.areturn, 1)) :
    W p l e R s m args below meth c s.heap [] 0 0 (ad_Zp below Post s mc ms) (F0 m pc ls [v]) := by
  obtain ⟨hexec, hb, -, -, hr, hlocks, -, -⟩ := M
  intro T hT X
  obtain ⟨fs, hret, hrun, hended, hW, hframe⟩ := X.leave (v := some v) (hlocks := hlocks) (fun h => by rw [hr] at h; cases h)
  have hmeth' : T.vm.method? m = some meth := X.method'
  refine ⟨T.setFrames fs, ?_, .returned (some v), .inl (some v), hrun, hended, hW, hq, rfl, by show _ ≤ T.heap.size; rw [hT]; exact Nat.le_refl _, fun q _ => by show T.heap[q]? = _; rw [hT], hT, hframe⟩
  rcases hty with ⟨n, rfl⟩ | ⟨t, rfl⟩ <;> rcases hv with rfl | ⟨a, rfl⟩ <;>
    (jvm_step X.here [X.here.top, hexec, hb, hdg, hmeth', hr]
     (try refine ⟨rfl, ?_⟩); (try refine ⟨rfl, ?_⟩)
     first | (intro acts; rw [hret _ acts rfl rfl rfl]) | rw [hret _ _ rfl rfl rfl]
     exact Steps.refl _)
theorem ad_out (M : ad_M y cc nL rt hs p s m meth c) (I : ad_I G lo s hp H locs) {x : Addr} {cell : Cell} {C : String} (hx : H[x]? = some cell) (hv : cell.vm = .none) (hC : s.vm.findClass C = some cell.cls) (hout : (tableOf hs).all (fun x => !covers x pc) = true) (hc : cells ≤ mc) (hms : slots ≤ ms) {Post : ad_R → ad_H → Prop} (hq : Post (.inr C) hp) :
    ad_WT p l e R s m args below meth c H locs cells slots (ad_Z below G lo Post s mc ms) (F0 m pc ls st) x := by
  obtain ⟨hexec, hb, -, -, hr, hlocks, htab, -⟩ := M
  intro T hT X
  have X := stand_widen X hc hms
  obtain ⟨h1, h2, h3, h4, h5⟩ := X.leaveThrown x (g := F0 m pc ls st) rfl rfl rfl (outside_of_table htab hout) hlocks
  exact ⟨_, h1, .threw x, .inr C, hp, h2, h3, h4, ⟨locs, h5, I.2.2.2.2⟩, hq, ⟨x, cell, rfl, by show T.heap[x]? = _; rw [hT]; exact hx, hv, by show T.vm.findClass C = _; rw [X.warmed.alike.findClass]; exact hC⟩, by show ad_P G lo hp T.heap; rw [hT]; exact I.2.1, by show _ ≤ T.heap.size; rw [hT]; exact I.2.2.1, fun q h => by show T.heap[q]? = _; rw [hT]; exact I.2.2.2.1 q h⟩
theorem ad_outP (M : ad_M y cc nL rt hs p s m meth c) {x : Addr} {cell : Cell} {C : String} (hz : s.heap.size ≤ H.size) (hk : ∀ q : Nat, q < s.heap.size → H[q]? = s.heap[q]?) (hx : H[x]? = some cell) (hv : cell.vm = .none) (hC : s.vm.findClass C = some cell.cls) (hout : (tableOf hs).all (fun x => !covers x pc) = true) (hc : cells ≤ mc) (hms : slots ≤ ms) {Post : ad_R → Prop} (hq : Post (.inr C)) :
    ad_WT p l e R s m args below meth c H [] cells slots (ad_Zp below Post s mc ms) (F0 m pc ls st) x := by
  obtain ⟨hexec, hb, -, -, hr, hlocks, htab, -⟩ := M
  intro T hT X
  have X := stand_widen X hc hms
  obtain ⟨h1, h2, h3, h4, h5⟩ := X.leaveThrown x (g := F0 m pc ls st) rfl rfl rfl (outside_of_table htab hout) hlocks
  exact ⟨_, h1, .threw x, .inr C, h2, h3, h4, hq, ⟨x, cell, rfl, by show T.heap[x]? = _; rw [hT]; exact hx, hv, by show T.vm.findClass C = _; rw [X.warmed.alike.findClass]; exact hC⟩, by show _ ≤ T.heap.size; rw [hT]; exact hz, fun q h => by show T.heap[q]? = _; rw [hT]; exact hk q h, h5⟩
end ADE
