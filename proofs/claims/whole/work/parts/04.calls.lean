/-! Calls, returns, throws, catches over the frame (part 03), and contracts out of bodies. -/
section SSC
variable {V : ss_V} {l : Launch} {M : ss_M} {R : Room} {Q : List Frame → Array Value → State → State → Prop} {pc : Nat} {lo : List (Nat × Value)} {st rest : List Value} {z : ss_Z} {k n : Nat}
/-- behind a call -/
theorem ss_after {p : Program} {e : Env} {s : State} {m : MethodId} {args : Array Value} {below : List Frame} {meth : Method} {c : Code} {H : Heap} {locs : List Loc} {ls : Array Slot} {Q0 : State → Prop} {mc ms : Nat} {a : Array Value} {Qr : Option Value → ss_Z → Prop} {Qx : String → ss_Z → Prop}
    (hr : vx_Run p l e R s m args below meth c H locs k n mc ms (F0 m pc ls st) rest (ss_Qc V Qr a) (ss_Xc V Qx) (sv_A V)) (hS : va_S (sv_A V) s.heap H locs)
    (kx : ∀ (E : String) (z' : ss_Z) (ce : Cell) (q : Addr) (H1 : Heap) (locs1 : List Loc), Qx E z' → ss_ok V z' H1 → va_S (sv_A V) s.heap H1 locs1 → H1[q]? = some ce → ce.vm = .none → s.vm.findClass E = some ce.cls → vx_W p l e R s m args below meth c H1 locs1 (k + mc) (n + ms) Q0 (F0 m pc ls rest) q)
    (kk : ∀ (v : Option Value) (z' : ss_Z) (H1 : Heap) (locs1 : List Loc), Qr v z' → ss_ok V z' H1 → va_S (sv_A V) s.heap H1 locs1 → W p l e R s m args below meth c H1 locs1 (k + mc) (n + ms) Q0 (F0 m (pc + 3) ls (v.toList ++ rest))) : W p l e R s m args below meth c H locs k n Q0 (F0 m pc ls st) := by
  intro T hT X
  rcases hr T hT X with ⟨v, st₀, t, T', L, h0, X', hL, e1, e2, ⟨⟨v', z', hv, hq, hok⟩, hF⟩, stp⟩ | ⟨q, st₀, t, T', L, E, ce, h0, X', hL, e1, e2, ⟨z', hq, hok, hF⟩, hce, hcv, hcl, stp⟩
  · cases hv
    obtain ⟨k1, k2, k3⟩ := vx_keep h0 e1 hS (fun _ _ h => h) (fun _ h => h) hL hF
    obtain ⟨t2, a1, b1⟩ := kk v z' T'.heap (locs ++ L) hq (by rw [e1]; exact hok) k3 T' rfl X'
    exact ⟨t2, stp t2 a1, b1⟩
  · obtain ⟨k1, k2, k3⟩ := vx_keep h0 e1 hS (fun _ _ h => h) (fun _ h => h) hL hF
    obtain ⟨t2, a1, b1⟩ := kx E z' ce q T'.heap (locs ++ L) hq (by rw [e1]; exact hok) k3 (by rw [e1]; exact hce) hcv hcl T' rfl X'
    exact ⟨t2, stp.trans a1, b1⟩
/-- the words of a call of method M2 (na arguments beside the receiver), by its place in the pool of a class -/
def ss_CL (own : String) (idx : Nat) (M2 : ss_M) (na : Nat) : Prop := Cond.methodLink own idx M2.1 ∈ ss_good ∧ Cond.initialized M2.1.cls ∈ ss_good ∧ (M2.1.cls ≠ "java/lang/invoke/MethodHandle" ∧ M2.1.cls ≠ "java/lang/invoke/VarHandle" ∧ (parseMethodDescriptor M2.1.desc).map (fun d => d.parameters.length) = some na)
def ss_VL (own : String) (idx : Nat) (M2 : ss_M) (ci na : Nat) : Prop := ss_CL own idx M2 na ∧ Cond.instanceMethod M2.1 ∈ ss_good ∧ Cond.selects M2.1.cls M2.1 M2.1 ∈ ss_good ∧ Cond.code M2.1 M2.2.1 M2.2.2.1 M2.2.2.2.1 ∈ ss_good ∧ ci < 4 ∧ (ss_ct ci).1.1 = M2.1.cls
def ss_SL (own : String) (idx : Nat) (M2 : ss_M) (na : Nat) : Prop := ss_CL own idx M2 na ∧ Cond.static M2.1 ∈ ss_good ∧ Cond.code M2.1 M2.2.1 M2.2.2.1 M2.2.2.2.1 ∈ ss_good ∧ M2.1.cls = own
def ss_HL (own : String) (idx : Nat) (M2 : ss_M) (na : Nat) : Prop := ss_CL own idx M2 na ∧ Cond.static M2.1 ∈ ss_good ∧ Cond.codeWith M2.1 M2.2.1 M2.2.2.1 M2.2.2.2.1 M2.2.2.2.2 ∈ ss_good ∧ M2.1.cls = own
theorem ss_in_ws {M2 : ss_M} (h : Cond.code M2.1 M2.2.1 M2.2.2.1 M2.2.2.2.1 ∈ ss_good) : ∀ w ∈ ss_ws M2, w ∈ ss_good := fun w hw => (List.mem_cons.mp hw).elim (fun e => by rw [e]; exact h) id
theorem ss_in_wsH {M2 : ss_M} (h : Cond.codeWith M2.1 M2.2.1 M2.2.2.1 M2.2.2.2.1 M2.2.2.2.2 ∈ ss_good) : ∀ w ∈ ss_wsH M2, w ∈ ss_good := fun w hw => (List.mem_cons.mp hw).elim (fun e => by rw [e]; exact h) id
/-- what a callee finds -/
theorem ss_pre {p : Program} {s : State} {m : MethodId} {args : Array Value} {meth : Method} {c : Code} {H : Heap} {locs : List Loc} {av : List Value} (C : ss_cx V l M p s m args meth c) (hw : ss_ok V z H) (hS : va_S (sv_A V) s.heap H locs) : ∀ U : State, U.heap = H → s.WarmedH U.vm → ss_Pc V av z av.toArray U := by
  intro U hU hW
  refine ⟨rfl, ss_K.moved hW (by rw [hU]; exact hS.1) (fun q h1 h2 => by rw [hU]; exact hS.2.1 q h1 h2) C.2.2.2.2.2.2.2.1, by rw [hU]; exact hw, fun q hq => C.2.2.2.2.2.2.2.2.1 q (Nat.le_trans hS.1 (by rw [← hU]; exact hq))⟩
theorem sg_callV {M2 : ss_M} {d mc ms idx ci b : Nat} {As fs : List Value} {Qr : Option Value → ss_Z → Prop} {Qx : String → ss_Z → Prop} (hM : ss_C V l d M2 mc ms (.ref b :: As) z Qr Qx) (vl : ss_VL M.1.cls idx M2 ci As.length) (hd : decode M.2.1 pc = .ok (.invokevirtual idx, 3)) (ha : ss_at z b (.inr (ci, fs)))
    (hst : st = As.reverse ++ .ref b :: rest) (h8 : (rest.map fun v => v.category).sum ≤ 8) (hR : d + 1 ≤ R.frames ∧ 8 + (M2.2.2.1 + 11) + (30 * d + 60) ≤ R.locals) (hf : k + mc ≤ R.cells ∧ n + ms ≤ R.slots)
    (kx : ∀ (E : String) (z' : ss_Z), Qx E z' → ss_GX V l M R Q pc lo rest z' E (k + mc) (n + ms)) (kk : ∀ (v : Option Value) (z' : ss_Z), Qr v z' → ss_G V l M R Q (pc + 3) lo (v.toList ++ rest) z' (k + mc) (n + ms)) : ss_G V l M R Q pc lo st z k n := by
  intro p e s m args below meth c H locs ls C hl hw hS
  obtain ⟨⟨v1, v2, v3⟩, v4, v5, v6, v7, v8⟩ := vl
  obtain ⟨q0, hq⟩ := ss_get ha
  obtain ⟨cB, r1, r2, r3⟩ := va_recv C.2.2.2.2.2.2.2.1.1 hw.1 (ss_ct_at v7) hq
  have hT : GoodIn ss_good (wsV M.1.cls idx M2.1.cls M2.1 (ss_ws M2)) := ss_gi (fun w h => by
    unfold wsV at h
    rcases List.mem_append.mp h with h | h
    · rcases List.mem_cons.mp h with rfl | h
      · exact v1
      · rcases List.mem_cons.mp h with rfl | h
        · exact v4
        · rcases List.mem_cons.mp h with rfl | h
          · exact v5
          · rcases List.mem_cons.mp h with rfl | h
            · exact v2
            · cases h
    · exact ss_in_ws v6 w h)
  exact ss_after (vx_runV (As := As) (b := b) (rest := rest) (C := M2.1.cls) ⟨C.1, C.2.1, C.2.2.1, C.2.2.2.2.2.2.1, C.2.2.2.2.2.1⟩ hM (cwV As.length C.2.2.2.2.2.1 hT rfl rfl rfl ⟨rfl, v3⟩ hR) ⟨ss_blind, ⟨cB, r1, r2, by rw [← v8]; exact r3⟩, ss_pre C hw hS⟩ rfl rfl hl.1 hst (lv_room h8) hd hf) hS
    (fun E z' ce q H1 locs1 hq1 hw1 hS1 h1 h2 h3 => kx E z' hq1 p e s m args below meth c H1 locs1 ls ce q C hl hw1 hS1 h1 h2 h3)
    (fun v z' H1 locs1 hq1 hw1 hS1 => kk v z' hq1 p e s m args below meth c H1 locs1 ls C hl hw1 hS1)
theorem sg_callS {M2 : ss_M} {d mc ms idx : Nat} {As : List Value} {Qr : Option Value → ss_Z → Prop} {Qx : String → ss_Z → Prop} (hM : ss_C V l d M2 mc ms As z Qr Qx) (vl : ss_SL M.1.cls idx M2 As.length) (hd : decode M.2.1 pc = .ok (.invokestatic idx, 3))
    (hst : st = As.reverse ++ rest) (h8 : (rest.map fun v => v.category).sum ≤ 8) (hR : d + 1 ≤ R.frames ∧ 8 + (M2.2.2.1 + 11) + (30 * d + 60) ≤ R.locals) (hf : k + mc ≤ R.cells ∧ n + ms ≤ R.slots)
    (kx : ∀ (E : String) (z' : ss_Z), Qx E z' → ss_GX V l M R Q pc lo rest z' E (k + mc) (n + ms)) (kk : ∀ (v : Option Value) (z' : ss_Z), Qr v z' → ss_G V l M R Q (pc + 3) lo (v.toList ++ rest) z' (k + mc) (n + ms)) : ss_G V l M R Q pc lo st z k n := by
  intro p e s m args below meth c H locs ls C hl hw hS
  obtain ⟨⟨v1, v2, v3⟩, v4, v6, v8⟩ := vl
  have hT : GoodIn ss_good (wsS M.1.cls idx M2.1 (ss_ws M2)) := ss_gi (fun w h => by
    unfold wsS at h
    rcases List.mem_append.mp h with h | h
    · rcases List.mem_cons.mp h with rfl | h
      · exact v1
      · rcases List.mem_cons.mp h with rfl | h
        · exact v4
        · rcases List.mem_cons.mp h with rfl | h
          · rw [← v8]; exact v2
          · cases h
    · exact ss_in_ws v6 w h)
  exact ss_after (vx_runS (As := As) (rest := rest) ⟨C.1, C.2.1, C.2.2.1, C.2.2.2.2.2.2.1, C.2.2.2.2.2.1⟩ hM (cwS As.length C.2.2.2.2.2.1 hT rfl rfl rfl ⟨v8, v3⟩ hR) ⟨ss_blind, ss_pre C hw hS⟩ rfl rfl hl.1 hst (lv_room h8) hd hf) hS
    (fun E z' ce q H1 locs1 hq1 hw1 hS1 h1 h2 h3 => kx E z' hq1 p e s m args below meth c H1 locs1 ls ce q C hl hw1 hS1 h1 h2 h3)
    (fun v z' H1 locs1 hq1 hw1 hS1 => kk v z' hq1 p e s m args below meth c H1 locs1 ls C hl hw1 hS1)
/-- a static call of a method with a table -/
theorem sg_callH {M2 : ss_M} {d mc ms idx : Nat} {As : List Value} {Qr : Option Value → ss_Z → Prop} {Qx : String → ss_Z → Prop} (hM : ss_CH V l d M2 mc ms As z Qr Qx) (vl : ss_HL M.1.cls idx M2 As.length) (hd : decode M.2.1 pc = .ok (.invokestatic idx, 3))
    (hst : st = As.reverse ++ rest) (h8 : (rest.map fun v => v.category).sum ≤ 8) (hR : d + 1 ≤ R.frames ∧ 8 + (M2.2.2.1 + 11) + (30 * d + 60) ≤ R.locals) (hf : k + mc ≤ R.cells ∧ n + ms ≤ R.slots)
    (kx : ∀ (E : String) (z' : ss_Z), Qx E z' → ss_GX V l M R Q pc lo rest z' E (k + mc) (n + ms)) (kk : ∀ (v : Option Value) (z' : ss_Z), Qr v z' → ss_G V l M R Q (pc + 3) lo (v.toList ++ rest) z' (k + mc) (n + ms)) : ss_G V l M R Q pc lo st z k n := by
  intro p e s m args below meth c H locs ls C hl hw hS
  obtain ⟨⟨v1, v2, v3⟩, v4, v6, v8⟩ := vl
  have hT : GoodIn ss_good (va_wsS M.1.cls idx M2.1 (ss_wsH M2)) := ss_gi (fun w h => by
    unfold va_wsS at h
    rcases List.mem_append.mp h with h | h
    · rcases List.mem_cons.mp h with rfl | h
      · exact v1
      · rcases List.mem_cons.mp h with rfl | h
        · exact v4
        · rcases List.mem_cons.mp h with rfl | h
          · exact v2
          · cases h
    · exact ss_in_wsH v6 w h)
  exact ss_after (vx_runSX (As := As) (rest := rest) ⟨C.1, C.2.1, C.2.2.1, C.2.2.2.2.2.2.1, C.2.2.2.2.2.1⟩ hM (vx_cwSW As.length C.2.2.2.2.2.1 hT rfl rfl rfl v3 hR) ⟨ss_blind, ss_pre C hw hS⟩ rfl rfl hl.1 hst (lv_room h8) hd hf) hS
    (fun E z' ce q H1 locs1 hq1 hw1 hS1 h1 h2 h3 => kx E z' hq1 p e s m args below meth c H1 locs1 ls ce q C hl hw1 hS1 h1 h2 h3)
    (fun v z' H1 locs1 hq1 hw1 hS1 => kk v z' hq1 p e s m args below meth c H1 locs1 ls C hl hw1 hS1)
/-- nobody catches here: it goes on to the caller -/
theorem sx_out {d mc ms : Nat} {E : String} {Qr : Option Value → ss_Z → Prop} {Qx : String → ss_Z → Prop} (hh : M.2.2.2.2 = []) (hq : Qx E z) (hk : k ≤ mc) (hn : n ≤ ms) : ss_GX V l M (ss_rm d mc ms) (ss_Q V Qr Qx mc ms) pc lo rest z E k n := by
  intro p e s m args below meth c H locs ls ce q C hl hw hS h1 h2 h3
  refine vx_out (fun x hx => ?_) C.2.2.2.2.1 h1 h2 h3 (fun t ht hv => ⟨z, hq, by rw [ht]; exact hw, hS.F ht⟩) hS.2.2 hk hn
  rw [C.2.2.2.2.2.2.2.2.2.1, hh] at hx
  cases hx
/-- caught by row i of the table; the rows ahead of it name other classes -/
theorem sx_catch {E : String} (pre : List (Nat × Nat × Nat × Nat)) (x : Nat × Nat × Nat × Nat) (suf : List (Nat × Nat × Nat × Nat)) (hh : M.2.2.2.2 = pre ++ x :: suf) (hE : E ∈ ss_xs) (hpass : ∀ y ∈ pre, y.2.2.2 ≠ 0 ∧ ∃ nm, Cond.classLink M.1.cls y.2.2.2 nm ∈ ss_good ∧ nm ∈ ss_xs ∧ E ≠ nm) (hc : covers ⟨x.1, x.2.1, x.2.2.1, x.2.2.2⟩ pc = true) (h0 : x.2.2.2 ≠ 0) (hlink : Cond.classLink M.1.cls x.2.2.2 E ∈ ss_good)
    (kk : ∀ q : Nat, ss_G V l M R Q x.2.2.1 lo [.ref q] z k n) : ss_GX V l M R Q pc lo rest z E k n := by
  intro p e s m args below meth c H locs ls ce q C hl hw hS h1 h2 h3
  obtain ⟨-, -, -, -, hcs, hnc, -⟩ := C.2.2.2.2.2.2.2.1
  refine vx_catch C.2.2.2.2.2.2.1 (tableOf pre) ⟨x.1, x.2.1, x.2.2.1, x.2.2.2⟩ (tableOf suf) ?_ ?_ hc h0 (C.2.2.2.2.2.1 _ hlink) (va_Nw.use rfl (hcs.1 E hE)) h1 h2 h3 (kk q p e s m args below meth c H locs ls C hl hw hS)
  · rw [C.2.2.2.2.2.2.2.2.2.1, hh]
    simp [tableOf]
  · intro y hy
    obtain ⟨y0, hy0, rfl⟩ := List.mem_map.mp hy
    obtain ⟨hz, nm, hl1, hn1, hne⟩ := hpass y0 hy0
    exact Or.inr ⟨hz, nm, C.2.2.2.2.2.1 _ hl1, hnc E hE nm hn1 hne⟩
theorem sg_iret {d mc ms : Nat} {v : Int32} {ty : FieldType} {Qr : Option Value → ss_Z → Prop} {Qx : String → ss_Z → Prop} (hd : decode M.2.1 pc = .ok (.ireturn, 1)) (hr : M.2.2.2.1 = some ty) (hv : narrow ty (.int v) = .int v) (hq : Qr (some (.int v)) z) (hk : k ≤ mc) (hn : n ≤ ms) : ss_G V l M (ss_rm d mc ms) (ss_Q V Qr Qx mc ms) pc lo [.int v] z k n := by
  intro p e s m args below meth c H locs ls C hl hw hS
  refine W.widen hk hn (vx_ret ?_)
  exact W.zret C.1 C.2.1 (C.2.2.2.1.trans hr) hv (fun t ht hW => ⟨⟨_, z, rfl, hq, by rw [ht]; exact hw⟩, hS.F ht⟩) hS.2.2 hd C.2.2.2.2.1
theorem sg_lret {d mc ms : Nat} {v : Int64} {Qr : Option Value → ss_Z → Prop} {Qx : String → ss_Z → Prop} (hd : decode M.2.1 pc = .ok (.lreturn, 1)) (hr : M.2.2.2.1 = some .long) (hq : Qr (some (.long v)) z) (hk : k ≤ mc) (hn : n ≤ ms) : ss_G V l M (ss_rm d mc ms) (ss_Q V Qr Qx mc ms) pc lo [.long v] z k n := by
  intro p e s m args below meth c H locs ls C hl hw hS
  refine W.widen hk hn (vx_ret ?_)
  exact W.lret C.1 C.2.1 (C.2.2.2.1.trans hr) (fun t ht hW => ⟨⟨_, z, rfl, hq, by rw [ht]; exact hw⟩, hS.F ht⟩) hS.2.2 hd C.2.2.2.2.1
theorem sg_aret {d mc ms : Nat} {a : Nat} {nm : String} {Qr : Option Value → ss_Z → Prop} {Qx : String → ss_Z → Prop} (hd : decode M.2.1 pc = .ok (.areturn, 1)) (hr : M.2.2.2.1 = some (.object nm)) (hq : Qr (some (.ref a)) z) (hk : k ≤ mc) (hn : n ≤ ms) : ss_G V l M (ss_rm d mc ms) (ss_Q V Qr Qx mc ms) pc lo [.ref a] z k n := by
  intro p e s m args below meth c H locs ls C hl hw hS
  refine W.widen hk hn (vx_ret ?_)
  exact W.aret C.1 C.2.1 (C.2.2.2.1.trans hr) (Or.inl ⟨nm, rfl⟩) (Or.inr ⟨a, rfl⟩) (fun t ht hW => ⟨⟨_, z, rfl, hq, by rw [ht]; exact hw⟩, hS.F ht⟩) hS.2.2 hd C.2.2.2.2.1
theorem sg_vret {d mc ms : Nat} {Qr : Option Value → ss_Z → Prop} {Qx : String → ss_Z → Prop} (hd : decode M.2.1 pc = .ok (.return_, 1)) (hr : M.2.2.2.1 = none) (hq : Qr none z) (hk : k ≤ mc) (hn : n ≤ ms) : ss_G V l M (ss_rm d mc ms) (ss_Q V Qr Qx mc ms) pc lo [] z k n := by
  intro p e s m args below meth c H locs ls C hl hw hS
  refine W.widen hk hn (vx_ret ?_)
  exact W.vret C.1 C.2.1 (C.2.2.2.1.trans hr) (fun t ht hW => ⟨⟨_, z, rfl, hq, by rw [ht]; exact hw⟩, hS.F ht⟩) hS.2.2 hd C.2.2.2.2.1
/-- the words of a throw in the class SnapshotShelves -/
def ss_TL (own : String) (ik is ic : Nat) (E text : String) : Prop := own = RX2 ∧ (is, text) ∈ ss_strs ∧ E ∈ ss_xs ∧ Jvm.Bundle.fit E = true ∧ Cond.classLink RX2 ik E ∈ ss_good ∧ Cond.initialized E ∈ ss_good ∧ (∀ w ∈ (vx_atS RX2 ic E ["java/lang/RuntimeException", "java/lang/Exception"]).filter goodWord, w ∈ ss_good) ∧ (∀ w ∈ (vx_atS RX2 ic E ["java/lang/RuntimeException", "java/lang/Exception"]).filter (fun w => !goodWord w), w ∈ Cond.castable E E :: ss_dcl.map (fun y => Cond.declares (Jvm.Bundle.initS y))) ∧ (∀ w ∈ Cond.classLink RX2 ik E :: Cond.initialized E :: vx_atS RX2 ic E ["java/lang/RuntimeException", "java/lang/Exception"], vx_ot w = true)
theorem ss_ng {args : Array Value} {s : State} {E : String} (hcs : (∀ E ∈ ss_xs, va_Nw (.castable E E) s) ∧ ∀ y ∈ ss_dcl, va_Nw (.declares (Jvm.Bundle.initS y)) s) (hE : E ∈ ss_xs) : ∀ w ∈ Cond.castable E E :: ss_dcl.map (fun y => Cond.declares (Jvm.Bundle.initS y)), w.before args s = true := by
  intro w hw
  rcases List.mem_cons.mp hw with rfl | hw
  · exact va_Nw.use rfl (hcs.1 E hE)
  · obtain ⟨y, hy, rfl⟩ := List.mem_map.mp hw
    exact va_Nw.use rfl (hcs.2 y hy)
theorem sg_throw {d mc ms ik is ic : Nat} {E text : String} {Qr : Option Value → ss_Z → Prop} {Qx : String → ss_Z → Prop} (tl : ss_TL M.1.cls ik is ic E text) (hh : M.2.2.2.2 = []) (d0 : decode M.2.1 pc = .ok (.new ik, 3)) (d3 : decode M.2.1 (pc + 3) = .ok (.dup, 1)) (d4 : decode M.2.1 (pc + 4) = .ok (.ldc is, 2)) (d6 : decode M.2.1 (pc + 6) = .ok (.invokespecial ic, 3)) (d9 : decode M.2.1 (pc + 9) = .ok (.athrow, 1))
    (hfr : 5 < d) (h8 : (rest.map fun v => v.category).sum ≤ 8) (hq : Qx E z) (hk : k + 1 ≤ mc) (hn : n + 6 ≤ ms) : ss_G V l M (ss_rm d mc ms) (ss_Q V Qr Qx mc ms) pc lo rest z k n := by
  intro p e s m args below meth c H locs ls C hl hw hS
  obtain ⟨t0, t1, t2, t3, t4, t5, t6, t7, t8⟩ := tl
  obtain ⟨-, hstr, hU, hN, hcs, -, -, -, -⟩ := C.2.2.2.2.2.2.2.1
  obtain ⟨sa, hsa⟩ := hstr _ t1
  have hown : s.vm.findClass RX2 = some m.cls := by rw [← t0]; exact C.2.2.2.2.2.2.1
  have hts := C.2.2.2.2.2.1
  refine vx_throwS (own := RX2) (text := text) (names := ["java/lang/RuntimeException", "java/lang/Exception"]) (A := sv_A V) (sa := sa) C.1 C.2.1 C.2.2.2.2.2.2.2.2.2.2.2 hown t3 (by decide +kernel) (hts _ t4) (hts _ t5) hsa ?_ t8 hU hN hS (hl.1.trans C.2.2.1.symm) d0 d3 d4 d6 d9 ?_ hfr ?_ (show k + 1 ≤ (ss_rm d mc ms).cells from hk) (show n + 6 ≤ (ss_rm d mc ms).slots from hn) C.2.2.2.2.1 ?_ hS.2.2 hk hn
  · exact vx_hat (fun w h => hts w (t6 w h)) t7 (ss_ng hcs t2)
  · intro x hx
    rw [C.2.2.2.2.2.2.2.2.2.1, hh] at hx
    cases hx
  · show _ + (13 * (2 + 1) + 43) ≤ 30 * d + 60
    omega
  · intro t hv hz hk9
    refine ⟨z, hq, ⟨hw.1.kept (fun j q hj => hk9 _ ((hw.1 j q hj).lt)), hw.2⟩, Nat.le_trans hS.1 hz, fun q h1 h2 => ?_⟩
    rw [hk9 q (Nat.lt_of_lt_of_le h1 hS.1)]
    exact hS.2.1 q h1 h2
/-- the words of a throw of NoSuchElementException, whose constructor's link lies elsewhere -/
def ss_on (ic : Nat) : List Cond := vy_own RX2 ic sx_N "java/lang/RuntimeException" 13 prog_13_method_4_code ["java/lang/Exception"]
def ss_TN (own : String) (ik is ic : Nat) (text : String) : Prop := own = RX2 ∧ (is, text) ∈ ss_strs ∧ Cond.classLink RX2 ik sx_N ∈ ss_good ∧ Cond.initialized sx_N ∈ ss_good ∧ (∀ w ∈ ((ss_on ic).filter vx_no).filter goodWord, w ∈ ss_good) ∧ (∀ w ∈ ((ss_on ic).filter vx_no).filter (fun w => !goodWord w), w ∈ Cond.castable sx_N sx_N :: ss_dcl.map (fun y => Cond.declares (Jvm.Bundle.initS y))) ∧ (∀ w ∈ Cond.classLink RX2 ik sx_N :: Cond.initialized sx_N :: (ss_on ic).filter vx_no, vx_ot w = true)
theorem sg_throwN {d mc ms ik is ic : Nat} {text : String} {Qr : Option Value → ss_Z → Prop} {Qx : String → ss_Z → Prop} (tl : ss_TN M.1.cls ik is ic text) (hh : M.2.2.2.2 = []) (d0 : decode M.2.1 pc = .ok (.new ik, 3)) (d3 : decode M.2.1 (pc + 3) = .ok (.dup, 1)) (d4 : decode M.2.1 (pc + 4) = .ok (.ldc is, 2)) (d6 : decode M.2.1 (pc + 6) = .ok (.invokespecial ic, 3)) (d9 : decode M.2.1 (pc + 9) = .ok (.athrow, 1))
    (hfr : 5 < d) (h8 : (rest.map fun v => v.category).sum ≤ 8) (hq : Qx sx_N z) (hk : k + 1 ≤ mc) (hn : n + 6 ≤ ms) : ss_G V l M (ss_rm d mc ms) (ss_Q V Qr Qx mc ms) pc lo rest z k n := by
  intro p e s m args below meth c H locs ls C hl hw hS
  obtain ⟨t0, t1, t4, t5, t6, t7, t8⟩ := tl
  obtain ⟨-, hstr, hU, hN, hcs, -, -, -, -⟩ := C.2.2.2.2.2.2.2.1
  obtain ⟨sa, hsa⟩ := hstr _ t1
  have hown : s.vm.findClass RX2 = some m.cls := by rw [← t0]; exact C.2.2.2.2.2.2.1
  have hts := C.2.2.2.2.2.1
  refine vy_throwS (own := RX2) (cls := sx_N) (Y0 := "java/lang/RuntimeException") (names := ["java/lang/Exception"]) (ix := 13) (rx := prog_13_method_4_code) (text := text) (A := sv_A V) (sa := sa) C.1 C.2.1 C.2.2.2.2.2.2.2.2.2.2.2 (by decide +kernel) (by decide +kernel) (by decide +kernel) (by decide +kernel) hown (by decide +kernel) (by decide +kernel) (by decide +kernel) (hts _ t4) (hts _ t5) hsa ?_ t8 hU hN hS (hl.1.trans C.2.2.1.symm) d0 d3 d4 d6 d9 ?_ hfr ?_ (show k + 1 ≤ (ss_rm d mc ms).cells from hk) (show n + 6 ≤ (ss_rm d mc ms).slots from hn) C.2.2.2.2.1 ?_ hS.2.2 hk hn
  · exact vx_hat (fun w h => hts w (t6 w h)) t7 (ss_ng hcs (by decide +kernel))
  · intro x hx
    rw [C.2.2.2.2.2.2.2.2.2.1, hh] at hx
    cases hx
  · show _ + (13 * (1 + 2) + 43) ≤ 30 * d + 60
    omega
  · intro t hv hz hk9
    refine ⟨z, hq, ⟨hw.1.kept (fun j q hj => hk9 _ ((hw.1 j q hj).lt)), hw.2⟩, Nat.le_trans hS.1 hz, fun q h1 h2 => ?_⟩
    rw [hk9 q (Nat.lt_of_lt_of_le h1 hS.1)]
    exact hS.2.1 q h1 h2
/-- a contract out of a body -/
theorem ss_C.of {d mc ms : Nat} {av : List Value} {Qr : Option Value → ss_Z → Prop} {Qx : String → ss_Z → Prop} (hst : l.stackTraces = false) (hh : M.2.2.2.2 = []) (hy : plainName M.1.cls = true) (hlen : (lg_sl av).length ≤ M.2.2.1) (body : ss_G V l M (ss_rm d mc ms) (ss_Q V Qr Qx mc ms) 0 (lv_args 0 av) [] z 0 0) : ss_C V l d M mc ms av z Qr Qx := by
  refine vx_ofW (cc := M.2.1) (maxL := M.2.2.1) (ret := M.2.2.2.1) hy rfl ?_
  intro p e s m args below meth c s₁ B hml htab hv
  obtain ⟨rfl, hK, hok, hA⟩ := hv
  rw [lg_entry_eq]
  refine body p e s m _ below meth c s.heap [] _ ⟨B.exec, B.bytes, hml, B.returns, B.notSynchronized, fun w hw => atoms_spec (ws := ss_ws M) B.pre w (List.mem_cons_of_mem _ hw), findClass_of_methodNamed B.named, hK, hA, ?_, (name_of_methodNamed B.named B.method).1, hst⟩ (lv_entry av hlen) hok va_S.rf
  rw [hh]
  exact List.eq_nil_iff_forall_not_mem.mpr htab
theorem ss_CH.of {d mc ms : Nat} {av : List Value} {Qr : Option Value → ss_Z → Prop} {Qx : String → ss_Z → Prop} (hst : l.stackTraces = false) (hy : plainName M.1.cls = true) (hlen : (lg_sl av).length ≤ M.2.2.1) (body : ss_G V l M (ss_rm d mc ms) (ss_Q V Qr Qx mc ms) 0 (lv_args 0 av) [] z 0 0) : ss_CH V l d M mc ms av z Qr Qx := by
  refine vx_ofWH (cc := M.2.1) (maxL := M.2.2.1) (ret := M.2.2.2.1) (hh := M.2.2.2.2) hy rfl ?_
  intro p e s m args below meth c s₁ B hml hv
  obtain ⟨rfl, hK, hok, hA⟩ := hv
  have htab := vx_table (x := M.1) B (atoms_spec (ws := ss_wsH M) B.pre (.codeWith M.1 M.2.1 M.2.2.1 M.2.2.2.1 M.2.2.2.2) List.mem_cons_self)
  rw [lg_entry_eq]
  exact body p e s m _ below meth c s.heap [] _ ⟨B.exec, B.bytes, hml, B.returns, B.notSynchronized, fun w hw => atoms_spec (ws := ss_wsH M) B.pre w (List.mem_cons_of_mem _ hw), findClass_of_methodNamed B.named, hK, hA, htab, (name_of_methodNamed B.named B.method).1, hst⟩ (lv_entry av hlen) hok va_S.rf
end SSC
