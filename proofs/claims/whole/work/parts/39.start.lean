/-! The law's start and its end. -/
def R_law : String := "SnapshotShelvesLaw"
def lw_Q (_ : Array Value) (s : State) (o : Outcome) (t : State) : Prop := o = .returned (some (.int 1)) ∧ Framed s o t [] 617291 7244230
def lw_Z (below : List Frame) (a : Array Value) (s : State) : State → Prop := fun t => ∃ o, t.status = .running ∧ Ended t below o ∧ lw_Q a s o t
/-- the law's own end, with 1 on the stack, nothing written that was there before, its room as the claim has it -/
theorem lw_ret {p : Program} {l : Launch} {e : Env} {s : State} {m : MethodId} {below : List Frame} {meth : Method} {c : Code} {b : Nat} (hx : p.tables.exec = Jvm.exec) (hb : c.code = code) (hr : meth.sig.returnType = ret) (hlocks : meth.locks = false) {pc : Nat} {H : Heap} {ls : Array Slot} (hdg : decode code pc = .ok (.ireturn, 1)) : W p l e room_1 s m #[Value.ref b] below meth c H [] 617291 7244230 (lw_Z below #[Value.ref b] s) (F0 m pc ls [.int 1]) := by
  intro T hT X
  obtain ⟨fs, hret, hrun, hended, hW, hframe⟩ := X.leave (v := some (.int 1)) (hlocks := hlocks) (fun h => by rw [hr] at h; cases h)
  have hmeth' : T.vm.method? m = some meth := X.method'
  refine ⟨T.setFrames fs, ?_, .returned (some (.int 1)), hrun, hended, rfl, ⟨_, rfl⟩, hW, hframe⟩
  jvm_step X.here [X.here.top, hx, hb, hdg, hmeth', hr, ret, narrow_b1]
  (try refine ⟨rfl, ?_⟩); (try refine ⟨rfl, ?_⟩)
  first | (intro acts; rw [hret _ acts rfl rfl rfl]) | rw [hret _ _ rfl rfl rfl]
  exact Steps.refl _
/-- what the law owes at its end, where it began with a heap of this size -/
def ss_QL (b a : Nat) : List Frame → Array Value → State → State → Prop := fun below args s t => s.heap.size = b → args = #[Value.ref a] → lw_Z below args s t
section SSST
variable {V : ss_V} {l : Launch} {z : ss_Z} {b : Nat}
theorem cW_fin {a : Nat} (hA : V.2.1 = fun q => b ≤ q) : ∀ (z : ss_Z) (k n : Nat) (lo : List (Nat × Value)), k ≤ 617291 → n ≤ 7244230 → ss_G V l mL_law room_1 (ss_QL b a) 983 lo [] z k n := by
  intro z k n lo hk hn
  refine sg_iconst (v := 1) kL_law_983 (by decide) ?_
  intro p e s m args below meth c H locs ls C hl hw hS
  by_cases h1 : s.heap.size = b ∧ args = #[Value.ref a]
  · obtain ⟨h1, rfl⟩ := h1
    refine va_forget (fun q hq => ?_) ?_
    · have h2 := hS.2.2 q hq
      have h3 : (fun q => b ≤ q) q.base := hA ▸ h2
      rw [h1]
      exact h3
    · refine W.widen hk hn ?_
      intro T hT X
      obtain ⟨t, a1, b1⟩ := lw_ret (b := a) C.1 C.2.1 C.2.2.2.1 C.2.2.2.2.1 kL_law_984 T hT X
      exact ⟨t, a1, fun _ _ => b1⟩
  · intro T hT X
    exact ⟨_, Steps.refl _, fun q1 q2 => absurd ⟨q1, q2⟩ h1⟩
set_option maxRecDepth 100000 in
theorem cW_start {Q : List Frame → Array Value → State → State → Prop} (hst : l.stackTraces = false) (hL : V.2.2.2.2.1 ≤ 2560) (fin : ∀ (z : ss_Z) (k n : Nat) (lo : List (Nat × Value)), k ≤ 617291 → n ≤ 7244230 → ss_G V l mL_law room_1 Q 983 lo [] z k n) : ss_GN ss_xx V l mL_law room_1 Q b 0 [(0, .ref V.2.2.2.1)] [] z 0 0 := by
  refine sn_new (fs := [.null, .null, .int 0, .int 0, .int 0]) nl_L_8 kL_law_0 (fun j hj => ?_) (by show 0 + 1 ≤ 617291; omega) (by show 0 + 5 ≤ 7244230; omega) (fun z1 u1 => ?_)
  · have hj : j < 5 := hj
    rcases (show j = 0 ∨ j = 1 ∨ j = 2 ∨ j = 3 ∨ j = 4 by omega) with rfl | rfl | rfl | rfl | rfl <;> rfl
  have g0 : ss_at z1 b (.inr (2, [.null, .null, .int 0, .int 0, .int 0])) := u1.at
  refine sn_dup kL_law_3 rfl ?_
  refine sn_callI (As := []) (b := b) (rest := [.ref b]) ss_xx_mv (fun _ h => h) (cS_init (d := 7) (b := b) hst g0 (Qr := fun z' => ss_XP V z' b ss_st0 ∧ ss_gr (ss_xc b) z1 z') (fun z' q1 q2 => ⟨q1, q2⟩)) il_S ml_L_66 kL_law_4 rfl (Nat.le_of_ble_eq_true rfl) ⟨Nat.le_refl _, by show 8 + (2 + 11) + (30 * 10 + 60) ≤ 400; omega⟩ ⟨by show 0 + 1 + 42 ≤ 617291; omega, by show 0 + 5 + 545 ≤ 7244230; omega⟩ (fun z2 hq2 => ?_)
  obtain ⟨q1, -⟩ := hq2
  refine sn_astore_n kL_law_7 (by decide) ?_
  refine sn_new (fs := [.int 0, .int 0, .int 0, .int 0, .int 0, .null, .null, .null, .null, .null, .null, .null, .null, .null, .null, .null, .int 0, .long 0]) nl_L_67 kL_law_8 (fun j hj => ?_) (by show 0 + 1 + 42 + 1 ≤ 617291; omega) (by show 0 + 5 + 545 + 18 ≤ 7244230; omega) (fun z3 u3 => ?_)
  · have hj : j < 18 := hj
    rcases (show j = 0 ∨ j = 1 ∨ j = 2 ∨ j = 3 ∨ j = 4 ∨ j = 5 ∨ j = 6 ∨ j = 7 ∨ j = 8 ∨ j = 9 ∨ j = 10 ∨ j = 11 ∨ j = 12 ∨ j = 13 ∨ j = 14 ∨ j = 15 ∨ j = 16 ∨ j = 17 by omega) with rfl | rfl | rfl | rfl | rfl | rfl | rfl | rfl | rfl | rfl | rfl | rfl | rfl | rfl | rfl | rfl | rfl | rfl <;> rfl
  have g1 : ss_at z3 (b + 43) (.inr (3, [.int 0, .int 0, .int 0, .int 0, .int 0, .null, .null, .null, .null, .null, .null, .null, .null, .null, .null, .null, .int 0, .long 0])) := u3.at
  have q1 : ss_XP V z3 b ss_st0 := q1.gr (u3.gr (P := fun q => q = b + 43) rfl) (fun q hq hr => by have := hr.2; omega)
  refine sn_dup kL_law_11 rfl ?_
  refine sn_callI (As := []) (b := b + 43) (rest := [.ref (b + 43)]) ss_xx_mv (fun _ h => h) (cM_init (X := ss_xx) (d := 9) (a := b + 43) hst g1 (Qr := fun z' => ss_MP V z' (b + 43) ss_st0 0 0 ∧ ss_gr (ss_mc (b + 43)) z3 z') (fun z' q1 q2 => ⟨q1, q2⟩)) il_M ml_L_69 kL_law_12 rfl (Nat.le_of_ble_eq_true rfl) ⟨Nat.le_refl _, by show 8 + (1 + 11) + (30 * 10 + 60) ≤ 400; omega⟩ ⟨by show 0 + 1 + 42 + 1 + 11 ≤ 617291; omega, by show 0 + 5 + 545 + 18 + 474 ≤ 7244230; omega⟩ (fun z4 hq4 => ?_)
  obtain ⟨q2, q3⟩ := hq4
  have q1 : ss_XP V z4 b ss_st0 := q1.gr q3 (fun q hq hr => by have h1 := hr.2; have h2 := hq.1; omega)
  refine sn_astore_n kL_law_15 (by decide) ?_
  refine sn_iconst (v := 1) kL_law_16 (by decide) ?_
  refine sn_newaJ (N := 1) aw_J kL_law_17 (by decide) (by show 0 + 1 + 42 + 1 + 11 + 1 ≤ 617291; omega) (by show 0 + 5 + 545 + 18 + 474 + 1 ≤ 7244230; omega) (fun z5 u5 => ?_)
  have g5 : ss_at z5 (b + 55) (.inl (sv_J V, 1, .inr (.inl (fun _ => 0)))) := u5.at
  have q1 : ss_XP V z5 b ss_st0 := q1.gr (u5.gr (P := fun q => q = b + 55) rfl) (fun q hq hr => by have := hr.2; omega)
  have q2 : ss_MP V z5 (b + 43) ss_st0 0 0 := q2.gr (u5.gr (P := fun q => q = b + 55) rfl) (fun q hq hr => by have := hr.2; omega)
  refine sn_astore_n kL_law_19 (by decide) ?_
  refine sn_of ?_
  refine sg_iconst (v := 0) kL_law_20 (by decide) ?_
  refine sg_istore kL_law_21 (by decide) ?_
  exact sg_lw (cW_loop (b := b) hst hL fin 512 0 z5 56 1043 (by omega) (by omega) (by omega) (by omega) ⟨ss_st0, 0, 0, _, q1, q2, g5, Nat.le_refl _, Nat.zero_le _, fun i x hx => by cases hx⟩) ⟨rfl, rfl, rfl, rfl, rfl, trivial⟩
end SSST
