/-! The reference's constructor. Printed by wip/gen/ctorM.py. -/
section SSCM
variable {X : State → Prop} {V : ss_V} {l : Launch} {z : ss_Z} {d : Nat} {Qr : ss_Z → Prop}
theorem ss_MP.gr {z' : ss_Z} {a : Nat} {st : ss_St} {th : Int32} {va : Int64} {P : Nat → Prop} (h : ss_MP V z a st th va) (f : ss_gr P z z') (hp : ∀ q, P q → ¬ ss_mc a q) : ss_MP V z' a st th va := by
  obtain ⟨fo, fK, fT, fW, fE, fY, fN, fS, fC, fA, fB, fD, ⟨h0, h1, h2, h3, h4, h5, h6, h7, h8, h9, h10, h11⟩, g2, g3⟩ := h
  exact ⟨fo, fK, fT, fW, fE, fY, fN, fS, fC, fA, fB, fD, ⟨f.at h0 (fun q => hp _ q ⟨by omega, by omega⟩), f.at h1 (fun q => hp _ q ⟨by omega, by omega⟩), f.at h2 (fun q => hp _ q ⟨by omega, by omega⟩), f.at h3 (fun q => hp _ q ⟨by omega, by omega⟩), f.at h4 (fun q => hp _ q ⟨by omega, by omega⟩), f.at h5 (fun q => hp _ q ⟨by omega, by omega⟩), f.at h6 (fun q => hp _ q ⟨by omega, by omega⟩), f.at h7 (fun q => hp _ q ⟨by omega, by omega⟩), f.at h8 (fun q => hp _ q ⟨by omega, by omega⟩), f.at h9 (fun q => hp _ q ⟨by omega, by omega⟩), f.at h10 (fun q => hp _ q ⟨by omega, by omega⟩), f.at h11 (fun q => hp _ q ⟨by omega, by omega⟩)⟩, g2, g3⟩
set_option maxRecDepth 100000 in
theorem cM_init {a : Nat} (hst : l.stackTraces = false) (h0 : ss_at z a (.inr (3, [.int 0, .int 0, .int 0, .int 0, .int 0, .null, .null, .null, .null, .null, .null, .null, .null, .null, .null, .null, .int 0, .long 0]))) (hq : ∀ z', ss_MP V z' a ss_st0 0 0 → ss_gr (ss_mc a) z z' → Qr z') : ss_CI X V l (d + 1) mM_init 11 474 [.ref a] z (a + 1) Qr := by
  refine ss_CI.of hst rfl (by decide) (Nat.le_of_ble_eq_true rfl) ?_
  refine sn_aload_n kM_init_0 rfl ?_
  refine sn_obj ol_M_1 kM_init_1 (by show 1 ≤ d + 1; omega) (by show 0 + 12 ≤ 30 * (d + 1) + 60; omega) ?_
  have f0 : ss_gr (ss_mc a) z z := ss_gr.rf
  refine sn_aload_n kM_init_4 rfl ?_
  refine sn_bipush (v := 48) kM_init_5 (by decide) ?_
  refine sn_newaI (N := 48) aw_I kM_init_7 (by decide) (by show 0 + 1 ≤ 11; omega) (by show 0 + 48 ≤ 474; omega) (fun y0 u => ?_)
  have f0 := f0.tr (u.gr ⟨by omega, by omega⟩)
  have h0 := u.ne h0 (by omega)
  have h1 := u.at
  refine sn_putF fl_M_7 kM_init_9 h0 rfl rfl rfl rfl rfl (Nat.le_of_ble_eq_true rfl) (fun x0 u => ?_)
  have f0 := f0.tr (u.gr ⟨by omega, by omega⟩)
  have h0 : ss_at x0 a (.inr (3, [.int 0, .int 0, .int 0, .int 0, .int 0, .ref (a + 1), .null, .null, .null, .null, .null, .null, .null, .null, .null, .null, .int 0, .long 0])) := u.at h0
  have h1 := u.ne h1 (by omega)
  refine sn_aload_n kM_init_12 rfl ?_
  refine sn_bipush (v := 48) kM_init_13 (by decide) ?_
  refine sn_newaI (N := 48) aw_I kM_init_15 (by decide) (by show 0 + 1 + 1 ≤ 11; omega) (by show 0 + 48 + 48 ≤ 474; omega) (fun y1 u => ?_)
  have f0 := f0.tr (u.gr ⟨by omega, by omega⟩)
  have h0 := u.ne h0 (by omega)
  have h1 := u.ne h1 (by omega)
  have h2 := u.at
  refine sn_putF fl_M_13 kM_init_17 h0 rfl rfl rfl rfl rfl (Nat.le_of_ble_eq_true rfl) (fun x1 u => ?_)
  have f0 := f0.tr (u.gr ⟨by omega, by omega⟩)
  have h0 : ss_at x1 a (.inr (3, [.int 0, .int 0, .int 0, .int 0, .int 0, .ref (a + 1), .ref (a + 2), .null, .null, .null, .null, .null, .null, .null, .null, .null, .int 0, .long 0])) := u.at h0
  have h1 := u.ne h1 (by omega)
  have h2 := u.ne h2 (by omega)
  refine sn_aload_n kM_init_20 rfl ?_
  refine sn_bipush (v := 48) kM_init_21 (by decide) ?_
  refine sn_newaJ (N := 48) aw_J kM_init_23 (by decide) (by show 0 + 1 + 1 + 1 ≤ 11; omega) (by show 0 + 48 + 48 + 48 ≤ 474; omega) (fun y2 u => ?_)
  have f0 := f0.tr (u.gr ⟨by omega, by omega⟩)
  have h0 := u.ne h0 (by omega)
  have h1 := u.ne h1 (by omega)
  have h2 := u.ne h2 (by omega)
  have h3 := u.at
  refine sn_putF fl_M_16 kM_init_25 h0 rfl rfl rfl rfl rfl (Nat.le_of_ble_eq_true rfl) (fun x2 u => ?_)
  have f0 := f0.tr (u.gr ⟨by omega, by omega⟩)
  have h0 : ss_at x2 a (.inr (3, [.int 0, .int 0, .int 0, .int 0, .int 0, .ref (a + 1), .ref (a + 2), .ref (a + 3), .null, .null, .null, .null, .null, .null, .null, .null, .int 0, .long 0])) := u.at h0
  have h1 := u.ne h1 (by omega)
  have h2 := u.ne h2 (by omega)
  have h3 := u.ne h3 (by omega)
  refine sn_aload_n kM_init_28 rfl ?_
  refine sn_bipush (v := 48) kM_init_29 (by decide) ?_
  refine sn_newaZ (N := 48) aw_Z kM_init_31 (by decide) (by show 0 + 1 + 1 + 1 + 1 ≤ 11; omega) (by show 0 + 48 + 48 + 48 + 48 ≤ 474; omega) (fun y3 u => ?_)
  have f0 := f0.tr (u.gr ⟨by omega, by omega⟩)
  have h0 := u.ne h0 (by omega)
  have h1 := u.ne h1 (by omega)
  have h2 := u.ne h2 (by omega)
  have h3 := u.ne h3 (by omega)
  have h4 := u.at
  refine sn_putF fl_M_20 kM_init_33 h0 rfl rfl rfl rfl rfl (Nat.le_of_ble_eq_true rfl) (fun x3 u => ?_)
  have f0 := f0.tr (u.gr ⟨by omega, by omega⟩)
  have h0 : ss_at x3 a (.inr (3, [.int 0, .int 0, .int 0, .int 0, .int 0, .ref (a + 1), .ref (a + 2), .ref (a + 3), .ref (a + 4), .null, .null, .null, .null, .null, .null, .null, .int 0, .long 0])) := u.at h0
  have h1 := u.ne h1 (by omega)
  have h2 := u.ne h2 (by omega)
  have h3 := u.ne h3 (by omega)
  have h4 := u.ne h4 (by omega)
  refine sn_aload_n kM_init_36 rfl ?_
  refine sn_bipush (v := 48) kM_init_37 (by decide) ?_
  refine sn_newaZ (N := 48) aw_Z kM_init_39 (by decide) (by show 0 + 1 + 1 + 1 + 1 + 1 ≤ 11; omega) (by show 0 + 48 + 48 + 48 + 48 + 48 ≤ 474; omega) (fun y4 u => ?_)
  have f0 := f0.tr (u.gr ⟨by omega, by omega⟩)
  have h0 := u.ne h0 (by omega)
  have h1 := u.ne h1 (by omega)
  have h2 := u.ne h2 (by omega)
  have h3 := u.ne h3 (by omega)
  have h4 := u.ne h4 (by omega)
  have h5 := u.at
  refine sn_putF fl_M_24 kM_init_41 h0 rfl rfl rfl rfl rfl (Nat.le_of_ble_eq_true rfl) (fun x4 u => ?_)
  have f0 := f0.tr (u.gr ⟨by omega, by omega⟩)
  have h0 : ss_at x4 a (.inr (3, [.int 0, .int 0, .int 0, .int 0, .int 0, .ref (a + 1), .ref (a + 2), .ref (a + 3), .ref (a + 4), .ref (a + 5), .null, .null, .null, .null, .null, .null, .int 0, .long 0])) := u.at h0
  have h1 := u.ne h1 (by omega)
  have h2 := u.ne h2 (by omega)
  have h3 := u.ne h3 (by omega)
  have h4 := u.ne h4 (by omega)
  have h5 := u.ne h5 (by omega)
  refine sn_aload_n kM_init_44 rfl ?_
  refine sn_bipush (v := 6) kM_init_45 (by decide) ?_
  refine sn_newaI (N := 6) aw_I kM_init_47 (by decide) (by show 0 + 1 + 1 + 1 + 1 + 1 + 1 ≤ 11; omega) (by show 0 + 48 + 48 + 48 + 48 + 48 + 6 ≤ 474; omega) (fun y5 u => ?_)
  have f0 := f0.tr (u.gr ⟨by omega, by omega⟩)
  have h0 := u.ne h0 (by omega)
  have h1 := u.ne h1 (by omega)
  have h2 := u.ne h2 (by omega)
  have h3 := u.ne h3 (by omega)
  have h4 := u.ne h4 (by omega)
  have h5 := u.ne h5 (by omega)
  have h6 := u.at
  refine sn_putF fl_M_27 kM_init_49 h0 rfl rfl rfl rfl rfl (Nat.le_of_ble_eq_true rfl) (fun x5 u => ?_)
  have f0 := f0.tr (u.gr ⟨by omega, by omega⟩)
  have h0 : ss_at x5 a (.inr (3, [.int 0, .int 0, .int 0, .int 0, .int 0, .ref (a + 1), .ref (a + 2), .ref (a + 3), .ref (a + 4), .ref (a + 5), .ref (a + 6), .null, .null, .null, .null, .null, .int 0, .long 0])) := u.at h0
  have h1 := u.ne h1 (by omega)
  have h2 := u.ne h2 (by omega)
  have h3 := u.ne h3 (by omega)
  have h4 := u.ne h4 (by omega)
  have h5 := u.ne h5 (by omega)
  have h6 := u.ne h6 (by omega)
  refine sn_aload_n kM_init_52 rfl ?_
  refine sn_bipush (v := 6) kM_init_53 (by decide) ?_
  refine sn_newaI (N := 6) aw_I kM_init_55 (by decide) (by show 0 + 1 + 1 + 1 + 1 + 1 + 1 + 1 ≤ 11; omega) (by show 0 + 48 + 48 + 48 + 48 + 48 + 6 + 6 ≤ 474; omega) (fun y6 u => ?_)
  have f0 := f0.tr (u.gr ⟨by omega, by omega⟩)
  have h0 := u.ne h0 (by omega)
  have h1 := u.ne h1 (by omega)
  have h2 := u.ne h2 (by omega)
  have h3 := u.ne h3 (by omega)
  have h4 := u.ne h4 (by omega)
  have h5 := u.ne h5 (by omega)
  have h6 := u.ne h6 (by omega)
  have h7 := u.at
  refine sn_putF fl_M_30 kM_init_57 h0 rfl rfl rfl rfl rfl (Nat.le_of_ble_eq_true rfl) (fun x6 u => ?_)
  have f0 := f0.tr (u.gr ⟨by omega, by omega⟩)
  have h0 : ss_at x6 a (.inr (3, [.int 0, .int 0, .int 0, .int 0, .int 0, .ref (a + 1), .ref (a + 2), .ref (a + 3), .ref (a + 4), .ref (a + 5), .ref (a + 6), .ref (a + 7), .null, .null, .null, .null, .int 0, .long 0])) := u.at h0
  have h1 := u.ne h1 (by omega)
  have h2 := u.ne h2 (by omega)
  have h3 := u.ne h3 (by omega)
  have h4 := u.ne h4 (by omega)
  have h5 := u.ne h5 (by omega)
  have h6 := u.ne h6 (by omega)
  have h7 := u.ne h7 (by omega)
  refine sn_aload_n kM_init_60 rfl ?_
  refine sn_bipush (v := 6) kM_init_61 (by decide) ?_
  refine sn_newaI (N := 6) aw_I kM_init_63 (by decide) (by show 0 + 1 + 1 + 1 + 1 + 1 + 1 + 1 + 1 ≤ 11; omega) (by show 0 + 48 + 48 + 48 + 48 + 48 + 6 + 6 + 6 ≤ 474; omega) (fun y7 u => ?_)
  have f0 := f0.tr (u.gr ⟨by omega, by omega⟩)
  have h0 := u.ne h0 (by omega)
  have h1 := u.ne h1 (by omega)
  have h2 := u.ne h2 (by omega)
  have h3 := u.ne h3 (by omega)
  have h4 := u.ne h4 (by omega)
  have h5 := u.ne h5 (by omega)
  have h6 := u.ne h6 (by omega)
  have h7 := u.ne h7 (by omega)
  have h8 := u.at
  refine sn_putF fl_M_33 kM_init_65 h0 rfl rfl rfl rfl rfl (Nat.le_of_ble_eq_true rfl) (fun x7 u => ?_)
  have f0 := f0.tr (u.gr ⟨by omega, by omega⟩)
  have h0 : ss_at x7 a (.inr (3, [.int 0, .int 0, .int 0, .int 0, .int 0, .ref (a + 1), .ref (a + 2), .ref (a + 3), .ref (a + 4), .ref (a + 5), .ref (a + 6), .ref (a + 7), .ref (a + 8), .null, .null, .null, .int 0, .long 0])) := u.at h0
  have h1 := u.ne h1 (by omega)
  have h2 := u.ne h2 (by omega)
  have h3 := u.ne h3 (by omega)
  have h4 := u.ne h4 (by omega)
  have h5 := u.ne h5 (by omega)
  have h6 := u.ne h6 (by omega)
  have h7 := u.ne h7 (by omega)
  have h8 := u.ne h8 (by omega)
  refine sn_aload_n kM_init_68 rfl ?_
  refine sn_bipush (v := 72) kM_init_69 (by decide) ?_
  refine sn_newaI (N := 72) aw_I kM_init_71 (by decide) (by show 0 + 1 + 1 + 1 + 1 + 1 + 1 + 1 + 1 + 1 ≤ 11; omega) (by show 0 + 48 + 48 + 48 + 48 + 48 + 6 + 6 + 6 + 72 ≤ 474; omega) (fun y8 u => ?_)
  have f0 := f0.tr (u.gr ⟨by omega, by omega⟩)
  have h0 := u.ne h0 (by omega)
  have h1 := u.ne h1 (by omega)
  have h2 := u.ne h2 (by omega)
  have h3 := u.ne h3 (by omega)
  have h4 := u.ne h4 (by omega)
  have h5 := u.ne h5 (by omega)
  have h6 := u.ne h6 (by omega)
  have h7 := u.ne h7 (by omega)
  have h8 := u.ne h8 (by omega)
  have h9 := u.at
  refine sn_putF fl_M_36 kM_init_73 h0 rfl rfl rfl rfl rfl (Nat.le_of_ble_eq_true rfl) (fun x8 u => ?_)
  have f0 := f0.tr (u.gr ⟨by omega, by omega⟩)
  have h0 : ss_at x8 a (.inr (3, [.int 0, .int 0, .int 0, .int 0, .int 0, .ref (a + 1), .ref (a + 2), .ref (a + 3), .ref (a + 4), .ref (a + 5), .ref (a + 6), .ref (a + 7), .ref (a + 8), .ref (a + 9), .null, .null, .int 0, .long 0])) := u.at h0
  have h1 := u.ne h1 (by omega)
  have h2 := u.ne h2 (by omega)
  have h3 := u.ne h3 (by omega)
  have h4 := u.ne h4 (by omega)
  have h5 := u.ne h5 (by omega)
  have h6 := u.ne h6 (by omega)
  have h7 := u.ne h7 (by omega)
  have h8 := u.ne h8 (by omega)
  have h9 := u.ne h9 (by omega)
  refine sn_aload_n kM_init_76 rfl ?_
  refine sn_bipush (v := 72) kM_init_77 (by decide) ?_
  refine sn_newaJ (N := 72) aw_J kM_init_79 (by decide) (by show 0 + 1 + 1 + 1 + 1 + 1 + 1 + 1 + 1 + 1 + 1 ≤ 11; omega) (by show 0 + 48 + 48 + 48 + 48 + 48 + 6 + 6 + 6 + 72 + 72 ≤ 474; omega) (fun y9 u => ?_)
  have f0 := f0.tr (u.gr ⟨by omega, by omega⟩)
  have h0 := u.ne h0 (by omega)
  have h1 := u.ne h1 (by omega)
  have h2 := u.ne h2 (by omega)
  have h3 := u.ne h3 (by omega)
  have h4 := u.ne h4 (by omega)
  have h5 := u.ne h5 (by omega)
  have h6 := u.ne h6 (by omega)
  have h7 := u.ne h7 (by omega)
  have h8 := u.ne h8 (by omega)
  have h9 := u.ne h9 (by omega)
  have h10 := u.at
  refine sn_putF fl_M_39 kM_init_81 h0 rfl rfl rfl rfl rfl (Nat.le_of_ble_eq_true rfl) (fun x9 u => ?_)
  have f0 := f0.tr (u.gr ⟨by omega, by omega⟩)
  have h0 : ss_at x9 a (.inr (3, [.int 0, .int 0, .int 0, .int 0, .int 0, .ref (a + 1), .ref (a + 2), .ref (a + 3), .ref (a + 4), .ref (a + 5), .ref (a + 6), .ref (a + 7), .ref (a + 8), .ref (a + 9), .ref (a + 10), .null, .int 0, .long 0])) := u.at h0
  have h1 := u.ne h1 (by omega)
  have h2 := u.ne h2 (by omega)
  have h3 := u.ne h3 (by omega)
  have h4 := u.ne h4 (by omega)
  have h5 := u.ne h5 (by omega)
  have h6 := u.ne h6 (by omega)
  have h7 := u.ne h7 (by omega)
  have h8 := u.ne h8 (by omega)
  have h9 := u.ne h9 (by omega)
  have h10 := u.ne h10 (by omega)
  refine sn_aload_n kM_init_84 rfl ?_
  refine sn_bipush (v := 72) kM_init_85 (by decide) ?_
  refine sn_newaZ (N := 72) aw_Z kM_init_87 (by decide) (by show 0 + 1 + 1 + 1 + 1 + 1 + 1 + 1 + 1 + 1 + 1 + 1 ≤ 11; omega) (by show 0 + 48 + 48 + 48 + 48 + 48 + 6 + 6 + 6 + 72 + 72 + 72 ≤ 474; omega) (fun y10 u => ?_)
  have f0 := f0.tr (u.gr ⟨by omega, by omega⟩)
  have h0 := u.ne h0 (by omega)
  have h1 := u.ne h1 (by omega)
  have h2 := u.ne h2 (by omega)
  have h3 := u.ne h3 (by omega)
  have h4 := u.ne h4 (by omega)
  have h5 := u.ne h5 (by omega)
  have h6 := u.ne h6 (by omega)
  have h7 := u.ne h7 (by omega)
  have h8 := u.ne h8 (by omega)
  have h9 := u.ne h9 (by omega)
  have h10 := u.ne h10 (by omega)
  have h11 := u.at
  refine sn_putF fl_M_42 kM_init_89 h0 rfl rfl rfl rfl rfl (Nat.le_of_ble_eq_true rfl) (fun x10 u => ?_)
  have f0 := f0.tr (u.gr ⟨by omega, by omega⟩)
  have h0 : ss_at x10 a (.inr (3, [.int 0, .int 0, .int 0, .int 0, .int 0, .ref (a + 1), .ref (a + 2), .ref (a + 3), .ref (a + 4), .ref (a + 5), .ref (a + 6), .ref (a + 7), .ref (a + 8), .ref (a + 9), .ref (a + 10), .ref (a + 11), .int 0, .long 0])) := u.at h0
  have h1 := u.ne h1 (by omega)
  have h2 := u.ne h2 (by omega)
  have h3 := u.ne h3 (by omega)
  have h4 := u.ne h4 (by omega)
  have h5 := u.ne h5 (by omega)
  have h6 := u.ne h6 (by omega)
  have h7 := u.ne h7 (by omega)
  have h8 := u.ne h8 (by omega)
  have h9 := u.ne h9 (by omega)
  have h10 := u.ne h10 (by omega)
  have h11 := u.ne h11 (by omega)
  exact sn_vret kM_init_92 rfl (hq x10 ⟨0, (fun _ => 0), (fun _ => 0), (fun _ => 0), (fun _ => 0), (fun _ => 0), (fun _ => 0), (fun _ => 0), (fun _ => 0), (fun _ => 0), (fun _ => 0), (fun _ => 0), ⟨h0, h1, h2, h3, h4, h5, h6, h7, h8, h9, h10, h11⟩, (fun j e hj => by cases hj), fun i hi => rfl⟩ f0) rfl (Nat.le_of_ble_eq_true rfl)
end SSCM
