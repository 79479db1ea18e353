/-! The constructors. Printed by wip/gen/ctor.py. -/
theorem nl_T_9 : ss_NL RX1 9 0 := ⟨by decide, ss_good_at 59 (by decide +kernel) (by decide +kernel), ss_good_at 21 (by decide +kernel) (by decide +kernel), ss_good_at 2 (by decide +kernel) (by decide +kernel)⟩
theorem nl_S_7 : ss_NL RX2 7 0 := ⟨by decide, ss_good_at 20 (by decide +kernel) (by decide +kernel), ss_good_at 21 (by decide +kernel) (by decide +kernel), ss_good_at 2 (by decide +kernel) (by decide +kernel)⟩
theorem nl_S_18 : ss_NL RX2 18 1 := ⟨by decide, ss_good_at 52 (by decide +kernel) (by decide +kernel), ss_good_at 54 (by decide +kernel) (by decide +kernel), ss_good_at 3 (by decide +kernel) (by decide +kernel)⟩
theorem nl_L_8 : ss_NL RL 8 2 := ⟨by decide, ss_good_at 12 (by decide +kernel) (by decide +kernel), ss_good_at 13 (by decide +kernel) (by decide +kernel), ss_good_at 1 (by decide +kernel) (by decide +kernel)⟩
theorem nl_L_67 : ss_NL RL 67 3 := ⟨by decide, ss_good_at 398 (by decide +kernel) (by decide +kernel), ss_good_at 399 (by decide +kernel) (by decide +kernel), ss_good_at 4 (by decide +kernel) (by decide +kernel)⟩
theorem ol_R_3 : ss_OL RX0 3 := ss_good_at 25 (by decide +kernel) (by decide +kernel)
theorem ol_T_3 : ss_OL RX1 3 := ss_good_at 58 (by decide +kernel) (by decide +kernel)
theorem ol_S_1 : ss_OL RX2 1 := ss_good_at 17 (by decide +kernel) (by decide +kernel)
theorem ol_M_1 : ss_OL RM 1 := ss_good_at 403 (by decide +kernel) (by decide +kernel)
theorem il_R : ss_IL mR_init 1 := ⟨ss_good_at 2 (by decide +kernel) (by decide +kernel), ss_good_at 23 (by decide +kernel) (by decide +kernel), ss_good_at 24 (by decide +kernel) (by decide +kernel), rfl, rfl, by decide +kernel⟩
theorem il_T : ss_IL mT_init 0 := ⟨ss_good_at 3 (by decide +kernel) (by decide +kernel), ss_good_at 56 (by decide +kernel) (by decide +kernel), ss_good_at 57 (by decide +kernel) (by decide +kernel), rfl, rfl, by decide +kernel⟩
theorem il_S : ss_IL mS_init 0 := ⟨ss_good_at 1 (by decide +kernel) (by decide +kernel), ss_good_at 15 (by decide +kernel) (by decide +kernel), ss_good_at 16 (by decide +kernel) (by decide +kernel), rfl, rfl, by decide +kernel⟩
theorem il_M : ss_IL mM_init 0 := ⟨ss_good_at 4 (by decide +kernel) (by decide +kernel), ss_good_at 401 (by decide +kernel) (by decide +kernel), ss_good_at 402 (by decide +kernel) (by decide +kernel), rfl, rfl, by decide +kernel⟩
theorem ml_S_11 : Cond.methodLink RX2 11 mR_init.1 ∈ ss_good := ss_good_at 22 (by decide +kernel) (by decide +kernel)
theorem ml_T_11 : Cond.methodLink RX1 11 mR_init.1 ∈ ss_good := ss_good_at 60 (by decide +kernel) (by decide +kernel)
theorem ml_L_66 : Cond.methodLink RL 66 mS_init.1 ∈ ss_good := ss_good_at 14 (by decide +kernel) (by decide +kernel)
theorem ml_L_69 : Cond.methodLink RL 69 mM_init.1 ∈ ss_good := ss_good_at 400 (by decide +kernel) (by decide +kernel)
theorem aw_I : Cond.arrayClass .int ∈ ss_good := ss_good_at 49 (by decide +kernel) (by decide +kernel)
theorem aw_J : Cond.arrayClass .long ∈ ss_good := ss_good_at 50 (by decide +kernel) (by decide +kernel)
theorem aw_Z : Cond.arrayClass .boolean ∈ ss_good := ss_good_at 51 (by decide +kernel) (by decide +kernel)
theorem cq_S_18 : Cond.classLink RX2 18 RX1 ∈ ss_good := ss_good_at 52 (by decide +kernel) (by decide +kernel)
def ss_tr : State → Prop := fun _ => True
theorem ss_tr_mv : ss_mv ss_tr := fun _ _ _ _ => trivial
/-- what the class's constructor needs beside the good words: the array's class, the link to a nest mate's constructor -/
def ss_xx : State → Prop := fun U => va_AO RX1 U ∧ va_Nw (.methodLinkNest RX2 34 mT_init.1 RX2) U
theorem ss_xx_mv : ss_mv ss_xx := fun _ _ hW h => ⟨h.1.moved hW.alike, va_Nw.warmM hW h.2⟩
section SSCT
variable {X : State → Prop} {V : ss_V} {l : Launch} {z : ss_Z} {d : Nat} {Qr : ss_Z → Prop}
theorem ss_row.gr {z' : ss_Z} {r cap : Nat} {es : List ss_Ent} {P : Nat → Prop} (h : ss_row V z r cap es) (f : ss_gr P z z') (hp : ∀ a, P a → ¬ ss_rcell r a) : ss_row V z' r cap es := by
  obtain ⟨fk, ft, fv, fe, ⟨h0, h1, h2, h3, h4, h5⟩, he⟩ := h
  exact ⟨fk, ft, fv, fe, ⟨f.at h0 (fun q => hp _ q ⟨by omega, by omega⟩), f.at h1 (fun q => hp _ q ⟨by omega, by omega⟩), f.at h2 (fun q => hp _ q ⟨by omega, by omega⟩), f.at h3 (fun q => hp _ q ⟨by omega, by omega⟩), f.at h4 (fun q => hp _ q ⟨by omega, by omega⟩), h5⟩, he⟩
theorem ss_slot.gr {z' : ss_Z} {a : Nat} {o : Option ss_Tx} {P : Nat → Prop} (h : ss_slot V z a o) (f : ss_gr P z z') (hp : ∀ q, P q → ¬ ss_tcell a q) : ss_slot V z' a o := by
  obtain ⟨live, num, start, es, h1, h2, h3⟩ := h
  exact ⟨live, num, start, es, f.at h1 (fun q => hp _ q ⟨by omega, by omega⟩), h2.gr f (fun q hq hr => hp q hq ⟨by have := hr.1; omega, by have := hr.2; omega⟩), h3⟩
theorem ss_XP.gr {z' : ss_Z} {b : Nat} {st : ss_St} {P : Nat → Prop} (h : ss_XP V z b st) (f : ss_gr P z z') (hp : ∀ q, P q → ¬ ss_xc b q) : ss_XP V z' b st := by
  obtain ⟨h1, h2, ⟨g, h3, h4⟩, h5⟩ := h
  refine ⟨f.at h1 (fun q => hp _ q ⟨by omega, by omega⟩), h2.gr f (fun q hq hr => hp q hq ⟨by have := hr.1; omega, by have := hr.2; omega⟩), ⟨g, f.at h3 (fun q => hp _ q ⟨by omega, by omega⟩), h4⟩, fun i hi => (h5 i hi).gr f (fun q hq hr => hp q hq ⟨?_, ?_⟩)⟩
  · have := hr.1; unfold ss_ad at this; omega
  · have := hr.2; unfold ss_ad at this; omega
set_option maxRecDepth 100000 in
theorem cR_init {r cap : Nat} (hst : l.stackTraces = false) (hcap : cap < 1000) (h0 : ss_at z r (.inr (0, [.null, .null, .null, .null, .int 0]))) (hq : ∀ z', ss_row V z' r cap [] → ss_gr (fun q => r ≤ q ∧ q < r + 5) z z' → Qr z') : ss_CI X V l (d + 1) mR_init 4 (4 * cap) [.ref r, .int (nI cap)] z (r + 1) Qr := by
  refine ss_CI.of hst rfl (by decide) (Nat.le_of_ble_eq_true rfl) ?_
  refine sn_aload_n kR_init_0 rfl ?_
  refine sn_obj ol_R_3 kR_init_1 (by show 1 ≤ d + 1; omega) (by show 0 + 12 ≤ 30 * (d + 1) + 60; omega) ?_
  refine sn_aload_n kR_init_4 rfl ?_
  refine sn_iconst (v := 0) kR_init_5 (by decide) ?_
  refine sn_put fl_R_9 kR_init_6 h0 rfl rfl rfl (Nat.le_of_ble_eq_true rfl) (fun z1 u1 => ?_)
  have h0 := u1.at h0
  refine sn_aload_n kR_init_9 rfl ?_
  refine sn_iload_n kR_init_10 rfl ?_
  refine sn_newaI aw_I kR_init_11 hcap (by show 0 + 1 ≤ 4; omega) (by show 0 + cap ≤ 4 * cap; omega) (fun z2 u2 => ?_)
  have h0 := u2.ne h0 (by omega)
  have h1 := u2.at
  refine sn_putF fl_R_15 kR_init_13 h0 rfl rfl rfl rfl rfl (Nat.le_of_ble_eq_true rfl) (fun z3 u3 => ?_)
  have h1 := u3.ne h1 (by omega)
  have h0 := u3.at h0
  refine sn_aload_n kR_init_16 rfl ?_
  refine sn_iload_n kR_init_17 rfl ?_
  refine sn_newaI aw_I kR_init_18 hcap (by show 0 + 1 + 1 ≤ 4; omega) (by show 0 + cap + cap ≤ 4 * cap; omega) (fun z4 u4 => ?_)
  have h0 := u4.ne h0 (by omega)
  have h1 := u4.ne h1 (by omega)
  have h2 := u4.at
  refine sn_putF fl_R_19 kR_init_20 h0 rfl rfl rfl rfl rfl (Nat.le_of_ble_eq_true rfl) (fun z5 u5 => ?_)
  have h1 := u5.ne h1 (by omega)
  have h2 := u5.ne h2 (by omega)
  have h0 := u5.at h0
  refine sn_aload_n kR_init_23 rfl ?_
  refine sn_iload_n kR_init_24 rfl ?_
  refine sn_newaJ aw_J kR_init_25 hcap (by show 0 + 1 + 1 + 1 ≤ 4; omega) (by show 0 + cap + cap + cap ≤ 4 * cap; omega) (fun z6 u6 => ?_)
  have h0 := u6.ne h0 (by omega)
  have h1 := u6.ne h1 (by omega)
  have h2 := u6.ne h2 (by omega)
  have h3 := u6.at
  refine sn_putF fl_R_22 kR_init_27 h0 rfl rfl rfl rfl rfl (Nat.le_of_ble_eq_true rfl) (fun z7 u7 => ?_)
  have h1 := u7.ne h1 (by omega)
  have h2 := u7.ne h2 (by omega)
  have h3 := u7.ne h3 (by omega)
  have h0 := u7.at h0
  refine sn_aload_n kR_init_30 rfl ?_
  refine sn_iload_n kR_init_31 rfl ?_
  refine sn_newaZ aw_Z kR_init_32 hcap (by show 0 + 1 + 1 + 1 + 1 ≤ 4; omega) (by show 0 + cap + cap + cap + cap ≤ 4 * cap; omega) (fun z8 u8 => ?_)
  have h0 := u8.ne h0 (by omega)
  have h1 := u8.ne h1 (by omega)
  have h2 := u8.ne h2 (by omega)
  have h3 := u8.ne h3 (by omega)
  have h4 := u8.at
  refine sn_putF fl_R_26 kR_init_34 h0 rfl rfl rfl rfl rfl (Nat.le_of_ble_eq_true rfl) (fun z9 u9 => ?_)
  have h1 := u9.ne h1 (by omega)
  have h2 := u9.ne h2 (by omega)
  have h3 := u9.ne h3 (by omega)
  have h4 := u9.ne h4 (by omega)
  have h0 := u9.at h0
  refine sn_vret kR_init_37 rfl (hq z9 ⟨_, _, _, _, ⟨h0, h1, h2, h3, h4, Nat.zero_le _⟩, fun j e hj => by cases hj⟩ ?_) rfl (by show 0 + cap + cap + cap + cap ≤ 4 * cap; omega)
  exact (((((((((u1.gr ⟨by omega, by omega⟩ : ss_gr (fun q => r ≤ q ∧ q < r + 5) z z1).tr (u2.gr ⟨by omega, by omega⟩)).tr (u3.gr ⟨by omega, by omega⟩)).tr (u4.gr ⟨by omega, by omega⟩)).tr (u5.gr ⟨by omega, by omega⟩)).tr (u6.gr ⟨by omega, by omega⟩)).tr (u7.gr ⟨by omega, by omega⟩)).tr (u8.gr ⟨by omega, by omega⟩)).tr (u9.gr ⟨by omega, by omega⟩))
set_option maxRecDepth 100000 in
theorem cT_init {a : Nat} (hst : l.stackTraces = false) (h0 : ss_at z a (.inr (1, [.null, .int 0, .int 0, .int 0]))) (hq : ∀ z', ss_slot V z' a none → ss_gr (ss_tcell a) z z' → (∃ fs, ss_at z' a (.inr (1, fs))) → Qr z') : ss_CI ss_tr V l (d + 2) mT_init 5 53 [.ref a] z (a + 1) Qr := by
  refine ss_CI.of hst rfl (by decide) (Nat.le_of_ble_eq_true rfl) ?_
  refine sn_aload_n kT_init_0 rfl ?_
  refine sn_obj ol_T_3 kT_init_1 (by show 1 ≤ d + 2; omega) (by show 0 + 12 ≤ 30 * (d + 2) + 60; omega) ?_
  refine sn_aload_n kT_init_4 rfl ?_
  refine sn_new (fs := [.null, .null, .null, .null, .int 0]) nl_T_9 kT_init_5 (fun j hj => ?_) (by show 0 + 1 ≤ 5; omega) (by show 0 + 5 ≤ 53; omega) (fun z1 u1 => ?_)
  · have hj : j < 5 := hj
    rcases (show j = 0 ∨ j = 1 ∨ j = 2 ∨ j = 3 ∨ j = 4 by omega) with rfl | rfl | rfl | rfl | rfl <;> rfl
  have h0 := u1.ne h0 (by omega)
  have g0 := u1.at
  refine sn_dup kT_init_8 rfl ?_
  refine sn_bipush (v := 12) kT_init_9 (by decide) ?_
  refine sn_callI (As := [.int (nI 12)]) (b := a + 1) (rest := [.ref (a + 1), .ref a]) ss_tr_mv (fun _ h => h) (cR_init (X := ss_tr) (d := d) (r := a + 1) (cap := 12) hst (by decide) g0 (Qr := fun z' => ss_row V z' (a + 1) 12 [] ∧ ss_gr (fun q => a + 1 ≤ q ∧ q < a + 1 + 5) z1 z') (fun z' q1 q2 => ⟨q1, q2⟩)) il_R ml_T_11 kT_init_11 rfl (Nat.le_of_ble_eq_true rfl) ⟨Nat.le_refl _, by show 8 + (2 + 11) + (30 * (d + 1) + 60) ≤ 30 * (d + 2) + 60; omega⟩ ⟨by show 0 + 1 + 4 ≤ 5; omega, by show 0 + 5 + 4 * 12 ≤ 53; omega⟩ (fun z2 hq2 => ?_)
  obtain ⟨q1, q2⟩ := hq2
  have h0 := q2.at h0 (fun q => by have := q.1; omega)
  refine sn_putF fl_T_14 kT_init_14 h0 rfl rfl rfl rfl rfl (Nat.le_of_ble_eq_true rfl) (fun z3 u3 => ?_)
  have h0 := u3.at h0
  refine sn_aload_n kT_init_17 rfl ?_
  refine sn_iconst (v := 0) kT_init_18 (by decide) ?_
  refine sn_put fl_T_20 kT_init_19 h0 rfl rfl rfl (Nat.le_of_ble_eq_true rfl) (fun z4 u4 => ?_)
  have h0 := u4.at h0
  refine sn_aload_n kT_init_22 rfl ?_
  refine sn_iconst (v := 0) kT_init_23 (by decide) ?_
  refine sn_put fl_T_24 kT_init_24 h0 rfl rfl rfl (Nat.le_of_ble_eq_true rfl) (fun z5 u5 => ?_)
  have h0 := u5.at h0
  refine sn_aload_n kT_init_27 rfl ?_
  refine sn_iconst (v := 0) kT_init_28 (by decide) ?_
  refine sn_put fl_T_28 kT_init_29 h0 rfl rfl rfl (Nat.le_of_ble_eq_true rfl) (fun z6 u6 => ?_)
  have h0 := u6.at h0
  have f0 : ss_gr (fun q => q = a) z2 z6 := (((u3.gr rfl : ss_gr (fun q => q = a) z2 z3).tr (u4.gr rfl)).tr (u5.gr rfl)).tr (u6.gr rfl)
  refine sn_vret kT_init_32 rfl (hq z6 ⟨false, _, _, _, h0, q1.gr f0 (fun q hq hr => by have := hr.1; omega), rfl⟩ ?_ ⟨_, h0⟩) rfl (Nat.le_refl _)
  exact ((u1.gr ⟨by omega, by omega⟩ : ss_gr (ss_tcell a) z z1).tr (q2.mono (fun q hq => ⟨by have := hq.1; omega, by have := hq.2; omega⟩))).tr (f0.mono (fun q hq => ⟨by omega, by omega⟩))
def ss_st0 : ss_St := (0, 0, 0, [], fun _ => none)
set_option maxRecDepth 100000 in
theorem cS_init {b : Nat} (hst : l.stackTraces = false) (h0 : ss_at z b (.inr (2, [.null, .null, .int 0, .int 0, .int 0]))) (hq : ∀ z', ss_XP V z' b ss_st0 → ss_gr (ss_xc b) z z' → Qr z') : ss_CI ss_xx V l (d + 3) mS_init 42 545 [.ref b] z (b + 1) Qr := by
  refine ss_CI.of hst rfl (by decide) (Nat.le_of_ble_eq_true rfl) ?_
  have loop : ∀ m i z0 (g : Nat → Option Nat), i + m = 6 → ss_gr (ss_xc b) z z0 → ss_at z0 b (.inr (2, [.ref (b + 1), .ref (b + 6), .int 0, .int 0, .int 0])) → ss_row V z0 (b + 1) 48 [] → ss_at z0 (b + 6) (.inl (sv_T V, 6, .inr (.inr (.inr (.inr g))))) → (∀ j, j < i → g j = some (ss_ad b j)) → (∀ j, j < i → ss_slot V z0 (ss_ad b j) none) → ss_GN ss_xx V l mS_init (ss_rm (d + 3) 42 545) (ss_Q0 V (b + 1) Qr 42 545) (b + 1) 43 [(1, .int (nI i)), (0, .ref b)] [] z0 (6 + 6 * i) (203 + 57 * i) := by
    intro m
    induction m with
    | zero =>
      intro i z0 g hi hF h0 hr hs hg hsl
      have hi : i = 6 := by omega
      subst hi
      refine sn_iload_n kS_init_43 rfl ?_
      refine sn_aload_n kS_init_44 rfl ?_
      refine sn_get fl_S_20 kS_init_45 h0 rfl ?_
      refine sn_alenT kS_init_48 hs ?_
      refine sn_icmp_ge 71 kS_init_49 (by decide) (fun hb => ?_) (fun hb => ?_)
      · exact sn_vret kS_init_71 rfl (hq z0 ⟨h0, hr, ⟨g, hs, hg⟩, hsl⟩ hF) rfl (Nat.le_refl _)
      · exact absurd (by decide) hb
    | succ m ih =>
      intro i z0 g hi hF h0 hr hs hg hsl
      have hi6 : i < 6 := by omega
      have had : b + 1 + (6 + 6 * i) = ss_ad b i := by unfold ss_ad; omega
      refine sn_iload_n kS_init_43 rfl ?_
      refine sn_aload_n kS_init_44 rfl ?_
      refine sn_get fl_S_20 kS_init_45 h0 rfl ?_
      refine sn_alenT kS_init_48 hs ?_
      refine sn_icmp_ge 71 kS_init_49 (by decide) (fun hb => ?_) (fun hb => ?_)
      · exact absurd hb (nI_ge (by omega) (by omega))
      · refine sn_aload_n kS_init_52 rfl ?_
        refine sn_get fl_S_20 kS_init_53 h0 rfl ?_
        refine sn_iload_n kS_init_56 rfl ?_
        refine sn_new (fs := [.null, .int 0, .int 0, .int 0]) nl_S_18 kS_init_57 (fun j hj => ?_) (by show 6 + 6 * i + 1 ≤ 42; omega) (by show 203 + 57 * i + 4 ≤ 545; omega) (fun z1 u1 => ?_)
        · have hj : j < 4 := hj
          rcases (show j = 0 ∨ j = 1 ∨ j = 2 ∨ j = 3 by omega) with rfl | rfl | rfl | rfl <;> rfl
        rw [had] at u1
        rw [had]
        have t0 := u1.at
        have f1 : ss_gr (ss_tcell (ss_ad b i)) z0 z1 := u1.gr ⟨by omega, by omega⟩
        refine sn_dup kS_init_60 rfl ?_
        refine sn_callN (As := []) (b := ss_ad b i) (rest := [.ref (ss_ad b i), .int (nI i), .ref (b + 6)]) (host := RX2) ss_tr_mv (fun _ _ => trivial) ?_ il_T (fun s h => h.2) kS_init_61 rfl (Nat.le_of_ble_eq_true rfl) ⟨Nat.le_refl _, by show 8 + (1 + 11) + (30 * (d + 2) + 60) ≤ 30 * (d + 3) + 60; omega⟩ ⟨by show 6 + 6 * i + 1 + 5 ≤ 42; omega, by show 203 + 57 * i + 4 + 53 ≤ 545; omega⟩ (fun z2 hq2 => ?_) (Qr := fun z' => ss_slot V z' (ss_ad b i) none ∧ ss_gr (ss_tcell (ss_ad b i)) z1 z' ∧ ∃ fs, ss_at z' (ss_ad b i) (.inr (1, fs)))
        · rw [show b + 1 + (6 + 6 * i + 1) = ss_ad b i + 1 by omega]
          exact cT_init (d := d) hst t0 (fun z' q1 q2 q3 => ⟨q1, q2, q3⟩)
        · obtain ⟨q1, q2, fs, q3⟩ := hq2
          have f2 := f1.tr q2
          have hs2 := f2.at hs (fun q => by have := q.1; unfold ss_ad at this; omega)
          refine sn_aast kS_init_64 hs2 q3 hi6 (by decide) (fun z3 u3 => ?_)
          have f3 : ss_gr (fun q => q = b + 6) z2 z3 := u3.gr rfl
          have fx : ss_gr (ss_xc b) z0 z3 := (f2.mono (ss_tc_xc hi6)).tr (f3.mono (fun q hq => ⟨by omega, by omega⟩))
          refine sn_iinc kS_init_65 rfl (ss_inc _) (by decide) ?_
          refine sn_goto 43 kS_init_68 (by decide) ?_
          refine sn_lw (ih (i + 1) z3 _ (by omega) (hF.tr fx) ?_ ?_ (u3.at hs2) (fun j hj => ?_) (fun j hj => ?_)) ⟨rfl, rfl, trivial⟩
          · exact f3.at (f2.at h0 (fun q => by have := q.1; unfold ss_ad at this; omega)) (by omega)
          · exact (hr.gr f2 (fun q hq hr => by have h1 := hq.1; have := hr.2; unfold ss_ad at h1; omega)).gr f3 (fun q hq hr => by have := hr.2; omega)
          · by_cases hji : j = i
            · subst hji
              exact va_up_self _ _ _
            · rw [va_up_ne _ _ hji]
              exact hg j (by omega)
          · by_cases hji : j = i
            · subst hji
              exact q1.gr f3 (fun q hq hr => by have h1 := hr.1; unfold ss_ad at h1; omega)
            · exact ((hsl j (by omega)).gr f2 (fun q hq hr => by
                have h1 := hq.1
                have h2 := hq.2
                have h3 := hr.1
                have h4 := hr.2
                unfold ss_ad at h1 h2 h3 h4
                omega)).gr f3 (fun q hq hr => by have h1 := hr.1; unfold ss_ad at h1; omega)
  refine sn_aload_n kS_init_0 rfl ?_
  refine sn_obj ol_S_1 kS_init_1 (by show 1 ≤ d + 3; omega) (by show 0 + 12 ≤ 30 * (d + 3) + 60; omega) ?_
  refine sn_aload_n kS_init_4 rfl ?_
  refine sn_new (fs := [.null, .null, .null, .null, .int 0]) nl_S_7 kS_init_5 (fun j hj => ?_) (by show 0 + 1 ≤ 42; omega) (by show 0 + 5 ≤ 545; omega) (fun z1 u1 => ?_)
  · have hj : j < 5 := hj
    rcases (show j = 0 ∨ j = 1 ∨ j = 2 ∨ j = 3 ∨ j = 4 by omega) with rfl | rfl | rfl | rfl | rfl <;> rfl
  have h0 := u1.ne h0 (by omega)
  have g0 := u1.at
  refine sn_dup kS_init_8 rfl ?_
  refine sn_bipush (v := 48) kS_init_9 (by decide) ?_
  refine sn_callI (As := [.int (nI 48)]) (b := b + 1) (rest := [.ref (b + 1), .ref b]) ss_tr_mv (fun _ _ => trivial) (cR_init (X := ss_tr) (d := d + 1) (r := b + 1) (cap := 48) hst (by decide) g0 (Qr := fun z' => ss_row V z' (b + 1) 48 [] ∧ ss_gr (fun q => b + 1 ≤ q ∧ q < b + 1 + 5) z1 z') (fun z' q1 q2 => ⟨q1, q2⟩)) il_R ml_S_11 kS_init_11 rfl (Nat.le_of_ble_eq_true rfl) ⟨Nat.le_refl _, by show 8 + (2 + 11) + (30 * (d + 2) + 60) ≤ 30 * (d + 3) + 60; omega⟩ ⟨by show 0 + 1 + 4 ≤ 42; omega, by show 0 + 5 + 4 * 48 ≤ 545; omega⟩ (fun z2 hq2 => ?_)
  obtain ⟨q1, q2⟩ := hq2
  have h0 := q2.at h0 (fun q => by have := q.1; omega)
  refine sn_putF fl_S_14 kS_init_14 h0 rfl rfl rfl rfl rfl (Nat.le_of_ble_eq_true rfl) (fun z3 u3 => ?_)
  have h0 := u3.at h0
  refine sn_aload_n kS_init_17 rfl ?_
  refine sn_bipush (v := 6) kS_init_18 (by decide) ?_
  refine sn_newq (N := 6) cq_S_18 (fun s h => h.1) kS_init_20 (by decide) (by show 0 + 1 + 4 + 1 ≤ 42; omega) (by show 0 + 5 + 4 * 48 + 6 ≤ 545; omega) (fun z4 u4 => ?_)
  have h0 := u4.ne h0 (by omega)
  have hs := u4.at
  refine sn_putF fl_S_20 kS_init_23 h0 rfl rfl rfl rfl rfl (Nat.le_of_ble_eq_true rfl) (fun z5 u5 => ?_)
  have h0 := u5.at h0
  have hs := u5.ne hs (by omega)
  refine sn_aload_n kS_init_26 rfl ?_
  refine sn_iconst (v := 0) kS_init_27 (by decide) ?_
  refine sn_put fl_S_24 kS_init_28 h0 rfl rfl rfl (Nat.le_of_ble_eq_true rfl) (fun z6 u6 => ?_)
  have h0 := u6.at h0
  have hs := u6.ne hs (by omega)
  refine sn_aload_n kS_init_31 rfl ?_
  refine sn_iconst (v := 0) kS_init_32 (by decide) ?_
  refine sn_put fl_S_28 kS_init_33 h0 rfl rfl rfl (Nat.le_of_ble_eq_true rfl) (fun z7 u7 => ?_)
  have h0 := u7.at h0
  have hs := u7.ne hs (by omega)
  refine sn_aload_n kS_init_36 rfl ?_
  refine sn_iconst (v := 0) kS_init_37 (by decide) ?_
  refine sn_put fl_S_31 kS_init_38 h0 rfl rfl rfl (Nat.le_of_ble_eq_true rfl) (fun z8 u8 => ?_)
  have h0 := u8.at h0
  have hs := u8.ne hs (by omega)
  refine sn_iconst (v := 0) kS_init_41 (by decide) ?_
  refine sn_istore_n kS_init_42 (by decide) ?_
  have f2 : ss_gr (fun q => q = b ∨ q = b + 6) z2 z8 := (((((u3.gr (Or.inl rfl) : ss_gr (fun q => q = b ∨ q = b + 6) z2 z3).tr (u4.gr (Or.inr (by omega)))).tr (u5.gr (Or.inl rfl))).tr (u6.gr (Or.inl rfl))).tr (u7.gr (Or.inl rfl))).tr (u8.gr (Or.inl rfl))
  have fx : ss_gr (ss_xc b) z z8 := ((u1.gr ⟨by omega, by omega⟩ : ss_gr (ss_xc b) z z1).tr (q2.mono (fun q hq => ⟨by have := hq.1; omega, by have := hq.2; omega⟩))).tr (f2.mono (fun q hq => ⟨by rcases hq with h | h <;> omega, by rcases hq with h | h <;> omega⟩))
  exact sn_lw (loop 6 0 z8 _ rfl fx h0 (q1.gr f2 (fun q hq hr => by
    have h1 := hr.1
    have h2 := hr.2
    rcases hq with h | h <;> omega)) hs (fun j hj => by omega) (fun j hj => by omega)) ⟨rfl, rfl, trivial⟩
end SSCT
