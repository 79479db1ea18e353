/-! The reference: beginnings, and what answers about one transaction or version. -/
section SSP
variable {V : ss_V} {l : Launch} {z : ss_Z} {d a : Nat} {st : ss_St} {th : Int32} {va : Int64} {Qr : Option Value → ss_Z → Prop} {Qx : String → ss_Z → Prop}
theorem ss_first_none {p : Nat → Bool} : ∀ {m i : Nat}, ss_first p i m = none ↔ ∀ j, i ≤ j → j < i + m → p j = false := by
  intro m
  induction m with
  | zero => intro i; exact ⟨fun _ j h1 h2 => by omega, fun _ => rfl⟩
  | succ m ih =>
    intro i
    unfold ss_first
    by_cases hp : p i = true
    · rw [if_pos hp]
      constructor
      · intro h; cases h
      · intro h
        rw [h i (Nat.le_refl _) (by omega)] at hp
        cases hp
    · rw [if_neg hp, ih]
      constructor
      · intro h j h1 h2
        by_cases hj : j = i
        · subst hj
          simpa using hp
        · exact h j (by omega) (by omega)
      · intro h j h1 h2
        exact h j (by omega) (by omega)
theorem ss_cnt_le (p : Nat → Bool) : ∀ n, ss_cnt p n ≤ n := by
  intro n
  induction n with
  | zero => exact Nat.le_refl _
  | succ n ih =>
    unfold ss_cnt
    split <;> omega
theorem ss_cnt_all {p : Nat → Bool} : ∀ {n : Nat}, ss_cnt p n = n ↔ ∀ j, j < n → p j = true := by
  intro n
  induction n with
  | zero => exact ⟨fun _ j h => by omega, fun _ => rfl⟩
  | succ n ih =>
    have hle := ss_cnt_le p n
    unfold ss_cnt
    by_cases hp : p n = true
    · rw [if_pos hp]
      constructor
      · intro h j hj
        by_cases hn : j = n
        · subst hn; exact hp
        · exact ih.mp (by omega) j (by omega)
      · intro h
        rw [ih.mpr (fun j hj => h j (by omega))]
    · rw [if_neg hp]
      constructor
      · intro h; omega
      · intro h; exact absurd (h n (by omega)) hp
theorem ss_free_none : ss_free st = none ↔ ss_cnt (ss_lv st) 6 = 6 := by
  unfold ss_free
  rw [ss_first_none, ss_cnt_all]
  constructor
  · intro h j hj
    have := h j (by omega) (by omega)
    simpa using this
  · intro h j _ hj
    rw [h j (by omega)]
    rfl
theorem ss_ms.congr {o : Option ss_Tx} {j : Nat} {fN fS fC fA gN gS gC gA : Nat → Int32} {fB gB : Nat → Int64} {fD gD : Nat → Int32} (h : ss_ms o j fN fS fC fA fB fD) (hN : gN j = fN j) (hS : gS j = fS j) (hC : gC j = fC j) (hA : ∀ q, q < 12 → gA (12 * j + q) = fA (12 * j + q)) (hB : ∀ q, q < 12 → gB (12 * j + q) = fB (12 * j + q)) (hD : ∀ q, q < 12 → gD (12 * j + q) = fD (12 * j + q)) : ss_ms o j gN gS gC gA gB gD := by
  cases o with
  | none =>
    show gN j = 0
    rw [hN]
    exact h
  | some x =>
    obtain ⟨h1, h2, h3, h4, h5⟩ := h
    refine ⟨by rw [hN]; exact h1, by rw [hS]; exact h2, by rw [hC]; exact h3, h4, fun q w hq => ?_⟩
    have hl := (List.getElem?_eq_some_iff.mp hq).1
    rw [hA q (by omega), hB q (by omega), hD q (by omega)]
    exact h5 q w hq
/-- what a call leaves -/
def ss_af (c : Nat) (nx st : ss_St) : ss_St := if c = 0 then nx else st
set_option maxRecDepth 100000 in
theorem cM_enter (hst : l.stackTraces = false) (hsm : ss_sm st) (h : ss_MP V z a st th va) (t : Int32) {i : Nat} (hi : ss_free st = some i) (hq : ∀ z' va', ss_MP V z' a (nx_begin st t) th va' → ss_fr (ss_mc a) z z' → Qr (some (.int (nI st.2.2.1))) z') : ss_C V l d mM_enter 0 0 [.ref a, .int t] z Qr Qx := by
  obtain ⟨fo, fK, fT, fW, fE, fY, fN, fS, fC, fA, fB, fD, h1, h2, h3⟩ := h
  unfold nx_begin at hq
  rw [hi] at hq
  have hi6 : i < 6 := by
    have := (ss_first_some hi).2.1
    omega
  refine ss_C.of hst rfl (by decide) (Nat.le_of_ble_eq_true rfl) ?_
  have fin : ss_G V l mM_enter (ss_rm d 0 0) (ss_Q V Qr Qx 0 0) 17 [(2, .int (nI i)), (0, .ref a), (1, .int t)] [] z 0 0 := by
    refine sg_aload_n kM_enter_17 rfl ?_
    refine sg_dup kM_enter_18 rfl ?_
    refine sg_get fl_M_57 kM_enter_19 h1.go rfl ?_
    refine sg_iconst (v := 1) kM_enter_22 (by decide) ?_
    refine sg_iadd kM_enter_23 ?_
    refine sg_i (nI_1 _) ?_
    refine sg_put fl_M_57 kM_enter_24 h1.go rfl rfl rfl (Nat.le_of_ble_eq_true rfl) (fun z1 u1 => ?_)
    have h1 := h1.obj u1
    refine sg_aload_n kM_enter_27 rfl ?_
    refine sg_get fl_M_27 kM_enter_28 h1.go rfl ?_
    refine sg_iload_n kM_enter_31 rfl ?_
    refine sg_aload_n kM_enter_32 rfl ?_
    refine sg_get fl_M_57 kM_enter_33 h1.go rfl ?_
    refine sg_iast kM_enter_36 h1.gN (by omega) (by omega) (fun z2 u2 => ?_)
    have h1 := h1.upN u2
    refine sg_aload_n kM_enter_37 rfl ?_
    refine sg_get fl_M_30 kM_enter_38 h1.go rfl ?_
    refine sg_iload_n kM_enter_41 rfl ?_
    refine sg_iload_n kM_enter_42 rfl ?_
    refine sg_iast kM_enter_43 h1.gS (by omega) (by omega) (fun z3 u3 => ?_)
    have h1 := h1.upS u3
    refine sg_aload_n kM_enter_44 rfl ?_
    refine sg_get fl_M_33 kM_enter_45 h1.go rfl ?_
    refine sg_iload_n kM_enter_48 rfl ?_
    refine sg_iconst (v := 0) kM_enter_49 (by decide) ?_
    refine sg_iast kM_enter_50 h1.gC (by omega) (by omega) (fun z4 u4 => ?_)
    have h1 := h1.upC u4
    refine sg_aload_n kM_enter_51 rfl ?_
    refine sg_get fl_M_57 kM_enter_52 h1.go rfl ?_
    refine sg_iconst (v := 1) kM_enter_55 (by decide) ?_
    refine sg_isub kM_enter_56 ?_
    refine sg_i (nI_pred _) ?_
    refine sg_iret kM_enter_57 rfl rfl (hq z4 va ⟨_, _, _, _, _, _, _, _, _, _, _, _, h1, h2, fun j hj => ?_⟩ ((((u1.fr ⟨by omega, by omega⟩ : ss_fr (ss_mc a) z z1).tr (u2.fr ⟨by omega, by omega⟩)).tr (u3.fr ⟨by omega, by omega⟩)).tr (u4.fr ⟨by omega, by omega⟩))) (Nat.le_refl _) (Nat.le_refl _)
    by_cases hji : j = i
    · subst hji
      show ss_ms (va_up st.2.2.2.2 j _ j) j _ _ _ _ _ _
      rw [va_up_self]
      refine ⟨pk_us, pk_us, pk_us, Nat.zero_le _, fun q w hq => by cases hq⟩
    · show ss_ms (va_up st.2.2.2.2 i _ j) j _ _ _ _ _ _
      rw [va_up_ne _ _ hji]
      exact (h3 j hj).congr (pk_un hji) (pk_un hji) (pk_un hji) (fun _ _ => rfl) (fun _ _ => rfl) (fun _ _ => rfl)
  have loop : ∀ m j, j + m = 6 → ss_free st = ss_first (fun i => !(ss_lv st i)) j m → ss_G V l mM_enter (ss_rm d 0 0) (ss_Q V Qr Qx 0 0) 2 [(2, .int (nI j)), (0, .ref a), (1, .int t)] [] z 0 0 := by
    intro m
    induction m with
    | zero =>
      intro j hj hf
      rw [hi] at hf
      cases hf
    | succ m ih =>
      intro j hj hf
      have hf2 : ss_free st = if (!(ss_lv st j)) = true then some j else ss_first (fun i => !(ss_lv st i)) (j + 1) m := hf
      have hn := ss_ms_none (h3 j (by omega)) hsm.lt
      unfold ss_lv at hf2
      refine sg_aload_n kM_enter_2 rfl ?_
      refine sg_get fl_M_27 kM_enter_3 h1.go rfl ?_
      refine sg_iload_n kM_enter_6 rfl ?_
      refine sg_iald kM_enter_7 h1.gN (by omega) (by omega) ?_
      refine sg_if_le 17 kM_enter_8 (by decide) (fun hc => ?_) (fun hc => ?_)
      · rw [hn] at hc
        rw [hc, hi] at hf2
        cases hf2
        exact fin
      · rw [hn] at hc
        refine sg_iinc kM_enter_11 rfl (ss_inc _) (by decide) ?_
        refine sg_goto 2 kM_enter_14 (by decide) ?_
        refine ih (j + 1) (by omega) ?_
        rw [hf2]
        cases ho : st.2.2.2.2 j with
        | none => exact absurd ho hc
        | some x => rfl
  refine sg_iconst (v := 0) kM_enter_0 (by decide) ?_
  refine sg_istore_n kM_enter_1 (by decide) ?_
  exact sg_lw (loop 6 0 rfl rfl) ⟨rfl, rfl, rfl, trivial⟩
set_option maxRecDepth 100000 in
theorem cM_begin (hst : l.stackTraces = false) (hsm : ss_sm st) (h : ss_MP V z a st th va) (hq : ∀ z' va' w, ss_MP V z' a (ss_af (cd_begin st) (nx_begin st st.1) st) (nI (cd_begin st)) va' → ss_fr (ss_mc a) z z' → (cd_begin st = 0 → w = nI st.2.2.1) → Qr (some (.int w)) z') : ss_C V l (d + 1) mM_begin 0 0 [.ref a] z Qr Qx := by
  have hC := cM_count (d := d) hst hsm h
  obtain ⟨fo, fK, fT, fW, fE, fY, fN, fS, fC, fA, fB, fD, h1, h2, h3⟩ := h
  refine ss_C.of hst rfl (by decide) (Nat.le_of_ble_eq_true rfl) ?_
  have hcl := ss_cnt_le (ss_lv st) 6
  unfold cd_begin ss_af at hq
  refine sg_aload_n kM_begin_0 rfl ?_
  refine sg_aload_n kM_begin_1 rfl ?_
  refine sg_fV (As := []) (rest := [.ref a]) hC vl_M_60 kM_begin_2 h1.go rfl (Nat.le_of_ble_eq_true rfl) ⟨Nat.le_refl _, by show 8 + (3 + 11) + (30 * d + 60) ≤ 30 * (d + 1) + 60; omega⟩ ⟨Nat.le_refl _, Nat.le_refl _⟩ ?_
  refine sg_bipush (v := 6) kM_begin_5 (by decide) ?_
  refine sg_icmp_ne 14 kM_begin_7 (by decide) (fun hb => ?_) (fun hb => ?_)
  · have hf : ¬ ss_free st = none := fun q => hb (by rw [ss_free_none.mp q]; rfl)
    rw [if_neg hf] at hq
    obtain ⟨i, hi⟩ := Option.ne_none_iff_exists'.mp hf
    refine sg_iconst (v := 0) kM_begin_14 (by decide) ?_
    refine sg_put fl_M_45 kM_begin_15 h1.go rfl rfl rfl (Nat.le_of_ble_eq_true rfl) (fun z1 u1 => ?_)
    have h1 := h1.obj u1
    refine sg_aload_n kM_begin_18 rfl ?_
    refine sg_get fl_M_45 kM_begin_19 h1.go rfl ?_
    refine sg_if_ne 36 kM_begin_22 (by decide) (fun hc => ?_) (fun hc => ?_)
    · exact absurd rfl hc
    · refine sg_aload_n kM_begin_25 rfl ?_
      refine sg_aload_n kM_begin_26 rfl ?_
      refine sg_get fl_M_64 kM_begin_27 h1.go rfl ?_
      refine sg_callV (As := [.int st.1]) (rest := []) (cM_enter (d := d) hst hsm (th := 0) ⟨_, _, _, _, _, _, _, _, _, _, _, _, h1, h2, h3⟩ st.1 hi (Qr := fun w z' => w = some (.int (nI st.2.2.1)) ∧ ∃ va', ss_MP V z' a (nx_begin st st.1) 0 va' ∧ ss_fr (ss_mc a) z1 z') (Qx := fun _ _ => False) (fun z' va' q1 q2 => ⟨rfl, va', q1, q2⟩)) vl_M_67 kM_begin_30 h1.go rfl (Nat.le_of_ble_eq_true rfl) ⟨Nat.le_refl _, by show 8 + (3 + 11) + (30 * d + 60) ≤ 30 * (d + 1) + 60; omega⟩ ⟨Nat.le_refl _, Nat.le_refl _⟩ (fun _ _ q => q.elim) (fun w z2 hq2 => ?_)
      obtain ⟨rfl, va', q1, q2⟩ := hq2
      refine sg_goto 37 kM_begin_33 (by decide) ?_
      exact sg_iret kM_begin_37 rfl rfl (hq z2 va' _ q1 ((u1.fr ⟨by omega, by omega⟩ : ss_fr (ss_mc a) z z1).tr q2) (fun _ => rfl)) (Nat.le_refl _) (Nat.le_refl _)
  · have hf : ss_free st = none := ss_free_none.mpr ((nI_eq (by omega) (by decide)).mp (show nI _ = nI 6 from hb))
    rw [if_pos hf] at hq
    refine sg_iconst (v := 1) kM_begin_10 (by decide) ?_
    refine sg_goto 15 kM_begin_11 (by decide) ?_
    refine sg_put fl_M_45 kM_begin_15 h1.go rfl rfl rfl (Nat.le_of_ble_eq_true rfl) (fun z1 u1 => ?_)
    have h1 := h1.obj u1
    refine sg_aload_n kM_begin_18 rfl ?_
    refine sg_get fl_M_45 kM_begin_19 h1.go rfl ?_
    refine sg_if_ne 36 kM_begin_22 (by decide) (fun hc => ?_) (fun hc => ?_)
    · refine sg_iconst (v := 0) kM_begin_36 (by decide) ?_
      exact sg_iret kM_begin_37 rfl rfl (hq z1 va _ ⟨_, _, _, _, _, _, _, _, _, _, _, _, h1, h2, h3⟩ (u1.fr ⟨by omega, by omega⟩) (fun q => by cases q)) (Nat.le_refl _) (Nat.le_refl _)
    · exact absurd hc (by decide)
set_option maxRecDepth 100000 in
theorem cM_beginAt (hst : l.stackTraces = false) (hsm : ss_sm st) (h : ss_MP V z a st th va) (t : Int32) (hq : ∀ z' va' w, ss_MP V z' a (ss_af (cd_beginAt st t) (nx_begin st t) st) (nI (cd_beginAt st t)) va' → ss_fr (ss_mc a) z z' → (cd_beginAt st t = 0 → w = nI st.2.2.1) → Qr (some (.int w)) z') : ss_C V l (d + 1) mM_beginAt 0 0 [.ref a, .int t] z Qr Qx := by
  have hC := cM_count (d := d) hst hsm h
  obtain ⟨fo, fK, fT, fW, fE, fY, fN, fS, fC, fA, fB, fD, h1, h2, h3⟩ := h
  refine ss_C.of hst rfl (by decide) (Nat.le_of_ble_eq_true rfl) ?_
  have hcl := ss_cnt_le (ss_lv st) 6
  unfold cd_beginAt ss_af at hq
  have bad : (t < st.2.1 ∨ st.1 < t) → ss_G V l mM_beginAt (ss_rm (d + 1) 0 0) (ss_Q V Qr Qx 0 0) 17 [(0, .ref a), (1, .int t)] [.ref a] z 0 0 := by
    intro hb
    rw [if_pos hb] at hq
    refine sg_iconst (v := 1) kM_beginAt_17 (by decide) ?_
    refine sg_goto 35 kM_beginAt_18 (by decide) ?_
    refine sg_put fl_M_45 kM_beginAt_35 h1.go rfl rfl rfl (Nat.le_of_ble_eq_true rfl) (fun z1 u1 => ?_)
    have h1 := h1.obj u1
    refine sg_aload_n kM_beginAt_38 rfl ?_
    refine sg_get fl_M_45 kM_beginAt_39 h1.go rfl ?_
    refine sg_if_ne 53 kM_beginAt_42 (by decide) (fun hc => ?_) (fun hc => ?_)
    · refine sg_iconst (v := 0) kM_beginAt_53 (by decide) ?_
      exact sg_iret kM_beginAt_54 rfl rfl (hq z1 va _ ⟨_, _, _, _, _, _, _, _, _, _, _, _, h1, h2, h3⟩ (u1.fr ⟨by omega, by omega⟩) (fun q => by cases q)) (Nat.le_refl _) (Nat.le_refl _)
    · exact absurd hc (by decide)
  refine sg_aload_n kM_beginAt_0 rfl ?_
  refine sg_iload_n kM_beginAt_1 rfl ?_
  refine sg_aload_n kM_beginAt_2 rfl ?_
  refine sg_get fl_M_70 kM_beginAt_3 h1.go rfl ?_
  refine sg_icmp_lt 17 kM_beginAt_6 (by decide) (fun hb => ?_) (fun hb => ?_)
  · exact bad (Or.inl hb)
  · refine sg_iload_n kM_beginAt_9 rfl ?_
    refine sg_aload_n kM_beginAt_10 rfl ?_
    refine sg_get fl_M_64 kM_beginAt_11 h1.go rfl ?_
    refine sg_icmp_le 21 kM_beginAt_14 (by decide) (fun hc => ?_) (fun hc => ?_)
    · have hn : ¬ (t < st.2.1 ∨ st.1 < t) := fun q => q.elim hb (fun q => absurd hc (Int32.not_le.mpr q))
      rw [if_neg hn] at hq
      refine sg_aload_n kM_beginAt_21 rfl ?_
      refine sg_fV (As := []) (rest := [.ref a]) hC vl_M_60 kM_beginAt_22 h1.go rfl (Nat.le_of_ble_eq_true rfl) ⟨Nat.le_refl _, by show 8 + (3 + 11) + (30 * d + 60) ≤ 30 * (d + 1) + 60; omega⟩ ⟨Nat.le_refl _, Nat.le_refl _⟩ ?_
      refine sg_bipush (v := 6) kM_beginAt_25 (by decide) ?_
      refine sg_icmp_ne 34 kM_beginAt_27 (by decide) (fun he => ?_) (fun he => ?_)
      · have hf : ¬ ss_free st = none := fun q => he (by rw [ss_free_none.mp q]; rfl)
        rw [if_neg hf] at hq
        obtain ⟨i, hi⟩ := Option.ne_none_iff_exists'.mp hf
        refine sg_iconst (v := 0) kM_beginAt_34 (by decide) ?_
        refine sg_put fl_M_45 kM_beginAt_35 h1.go rfl rfl rfl (Nat.le_of_ble_eq_true rfl) (fun z1 u1 => ?_)
        have h1 := h1.obj u1
        refine sg_aload_n kM_beginAt_38 rfl ?_
        refine sg_get fl_M_45 kM_beginAt_39 h1.go rfl ?_
        refine sg_if_ne 53 kM_beginAt_42 (by decide) (fun hd9 => ?_) (fun hd9 => ?_)
        · exact absurd rfl hd9
        · refine sg_aload_n kM_beginAt_45 rfl ?_
          refine sg_iload_n kM_beginAt_46 rfl ?_
          refine sg_callV (As := [.int t]) (rest := []) (cM_enter (d := d) hst hsm (th := 0) ⟨_, _, _, _, _, _, _, _, _, _, _, _, h1, h2, h3⟩ t hi (Qr := fun w z' => w = some (.int (nI st.2.2.1)) ∧ ∃ va', ss_MP V z' a (nx_begin st t) 0 va' ∧ ss_fr (ss_mc a) z1 z') (Qx := fun _ _ => False) (fun z' va' q1 q2 => ⟨rfl, va', q1, q2⟩)) vl_M_67 kM_beginAt_47 h1.go rfl (Nat.le_of_ble_eq_true rfl) ⟨Nat.le_refl _, by show 8 + (3 + 11) + (30 * d + 60) ≤ 30 * (d + 1) + 60; omega⟩ ⟨Nat.le_refl _, Nat.le_refl _⟩ (fun _ _ q => q.elim) (fun w z2 hq2 => ?_)
          obtain ⟨rfl, va', q1, q2⟩ := hq2
          refine sg_goto 54 kM_beginAt_50 (by decide) ?_
          exact sg_iret kM_beginAt_54 rfl rfl (hq z2 va' _ q1 ((u1.fr ⟨by omega, by omega⟩ : ss_fr (ss_mc a) z z1).tr q2) (fun _ => rfl)) (Nat.le_refl _) (Nat.le_refl _)
      · have hf : ss_free st = none := ss_free_none.mpr ((nI_eq (by omega) (by decide)).mp (show nI _ = nI 6 from he))
        rw [if_pos hf] at hq
        refine sg_iconst (v := 2) kM_beginAt_30 (by decide) ?_
        refine sg_goto 35 kM_beginAt_31 (by decide) ?_
        refine sg_put fl_M_45 kM_beginAt_35 h1.go rfl rfl rfl (Nat.le_of_ble_eq_true rfl) (fun z1 u1 => ?_)
        have h1 := h1.obj u1
        refine sg_aload_n kM_beginAt_38 rfl ?_
        refine sg_get fl_M_45 kM_beginAt_39 h1.go rfl ?_
        refine sg_if_ne 53 kM_beginAt_42 (by decide) (fun hd9 => ?_) (fun hd9 => ?_)
        · refine sg_iconst (v := 0) kM_beginAt_53 (by decide) ?_
          exact sg_iret kM_beginAt_54 rfl rfl (hq z1 va _ ⟨_, _, _, _, _, _, _, _, _, _, _, _, h1, h2, h3⟩ (u1.fr ⟨by omega, by omega⟩) (fun q => by cases q)) (Nat.le_refl _) (Nat.le_refl _)
        · exact absurd hd9 (by decide)
    · exact bad (Or.inr (Int32.not_le.mp hc))
theorem cM_time (hst : l.stackTraces = false) (h : ss_MP V z a st th va) (hq : ∀ z', ss_MP V z' a st 0 va → ss_fr (ss_mc a) z z' → Qr (some (.int st.1)) z') : ss_C V l d mM_time 0 0 [.ref a] z Qr Qx := by
  obtain ⟨fo, fK, fT, fW, fE, fY, fN, fS, fC, fA, fB, fD, h1, h2, h3⟩ := h
  refine ss_C.of hst rfl (by decide) (Nat.le_of_ble_eq_true rfl) ?_
  refine sg_aload_n kM_time_0 rfl ?_
  refine sg_iconst (v := 0) kM_time_1 (by decide) ?_
  refine sg_put fl_M_45 kM_time_2 h1.go rfl rfl rfl (Nat.le_of_ble_eq_true rfl) (fun z1 u1 => ?_)
  have h1 := h1.obj u1
  refine sg_aload_n kM_time_5 rfl ?_
  refine sg_get fl_M_64 kM_time_6 h1.go rfl ?_
  exact sg_iret kM_time_9 rfl rfl (hq z1 ⟨_, _, _, _, _, _, _, _, _, _, _, _, h1, h2, h3⟩ (u1.fr ⟨by omega, by omega⟩)) (Nat.le_refl _) (Nat.le_refl _)
theorem cM_live (hst : l.stackTraces = false) (hsm : ss_sm st) (h : ss_MP V z a st th va) (hq : ∀ z', ss_MP V z' a st 0 va → ss_fr (ss_mc a) z z' → Qr (some (.int (nI (ss_cnt (ss_lv st) 6)))) z') : ss_C V l (d + 1) mM_live 0 0 [.ref a] z Qr Qx := by
  obtain ⟨fo, fK, fT, fW, fE, fY, fN, fS, fC, fA, fB, fD, h1, h2, h3⟩ := h
  refine ss_C.of hst rfl (by decide) (Nat.le_of_ble_eq_true rfl) ?_
  refine sg_aload_n kM_live_0 rfl ?_
  refine sg_iconst (v := 0) kM_live_1 (by decide) ?_
  refine sg_put fl_M_45 kM_live_2 h1.go rfl rfl rfl (Nat.le_of_ble_eq_true rfl) (fun z1 u1 => ?_)
  have h1 := h1.obj u1
  have hm : ss_MP V z1 a st 0 va := ⟨_, _, _, _, _, _, _, _, _, _, _, _, h1, h2, h3⟩
  refine sg_aload_n kM_live_5 rfl ?_
  refine sg_fV (As := []) (rest := []) (cM_count (d := d) hst hsm hm) vl_M_60 kM_live_6 h1.go rfl (Nat.le_of_ble_eq_true rfl) ⟨Nat.le_refl _, by show 8 + (3 + 11) + (30 * d + 60) ≤ 30 * (d + 1) + 60; omega⟩ ⟨Nat.le_refl _, Nat.le_refl _⟩ ?_
  exact sg_iret kM_live_9 rfl rfl (hq z1 hm (u1.fr ⟨by omega, by omega⟩)) (Nat.le_refl _) (Nat.le_refl _)
theorem ss_lx_nl {t : Int32} (h : ss_lt st t = none) : cd_tx st t = 1 := by
  unfold cd_tx
  rw [ss_lx_none h]
theorem ss_ix_nn {o : Option Nat} (h : ∀ j, o = some j → j < 2 ^ 31) : 0 ≤ ss_ix o ↔ ¬ o = none := by
  rw [← ss_ix_lt h]
  exact Decidable.not_not.symm
set_option maxRecDepth 100000 in
theorem cM_start (hst : l.stackTraces = false) (hsm : ss_sm st) (h : ss_MP V z a st th va) (t : Int32) (hq : ∀ z' w, ss_MP V z' a st (nI (cd_tx st t)) va → ss_fr (ss_mc a) z z' → (∀ q, ss_lx st t = some q → w = q.2.2.1) → Qr (some (.int w)) z') : ss_C V l (d + 1) mM_start 0 0 [.ref a, .int t] z Qr Qx := by
  have hP := cM_place (d := d) hst hsm h t
  obtain ⟨fo, fK, fT, fW, fE, fY, fN, fS, fC, fA, fB, fD, h1, h2, h3⟩ := h
  refine ss_C.of hst rfl (by decide) (Nat.le_of_ble_eq_true rfl) ?_
  have hx := ss_ix_nn (o := ss_lt st t) ss_lt31
  refine sg_aload_n kM_start_0 rfl ?_
  refine sg_aload_n kM_start_1 rfl ?_
  refine sg_iload_n kM_start_2 rfl ?_
  refine sg_fV (As := [.int t]) (rest := [.ref a]) hP vl_M_49 kM_start_3 h1.go rfl (Nat.le_of_ble_eq_true rfl) ⟨Nat.le_refl _, by show 8 + (3 + 11) + (30 * d + 60) ≤ 30 * (d + 1) + 60; omega⟩ ⟨Nat.le_refl _, Nat.le_refl _⟩ ?_
  refine sg_if_ge 13 kM_start_6 (by decide) (fun hb => ?_) (fun hb => ?_)
  · rw [hx] at hb
    obtain ⟨i, hi⟩ := Option.ne_none_iff_exists'.mp hb
    obtain ⟨hi6, x, hx1, hx2⟩ := ss_lx_some hi
    have hc0 : cd_tx st t = 0 := by
      unfold cd_tx
      rw [hx2]
    rw [hc0] at hq
    have hm := h3 i hi6
    rw [hx1] at hm
    refine sg_iconst (v := 0) kM_start_13 (by decide) ?_
    refine sg_put fl_M_45 kM_start_14 h1.go rfl rfl rfl (Nat.le_of_ble_eq_true rfl) (fun z1 u1 => ?_)
    have h1 := h1.obj u1
    have hM : ss_MP V z1 a st 0 va := ⟨_, _, _, _, _, _, _, _, _, _, _, _, h1, h2, h3⟩
    have hP := cM_place (d := d) hst hsm hM t
    rw [hi] at hP
    refine sg_aload_n kM_start_17 rfl ?_
    refine sg_get fl_M_45 kM_start_18 h1.go rfl ?_
    refine sg_if_ne 37 kM_start_21 (by decide) (fun hc => ?_) (fun hc => ?_)
    · exact absurd rfl hc
    · refine sg_aload_n kM_start_24 rfl ?_
      refine sg_get fl_M_30 kM_start_25 h1.go rfl ?_
      refine sg_aload_n kM_start_28 rfl ?_
      refine sg_iload_n kM_start_29 rfl ?_
      refine sg_fV (As := [.int t]) (rest := [.ref (a + 7)]) hP vl_M_49 kM_start_30 h1.go rfl (Nat.le_of_ble_eq_true rfl) ⟨Nat.le_refl _, by show 8 + (3 + 11) + (30 * d + 60) ≤ 30 * (d + 1) + 60; omega⟩ ⟨Nat.le_refl _, Nat.le_refl _⟩ ?_
      refine sg_iald kM_start_33 h1.gS (by omega) (by omega) ?_
      refine sg_goto 38 kM_start_34 (by decide) ?_
      refine sg_iret kM_start_38 rfl rfl (hq z1 _ hM (u1.fr ⟨by omega, by omega⟩) (fun q hq => ?_)) (Nat.le_refl _) (Nat.le_refl _)
      rw [hx2] at hq
      cases hq
      exact hm.2.1
  · rw [hx] at hb
    have hn := Decidable.not_not.mp hb
    rw [ss_lx_nl hn] at hq
    refine sg_iconst (v := 1) kM_start_9 (by decide) ?_
    refine sg_goto 14 kM_start_10 (by decide) ?_
    refine sg_put fl_M_45 kM_start_14 h1.go rfl rfl rfl (Nat.le_of_ble_eq_true rfl) (fun z1 u1 => ?_)
    have h1 := h1.obj u1
    refine sg_aload_n kM_start_17 rfl ?_
    refine sg_get fl_M_45 kM_start_18 h1.go rfl ?_
    refine sg_if_ne 37 kM_start_21 (by decide) (fun hc => ?_) (fun hc => ?_)
    · refine sg_iconst (v := 0) kM_start_37 (by decide) ?_
      exact sg_iret kM_start_38 rfl rfl (hq z1 _ ⟨_, _, _, _, _, _, _, _, _, _, _, _, h1, h2, h3⟩ (u1.fr ⟨by omega, by omega⟩) (fun q hq => by rw [ss_lx_none hn] at hq; cases hq)) (Nat.le_refl _) (Nat.le_refl _)
    · exact absurd hc (by decide)
set_option maxRecDepth 100000 in
theorem cM_mark (hst : l.stackTraces = false) (hsm : ss_sm st) (h : ss_MP V z a st th va) (t : Int32) (hq : ∀ z' w, ss_MP V z' a st (nI (cd_tx st t)) va → ss_fr (ss_mc a) z z' → (∀ q, ss_lx st t = some q → w = nI q.2.2.2.length) → Qr (some (.int w)) z') : ss_C V l (d + 1) mM_mark 0 0 [.ref a, .int t] z Qr Qx := by
  have hP := cM_place (d := d) hst hsm h t
  obtain ⟨fo, fK, fT, fW, fE, fY, fN, fS, fC, fA, fB, fD, h1, h2, h3⟩ := h
  refine ss_C.of hst rfl (by decide) (Nat.le_of_ble_eq_true rfl) ?_
  have hx := ss_ix_nn (o := ss_lt st t) ss_lt31
  refine sg_aload_n kM_mark_0 rfl ?_
  refine sg_aload_n kM_mark_1 rfl ?_
  refine sg_iload_n kM_mark_2 rfl ?_
  refine sg_fV (As := [.int t]) (rest := [.ref a]) hP vl_M_49 kM_mark_3 h1.go rfl (Nat.le_of_ble_eq_true rfl) ⟨Nat.le_refl _, by show 8 + (3 + 11) + (30 * d + 60) ≤ 30 * (d + 1) + 60; omega⟩ ⟨Nat.le_refl _, Nat.le_refl _⟩ ?_
  refine sg_if_ge 13 kM_mark_6 (by decide) (fun hb => ?_) (fun hb => ?_)
  · rw [hx] at hb
    obtain ⟨i, hi⟩ := Option.ne_none_iff_exists'.mp hb
    obtain ⟨hi6, x, hx1, hx2⟩ := ss_lx_some hi
    have hc0 : cd_tx st t = 0 := by
      unfold cd_tx
      rw [hx2]
    rw [hc0] at hq
    have hm := h3 i hi6
    rw [hx1] at hm
    refine sg_iconst (v := 0) kM_mark_13 (by decide) ?_
    refine sg_put fl_M_45 kM_mark_14 h1.go rfl rfl rfl (Nat.le_of_ble_eq_true rfl) (fun z1 u1 => ?_)
    have h1 := h1.obj u1
    have hM : ss_MP V z1 a st 0 va := ⟨_, _, _, _, _, _, _, _, _, _, _, _, h1, h2, h3⟩
    have hP := cM_place (d := d) hst hsm hM t
    rw [hi] at hP
    refine sg_aload_n kM_mark_17 rfl ?_
    refine sg_get fl_M_45 kM_mark_18 h1.go rfl ?_
    refine sg_if_ne 37 kM_mark_21 (by decide) (fun hc => ?_) (fun hc => ?_)
    · exact absurd rfl hc
    · refine sg_aload_n kM_mark_24 rfl ?_
      refine sg_get fl_M_33 kM_mark_25 h1.go rfl ?_
      refine sg_aload_n kM_mark_28 rfl ?_
      refine sg_iload_n kM_mark_29 rfl ?_
      refine sg_fV (As := [.int t]) (rest := [.ref (a + 8)]) hP vl_M_49 kM_mark_30 h1.go rfl (Nat.le_of_ble_eq_true rfl) ⟨Nat.le_refl _, by show 8 + (3 + 11) + (30 * d + 60) ≤ 30 * (d + 1) + 60; omega⟩ ⟨Nat.le_refl _, Nat.le_refl _⟩ ?_
      refine sg_iald kM_mark_33 h1.gC (by omega) (by omega) ?_
      refine sg_goto 38 kM_mark_34 (by decide) ?_
      refine sg_iret kM_mark_38 rfl rfl (hq z1 _ hM (u1.fr ⟨by omega, by omega⟩) (fun q hq => ?_)) (Nat.le_refl _) (Nat.le_refl _)
      rw [hx2] at hq
      cases hq
      exact hm.2.2.1
  · rw [hx] at hb
    have hn := Decidable.not_not.mp hb
    rw [ss_lx_nl hn] at hq
    refine sg_iconst (v := 1) kM_mark_9 (by decide) ?_
    refine sg_goto 14 kM_mark_10 (by decide) ?_
    refine sg_put fl_M_45 kM_mark_14 h1.go rfl rfl rfl (Nat.le_of_ble_eq_true rfl) (fun z1 u1 => ?_)
    have h1 := h1.obj u1
    refine sg_aload_n kM_mark_17 rfl ?_
    refine sg_get fl_M_45 kM_mark_18 h1.go rfl ?_
    refine sg_if_ne 37 kM_mark_21 (by decide) (fun hc => ?_) (fun hc => ?_)
    · refine sg_iconst (v := 0) kM_mark_37 (by decide) ?_
      exact sg_iret kM_mark_38 rfl rfl (hq z1 _ ⟨_, _, _, _, _, _, _, _, _, _, _, _, h1, h2, h3⟩ (u1.fr ⟨by omega, by omega⟩) (fun q hq => by rw [ss_lx_none hn] at hq; cases hq)) (Nat.le_refl _) (Nat.le_refl _)
    · exact absurd hc (by decide)
end SSP
