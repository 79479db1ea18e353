/-! The reference: commit and vacuum. -/
section SSBB
variable {V : ss_V} {l : Launch} {z : ss_Z} {d a : Nat} {st : ss_St} {th : Int32} {va : Int64} {Qr : Option Value → ss_Z → Prop} {Qx : String → ss_Z → Prop}
/-- p holds nowhere from a on, m places -/
def ss_al (p : Nat → Bool) (a : Nat) : Nat → Bool
  | 0 => true
  | m + 1 => ss_al p a m && !(p (a + m))
theorem ss_al_iff {p : Nat → Bool} {a : Nat} : ∀ {m : Nat}, ss_al p a m = true ↔ ∀ c, a ≤ c → c < a + m → p c = false := by
  intro m
  induction m with
  | zero => exact ⟨fun _ c h1 h2 => by omega, fun _ => rfl⟩
  | succ m ih =>
    unfold ss_al
    rw [Bool.and_eq_true, ih]
    constructor
    · rintro ⟨h1, h2⟩ c h3 h4
      by_cases hc : c = a + m
      · subst hc
        simpa using h2
      · exact h1 c h3 (by omega)
    · intro h
      refine ⟨fun c h3 h4 => h c h3 (by omega), ?_⟩
      rw [h (a + m) (by omega) (by omega)]
      rfl
theorem ss_isl_al {ws : List ss_Wr} {j : Nat} (hj : j < ws.length) : ss_isl ws j = ss_al (ss_hit (ss_pk ws[j].1) ws) (j + 1) (ws.length - (j + 1)) := by
  have hg := List.getElem?_eq_getElem hj
  unfold ss_isl
  rw [hg]
  show decide _ = _
  rw [Bool.eq_iff_iff, decide_eq_true_eq, ss_al_iff, ss_li_iff hg]
  constructor
  · rintro ⟨h1, h2⟩ c h3 h4
    have hc := List.getElem?_eq_getElem (show c < ws.length by omega)
    rw [ss_hit_some hc]
    exact h2 c _ (by omega) hc
  · intro h
    refine ⟨by unfold ss_pk; exact decide_eq_true rfl, fun c y h3 h4 => ?_⟩
    have hl := (List.getElem?_eq_some_iff.mp h4).1
    rw [← ss_hit_some (p := ss_pk ws[j].1) h4]
    exact h c (by omega) (by omega)
set_option maxRecDepth 100000 in
theorem cM_latest (hst : l.stackTraces = false) (h : ss_MP V z a st th va) {i : Nat} (hi : i < 6) {x : ss_Tx} (ho : st.2.2.2.2 i = some x) {j : Nat} (hj : j < x.2.2.length) : ss_F V l d mM_latest [.ref a, .int (nI i), .int (nI (12 * i + j))] z (.int (ss_b (ss_isl x.2.2 j))) := by
  intro Qr Qx hq
  obtain ⟨fo, fK, fT, fW, fE, fY, fN, fS, fC, fA, fB, fD, h1, h2, h3⟩ := h
  have hm := h3 i hi
  rw [ho] at hm
  obtain ⟨m1, m2, m3, m4, m5⟩ := hm
  have hgj := List.getElem?_eq_getElem hj
  have kj := (m5 j _ hgj).1
  rw [ss_isl_al hj] at hq
  refine ss_C.of hst rfl (by decide) (Nat.le_of_ble_eq_true rfl) ?_
  have hmul : (12 : Int32) * nI i = nI (12 * i) := pk_mul 12 i
  have loop : ∀ m c, j + 1 + c + m = x.2.2.length → ss_G V l mM_latest (ss_rm d 0 0) (ss_Q V Qr Qx 0 0) 7 [(4, .int (nI (12 * i + (j + 1 + c)))), (3, .int (ss_b (ss_al (ss_hit (ss_pk x.2.2[j].1) x.2.2) (j + 1) c))), (0, .ref a), (1, .int (nI i)), (2, .int (nI (12 * i + j)))] [] z 0 0 := by
    intro m
    induction m with
    | zero =>
      intro c hc
      have hc : c = x.2.2.length - (j + 1) := by omega
      subst hc
      refine sg_iload kM_latest_7 rfl ?_
      refine sg_bipush (v := 12) kM_latest_9 (by decide) ?_
      refine sg_iload_n kM_latest_11 rfl ?_
      refine sg_imul kM_latest_12 ?_
      refine sg_i hmul ?_
      refine sg_aload_n kM_latest_13 rfl ?_
      refine sg_get fl_M_33 kM_latest_14 h1.go rfl ?_
      refine sg_iload_n kM_latest_17 rfl ?_
      refine sg_iald kM_latest_18 h1.gC (by omega) (by omega) ?_
      rw [m3]
      refine sg_iadd kM_latest_19 ?_
      refine sg_i (nI_add _ _) ?_
      refine sg_icmp_ge 55 kM_latest_20 (by decide) (fun hb => ?_) (fun hb => ?_)
      · refine sg_iload_n kM_latest_55 rfl ?_
        refine sg_iret kM_latest_56 rfl ?_ hq (Nat.le_refl _) (Nat.le_refl _)
        cases (ss_al (ss_hit (ss_pk x.2.2[j].1) x.2.2) (j + 1) (x.2.2.length - (j + 1))) <;> rfl
      · exact absurd (nI_le (by omega) (by omega)) hb
    | succ m ih =>
      intro c hc
      have hcl : j + 1 + c < x.2.2.length := by omega
      have hg := List.getElem?_eq_getElem hcl
      have kc := (m5 _ _ hg).1
      have hs : ss_al (ss_hit (ss_pk x.2.2[j].1) x.2.2) (j + 1) (c + 1) = (ss_al (ss_hit (ss_pk x.2.2[j].1) x.2.2) (j + 1) c && !(ss_hit (ss_pk x.2.2[j].1) x.2.2 (j + 1 + c))) := rfl
      rw [ss_hit_some hg] at hs
      have back : ∀ w : Int32, w = ss_b (ss_al (ss_hit (ss_pk x.2.2[j].1) x.2.2) (j + 1) (c + 1)) → ∀ w0 : Int32, ss_G V l mM_latest (ss_rm d 0 0) (ss_Q V Qr Qx 0 0) 48 [(4, .int (nI (12 * i + (j + 1 + c)))), (3, .int w0), (0, .ref a), (1, .int (nI i)), (2, .int (nI (12 * i + j)))] [.int w] z 0 0 := by
        intro w hw w0
        refine sg_istore_n kM_latest_48 (by decide) ?_
        refine sg_iinc kM_latest_49 rfl (ss_inc _) (by decide) ?_
        refine sg_goto 7 kM_latest_52 (by decide) ?_
        refine sg_lw (ih (c + 1) (by omega)) ⟨rfl, ?_, rfl, rfl, rfl, trivial⟩
        rw [← hw]
        rfl
      refine sg_iload kM_latest_7 rfl ?_
      refine sg_bipush (v := 12) kM_latest_9 (by decide) ?_
      refine sg_iload_n kM_latest_11 rfl ?_
      refine sg_imul kM_latest_12 ?_
      refine sg_i hmul ?_
      refine sg_aload_n kM_latest_13 rfl ?_
      refine sg_get fl_M_33 kM_latest_14 h1.go rfl ?_
      refine sg_iload_n kM_latest_17 rfl ?_
      refine sg_iald kM_latest_18 h1.gC (by omega) (by omega) ?_
      rw [m3]
      refine sg_iadd kM_latest_19 ?_
      refine sg_i (nI_add _ _) ?_
      refine sg_icmp_ge 55 kM_latest_20 (by decide) (fun hb => ?_) (fun hb => ?_)
      · exact absurd hb (nI_ge (by omega) (by omega))
      · refine sg_iload_n kM_latest_23 rfl ?_
        refine sg_if_eq 47 kM_latest_24 (by decide) (fun he => ?_) (fun he => ?_)
        · rw [ss_b0] at he
          refine sg_iconst (v := 0) kM_latest_47 (by decide) ?_
          refine back 0 ?_ _
          rw [hs, he]
          rfl
        · rw [ss_b1] at he
          refine sg_aload_n kM_latest_27 rfl ?_
          refine sg_get fl_M_36 kM_latest_28 h1.go rfl ?_
          refine sg_iload kM_latest_31 rfl ?_
          refine sg_iald kM_latest_33 h1.gA (by omega) (by omega) ?_
          refine sg_aload_n kM_latest_34 rfl ?_
          refine sg_get fl_M_36 kM_latest_35 h1.go rfl ?_
          refine sg_iload_n kM_latest_38 rfl ?_
          refine sg_iald kM_latest_39 h1.gA (by omega) (by omega) ?_
          rw [kc, kj]
          refine sg_icmp_eq 47 kM_latest_40 (by decide) (fun hf => ?_) (fun hf => ?_)
          · refine sg_iconst (v := 0) kM_latest_47 (by decide) ?_
            refine back 0 ?_ _
            rw [hs, he]
            unfold ss_pk
            rw [decide_eq_true hf]
            rfl
          · refine sg_iconst (v := 1) kM_latest_43 (by decide) ?_
            refine sg_goto 48 kM_latest_44 (by decide) ?_
            refine back 1 ?_ _
            rw [hs, he]
            unfold ss_pk
            rw [decide_eq_false hf]
            rfl
  refine sg_iconst (v := 1) kM_latest_0 (by decide) ?_
  refine sg_istore_n kM_latest_1 (by decide) ?_
  refine sg_iload_n kM_latest_2 rfl ?_
  refine sg_iconst (v := 1) kM_latest_3 (by decide) ?_
  refine sg_iadd kM_latest_4 ?_
  refine sg_i (nI_1 _) ?_
  refine sg_istore kM_latest_5 (by decide) ?_
  exact sg_lw (loop (x.2.2.length - (j + 1)) 0 (by omega)) ⟨rfl, rfl, rfl, rfl, rfl, trivial⟩
def ss_ex (p : Nat → Bool) : Nat → Bool
  | 0 => false
  | n + 1 => ss_ex p n || p n
theorem ss_ex_iff {p : Nat → Bool} : ∀ {n : Nat}, ss_ex p n = true ↔ ∃ i, i < n ∧ p i = true := by
  intro n
  induction n with
  | zero => exact ⟨fun h => (by cases h), fun ⟨i, h, _⟩ => (by omega)⟩
  | succ n ih =>
    unfold ss_ex
    rw [Bool.or_eq_true, ih]
    constructor
    · rintro (⟨i, h1, h2⟩ | h)
      · exact ⟨i, by omega, h2⟩
      · exact ⟨n, by omega, h⟩
    · rintro ⟨i, h1, h2⟩
      by_cases hi : i = n
      · subst hi; exact Or.inr h2
      · exact Or.inl ⟨i, by omega, h2⟩
/-- does version e stand against a write of key wk? -/
def ss_cf (x : ss_Tx) (wk : Int32) (e : ss_Ent) : Bool := decide (e.1 = wk) && decide (x.2.1 < e.2.1)
def ss_cw (S : List ss_Ent) (x : ss_Tx) (w : ss_Wr) : Bool := ss_ex (ss_hit (ss_cf x w.1) S) S.length
theorem ss_first_ex {p : Nat → Bool} {n : Nat} : (ss_first p 0 n).isSome = ss_ex p n := by
  rw [Bool.eq_iff_iff, ss_ex_iff]
  cases h : ss_first p 0 n with
  | none =>
    have hn := ss_first_none.mp h
    constructor
    · intro q; cases q
    · rintro ⟨i, h1, h2⟩
      rw [hn i (Nat.zero_le _) (by omega)] at h2
      cases h2
  | some j =>
    obtain ⟨-, h2, h3⟩ := ss_first_some h
    exact ⟨fun _ => ⟨j, by omega, h3⟩, fun _ => rfl⟩
theorem ss_ou_cw (S : List ss_Ent) (x : ss_Tx) : ss_ou S x = ss_ex (ss_hit (ss_cw S x) x.2.2) x.2.2.length := by
  unfold ss_ou
  rw [ss_first_ex, Bool.eq_iff_iff, ss_ex_iff, ss_ex_iff]
  constructor
  · rintro ⟨i, h1, h2⟩
    have hg := List.getElem?_eq_getElem h1
    rw [ss_hit_some hg] at h2
    unfold ss_op at h2
    rw [Bool.and_eq_true, decide_eq_true_eq, decide_eq_true_eq] at h2
    obtain ⟨h2, h3⟩ := h2
    obtain ⟨j, hj⟩ := Option.ne_none_iff_exists'.mp h3
    obtain ⟨w, hw1, hw2, -⟩ := ss_li_some hj
    have hjl := (List.getElem?_eq_some_iff.mp hw1).1
    refine ⟨j, hjl, ?_⟩
    rw [ss_hit_some hw1]
    unfold ss_cw
    rw [ss_ex_iff]
    refine ⟨i, h1, ?_⟩
    rw [ss_hit_some hg]
    unfold ss_cf
    unfold ss_pk at hw2
    rw [decide_eq_true (of_decide_eq_true hw2).symm, decide_eq_true h2]
    rfl
  · rintro ⟨j, h1, h2⟩
    have hg := List.getElem?_eq_getElem h1
    rw [ss_hit_some hg] at h2
    unfold ss_cw at h2
    rw [ss_ex_iff] at h2
    obtain ⟨i, h3, h4⟩ := h2
    have hgi := List.getElem?_eq_getElem h3
    rw [ss_hit_some hgi] at h4
    unfold ss_cf at h4
    rw [Bool.and_eq_true, decide_eq_true_eq, decide_eq_true_eq] at h4
    refine ⟨i, h3, ?_⟩
    rw [ss_hit_some hgi]
    unfold ss_op
    rw [decide_eq_true h4.2, Bool.true_and]
    refine decide_eq_true (fun q => ?_)
    have := ss_li_none q j _ hg
    unfold ss_pk at this
    exact absurd h4.1.symm (of_decide_eq_false this)
set_option maxRecDepth 100000 in
theorem cM_conflicts (hst : l.stackTraces = false) (hsm : ss_sm st) (h : ss_MP V z a st th va) {i : Nat} (hi : i < 6) {x : ss_Tx} (ho : st.2.2.2.2 i = some x) : ss_F V l d mM_conflicts [.ref a, .int (nI i)] z (.int (ss_b (ss_ou st.2.2.2.1 x))) := by
  intro Qr Qx hq
  obtain ⟨fo, fK, fT, fW, fE, fY, fN, fS, fC, fA, fB, fD, h1, h2, h3⟩ := h
  have hlen := hsm.2.1
  have hm := h3 i hi
  rw [ho] at hm
  obtain ⟨m1, m2, m3, m4, m5⟩ := hm
  rw [ss_ou_cw] at hq
  refine ss_C.of hst rfl (by decide) (Nat.le_of_ble_eq_true rfl) ?_
  have hmul : (12 : Int32) * nI i = nI (12 * i) := pk_mul 12 i
  have loop : ∀ m j, j + m = x.2.2.length → ∀ w0 : Int32, ss_G V l mM_conflicts (ss_rm d 0 0) (ss_Q V Qr Qx 0 0) 7 [(3, .int (nI (12 * i + j))), (2, .int (ss_b (ss_ex (ss_hit (ss_cw st.2.2.2.1 x) x.2.2) j))), (0, .ref a), (1, .int (nI i))] [] z 0 0 := by
    intro m
    induction m with
    | zero =>
      intro j hj _
      have hj : j = x.2.2.length := by omega
      subst hj
      refine sg_iload_n kM_conflicts_7 rfl ?_
      refine sg_bipush (v := 12) kM_conflicts_8 (by decide) ?_
      refine sg_iload_n kM_conflicts_10 rfl ?_
      refine sg_imul kM_conflicts_11 ?_
      refine sg_i hmul ?_
      refine sg_aload_n kM_conflicts_12 rfl ?_
      refine sg_get fl_M_33 kM_conflicts_13 h1.go rfl ?_
      refine sg_iload_n kM_conflicts_16 rfl ?_
      refine sg_iald kM_conflicts_17 h1.gC (by omega) (by omega) ?_
      rw [m3]
      refine sg_iadd kM_conflicts_18 ?_
      refine sg_i (nI_add _ _) ?_
      refine sg_icmp_ge 88 kM_conflicts_19 (by decide) (fun hb => ?_) (fun hb => ?_)
      · refine sg_iload_n kM_conflicts_88 rfl ?_
        refine sg_iret kM_conflicts_89 rfl ?_ hq (Nat.le_refl _) (Nat.le_refl _)
        cases (ss_ex (ss_hit (ss_cw st.2.2.2.1 x) x.2.2) x.2.2.length) <;> rfl
      · exact absurd (nI_le (Nat.le_refl _) (by omega)) hb
    | succ m ih =>
      intro j hj _
      have hj2 : j < x.2.2.length := by omega
      have hg := List.getElem?_eq_getElem hj2
      have kj := (m5 j _ hg).1
      have hs : ss_ex (ss_hit (ss_cw st.2.2.2.1 x) x.2.2) (j + 1) = (ss_ex (ss_hit (ss_cw st.2.2.2.1 x) x.2.2) j || ss_hit (ss_cw st.2.2.2.1 x) x.2.2 j) := rfl
      rw [ss_hit_some hg] at hs
      have inner : ∀ p c, c + p = st.2.2.2.1.length → ss_G V l mM_conflicts (ss_rm d 0 0) (ss_Q V Qr Qx 0 0) 25 [(4, .int (nI c)), (2, .int (ss_b (ss_ex (ss_hit (ss_cw st.2.2.2.1 x) x.2.2) j || ss_ex (ss_hit (ss_cf x x.2.2[j].1) st.2.2.2.1) c))), (3, .int (nI (12 * i + j))), (0, .ref a), (1, .int (nI i))] [] z 0 0 := by
        intro p
        induction p with
        | zero =>
          intro c hc
          have hc : c = st.2.2.2.1.length := by omega
          subst hc
          refine sg_iload kM_conflicts_25 rfl ?_
          refine sg_aload_n kM_conflicts_27 rfl ?_
          refine sg_get fl_M_73 kM_conflicts_28 h1.go rfl ?_
          refine sg_icmp_ge 82 kM_conflicts_31 (by decide) (fun hb => ?_) (fun hb => ?_)
          · refine sg_iinc kM_conflicts_82 rfl (ss_inc _) (by decide) ?_
            refine sg_goto 7 kM_conflicts_85 (by decide) ?_
            refine sg_lw (ih (j + 1) (by omega) 0) ⟨rfl, ?_, rfl, rfl, trivial⟩
            rw [hs]
            rfl
          · exact absurd (nI_le (Nat.le_refl _) (by omega)) hb
        | succ p ihp =>
          intro c hc
          have hc2 : c < st.2.2.2.1.length := by omega
          have hgc := List.getElem?_eq_getElem hc2
          obtain ⟨e1, e2, -, -⟩ := h2 c _ hgc
          have hs2 : ss_ex (ss_hit (ss_cf x x.2.2[j].1) st.2.2.2.1) (c + 1) = (ss_ex (ss_hit (ss_cf x x.2.2[j].1) st.2.2.2.1) c || ss_hit (ss_cf x x.2.2[j].1) st.2.2.2.1 c) := rfl
          rw [ss_hit_some hgc] at hs2
          have hcv : ss_cf x x.2.2[j].1 st.2.2.2.1[c] = (decide (st.2.2.2.1[c].1 = x.2.2[j].1) && decide (x.2.1 < st.2.2.2.1[c].2.1)) := rfl
          have back : ∀ w : Int32, w = ss_b (ss_ex (ss_hit (ss_cw st.2.2.2.1 x) x.2.2) j || ss_ex (ss_hit (ss_cf x x.2.2[j].1) st.2.2.2.1) (c + 1)) → ∀ w0 : Int32, ss_G V l mM_conflicts (ss_rm d 0 0) (ss_Q V Qr Qx 0 0) 75 [(4, .int (nI c)), (2, .int w0), (3, .int (nI (12 * i + j))), (0, .ref a), (1, .int (nI i))] [.int w] z 0 0 := by
            intro w hw w0
            refine sg_istore_n kM_conflicts_75 (by decide) ?_
            refine sg_iinc kM_conflicts_76 rfl (ss_inc _) (by decide) ?_
            refine sg_goto 25 kM_conflicts_79 (by decide) ?_
            refine sg_lw (ihp (c + 1) (by omega)) ⟨rfl, ?_, rfl, rfl, rfl, trivial⟩
            rw [← hw]
            rfl
          refine sg_iload kM_conflicts_25 rfl ?_
          refine sg_aload_n kM_conflicts_27 rfl ?_
          refine sg_get fl_M_73 kM_conflicts_28 h1.go rfl ?_
          refine sg_icmp_ge 82 kM_conflicts_31 (by decide) (fun hb => ?_) (fun hb => ?_)
          · exact absurd hb (nI_ge (by omega) (by omega))
          · refine sg_iload_n kM_conflicts_34 rfl ?_
            refine sg_if_ne 70 kM_conflicts_35 (by decide) (fun he => ?_) (fun he => ?_)
            · rw [ss_b1] at he
              refine sg_iconst (v := 1) kM_conflicts_70 (by decide) ?_
              refine sg_goto 75 kM_conflicts_71 (by decide) ?_
              refine back 1 ?_ _
              rw [hs2, ← Bool.or_assoc, he]
              rfl
            · rw [ss_b0] at he
              refine sg_aload_n kM_conflicts_38 rfl ?_
              refine sg_get fl_M_7 kM_conflicts_39 h1.go rfl ?_
              refine sg_iload kM_conflicts_42 rfl ?_
              refine sg_iald kM_conflicts_44 h1.gK (by omega) (by omega) ?_
              refine sg_aload_n kM_conflicts_45 rfl ?_
              refine sg_get fl_M_36 kM_conflicts_46 h1.go rfl ?_
              refine sg_iload_n kM_conflicts_49 rfl ?_
              refine sg_iald kM_conflicts_50 h1.gA (by omega) (by omega) ?_
              rw [e1, kj]
              refine sg_icmp_ne 74 kM_conflicts_51 (by decide) (fun hf => ?_) (fun hf => ?_)
              · refine sg_iconst (v := 0) kM_conflicts_74 (by decide) ?_
                refine back 0 ?_ _
                rw [hs2, hcv, ← Bool.or_assoc, he, decide_eq_false hf]
                rfl
              · refine sg_aload_n kM_conflicts_54 rfl ?_
                refine sg_get fl_M_13 kM_conflicts_55 h1.go rfl ?_
                refine sg_iload kM_conflicts_58 rfl ?_
                refine sg_iald kM_conflicts_60 h1.gT (by omega) (by omega) ?_
                refine sg_aload_n kM_conflicts_61 rfl ?_
                refine sg_get fl_M_30 kM_conflicts_62 h1.go rfl ?_
                refine sg_iload_n kM_conflicts_65 rfl ?_
                refine sg_iald kM_conflicts_66 h1.gS (by omega) (by omega) ?_
                rw [e2, m2]
                refine sg_icmp_le 74 kM_conflicts_67 (by decide) (fun hd9 => ?_) (fun hd9 => ?_)
                · refine sg_iconst (v := 0) kM_conflicts_74 (by decide) ?_
                  refine back 0 ?_ _
                  rw [hs2, hcv, ← Bool.or_assoc, he, decide_eq_true hf, decide_eq_false (Int32.not_lt.mpr hd9)]
                  rfl
                · refine sg_iconst (v := 1) kM_conflicts_70 (by decide) ?_
                  refine sg_goto 75 kM_conflicts_71 (by decide) ?_
                  refine back 1 ?_ _
                  rw [hs2, hcv, ← Bool.or_assoc, he, decide_eq_true hf, decide_eq_true (Int32.not_le.mp hd9)]
                  rfl
      refine sg_iload_n kM_conflicts_7 rfl ?_
      refine sg_bipush (v := 12) kM_conflicts_8 (by decide) ?_
      refine sg_iload_n kM_conflicts_10 rfl ?_
      refine sg_imul kM_conflicts_11 ?_
      refine sg_i hmul ?_
      refine sg_aload_n kM_conflicts_12 rfl ?_
      refine sg_get fl_M_33 kM_conflicts_13 h1.go rfl ?_
      refine sg_iload_n kM_conflicts_16 rfl ?_
      refine sg_iald kM_conflicts_17 h1.gC (by omega) (by omega) ?_
      rw [m3]
      refine sg_iadd kM_conflicts_18 ?_
      refine sg_i (nI_add _ _) ?_
      refine sg_icmp_ge 88 kM_conflicts_19 (by decide) (fun hb => ?_) (fun hb => ?_)
      · exact absurd hb (nI_ge (by omega) (by omega))
      · refine sg_iconst (v := 0) kM_conflicts_22 (by decide) ?_
        refine sg_istore kM_conflicts_23 (by decide) ?_
        refine sg_lw (inner st.2.2.2.1.length 0 (by omega)) ⟨rfl, ?_, rfl, rfl, rfl, trivial⟩
        show _ = some (Value.int (ss_b (_ || false)))
        rw [Bool.or_false]
        rfl
  refine sg_iconst (v := 0) kM_conflicts_0 (by decide) ?_
  refine sg_istore_n kM_conflicts_1 (by decide) ?_
  refine sg_bipush (v := 12) kM_conflicts_2 (by decide) ?_
  refine sg_iload_n kM_conflicts_4 rfl ?_
  refine sg_imul kM_conflicts_5 ?_
  refine sg_i hmul ?_
  refine sg_istore_n kM_conflicts_6 (by decide) ?_
  exact sg_lw (loop x.2.2.length 0 (by omega) 0) ⟨rfl, rfl, rfl, rfl, trivial⟩
theorem ss_isl_last {ws : List ss_Wr} (h : 0 < ws.length) : 0 < ss_cnt (ss_isl ws) ws.length := by
  obtain ⟨m, hm⟩ : ∃ m, ws.length = m + 1 := ⟨ws.length - 1, by omega⟩
  have hi : ss_isl ws m = true := by
    rw [ss_isl_al (show m < ws.length by omega), ss_al_iff]
    intro c h1 h2
    omega
  rw [hm]
  show 0 < ss_cnt (ss_isl ws) m + (if ss_isl ws m = true then 1 else 0)
  rw [if_pos hi]
  omega
end SSBB
