/-! SnapshotShelves: beginnings, commit, vacuum. -/
section SSV
variable {V : ss_V} {l : Launch} {z : ss_Z} {d b : Nat} {st : ss_St} {Qr : Option Value → ss_Z → Prop} {Qx : String → ss_Z → Prop}
/-- the object's own numbers change -/
theorem ss_XP.setO {z' : ss_Z} (h : ss_XP V z b st) {now sw : Int32} {bg : Nat} (u : ss_upd z b (.inr (2, [.ref (b + 1), .ref (b + 6), .int now, .int sw, .int (nI bg)])) z') : ss_XP V z' b (now, sw, bg, st.2.2.2.1, st.2.2.2.2) := by
  obtain ⟨h1, h2, ⟨g, h3, h4⟩, h5⟩ := h
  have f : ss_fr (fun q => q = b) z z' := u.fr rfl
  exact ⟨u.at h1, h2.fr f (fun q hq hr => by have := hr.1; omega), ⟨g, u.ne h3 (by omega), h4⟩, fun i hi => (h5 i hi).fr f (fun q hq hr => by have := hr.1; unfold ss_ad at this; omega)⟩
/-- the shelf changes -/
theorem ss_XP.setS {z' : ss_Z} (h : ss_XP V z b st) {S : List ss_Ent} (f : ss_fr (ss_rcell (b + 1)) z z') (hr : ss_row V z' (b + 1) 48 S) : ss_XP V z' b (st.1, st.2.1, st.2.2.1, S, st.2.2.2.2) := by
  obtain ⟨h1, h2, ⟨g, h3, h4⟩, h5⟩ := h
  exact ⟨f.at h1 (fun q => by have := q.1; omega), hr, ⟨g, f.at h3 (fun q => by have := q.2; omega), h4⟩, fun i hi => (h5 i hi).fr f (fun q hq hr => by have h6 := hr.1; have := hq.2; unfold ss_ad at h6; omega)⟩
set_option maxRecDepth 100000 in
theorem cS_enter (hst : l.stackTraces = false) (hd : 5 < d + 1) (h : ss_XP V z b st) (t : Int32) (hr : ∀ i, ss_free st = some i → ∀ z', ss_XP V z' b (nx_begin st t) → ss_fr (ss_xc b) z z' → Qr (some (.int (nI st.2.2.1))) z') (hx : ss_free st = none → Qx sx_U z) : ss_C V l (d + 1) mS_enter 1 6 [.ref b, .int t] z Qr Qx := by
  have hX := h
  obtain ⟨h0, -, ⟨g, h3, h4⟩, h5⟩ := h
  refine ss_C.of hst rfl (by decide) (Nat.le_of_ble_eq_true rfl) ?_
  have loop : ∀ m i, i + m = 6 → ss_free st = ss_first (fun i => !(ss_lv st i)) i m → ss_G V l mS_enter (ss_rm (d + 1) 1 6) (ss_Q V Qr Qx 1 6) 2 [(2, .int (nI i)), (0, .ref b), (1, .int t)] [] z 0 0 := by
    intro m
    induction m with
    | zero =>
      intro i hi hf
      have hi : i = 6 := by omega
      subst hi
      refine sg_iload_n kS_enter_2 rfl ?_
      refine sg_aload_n kS_enter_3 rfl ?_
      refine sg_get fl_S_20 kS_enter_4 h0 rfl ?_
      refine sg_alenT kS_enter_7 h3 ?_
      refine sg_icmp_ge 63 kS_enter_8 (by decide) (fun hb => ?_) (fun hb => ?_)
      · exact sg_throw tl_142 rfl kS_enter_63 kS_enter_66 kS_enter_67 kS_enter_69 kS_enter_72 hd (by decide) (hx hf) (by decide) (by decide)
      · exact absurd (by decide) hb
    | succ m ih =>
      intro i hi hf
      have hi6 : i < 6 := by omega
      obtain ⟨live, num, start, es, g1, g2, g3⟩ := h5 i hi6
      have hlv : live = ss_lv st i := ss_is_live g3
      have g1' : ss_at z (ss_ad b i) (.inr (1, [.ref (ss_ad b i + 1), .int (ss_b live), .int num, .int start])) := g1
      have hf2 : ss_free st = if (!(ss_lv st i)) = true then some i else ss_first (fun i => !(ss_lv st i)) (i + 1) m := hf
      refine sg_iload_n kS_enter_2 rfl ?_
      refine sg_aload_n kS_enter_3 rfl ?_
      refine sg_get fl_S_20 kS_enter_4 h0 rfl ?_
      refine sg_alenT kS_enter_7 h3 ?_
      refine sg_icmp_ge 63 kS_enter_8 (by decide) (fun hb => ?_) (fun hb => ?_)
      · exact absurd hb (nI_ge (by omega) (by omega))
      · refine sg_aload_n kS_enter_11 rfl ?_
        refine sg_get fl_S_20 kS_enter_12 h0 rfl ?_
        refine sg_iload_n kS_enter_15 rfl ?_
        refine sg_aald kS_enter_16 h3 (by omega) (by omega) (h4 i hi6) ?_
        refine sg_get fl_S_89 kS_enter_17 g1' rfl ?_
        refine sg_if_ne 57 kS_enter_20 (by decide) (fun hc => ?_) (fun hc => ?_)
        · rw [ss_b1, hlv] at hc
          refine sg_iinc kS_enter_57 rfl (ss_inc _) (by decide) ?_
          refine sg_goto 2 kS_enter_60 (by decide) ?_
          refine ih (i + 1) (by omega) ?_
          rw [hf2, hc]
          rfl
        · rw [ss_b0, hlv] at hc
          have hfr : ss_free st = some i := by
            rw [hf2, hc]
            rfl
          have hr := hr i hfr
          unfold nx_begin at hr
          rw [hfr] at hr
          refine sg_aload_n kS_enter_23 rfl ?_
          refine sg_get fl_S_20 kS_enter_24 h0 rfl ?_
          refine sg_iload_n kS_enter_27 rfl ?_
          refine sg_aald kS_enter_28 h3 (by omega) (by omega) (h4 i hi6) ?_
          refine sg_aload_n kS_enter_29 rfl ?_
          refine sg_get fl_S_31 kS_enter_30 h0 rfl ?_
          refine sg_iload_n kS_enter_33 rfl ?_
          refine sg_callV (As := [.int (nI st.2.2.1), .int t]) (rest := []) (cT_reopen (d := d) hst (by decide) g1 g2 (nI st.2.2.1) t (Qr := fun w z' => w = none ∧ ss_txo z' (ss_ad b i) true (nI st.2.2.1) t ∧ ss_row V z' (ss_ad b i + 1) 12 [] ∧ ss_fr (ss_tcell (ss_ad b i)) z z') (Qx := fun _ _ => False) (fun z' q1 q2 q3 => ⟨rfl, q1, q2, q3⟩)) vl_S_135 kS_enter_34 g1' rfl (Nat.le_of_ble_eq_true rfl) ⟨Nat.le_refl _, by show 8 + (3 + 11) + (30 * d + 60) ≤ 30 * (d + 1) + 60; omega⟩ ⟨Nat.le_of_ble_eq_true rfl, Nat.le_of_ble_eq_true rfl⟩ (fun _ _ q => q.elim) (fun w z1 hq => ?_)
          obtain ⟨rfl, q1, q2, q3⟩ := hq
          have hX1 := hX.setTx hi6 (o := some (st.2.2.1, t, [])) q3 ⟨true, _, _, _, q1, q2, rfl, rfl, rfl, rfl⟩
          have hX1c := hX1
          obtain ⟨e0, -, ⟨g', e3, e4⟩, -⟩ := hX1c
          have e0 : ss_at z1 b (.inr (2, [.ref (b + 1), .ref (b + 6), .int st.1, .int st.2.1, .int (nI st.2.2.1)])) := e0
          refine sg_aload_n kS_enter_37 rfl ?_
          refine sg_dup kS_enter_38 rfl ?_
          refine sg_get fl_S_31 kS_enter_39 e0 rfl ?_
          refine sg_iconst (v := 1) kS_enter_42 (by decide) ?_
          refine sg_iadd kS_enter_43 ?_
          refine sg_i (nI_1 st.2.2.1) ?_
          refine sg_put fl_S_31 kS_enter_44 e0 rfl rfl rfl (Nat.le_of_ble_eq_true rfl) (fun z2 u2 => ?_)
          have hX2 := hX1.setO u2
          have q1 : ss_at z1 (ss_ad b i) (.inr (1, [.ref (ss_ad b i + 1), .int (ss_b true), .int (nI st.2.2.1), .int t])) := q1
          have q1 := u2.ne q1 (by unfold ss_ad; omega)
          have hX2c := hX2
          obtain ⟨e0, -, ⟨g', e3, e4⟩, -⟩ := hX2c
          refine sg_aload_n kS_enter_47 rfl ?_
          refine sg_get fl_S_20 kS_enter_48 e0 rfl ?_
          refine sg_iload_n kS_enter_51 rfl ?_
          refine sg_aald kS_enter_52 e3 (by omega) (by omega) (e4 i hi6) ?_
          refine sg_get fl_S_139 kS_enter_53 q1 rfl ?_
          refine sg_iret kS_enter_56 rfl rfl (hr z2 hX2 ((q3.mono (ss_tc_xc hi6)).tr (u2.fr ⟨by omega, by omega⟩))) (by decide) (by decide)
  refine sg_iconst (v := 0) kS_enter_0 (by decide) ?_
  refine sg_istore_n kS_enter_1 (by decide) ?_
  exact sg_lw (loop 6 0 rfl rfl) ⟨rfl, rfl, rfl, trivial⟩
theorem cS_begin (hst : l.stackTraces = false) (h : ss_XP V z b st) (hr : cd_begin st = 0 → ∀ z', ss_XP V z' b (nx_begin st st.1) → ss_fr (ss_xc b) z z' → Qr (some (.int (nI st.2.2.1))) z') (hx : cd_begin st = 1 → Qx sx_U z) : ss_C V l 9 mS_begin 4 24 [.ref b] z Qr Qx := by
  unfold cd_begin at hr hx
  have h0 := h.1
  refine ss_C.of hst rfl (by decide) (Nat.le_of_ble_eq_true rfl) ?_
  refine sg_aload_n kS_begin_0 rfl ?_
  refine sg_aload_n kS_begin_1 rfl ?_
  refine sg_get fl_S_24 kS_begin_2 h0 rfl ?_
  refine sg_callV (As := [.int st.1]) (rest := []) (cS_enter (d := 7) hst (by decide) h st.1 (Qr := fun w z' => w = some (.int (nI st.2.2.1)) ∧ Qr (some (.int (nI st.2.2.1))) z') (Qx := fun E z' => E = sx_U ∧ Qx sx_U z ∧ z' = z) (fun i hi z' h1 h2 => ⟨rfl, hr (if_neg (by rw [hi]; exact fun q => by cases q)) z' h1 h2⟩) (fun h1 => ⟨rfl, hx (if_pos h1), rfl⟩)) vl_S_35 kS_begin_5 h0 rfl (Nat.le_of_ble_eq_true rfl) ⟨by decide, by decide⟩ ⟨by decide, by decide⟩ (fun E z1 hq => ?_) (fun w z1 hq => ?_)
  · obtain ⟨rfl, h1, rfl⟩ := hq
    exact sx_out rfl h1 (by decide) (by decide)
  · obtain ⟨rfl, h1⟩ := hq
    exact sg_iret kS_begin_8 rfl rfl h1 (by decide) (by decide)
theorem cS_beginAt (hst : l.stackTraces = false) (h : ss_XP V z b st) (t : Int32) (hr : cd_beginAt st t = 0 → ∀ z', ss_XP V z' b (nx_begin st t) → ss_fr (ss_xc b) z z' → Qr (some (.int (nI st.2.2.1))) z') (hx1 : cd_beginAt st t = 1 → Qx sx_A z) (hx2 : cd_beginAt st t = 2 → Qx sx_U z) : ss_C V l 9 mS_beginAt 4 24 [.ref b, .int t] z Qr Qx := by
  unfold cd_beginAt at hr hx1 hx2
  have h0 := h.1
  have bad : (t < st.2.1 ∨ st.1 < t) → ∀ lo, ss_G V l mS_beginAt (ss_rm 9 4 24) (ss_Q V Qr Qx 4 24) 16 lo [] z 0 0 := fun hb lo => sg_throw tl_41 rfl kS_beginAt_16 kS_beginAt_19 kS_beginAt_20 kS_beginAt_22 kS_beginAt_25 (by decide) (by decide) (hx1 (if_pos hb)) (by decide) (by decide)
  refine ss_C.of hst rfl (by decide) (Nat.le_of_ble_eq_true rfl) ?_
  refine sg_iload_n kS_beginAt_0 rfl ?_
  refine sg_aload_n kS_beginAt_1 rfl ?_
  refine sg_get fl_S_28 kS_beginAt_2 h0 rfl ?_
  refine sg_icmp_lt 16 kS_beginAt_5 (by decide) (fun hb => ?_) (fun hb => ?_)
  · exact bad (Or.inl hb) _
  · refine sg_iload_n kS_beginAt_8 rfl ?_
    refine sg_aload_n kS_beginAt_9 rfl ?_
    refine sg_get fl_S_24 kS_beginAt_10 h0 rfl ?_
    refine sg_icmp_le 26 kS_beginAt_13 (by decide) (fun hc => ?_) (fun hc => ?_)
    · have hn : ¬ (t < st.2.1 ∨ st.1 < t) := fun q => q.elim hb (fun q => absurd hc (Int32.not_le.mpr q))
      rw [if_neg hn] at hr hx2
      refine sg_aload_n kS_beginAt_26 rfl ?_
      refine sg_iload_n kS_beginAt_27 rfl ?_
      refine sg_callV (As := [.int t]) (rest := []) (cS_enter (d := 7) hst (by decide) h t (Qr := fun w z' => w = some (.int (nI st.2.2.1)) ∧ Qr (some (.int (nI st.2.2.1))) z') (Qx := fun E z' => E = sx_U ∧ Qx sx_U z ∧ z' = z) (fun i hi z' h1 h2 => ⟨rfl, hr (if_neg (by rw [hi]; exact fun q => by cases q)) z' h1 h2⟩) (fun h1 => ⟨rfl, hx2 (if_pos h1), rfl⟩)) vl_S_35 kS_beginAt_28 h0 rfl (Nat.le_of_ble_eq_true rfl) ⟨by decide, by decide⟩ ⟨by decide, by decide⟩ (fun E z1 hq => ?_) (fun w z1 hq => ?_)
      · obtain ⟨rfl, h1, rfl⟩ := hq
        exact sx_out rfl h1 (by decide) (by decide)
      · obtain ⟨rfl, h1⟩ := hq
        exact sg_iret kS_beginAt_31 rfl rfl h1 (by decide) (by decide)
    · exact bad (Or.inr (Int32.not_le.mp hc)) _
/-- has somebody else changed, since the start, a key that it writes? -/
def ss_op (x : ss_Tx) (e : ss_Ent) : Bool := decide (x.2.1 < e.2.1) && decide (¬ ss_li (ss_pk e.1) x.2.2 = none)
def ss_ou (S : List ss_Ent) (x : ss_Tx) : Bool := (ss_first (ss_hit (ss_op x) S) 0 S.length).isSome
set_option maxRecDepth 100000 in
theorem cS_isOutrun (hst : l.stackTraces = false) (h : ss_XP V z b st) {i : Nat} (hi : i < 6) {x : ss_Tx} (ho : st.2.2.2.2 i = some x) : ss_F V l (d + 1) mS_isOutrun [.ref b, .ref (ss_ad b i)] z (.int (ss_b (ss_ou st.2.2.2.1 x))) := by
  intro Qr Qx hq
  obtain ⟨t1, t2⟩ := h.slot hi ho
  have t3 := t2.choose_spec.choose_spec.choose_spec.choose_spec.1.1
  have t7 := t2.choose_spec.choose_spec.choose_spec.choose_spec.1.2.2.2.2.2
  rw [ss_es_len] at t7
  obtain ⟨h0, ⟨fk, ft, fv, fe, ⟨g0, g1, g2, g3, g4, g5⟩, he⟩, -⟩ := h
  refine ss_C.of hst rfl (by decide) (Nat.le_of_ble_eq_true rfl) ?_
  unfold ss_ou at hq
  have loop : ∀ m j, j + m = st.2.2.2.1.length → ss_first (ss_hit (ss_op x) st.2.2.2.1) 0 st.2.2.2.1.length = ss_first (ss_hit (ss_op x) st.2.2.2.1) j m → ss_G V l mS_isOutrun (ss_rm (d + 1) 0 0) (ss_Q V Qr Qx 0 0) 2 [(2, .int (nI j)), (0, .ref b), (1, .ref (ss_ad b i))] [] z 0 0 := by
    intro m
    induction m with
    | zero =>
      intro j hj hf
      have hj : j = st.2.2.2.1.length := by omega
      subst hj
      rw [hf] at hq
      refine sg_iload_n kS_isOutrun_2 rfl ?_
      refine sg_aload_n kS_isOutrun_3 rfl ?_
      refine sg_get fl_S_14 kS_isOutrun_4 h0 rfl ?_
      refine sg_get fl_S_84 kS_isOutrun_7 g0 rfl ?_
      refine sg_icmp_ge 61 kS_isOutrun_10 (by decide) (fun hb => ?_) (fun hb => ?_)
      · refine sg_iconst (v := 0) kS_isOutrun_61 (by decide) ?_
        exact sg_iret kS_isOutrun_62 rfl rfl hq (Nat.le_refl _) (Nat.le_refl _)
      · exact absurd (nI_le (Nat.le_refl _) (by omega)) hb
    | succ m ih =>
      intro j hj hf
      have hj2 : j < st.2.2.2.1.length := by omega
      have hg := List.getElem?_eq_getElem hj2
      have hf2 : ss_first (ss_hit (ss_op x) st.2.2.2.1) 0 st.2.2.2.1.length = if ss_op x st.2.2.2.1[j] = true then some j else ss_first (ss_hit (ss_op x) st.2.2.2.1) (j + 1) m := by
        rw [← ss_hit_some (p := ss_op x) hg]
        exact hf
      have next : ss_op x st.2.2.2.1[j] = false → ss_G V l mS_isOutrun (ss_rm (d + 1) 0 0) (ss_Q V Qr Qx 0 0) 55 [(2, .int (nI j)), (0, .ref b), (1, .ref (ss_ad b i))] [] z 0 0 := by
        intro hn
        refine sg_iinc kS_isOutrun_55 rfl (ss_inc _) (by decide) ?_
        refine sg_goto 2 kS_isOutrun_58 (by decide) ?_
        refine ih (j + 1) (by omega) ?_
        rw [hf2, hn]
        rfl
      obtain ⟨k1, k2, -, -⟩ := he j _ hg
      have hL := cR_latest (d := d) hst (by decide) t2 st.2.2.2.1[j].1 x.2.1
      rw [ss_es_li] at hL
      have hx := ss_ix_neg (o := ss_li (ss_pk st.2.2.2.1[j].1) x.2.2) (fun q hq => by
        have h1 := ss_li_lt hq
        omega)
      refine sg_iload_n kS_isOutrun_2 rfl ?_
      refine sg_aload_n kS_isOutrun_3 rfl ?_
      refine sg_get fl_S_14 kS_isOutrun_4 h0 rfl ?_
      refine sg_get fl_S_84 kS_isOutrun_7 g0 rfl ?_
      refine sg_icmp_ge 61 kS_isOutrun_10 (by decide) (fun hb => ?_) (fun hb => ?_)
      · exact absurd hb (nI_ge (by omega) (by omega))
      · refine sg_aload_n kS_isOutrun_13 rfl ?_
        refine sg_get fl_S_14 kS_isOutrun_14 h0 rfl ?_
        refine sg_get fl_S_126 kS_isOutrun_17 g0 rfl ?_
        refine sg_iload_n kS_isOutrun_20 rfl ?_
        refine sg_iald kS_isOutrun_21 g2 (by omega) (by omega) ?_
        refine sg_aload_n kS_isOutrun_22 rfl ?_
        refine sg_get fl_S_57 kS_isOutrun_23 t1 rfl ?_
        rw [k2]
        refine sg_icmp_le 55 kS_isOutrun_26 (by decide) (fun hc => ?_) (fun hc => ?_)
        · refine next ?_
          unfold ss_op
          rw [decide_eq_false (Int32.not_lt.mpr hc), Bool.false_and]
        · refine sg_aload_n kS_isOutrun_29 rfl ?_
          refine sg_get fl_S_81 kS_isOutrun_30 t1 rfl ?_
          refine sg_aload_n kS_isOutrun_33 rfl ?_
          refine sg_get fl_S_14 kS_isOutrun_34 h0 rfl ?_
          refine sg_get fl_S_117 kS_isOutrun_37 g0 rfl ?_
          refine sg_iload_n kS_isOutrun_40 rfl ?_
          refine sg_iald kS_isOutrun_41 g1 (by omega) (by omega) ?_
          refine sg_aload_n kS_isOutrun_42 rfl ?_
          refine sg_get fl_S_57 kS_isOutrun_43 t1 rfl ?_
          rw [k1]
          refine sg_fV (As := [.int st.2.2.2.1[j].1, .int x.2.1]) (rest := []) hL vl_S_157 kS_isOutrun_46 t3 rfl (Nat.le_of_ble_eq_true rfl) ⟨Nat.le_refl _, by show 8 + (4 + 11) + (30 * d + 60) ≤ 30 * (d + 1) + 60; omega⟩ ⟨Nat.le_refl _, Nat.le_refl _⟩ ?_
          refine sg_iconst (v := (-1)) kS_isOutrun_49 (by decide) ?_
          refine sg_icmp_eq 55 kS_isOutrun_50 (by decide) (fun hd9 => ?_) (fun hd9 => ?_)
          · rw [hx] at hd9
            refine next ?_
            unfold ss_op
            rw [hd9, Bool.and_eq_false_iff]
            exact Or.inr (by decide)
          · rw [hx] at hd9
            refine sg_iconst (v := 1) kS_isOutrun_53 (by decide) ?_
            rw [hf2, if_pos (by unfold ss_op; rw [decide_eq_true (Int32.not_le.mp hc), decide_eq_true hd9]; rfl)] at hq
            exact sg_iret kS_isOutrun_54 rfl rfl hq (Nat.le_refl _) (Nat.le_refl _)
  refine sg_iconst (v := 0) kS_isOutrun_0 (by decide) ?_
  refine sg_istore_n kS_isOutrun_1 (by decide) ?_
  exact sg_lw (loop st.2.2.2.1.length 0 (by omega) rfl) ⟨rfl, rfl, rfl, trivial⟩
/-- isLastOfItsKey, in words of the writes -/
theorem cT_isl (hst : l.stackTraces = false) (h : ss_XP V z b st) {i : Nat} (hi : i < 6) {x : ss_Tx} (ho : st.2.2.2.2 i = some x) {p : Nat} (hp : p < x.2.2.length) : ss_F V l (d + 1) mT_isLastOfItsKey [.ref (ss_ad b i), .int (nI p)] z (.int (ss_b (ss_isl x.2.2 p))) := by
  obtain ⟨t1, t2⟩ := h.slot hi ho
  have hg := List.getElem?_eq_getElem hp
  have hL := cT_isLast (d := d) hst (by decide) t1 t2 (p := p) (e := (x.2.2[p].1, x.2.1, x.2.2[p].2.1, x.2.2[p].2.2)) (by rw [ss_es_at, hg]; rfl)
  have hL : ss_F V l (d + 1) mT_isLastOfItsKey [.ref (ss_ad b i), .int (nI p)] z (.int (ss_b (decide (ss_li (ss_pm x.2.2[p].1 x.2.1) (ss_es x) = some p)))) := hL
  rw [ss_es_li] at hL
  unfold ss_isl
  rw [hg]
  exact hL
set_option maxRecDepth 100000 in
theorem cS_keysWritten (hst : l.stackTraces = false) (h : ss_XP V z b st) {i : Nat} (hi : i < 6) {x : ss_Tx} (ho : st.2.2.2.2 i = some x) : ss_F V l (d + 2) mS_keysWritten [.ref (ss_ad b i)] z (.int (nI (ss_cnt (ss_isl x.2.2) x.2.2.length))) := by
  intro Qr Qx hq
  obtain ⟨t1, t2⟩ := h.slot hi ho
  have t3 := t2.choose_spec.choose_spec.choose_spec.choose_spec.1.1
  have t7 := t2.choose_spec.choose_spec.choose_spec.choose_spec.1.2.2.2.2.2
  rw [ss_es_len] at t3 t7
  refine ss_C.of hst rfl (by decide) (Nat.le_of_ble_eq_true rfl) ?_
  have loop : ∀ m j, j + m = x.2.2.length → ss_G V l mS_keysWritten (ss_rm (d + 2) 0 0) (ss_Q V Qr Qx 0 0) 4 [(2, .int (nI j)), (1, .int (nI (ss_cnt (ss_isl x.2.2) j))), (0, .ref (ss_ad b i))] [] z 0 0 := by
    intro m
    induction m with
    | zero =>
      intro j hj
      have hj : j = x.2.2.length := by omega
      subst hj
      refine sg_iload_n kS_keysWritten_4 rfl ?_
      refine sg_aload_n kS_keysWritten_5 rfl ?_
      refine sg_get fl_S_81 kS_keysWritten_6 t1 rfl ?_
      refine sg_get fl_S_84 kS_keysWritten_9 t3 rfl ?_
      refine sg_icmp_ge 32 kS_keysWritten_12 (by decide) (fun hb => ?_) (fun hb => ?_)
      · refine sg_iload_n kS_keysWritten_32 rfl ?_
        exact sg_iret kS_keysWritten_33 rfl rfl hq (Nat.le_refl _) (Nat.le_refl _)
      · exact absurd (nI_le (Nat.le_refl _) (by omega)) hb
    | succ m ih =>
      intro j hj
      have hs : ss_cnt (ss_isl x.2.2) (j + 1) = ss_cnt (ss_isl x.2.2) j + (if ss_isl x.2.2 j = true then 1 else 0) := rfl
      refine sg_iload_n kS_keysWritten_4 rfl ?_
      refine sg_aload_n kS_keysWritten_5 rfl ?_
      refine sg_get fl_S_81 kS_keysWritten_6 t1 rfl ?_
      refine sg_get fl_S_84 kS_keysWritten_9 t3 rfl ?_
      refine sg_icmp_ge 32 kS_keysWritten_12 (by decide) (fun hb => ?_) (fun hb => ?_)
      · exact absurd hb (nI_ge (by omega) (by omega))
      · refine sg_aload_n kS_keysWritten_15 rfl ?_
        refine sg_iload_n kS_keysWritten_16 rfl ?_
        refine sg_fV (As := [.int (nI j)]) (rest := []) (cT_isl (d := d) hst h hi ho (by omega)) vl_S_160 kS_keysWritten_17 t1 rfl (Nat.le_of_ble_eq_true rfl) ⟨Nat.le_refl _, by show 8 + (2 + 11) + (30 * (d + 1) + 60) ≤ 30 * (d + 2) + 60; omega⟩ ⟨Nat.le_refl _, Nat.le_refl _⟩ ?_
        refine sg_if_eq 26 kS_keysWritten_20 (by decide) (fun hc => ?_) (fun hc => ?_)
        · rw [ss_b0] at hc
          refine sg_iinc kS_keysWritten_26 rfl (ss_inc _) (by decide) ?_
          refine sg_goto 4 kS_keysWritten_29 (by decide) ?_
          rw [hc] at hs
          refine sg_lw (ih (j + 1) (by omega)) ⟨rfl, ?_, rfl, trivial⟩
          rw [hs]
          rfl
        · rw [ss_b1] at hc
          refine sg_iinc kS_keysWritten_23 rfl (ss_inc _) (by decide) ?_
          refine sg_iinc kS_keysWritten_26 rfl (ss_inc _) (by decide) ?_
          refine sg_goto 4 kS_keysWritten_29 (by decide) ?_
          rw [hc] at hs
          refine sg_lw (ih (j + 1) (by omega)) ⟨rfl, ?_, rfl, trivial⟩
          rw [hs]
          rfl
  refine sg_iconst (v := 0) kS_keysWritten_0 (by decide) ?_
  refine sg_istore_n kS_keysWritten_1 (by decide) ?_
  refine sg_iconst (v := 0) kS_keysWritten_2 (by decide) ?_
  refine sg_istore_n kS_keysWritten_3 (by decide) ?_
  exact sg_lw (loop x.2.2.length 0 (by omega)) ⟨rfl, rfl, rfl, trivial⟩
/-- the versions that the first i writes leave -/
def ss_nw (now : Int32) (ws : List ss_Wr) : Nat → List ss_Ent
  | 0 => []
  | i + 1 => if ss_isl ws i = true then ss_nw now ws i ++ ((ws[i]?).map (fun w => (w.1, now, w.2.1, w.2.2))).toList else ss_nw now ws i
theorem ss_isl_lt {ws : List ss_Wr} {i : Nat} (h : ss_isl ws i = true) : i < ws.length := by
  unfold ss_isl at h
  cases hw : ws[i]? with
  | none => rw [hw] at h; cases h
  | some w => exact (List.getElem?_eq_some_iff.mp hw).1
theorem ss_nw_len (now : Int32) (ws : List ss_Wr) : ∀ i, (ss_nw now ws i).length = ss_cnt (ss_isl ws) i := by
  intro i
  induction i with
  | zero => rfl
  | succ i ih =>
    unfold ss_nw ss_cnt
    by_cases h : ss_isl ws i = true
    · rw [if_pos h, if_pos h, List.length_append, ih, List.getElem?_eq_getElem (ss_isl_lt h)]
      rfl
    · rw [if_neg h, if_neg h, ih]
      rfl
theorem ss_cnt_mono (p : Nat → Bool) {i j : Nat} (h : i ≤ j) : ss_cnt p i ≤ ss_cnt p j := by
  induction h with
  | refl => exact Nat.le_refl _
  | step _ ih =>
    refine Nat.le_trans ih ?_
    exact Nat.le_add_right _ _
set_option maxRecDepth 100000 in
theorem cS_shelveWrites (hst : l.stackTraces = false) (h : ss_XP V z b st) {i : Nat} (hi : i < 6) {x : ss_Tx} (ho : st.2.2.2.2 i = some x) (hroom : st.2.2.2.1.length + ss_cnt (ss_isl x.2.2) x.2.2.length ≤ 48) (hq : ∀ z', ss_XP V z' b (st.1, st.2.1, st.2.2.1, st.2.2.2.1 ++ ss_nw st.1 x.2.2 x.2.2.length, st.2.2.2.2) → ss_fr (ss_xc b) z z' → Qr none z') : ss_C V l (d + 2) mS_shelveWrites 0 0 [.ref b, .ref (ss_ad b i)] z Qr Qx := by
  have t7 := (h.slot hi ho).2.choose_spec.choose_spec.choose_spec.choose_spec.1.2.2.2.2.2
  rw [ss_es_len] at t7
  refine ss_C.of hst rfl (by decide) (Nat.le_of_ble_eq_true rfl) ?_
  have loop : ∀ m j z0, j + m = x.2.2.length → ss_XP V z0 b (st.1, st.2.1, st.2.2.1, st.2.2.2.1 ++ ss_nw st.1 x.2.2 j, st.2.2.2.2) → ss_fr (ss_xc b) z z0 → ss_G V l mS_shelveWrites (ss_rm (d + 2) 0 0) (ss_Q V Qr Qx 0 0) 7 [(3, .int (nI j)), (2, .ref (ss_ad b i + 1)), (0, .ref b), (1, .ref (ss_ad b i))] [] z0 0 0 := by
    intro m
    induction m with
    | zero =>
      intro j z0 hj hX hF
      have hj : j = x.2.2.length := by omega
      subst hj
      obtain ⟨t1, fk, ft, fv, fe, ⟨t2, t3, t4, t5, t6, -⟩, he⟩ := hX.slot hi ho
      rw [ss_es_len] at t2
      refine sg_iload_n kS_shelveWrites_7 rfl ?_
      refine sg_aload_n kS_shelveWrites_8 rfl ?_
      refine sg_get fl_S_84 kS_shelveWrites_9 t2 rfl ?_
      refine sg_icmp_ge 59 kS_shelveWrites_12 (by decide) (fun hb => ?_) (fun hb => ?_)
      · exact sg_vret kS_shelveWrites_59 rfl (hq z0 hX hF) (Nat.le_refl _) (Nat.le_refl _)
      · exact absurd (nI_le (Nat.le_refl _) (by omega)) hb
    | succ m ih =>
      intro j z0 hj hX hF
      have hj2 : j < x.2.2.length := by omega
      have hg := List.getElem?_eq_getElem hj2
      have hnw : ss_nw st.1 x.2.2 (j + 1) = if ss_isl x.2.2 j = true then ss_nw st.1 x.2.2 j ++ ((x.2.2[j]?).map (fun w => (w.1, st.1, w.2.1, w.2.2))).toList else ss_nw st.1 x.2.2 j := rfl
      have hX0 := hX.1
      have hsh := hX.2.1
      have hsr := hsh.choose_spec.choose_spec.choose_spec.choose_spec.1.1
      obtain ⟨t1, fk, ft, fv, fe, ⟨t2, t3, t4, t5, t6, -⟩, he⟩ := hX.slot hi ho
      rw [ss_es_len] at t2
      obtain ⟨k1, -, k3, k4⟩ := he j (x.2.2[j].1, x.2.1, x.2.2[j].2.1, x.2.2[j].2.2) (by rw [ss_es_at, hg]; rfl)
      have k1 : fk j = x.2.2[j].1 := k1
      have k3 : fv j = x.2.2[j].2.1 := k3
      have k4 : fe j = ss_b x.2.2[j].2.2 := k4
      refine sg_iload_n kS_shelveWrites_7 rfl ?_
      refine sg_aload_n kS_shelveWrites_8 rfl ?_
      refine sg_get fl_S_84 kS_shelveWrites_9 t2 rfl ?_
      refine sg_icmp_ge 59 kS_shelveWrites_12 (by decide) (fun hb => ?_) (fun hb => ?_)
      · exact absurd hb (nI_ge (by omega) (by omega))
      · refine sg_aload_n kS_shelveWrites_15 rfl ?_
        refine sg_iload_n kS_shelveWrites_16 rfl ?_
        refine sg_fV (As := [.int (nI j)]) (rest := []) (cT_isl (d := d) hst hX hi ho hj2) vl_S_160 kS_shelveWrites_17 t1 rfl (Nat.le_of_ble_eq_true rfl) ⟨Nat.le_refl _, by show 8 + (2 + 11) + (30 * (d + 1) + 60) ≤ 30 * (d + 2) + 60; omega⟩ ⟨Nat.le_refl _, Nat.le_refl _⟩ ?_
        refine sg_if_eq 53 kS_shelveWrites_20 (by decide) (fun hc => ?_) (fun hc => ?_)
        · rw [ss_b0] at hc
          refine sg_iinc kS_shelveWrites_53 rfl (ss_inc _) (by decide) ?_
          refine sg_goto 7 kS_shelveWrites_56 (by decide) ?_
          rw [hc] at hnw
          refine sg_lw (ih (j + 1) z0 (by omega) ?_ hF) ⟨rfl, rfl, rfl, rfl, trivial⟩
          rw [hnw]
          exact hX
        · rw [ss_b1] at hc
          have hcj : ss_cnt (ss_isl x.2.2) (j + 1) = ss_cnt (ss_isl x.2.2) j + 1 := by
            show ss_cnt (ss_isl x.2.2) j + (if ss_isl x.2.2 j = true then 1 else 0) = _
            rw [if_pos hc]
          have hcm := ss_cnt_mono (ss_isl x.2.2) (show j + 1 ≤ x.2.2.length by omega)
          have hroom2 : (st.2.2.2.1 ++ ss_nw st.1 x.2.2 j).length < 48 := by
            rw [List.length_append, ss_nw_len]
            omega
          rw [if_pos hc, hg] at hnw
          refine sg_aload_n kS_shelveWrites_23 rfl ?_
          refine sg_get fl_S_14 kS_shelveWrites_24 hX0 rfl ?_
          refine sg_aload_n kS_shelveWrites_27 rfl ?_
          refine sg_get fl_S_117 kS_shelveWrites_28 t2 rfl ?_
          refine sg_iload_n kS_shelveWrites_31 rfl ?_
          refine sg_iald kS_shelveWrites_32 t3 (by omega) (by omega) ?_
          rw [k1]
          refine sg_aload_n kS_shelveWrites_33 rfl ?_
          refine sg_get fl_S_24 kS_shelveWrites_34 hX0 rfl ?_
          refine sg_aload_n kS_shelveWrites_37 rfl ?_
          refine sg_get fl_S_69 kS_shelveWrites_38 t2 rfl ?_
          refine sg_iload_n kS_shelveWrites_41 rfl ?_
          refine sg_lald kS_shelveWrites_42 t5 (by omega) (by omega) ?_
          rw [k3]
          refine sg_aload_n kS_shelveWrites_43 rfl ?_
          refine sg_get fl_S_129 kS_shelveWrites_44 t2 rfl ?_
          refine sg_iload_n kS_shelveWrites_47 rfl ?_
          refine sg_zald kS_shelveWrites_48 t6 (by omega) (by omega) ?_
          rw [k4]
          refine sg_callV (As := [.int x.2.2[j].1, .int st.1, .long x.2.2[j].2.1, .int (ss_b x.2.2[j].2.2)]) (rest := []) (cR_append (d := d + 1) hst (by decide) hsh hroom2 x.2.2[j].1 st.1 x.2.2[j].2.1 x.2.2[j].2.2 (Qr := fun w z' => w = some (.int 1) ∧ ss_row V z' (b + 1) 48 ((st.2.2.2.1 ++ ss_nw st.1 x.2.2 j) ++ [(x.2.2[j].1, st.1, x.2.2[j].2.1, x.2.2[j].2.2)]) ∧ ss_fr (ss_rcell (b + 1)) z0 z') (Qx := fun _ _ => False) (fun z' h1 h2 => ⟨rfl, h1, h2⟩)) vl_S_151 kS_shelveWrites_49 hsr rfl (Nat.le_of_ble_eq_true rfl) ⟨Nat.le_refl _, by show 8 + (6 + 11) + (30 * (d + 1) + 60) ≤ 30 * (d + 2) + 60; omega⟩ ⟨Nat.le_refl _, Nat.le_refl _⟩ (fun _ _ q => q.elim) (fun w z1 hq1 => ?_)
          obtain ⟨rfl, q1, q2⟩ := hq1
          have hX1 := hX.setS q2 q1
          refine sg_pop kS_shelveWrites_52 rfl ?_
          refine sg_iinc kS_shelveWrites_53 rfl (ss_inc _) (by decide) ?_
          refine sg_goto 7 kS_shelveWrites_56 (by decide) ?_
          refine sg_lw (ih (j + 1) z1 (by omega) ?_ (hF.tr (q2.mono (fun q hq => ⟨by have := hq.1; omega, by have := hq.2; omega⟩)))) ⟨rfl, rfl, rfl, rfl, trivial⟩
          rw [hnw, ← List.append_assoc]
          exact hX1
  obtain ⟨t1, -⟩ := h.slot hi ho
  refine sg_aload_n kS_shelveWrites_0 rfl ?_
  refine sg_get fl_S_81 kS_shelveWrites_1 t1 rfl ?_
  refine sg_astore_n kS_shelveWrites_4 (by decide) ?_
  refine sg_iconst (v := 0) kS_shelveWrites_5 (by decide) ?_
  refine sg_istore_n kS_shelveWrites_6 (by decide) ?_
  refine sg_lw (loop x.2.2.length 0 z (by omega) ?_ ss_fr.rf) ⟨rfl, rfl, rfl, rfl, trivial⟩
  show ss_XP V z b (st.1, st.2.1, st.2.2.1, st.2.2.2.1 ++ [], st.2.2.2.2)
  rw [List.append_nil]
  exact h
def cd_commit (st : ss_St) (t : Int32) : Nat := match ss_lx st t with
  | none => 1
  | some q => if q.2.2.2.length = 0 then 0 else if ss_ou st.2.2.2.1 q.2 = true then 0 else if 48 < st.2.2.2.1.length + ss_cnt (ss_isl q.2.2.2) q.2.2.2.length then 2 else 0
/-- the answer of commit, and the next state -/
def nx_commit (st : ss_St) (t : Int32) : Int32 × ss_St := match ss_lx st t with
  | none => (0, st)
  | some q => if q.2.2.2.length = 0 then (st.1, ss_stx st q.1 none) else if ss_ou st.2.2.2.1 q.2 = true then (-1, ss_stx st q.1 none) else (st.1 + 1, (st.1 + 1, st.2.1, st.2.2.1, st.2.2.2.1 ++ ss_nw (st.1 + 1) q.2.2.2 q.2.2.2.length, va_up st.2.2.2.2 q.1 none))
/-- a live transaction ends -/
theorem ss_XP.off {z' : ss_Z} (h : ss_XP V z b st) {i : Nat} (hi : i < 6) {x : ss_Tx} (ho : st.2.2.2.2 i = some x) (u : ss_upd z (ss_ad b i) (.inr (1, [.ref (ss_ad b i + 1), .int 0, .int (nI x.1), .int x.2.1])) z') : ss_XP V z' b (ss_stx st i none) := by
  obtain ⟨g1, g2⟩ := h.slot hi ho
  have f2 : ss_fr (fun q => q = ss_ad b i) z z' := u.fr rfl
  exact h.setTx hi (u.fr ⟨by omega, by omega⟩) ⟨false, _, _, _, u.at g1, g2.fr f2 (fun q hq hr => by have := hr.1; omega), rfl⟩
set_option maxRecDepth 100000 in
theorem cS_commit (hst : l.stackTraces = false) (h : ss_XP V z b st) (t : Int32) (hr : cd_commit st t = 0 → ∀ z', ss_XP V z' b (nx_commit st t).2 → ss_fr (ss_xc b) z z' → Qr (some (.int (nx_commit st t).1)) z') (hx1 : cd_commit st t = 1 → Qx sx_S z) (hx2 : cd_commit st t = 2 → Qx sx_U z) : ss_C V l 9 mS_commit 4 24 [.ref b, .int t] z Qr Qx := by
  unfold cd_commit nx_commit at hr
  unfold cd_commit at hx1 hx2
  refine ss_C.of hst rfl (by decide) (Nat.le_of_ble_eq_true rfl) ?_
  refine sg_aload_n kS_commit_0 rfl ?_
  refine sg_iload_n kS_commit_1 rfl ?_
  refine sg_lt9 hst rfl rfl h t kS_commit_2 (by decide) (by decide) (by decide) (fun hl => hx1 (by rw [hl])) (fun i x hi ho hl => ?_)
  rw [hl] at hr hx2
  dsimp only at hr hx2
  obtain ⟨g1, g2⟩ := h.slot hi ho
  have g3 := g2.choose_spec.choose_spec.choose_spec.choose_spec.1.1
  have g7 := g2.choose_spec.choose_spec.choose_spec.choose_spec.1.2.2.2.2.2
  rw [ss_es_len] at g3 g7
  have h0 := h.1
  have s0 := h.2.1.choose_spec.choose_spec.choose_spec.choose_spec.1.1
  have s7 := h.2.1.choose_spec.choose_spec.choose_spec.choose_spec.1.2.2.2.2.2
  have hf0 : ∀ q, q = ss_ad b i → ss_xc b q := fun q hq => ss_tc_xc hi q ⟨by omega, by omega⟩
  refine sg_astore_n kS_commit_5 (by decide) ?_
  refine sg_aload_n kS_commit_6 rfl ?_
  refine sg_get fl_S_81 kS_commit_7 g1 rfl ?_
  refine sg_get fl_S_84 kS_commit_10 g3 rfl ?_
  refine sg_if_ne 26 kS_commit_13 (by decide) (fun hb => ?_) (fun hb => ?_)
  · have hn : ¬ x.2.2.length = 0 := fun q => hb (by rw [q]; rfl)
    rw [if_neg hn, if_neg hn] at hr
    rw [if_neg hn] at hx2
    refine sg_aload_n kS_commit_26 rfl ?_
    refine sg_aload_n kS_commit_27 rfl ?_
    refine sg_fV (As := [.ref (ss_ad b i)]) (rest := []) (cS_isOutrun (d := 7) hst h hi ho) vl_S_93 kS_commit_28 h0 rfl (Nat.le_of_ble_eq_true rfl) ⟨by decide, by decide⟩ ⟨by decide, by decide⟩ ?_
    refine sg_if_eq 41 kS_commit_31 (by decide) (fun hc => ?_) (fun hc => ?_)
    · rw [ss_b0] at hc
      have hc2 : ¬ ss_ou st.2.2.2.1 x = true := by rw [hc]; decide
      rw [if_neg hc2, if_neg hc2] at hr
      rw [if_neg hc2] at hx2
      refine sg_aload_n kS_commit_41 rfl ?_
      refine sg_get fl_S_14 kS_commit_42 h0 rfl ?_
      refine sg_get fl_S_84 kS_commit_45 s0 rfl ?_
      refine sg_aload_n kS_commit_48 rfl ?_
      refine sg_fS (As := [.ref (ss_ad b i)]) (rest := [.int (nI st.2.2.2.1.length)]) (cS_keysWritten (d := 6) hst h hi ho) sl_S_97 kS_commit_49 rfl (Nat.le_of_ble_eq_true rfl) ⟨by decide, by decide⟩ ⟨by decide, by decide⟩ ?_
      refine sg_iadd kS_commit_52 ?_
      refine sg_i (nI_add _ _) ?_
      have hcb : ss_cnt (ss_isl x.2.2) x.2.2.length ≤ 12 := by
        have : ∀ m, ss_cnt (ss_isl x.2.2) m ≤ m := by
          intro m
          induction m with
          | zero => exact Nat.le_refl _
          | succ m ih =>
            unfold ss_cnt
            split <;> omega
        have := this x.2.2.length
        omega
      refine sg_bipush (v := 48) kS_commit_53 (by decide) ?_
      refine sg_icmp_le 68 kS_commit_55 (by decide) (fun he => ?_) (fun he => ?_)
      · have he : st.2.2.2.1.length + ss_cnt (ss_isl x.2.2) x.2.2.length ≤ 48 := (nI_leI (by omega) (by decide)).mp he
        have he2 : ¬ 48 < st.2.2.2.1.length + ss_cnt (ss_isl x.2.2) x.2.2.length := by omega
        rw [if_neg he2] at hr
        refine sg_aload_n kS_commit_68 rfl ?_
        refine sg_dup kS_commit_69 rfl ?_
        refine sg_get fl_S_24 kS_commit_70 h0 rfl ?_
        refine sg_iconst (v := 1) kS_commit_73 (by decide) ?_
        refine sg_iadd kS_commit_74 ?_
        refine sg_put fl_S_24 kS_commit_75 h0 rfl rfl rfl (Nat.le_of_ble_eq_true rfl) (fun z1 u1 => ?_)
        have hX1 := h.setO u1
        have g1 := u1.ne g1 (by unfold ss_ad; omega)
        refine sg_aload_n kS_commit_78 rfl ?_
        refine sg_aload_n kS_commit_79 rfl ?_
        refine sg_callV (As := [.ref (ss_ad b i)]) (rest := []) (cS_shelveWrites (d := 6) hst hX1 hi ho he (Qr := fun w z' => w = none ∧ ss_XP V z' b (st.1 + 1, st.2.1, st.2.2.1, st.2.2.2.1 ++ ss_nw (st.1 + 1) x.2.2 x.2.2.length, st.2.2.2.2) ∧ ss_fr (ss_xc b) z1 z') (Qx := fun _ _ => False) (fun z' q1 q2 => ⟨rfl, q1, q2⟩)) vl_S_106 kS_commit_80 hX1.1 rfl (Nat.le_of_ble_eq_true rfl) ⟨by decide, by decide⟩ ⟨by decide, by decide⟩ (fun _ _ q => q.elim) (fun w z2 hq => ?_)
        obtain ⟨rfl, hX2, f2⟩ := hq
        obtain ⟨g1, -⟩ := hX2.slot hi ho
        refine sg_aload_n kS_commit_83 rfl ?_
        refine sg_iconst (v := 0) kS_commit_84 (by decide) ?_
        refine sg_put fl_S_89 kS_commit_85 g1 rfl rfl rfl (Nat.le_of_ble_eq_true rfl) (fun z3 u3 => ?_)
        have hX3 := hX2.off hi ho u3
        have h3 := hX3.1
        refine sg_aload_n kS_commit_88 rfl ?_
        refine sg_get fl_S_24 kS_commit_89 h3 rfl ?_
        refine sg_iret kS_commit_92 rfl rfl (hr rfl z3 hX3 (((u1.fr ⟨by omega, by omega⟩ : ss_fr (ss_xc b) z z1).tr f2).tr (u3.fr (hf0 _ rfl)))) (by decide) (by decide)
      · have he : 48 < st.2.2.2.1.length + ss_cnt (ss_isl x.2.2) x.2.2.length := Nat.lt_of_not_le (fun q => he (nI_le q (by decide)))
        exact sg_throw tl_103 rfl kS_commit_58 kS_commit_61 kS_commit_62 kS_commit_64 kS_commit_67 (by decide) (by decide) (hx2 (if_pos he)) (by decide) (by decide)
    · rw [ss_b1] at hc
      rw [if_pos hc, if_pos hc] at hr
      refine sg_aload_n kS_commit_34 rfl ?_
      refine sg_iconst (v := 0) kS_commit_35 (by decide) ?_
      refine sg_put fl_S_89 kS_commit_36 g1 rfl rfl rfl (Nat.le_of_ble_eq_true rfl) (fun z1 u1 => ?_)
      refine sg_iconst (v := (-1)) kS_commit_39 (by decide) ?_
      refine sg_iret kS_commit_40 rfl rfl (hr rfl z1 (h.off hi ho u1) (u1.fr (hf0 _ rfl))) (by decide) (by decide)
  · have hn : x.2.2.length = 0 := by
      have : nI x.2.2.length = nI 0 := hb
      exact (nI_eq (by omega) (by decide)).mp this
    rw [if_pos hn, if_pos hn] at hr
    refine sg_aload_n kS_commit_16 rfl ?_
    refine sg_iconst (v := 0) kS_commit_17 (by decide) ?_
    refine sg_put fl_S_89 kS_commit_18 g1 rfl rfl rfl (Nat.le_of_ble_eq_true rfl) (fun z1 u1 => ?_)
    have hX1 := h.off hi ho u1
    have h1 := hX1.1
    refine sg_aload_n kS_commit_21 rfl ?_
    refine sg_get fl_S_24 kS_commit_22 h1 rfl ?_
    refine sg_iret kS_commit_25 rfl rfl (hr rfl z1 hX1 (u1.fr (hf0 _ rfl))) (by decide) (by decide)
/-- the starts of the live transactions in slots i to i + m -/
def ss_ts (st : ss_St) : Nat → Nat → List Int32
  | _, 0 => []
  | i, m + 1 => match st.2.2.2.2 i with
    | some x => x.2.1 :: ss_ts st (i + 1) m
    | none => ss_ts st (i + 1) m
def ss_tt (st : ss_St) : List Int32 := st.1 :: ss_ts st 0 6
set_option maxRecDepth 100000 in
theorem cS_isNeeded (hst : l.stackTraces = false) (h : ss_XP V z b st) {p : Nat} (hp : p < st.2.2.2.1.length) : ss_F V l (d + 1) mS_isNeeded [.ref b, .int (nI p)] z (.int (ss_b (ss_need (ss_tt st) st.2.2.2.1 p))) := by
  intro Qr Qx hq
  have hX := h
  have hL := fun t => cR_latest (d := d) hst (by decide) h.2.1 st.2.2.2.1[p].1 t
  obtain ⟨h0, ⟨fk, ft, fv, fe, ⟨g0, g1, g2, g3, g4, g5⟩, he⟩, ⟨g, h3, h4⟩, h5⟩ := h
  have hg := List.getElem?_eq_getElem hp
  obtain ⟨f, hf⟩ : ∃ f : Int32 → Bool, f = fun t => decide (ss_li (ss_pm st.2.2.2.1[p].1 t) st.2.2.2.1 = some p) := ⟨_, rfl⟩
  have hq : Qr (some (.int (ss_b (f st.1 || (ss_ts st 0 6).any f)))) z := by
    have h1 : ss_need (ss_tt st) st.2.2.2.1 p = (f st.1 || (ss_ts st 0 6).any f) := by
      unfold ss_need ss_tt
      rw [hg, hf]
      rfl
    rw [← h1]
    exact hq
  have hx := fun t => ss_ix_eq (o := ss_li (ss_pm st.2.2.2.1[p].1 t) st.2.2.2.1) (p := p) (fun j hj => by have := ss_li_lt hj; omega) (by omega)
  have hft : ∀ t, ss_ix (ss_li (ss_pm st.2.2.2.1[p].1 t) st.2.2.2.1) = nI p → f t = true := fun t q => by rw [hf]; exact decide_eq_true ((hx t).mp q)
  have hff : ∀ t, ¬ ss_ix (ss_li (ss_pm st.2.2.2.1[p].1 t) st.2.2.2.1) = nI p → f t = false := fun t q => by rw [hf]; exact decide_eq_false (fun w => q ((hx t).mpr w))
  refine ss_C.of hst rfl (by decide) (Nat.le_of_ble_eq_true rfl) ?_
  have loop : ∀ m i, i + m = 6 → Qr (some (.int (ss_b ((ss_ts st i m).any f)))) z → ss_G V l mS_isNeeded (ss_rm (d + 1) 0 0) (ss_Q V Qr Qx 0 0) 30 [(3, .int (nI i)), (2, .int st.2.2.2.1[p].1), (0, .ref b), (1, .int (nI p))] [] z 0 0 := by
    intro m
    induction m with
    | zero =>
      intro i hi hq
      have hi : i = 6 := by omega
      subst hi
      refine sg_iload_n kS_isNeeded_30 rfl ?_
      refine sg_aload_n kS_isNeeded_31 rfl ?_
      refine sg_get fl_S_20 kS_isNeeded_32 h0 rfl ?_
      refine sg_alenT kS_isNeeded_35 h3 ?_
      refine sg_icmp_ge 80 kS_isNeeded_36 (by decide) (fun hb => ?_) (fun hb => ?_)
      · refine sg_iconst (v := 0) kS_isNeeded_80 (by decide) ?_
        exact sg_iret kS_isNeeded_81 rfl rfl hq (Nat.le_refl _) (Nat.le_refl _)
      · exact absurd (by decide) hb
    | succ m ih =>
      intro i hi hq
      have hi6 : i < 6 := by omega
      have next : Qr (some (.int (ss_b ((ss_ts st (i + 1) m).any f)))) z → ss_G V l mS_isNeeded (ss_rm (d + 1) 0 0) (ss_Q V Qr Qx 0 0) 74 [(3, .int (nI i)), (2, .int st.2.2.2.1[p].1), (0, .ref b), (1, .int (nI p))] [] z 0 0 := by
        intro hn
        refine sg_iinc kS_isNeeded_74 rfl (ss_inc _) (by decide) ?_
        refine sg_goto 30 kS_isNeeded_77 (by decide) ?_
        exact sg_lw (ih (i + 1) (by omega) hn) ⟨rfl, rfl, rfl, rfl, trivial⟩
      obtain ⟨live, num, start, es, t1, -, t3⟩ := h5 i hi6
      have t1 : ss_at z (ss_ad b i) (.inr (1, [.ref (ss_ad b i + 1), .int (ss_b live), .int num, .int start])) := t1
      unfold ss_ts at hq
      refine sg_iload_n kS_isNeeded_30 rfl ?_
      refine sg_aload_n kS_isNeeded_31 rfl ?_
      refine sg_get fl_S_20 kS_isNeeded_32 h0 rfl ?_
      refine sg_alenT kS_isNeeded_35 h3 ?_
      refine sg_icmp_ge 80 kS_isNeeded_36 (by decide) (fun hb => ?_) (fun hb => ?_)
      · exact absurd hb (nI_ge (by omega) (by omega))
      · refine sg_aload_n kS_isNeeded_39 rfl ?_
        refine sg_get fl_S_20 kS_isNeeded_40 h0 rfl ?_
        refine sg_iload_n kS_isNeeded_43 rfl ?_
        refine sg_aald kS_isNeeded_44 h3 (by omega) (by omega) (h4 i hi6) ?_
        refine sg_get fl_S_89 kS_isNeeded_45 t1 rfl ?_
        cases ho : st.2.2.2.2 i with
        | none =>
          rw [ho] at t3 hq
          have t3 : live = false := t3
          subst t3
          refine sg_if_eq 74 kS_isNeeded_48 (by decide) (fun hc => ?_) (fun hc => ?_)
          · exact next hq
          · exact absurd rfl hc
        | some x =>
          rw [ho] at t3 hq
          obtain ⟨rfl, -, rfl, -⟩ := t3
          have hq : Qr (some (.int (ss_b (f x.2.1 || (ss_ts st (i + 1) m).any f)))) z := hq
          refine sg_if_eq 74 kS_isNeeded_48 (by decide) (fun hc => ?_) (fun hc => ?_)
          · exact absurd hc (by decide)
          · refine sg_aload_n kS_isNeeded_51 rfl ?_
            refine sg_get fl_S_14 kS_isNeeded_52 h0 rfl ?_
            refine sg_iload_n kS_isNeeded_55 rfl ?_
            refine sg_aload_n kS_isNeeded_56 rfl ?_
            refine sg_get fl_S_20 kS_isNeeded_57 h0 rfl ?_
            refine sg_iload_n kS_isNeeded_60 rfl ?_
            refine sg_aald kS_isNeeded_61 h3 (by omega) (by omega) (h4 i hi6) ?_
            refine sg_get fl_S_57 kS_isNeeded_62 t1 rfl ?_
            refine sg_fV (As := [.int st.2.2.2.1[p].1, .int x.2.1]) (rest := []) (hL x.2.1) vl_S_157 kS_isNeeded_65 g0 rfl (Nat.le_of_ble_eq_true rfl) ⟨Nat.le_refl _, by show 8 + (4 + 11) + (30 * d + 60) ≤ 30 * (d + 1) + 60; omega⟩ ⟨Nat.le_refl _, Nat.le_refl _⟩ ?_
            refine sg_iload_n kS_isNeeded_68 rfl ?_
            refine sg_icmp_ne 74 kS_isNeeded_69 (by decide) (fun hd9 => ?_) (fun hd9 => ?_)
            · rw [hff _ hd9] at hq
              exact next hq
            · rw [hft _ hd9] at hq
              refine sg_iconst (v := 1) kS_isNeeded_72 (by decide) ?_
              exact sg_iret kS_isNeeded_73 rfl rfl hq (Nat.le_refl _) (Nat.le_refl _)
  refine sg_aload_n kS_isNeeded_0 rfl ?_
  refine sg_get fl_S_14 kS_isNeeded_1 h0 rfl ?_
  refine sg_get fl_S_117 kS_isNeeded_4 g0 rfl ?_
  refine sg_iload_n kS_isNeeded_7 rfl ?_
  refine sg_iald kS_isNeeded_8 g1 (by omega) (by omega) ?_
  rw [(he p _ hg).1]
  refine sg_istore_n kS_isNeeded_9 (by decide) ?_
  refine sg_aload_n kS_isNeeded_10 rfl ?_
  refine sg_get fl_S_14 kS_isNeeded_11 h0 rfl ?_
  refine sg_iload_n kS_isNeeded_14 rfl ?_
  refine sg_aload_n kS_isNeeded_15 rfl ?_
  refine sg_get fl_S_24 kS_isNeeded_16 h0 rfl ?_
  refine sg_fV (As := [.int st.2.2.2.1[p].1, .int st.1]) (rest := []) (hL st.1) vl_S_157 kS_isNeeded_19 g0 rfl (Nat.le_of_ble_eq_true rfl) ⟨Nat.le_refl _, by show 8 + (4 + 11) + (30 * d + 60) ≤ 30 * (d + 1) + 60; omega⟩ ⟨Nat.le_refl _, Nat.le_refl _⟩ ?_
  refine sg_iload_n kS_isNeeded_22 rfl ?_
  refine sg_icmp_ne 28 kS_isNeeded_23 (by decide) (fun hb => ?_) (fun hb => ?_)
  · rw [hff _ hb] at hq
    refine sg_iconst (v := 0) kS_isNeeded_28 (by decide) ?_
    refine sg_istore_n kS_isNeeded_29 (by decide) ?_
    exact sg_lw (loop 6 0 rfl hq) ⟨rfl, rfl, rfl, rfl, trivial⟩
  · rw [hft _ hb] at hq
    refine sg_iconst (v := 1) kS_isNeeded_26 (by decide) ?_
    exact sg_iret kS_isNeeded_27 rfl rfl hq (Nat.le_refl _) (Nat.le_refl _)
def nx_vacuum (st : ss_St) : ss_St := (st.1, st.1, st.2.2.1, ss_vac (ss_tt st) st.2.2.2.1.length st.2.2.2.1, st.2.2.2.2)
def an_vacuum (st : ss_St) : Int32 := nI (st.2.2.2.1.length - (ss_vac (ss_tt st) st.2.2.2.1.length st.2.2.2.1).length)
set_option maxRecDepth 100000 in
theorem cS_vacuum (hst : l.stackTraces = false) (h : ss_XP V z b st) (hr : ∀ z', ss_XP V z' b (nx_vacuum st) → ss_fr (ss_xc b) z z' → Qr (some (.int (an_vacuum st))) z') : ss_C V l (d + 2) mS_vacuum 0 0 [.ref b] z Qr Qx := by
  unfold nx_vacuum an_vacuum at hr
  have s7 := h.2.1.choose_spec.choose_spec.choose_spec.choose_spec.1.2.2.2.2.2
  refine ss_C.of hst rfl (by decide) (Nat.le_of_ble_eq_true rfl) ?_
  have loop : ∀ p L z0, p ≤ L.length → L.length ≤ st.2.2.2.1.length → ss_vac (ss_tt st) st.2.2.2.1.length st.2.2.2.1 = ss_vac (ss_tt st) p L → ss_XP V z0 b (st.1, st.2.1, st.2.2.1, L, st.2.2.2.2) → ss_fr (ss_xc b) z z0 → ss_G V l mS_vacuum (ss_rm (d + 2) 0 0) (ss_Q V Qr Qx 0 0) 12 [(2, .int (nI p - 1)), (1, .int (nI (st.2.2.2.1.length - L.length))), (0, .ref b)] [] z0 0 0 := by
    intro p
    induction p with
    | zero =>
      intro L z0 _ hle hv hX hF
      have h0 := hX.1
      have hv : ss_vac (ss_tt st) st.2.2.2.1.length st.2.2.2.1 = L := hv
      rw [hv] at hr
      refine sg_iload_n kS_vacuum_12 rfl ?_
      refine sg_if_lt 41 kS_vacuum_13 (by decide) (fun hb => ?_) (fun hb => ?_)
      · refine sg_aload_n kS_vacuum_41 rfl ?_
        refine sg_aload_n kS_vacuum_42 rfl ?_
        refine sg_get fl_S_24 kS_vacuum_43 h0 rfl ?_
        refine sg_put fl_S_28 kS_vacuum_46 h0 rfl rfl rfl (Nat.le_of_ble_eq_true rfl) (fun z1 u1 => ?_)
        have hX1 := hX.setO u1
        refine sg_iload_n kS_vacuum_49 rfl ?_
        exact sg_iret kS_vacuum_50 rfl rfl (hr z1 hX1 (hF.tr (u1.fr ⟨by omega, by omega⟩))) (Nat.le_refl _) (Nat.le_refl _)
      · exact absurd (by decide) hb
    | succ p ih =>
      intro L z0 hp hle hv hX hF
      rw [nI_pred]
      have hv : ss_vac (ss_tt st) st.2.2.2.1.length st.2.2.2.1 = ss_vac (ss_tt st) p (if ss_need (ss_tt st) L p = true then L else L.eraseIdx p) := hv
      have h0 := hX.1
      have r0 := hX.2.1.choose_spec.choose_spec.choose_spec.choose_spec.1.1
      refine sg_iload_n kS_vacuum_12 rfl ?_
      refine sg_if_lt 41 kS_vacuum_13 (by decide) (fun hb => ?_) (fun hb => ?_)
      · exact absurd hb (nI_pos (by omega))
      · refine sg_aload_n kS_vacuum_16 rfl ?_
        refine sg_iload_n kS_vacuum_17 rfl ?_
        refine sg_fV (As := [.int (nI p)]) (rest := []) (cS_isNeeded (d := d) hst hX (show p < L.length by omega)) vl_S_110 kS_vacuum_18 h0 rfl (Nat.le_of_ble_eq_true rfl) ⟨Nat.le_refl _, by show 8 + (4 + 11) + (30 * (d + 1) + 60) ≤ 30 * (d + 2) + 60; omega⟩ ⟨Nat.le_refl _, Nat.le_refl _⟩ ?_
        refine sg_if_ne 35 kS_vacuum_21 (by decide) (fun hc => ?_) (fun hc => ?_)
        · rw [ss_b1] at hc
          have hc : ss_need (ss_tt st) L p = true := hc
          rw [if_pos hc] at hv
          refine sg_iinc kS_vacuum_35 rfl (ss_dec _) (by decide) ?_
          refine sg_goto 12 kS_vacuum_38 (by decide) ?_
          exact sg_lw (ih L z0 (by omega) hle hv hX hF) ⟨rfl, rfl, rfl, trivial⟩
        · rw [ss_b0] at hc
          have hc : ss_need (ss_tt st) L p = false := hc
          rw [if_neg (by rw [hc]; decide)] at hv
          have hlen : (L.eraseIdx p).length = L.length - 1 := List.length_eraseIdx_of_lt (by omega)
          refine sg_aload_n kS_vacuum_24 rfl ?_
          refine sg_get fl_S_14 kS_vacuum_25 h0 rfl ?_
          refine sg_iload_n kS_vacuum_28 rfl ?_
          refine sg_callV (As := [.int (nI p)]) (rest := []) (cR_takeAway (d := d + 1) hst (by decide) hX.2.1 (show p < L.length by omega) (Qr := fun w z' => w = none ∧ ss_row V z' (b + 1) 48 (L.eraseIdx p) ∧ ss_fr (ss_rcell (b + 1)) z0 z') (Qx := fun _ _ => False) (fun z' q1 q2 => ⟨rfl, q1, q2⟩)) vl_S_114 kS_vacuum_29 r0 rfl (Nat.le_of_ble_eq_true rfl) ⟨Nat.le_refl _, by show 8 + (3 + 11) + (30 * (d + 1) + 60) ≤ 30 * (d + 2) + 60; omega⟩ ⟨Nat.le_refl _, Nat.le_refl _⟩ (fun _ _ q => q.elim) (fun w z1 hq1 => ?_)
          obtain ⟨rfl, q1, q2⟩ := hq1
          have hX1 := hX.setS q2 q1
          refine sg_iinc kS_vacuum_32 rfl (ss_inc _) (by decide) ?_
          refine sg_iinc kS_vacuum_35 rfl (ss_dec _) (by decide) ?_
          refine sg_goto 12 kS_vacuum_38 (by decide) ?_
          refine sg_lw (ih (L.eraseIdx p) z1 (by omega) (by omega) hv hX1 (hF.tr (q2.mono (fun q hq => ⟨by have := hq.1; omega, by have := hq.2; omega⟩)))) ⟨rfl, ?_, rfl, trivial⟩
          rw [hlen, show st.2.2.2.1.length - (L.length - 1) = st.2.2.2.1.length - L.length + 1 by omega]
          rfl
  have h0 := h.1
  have r0 := h.2.1.choose_spec.choose_spec.choose_spec.choose_spec.1.1
  refine sg_iconst (v := 0) kS_vacuum_0 (by decide) ?_
  refine sg_istore_n kS_vacuum_1 (by decide) ?_
  refine sg_aload_n kS_vacuum_2 rfl ?_
  refine sg_get fl_S_14 kS_vacuum_3 h0 rfl ?_
  refine sg_get fl_S_84 kS_vacuum_6 r0 rfl ?_
  refine sg_iconst (v := 1) kS_vacuum_9 (by decide) ?_
  refine sg_isub kS_vacuum_10 ?_
  refine sg_istore_n kS_vacuum_11 (by decide) ?_
  refine sg_lw (loop st.2.2.2.1.length st.2.2.2.1 z (Nat.le_refl _) (Nat.le_refl _) rfl h ss_fr.rf) ⟨rfl, ?_, rfl, trivial⟩
  rw [Nat.sub_self]
  rfl
end SSV
