/-! SnapshotShelves: writes, versions, beginnings. -/
section SSW
variable {V : ss_V} {l : Launch} {z : ss_Z} {d b : Nat} {st : ss_St} {Qr : Option Value → ss_Z → Prop} {Qx : String → ss_Z → Prop}
theorem ss_es_snoc (x : ss_Tx) (key : Int32) (v : Int64) (er : Bool) : ss_es (x.1, x.2.1, x.2.2 ++ [(key, v, er)]) = ss_es x ++ [(key, x.2.1, v, er)] := by
  unfold ss_es
  show (x.2.2 ++ [(key, v, er)]).map _ = _
  rw [List.map_append]
  rfl
set_option maxRecDepth 100000 in
theorem cS_addWrite (hst : l.stackTraces = false) (hd : 5 < d + 1) (h : ss_XP V z b st) {i : Nat} (hi : i < 6) {x : ss_Tx} (ho : st.2.2.2.2 i = some x) (key : Int32) (v : Int64) (er : Bool) (hr : x.2.2.length < 12 → ∀ z', ss_XP V z' b (ss_stx st i (some (x.1, x.2.1, x.2.2 ++ [(key, v, er)]))) → ss_fr (ss_xc b) z z' → Qr none z') (hx : ¬ x.2.2.length < 12 → Qx sx_U z) : ss_C V l (d + 1) mS_addWrite 1 6 [.ref (ss_ad b i), .int key, .long v, .int (ss_b er)] z Qr Qx := by
  obtain ⟨g1, g2⟩ := h.slot hi ho
  have g3 := g2.choose_spec.choose_spec.choose_spec.choose_spec.1.1
  have g7 := g2.choose_spec.choose_spec.choose_spec.choose_spec.1.2.2.2.2.2
  rw [ss_es_len] at g7
  refine ss_C.of hst rfl (by decide) (Nat.le_of_ble_eq_true rfl) ?_
  refine sg_aload_n kS_addWrite_0 rfl ?_
  refine sg_get fl_S_81 kS_addWrite_1 g1 rfl ?_
  refine sg_iload_n kS_addWrite_4 rfl ?_
  refine sg_aload_n kS_addWrite_5 rfl ?_
  refine sg_get fl_S_57 kS_addWrite_6 g1 rfl ?_
  refine sg_lload_n kS_addWrite_9 rfl ?_
  refine sg_iload kS_addWrite_10 rfl ?_
  by_cases hlen : x.2.2.length < 12
  · refine sg_callV (As := [.int key, .int x.2.1, .long v, .int (ss_b er)]) (rest := []) (cR_append (d := d) hst (by decide) g2 (by rw [ss_es_len]; exact hlen) key x.2.1 v er (Qr := fun w z' => w = some (.int 1) ∧ ss_row V z' (ss_ad b i + 1) 12 (ss_es x ++ [(key, x.2.1, v, er)]) ∧ ss_fr (ss_rcell (ss_ad b i + 1)) z z') (Qx := fun _ _ => False) (fun z' h1 h2 => ⟨rfl, h1, h2⟩)) vl_S_151 kS_addWrite_12 g3 rfl (by decide) ⟨Nat.le_refl _, by show 8 + (6 + 11) + (30 * d + 60) ≤ 30 * (d + 1) + 60; omega⟩ ⟨Nat.le_of_ble_eq_true rfl, Nat.le_of_ble_eq_true rfl⟩ (fun _ _ h => h.elim) (fun w z1 hq => ?_)
    obtain ⟨rfl, h1, h2⟩ := hq
    refine sg_if_ne 28 kS_addWrite_15 (by decide) (fun hb => ?_) (fun hb => ?_)
    · have f1 : ss_fr (ss_tcell (ss_ad b i)) z z1 := h2.mono (fun q hq => ⟨by have := hq.1; omega, by have := hq.2; omega⟩)
      refine sg_vret kS_addWrite_28 rfl (hr hlen z1 (h.setTx hi f1 ⟨true, _, _, _, h2.at g1 (fun q => by have := q.1; omega), h1, rfl, rfl, rfl, (ss_es_snoc x key v er).symm⟩) (f1.mono (ss_tc_xc hi))) (by decide) (by decide)
    · exact absurd hb (by decide)
  · refine sg_fV (As := [.int key, .int x.2.1, .long v, .int (ss_b er)]) (rest := []) (cR_append_full (d := d) hst (by decide) g2 (by rw [ss_es_len]; omega) key x.2.1 v er) vl_S_151 kS_addWrite_12 g3 rfl (by decide) ⟨Nat.le_refl _, by show 8 + (6 + 11) + (30 * d + 60) ≤ 30 * (d + 1) + 60; omega⟩ ⟨Nat.le_of_ble_eq_true rfl, Nat.le_of_ble_eq_true rfl⟩ ?_
    refine sg_if_ne 28 kS_addWrite_15 (by decide) (fun hb => ?_) (fun hb => ?_)
    · exact absurd rfl hb
    · exact sg_throw tl_155 rfl kS_addWrite_18 kS_addWrite_21 kS_addWrite_22 kS_addWrite_24 kS_addWrite_27 hd (by decide) (hx hlen) (by decide) (by decide)
set_option maxRecDepth 100000 in
theorem cS_write (hst : l.stackTraces = false) (h : ss_XP V z b st) (t key : Int32) (v : Int64) (hr : cd_write st t key = 0 → ∀ z', ss_XP V z' b (nx_write st t key v false) → ss_fr (ss_xc b) z z' → Qr none z') (hx1 : cd_write st t key = 1 → Qx sx_S z) (hx2 : cd_write st t key = 2 → Qx sx_A z) (hx3 : cd_write st t key = 3 → Qx sx_U z) : ss_C V l 9 mS_write 4 24 [.ref b, .int t, .int key, .long v] z Qr Qx := by
  unfold cd_write nx_write at hr
  unfold cd_write at hx1 hx2 hx3
  refine ss_C.of hst rfl (by decide) (Nat.le_of_ble_eq_true rfl) ?_
  refine sg_aload_n kS_write_0 rfl ?_
  refine sg_iload_n kS_write_1 rfl ?_
  refine sg_lt9 hst rfl rfl h t kS_write_2 (by decide) (by decide) (by decide) (fun hl => hx1 (by rw [hl])) (fun i x hi ho hl => ?_)
  rw [hl] at hr hx2 hx3
  have hr : (if ss_key key then (if x.2.2.length < 12 then 0 else 3) else 2) = 0 → ∀ z', ss_XP V z' b (ss_stx st i (some (x.1, x.2.1, x.2.2 ++ [(key, v, false)]))) → ss_fr (ss_xc b) z z' → Qr none z' := hr
  have hx2 : (if ss_key key then (if x.2.2.length < 12 then 0 else 3) else 2) = 2 → Qx sx_A z := hx2
  have hx3 : (if ss_key key then (if x.2.2.length < 12 then 0 else 3) else 2) = 3 → Qx sx_U z := hx3
  refine sg_astore kS_write_5 (by decide) ?_
  refine sg_iload_n kS_write_7 rfl ?_
  refine sg_ck9 hst rfl rfl key kS_write_8 (by decide) (by decide) (by decide) (fun hk => hx2 (if_neg hk)) (fun hk => ?_)
  rw [if_pos hk] at hr hx3
  refine sg_aload kS_write_11 rfl ?_
  refine sg_iload_n kS_write_13 rfl ?_
  refine sg_lload_n kS_write_14 rfl ?_
  refine sg_iconst (v := 0) kS_write_15 (by decide) ?_
  refine sg_callS (As := [.ref (ss_ad b i), .int key, .long v, .int (ss_b false)]) (rest := []) (cS_addWrite (d := 7) hst (by decide) h hi ho key v false (Qr := fun w z' => w = none ∧ Qr none z') (Qx := fun E z' => E = sx_U ∧ Qx sx_U z ∧ z' = z) (fun h1 z' h2 h3 => ⟨rfl, hr (if_pos h1) z' h2 h3⟩) (fun h1 => ⟨rfl, hx3 (if_neg h1), rfl⟩)) sl_S_73 kS_write_16 rfl (by decide) ⟨by decide, by decide⟩ ⟨by decide, by decide⟩ (fun E z1 hq => ?_) (fun w z1 hq => ?_)
  · obtain ⟨rfl, h1, rfl⟩ := hq
    exact sx_out rfl h1 (by decide) (by decide)
  · obtain ⟨rfl, h1⟩ := hq
    exact sg_vret kS_write_19 rfl h1 (by decide) (by decide)
set_option maxRecDepth 100000 in
theorem cS_erase (hst : l.stackTraces = false) (h : ss_XP V z b st) (t key : Int32) (hr : cd_erase st t key = 0 → ∀ z', ss_XP V z' b (nx_write st t key 0 true) → ss_fr (ss_xc b) z z' → Qr none z') (hx1 : cd_erase st t key = 1 → Qx sx_S z) (hx2 : cd_erase st t key = 2 → Qx sx_A z) (hx3 : cd_erase st t key = 3 → Qx sx_N z) (hx4 : cd_erase st t key = 4 → Qx sx_U z) : ss_C V l 9 mS_erase 4 24 [.ref b, .int t, .int key] z Qr Qx := by
  unfold cd_erase nx_write at hr
  unfold cd_erase at hx1 hx2 hx3 hx4
  refine ss_C.of hst rfl (by decide) (Nat.le_of_ble_eq_true rfl) ?_
  refine sg_aload_n kS_erase_0 rfl ?_
  refine sg_iload_n kS_erase_1 rfl ?_
  refine sg_lt9 hst rfl rfl h t kS_erase_2 (by decide) (by decide) (by decide) (fun hl => hx1 (by rw [hl])) (fun i x hi ho hl => ?_)
  rw [hl] at hr hx2 hx3 hx4
  have hr : (if ss_key key then (if ss_rd st.2.2.2.1 x key = none then 3 else if x.2.2.length < 12 then 0 else 4) else 2) = 0 → ∀ z', ss_XP V z' b (ss_stx st i (some (x.1, x.2.1, x.2.2 ++ [(key, 0, true)]))) → ss_fr (ss_xc b) z z' → Qr none z' := hr
  have hx2 : (if ss_key key then (if ss_rd st.2.2.2.1 x key = none then 3 else if x.2.2.length < 12 then 0 else 4) else 2) = 2 → Qx sx_A z := hx2
  have hx3 : (if ss_key key then (if ss_rd st.2.2.2.1 x key = none then 3 else if x.2.2.length < 12 then 0 else 4) else 2) = 3 → Qx sx_N z := hx3
  have hx4 : (if ss_key key then (if ss_rd st.2.2.2.1 x key = none then 3 else if x.2.2.length < 12 then 0 else 4) else 2) = 4 → Qx sx_U z := hx4
  refine sg_astore_n kS_erase_5 (by decide) ?_
  refine sg_iload_n kS_erase_6 rfl ?_
  refine sg_ck9 hst rfl rfl key kS_erase_7 (by decide) (by decide) (by decide) (fun hk => hx2 (if_neg hk)) (fun hk => ?_)
  rw [if_pos hk] at hr hx3 hx4
  refine sg_aload_n kS_erase_10 rfl ?_
  refine sg_aload_n kS_erase_11 rfl ?_
  refine sg_iload_n kS_erase_12 rfl ?_
  refine sg_fV (As := [.ref (ss_ad b i), .int key]) (rest := []) (cS_finds (d := 6) hst h hi ho key) vl_S_77 kS_erase_13 h.1 rfl (by decide) ⟨by decide, by decide⟩ ⟨by decide, by decide⟩ ?_
  refine sg_if_ne 29 kS_erase_16 (by decide) (fun hb => ?_) (fun hb => ?_)
  · rw [ss_b1] at hb
    have hb := of_decide_eq_true hb
    rw [if_neg hb] at hr hx4
    refine sg_aload_n kS_erase_29 rfl ?_
    refine sg_iload_n kS_erase_30 rfl ?_
    refine sg_lconst (v := 0) kS_erase_31 (by decide) ?_
    refine sg_iconst (v := 1) kS_erase_32 (by decide) ?_
    refine sg_callS (As := [.ref (ss_ad b i), .int key, .long 0, .int (ss_b true)]) (rest := []) (cS_addWrite (d := 7) hst (by decide) h hi ho key 0 true (Qr := fun w z' => w = none ∧ Qr none z') (Qx := fun E z' => E = sx_U ∧ Qx sx_U z ∧ z' = z) (fun h1 z' h2 h3 => ⟨rfl, hr (if_pos h1) z' h2 h3⟩) (fun h1 => ⟨rfl, hx4 (if_neg h1), rfl⟩)) sl_S_73 kS_erase_33 rfl (by decide) ⟨by decide, by decide⟩ ⟨by decide, by decide⟩ (fun E z1 hq => ?_) (fun w z1 hq => ?_)
    · obtain ⟨rfl, h1, rfl⟩ := hq
      exact sx_out rfl h1 (by decide) (by decide)
    · obtain ⟨rfl, h1⟩ := hq
      exact sg_vret kS_erase_36 rfl h1 (by decide) (by decide)
  · rw [ss_b0] at hb
    have hb := Decidable.not_not.mp (of_decide_eq_false hb)
    exact sg_throwN tl_66 rfl kS_erase_19 kS_erase_22 kS_erase_23 kS_erase_25 kS_erase_28 (by decide) (by decide) (hx3 (if_pos hb)) (by decide) (by decide)
set_option maxRecDepth 100000 in
theorem cS_next (hst : l.stackTraces = false) (h : ss_XP V z b st) (t key : Int32) (hr : ∀ q, ss_lx st t = some q → ss_key key → Qr (some (.int (ss_ix (ss_nx st q.2 key)))) z) (hx1 : cd_next st t key = 1 → Qx sx_S z) (hx2 : cd_next st t key = 2 → Qx sx_A z) : ss_C V l 9 mS_next 4 24 [.ref b, .int t, .int key] z Qr Qx := by
  unfold cd_next at hx1 hx2
  refine ss_C.of hst rfl (by decide) (Nat.le_of_ble_eq_true rfl) ?_
  refine sg_aload_n kS_next_0 rfl ?_
  refine sg_iload_n kS_next_1 rfl ?_
  refine sg_lt9 hst rfl rfl h t kS_next_2 (by decide) (by decide) (by decide) (fun hl => hx1 (by rw [hl])) (fun i x hi ho hl => ?_)
  rw [hl] at hx2
  refine sg_astore_n kS_next_5 (by decide) ?_
  refine sg_iload_n kS_next_6 rfl ?_
  refine sg_ck9 hst rfl rfl key kS_next_7 (by decide) (by decide) (by decide) (fun hk => hx2 (if_neg hk)) (fun hk => ?_)
  have hr := hr _ hl hk
  obtain ⟨j, hj, rfl⟩ := ss_key_nI hk
  unfold ss_nx at hr
  rw [nI_clamp (by omega)] at hr
  have loop : ∀ m a, a + m = 16 → ss_first (ss_fnd st x) j (16 - j) = ss_first (ss_fnd st x) a m → ss_G V l mS_next (ss_rm 9 4 24) (ss_Q V Qr Qx 4 24) 13 [(4, .int (nI a)), (3, .ref (ss_ad b i)), (0, .ref b)] [] z 2 12 := by
    intro m
    induction m with
    | zero =>
      intro a ha hf
      have ha : a = 16 := by omega
      subst ha
      rw [hf] at hr
      refine sg_iload kS_next_13 rfl ?_
      refine sg_bipush (v := 16) kS_next_15 (by decide) ?_
      refine sg_icmp_ge 39 kS_next_17 (by decide) (fun hb => ?_) (fun hb => ?_)
      · refine sg_iconst (v := (-1)) kS_next_39 (by decide) ?_
        exact sg_iret kS_next_40 rfl rfl hr (by decide) (by decide)
      · exact absurd (by decide) hb
    | succ m ih =>
      intro a ha hf
      have hf2 : ss_first (ss_fnd st x) j (16 - j) = if ss_fnd st x a = true then some a else ss_first (ss_fnd st x) (a + 1) m := hf
      refine sg_iload kS_next_13 rfl ?_
      refine sg_bipush (v := 16) kS_next_15 (by decide) ?_
      refine sg_icmp_ge 39 kS_next_17 (by decide) (fun hb => ?_) (fun hb => ?_)
      · exact absurd hb (nI_ge (b := 16) (by omega) (by decide))
      · refine sg_aload_n kS_next_20 rfl ?_
        refine sg_aload_n kS_next_21 rfl ?_
        refine sg_iload kS_next_22 rfl ?_
        refine sg_fV (As := [.ref (ss_ad b i), .int (nI a)]) (rest := []) (cS_finds (d := 6) hst h hi ho (nI a)) vl_S_77 kS_next_24 h.1 rfl (by decide) ⟨by decide, by decide⟩ ⟨by decide, by decide⟩ ?_
        refine sg_if_eq 33 kS_next_27 (by decide) (fun hc => ?_) (fun hc => ?_)
        · rw [ss_b0] at hc
          refine sg_iinc kS_next_33 rfl (ss_inc _) (by decide) ?_
          refine sg_goto 13 kS_next_36 (by decide) ?_
          refine sg_lw (ih (a + 1) (by omega) ?_) ⟨rfl, rfl, rfl, trivial⟩
          rw [hf2, if_neg (by unfold ss_fnd; rw [hc]; decide)]
        · rw [ss_b1] at hc
          refine sg_iload kS_next_30 rfl ?_
          rw [hf2, if_pos (by unfold ss_fnd; exact hc)] at hr
          exact sg_iret kS_next_32 rfl rfl hr (by decide) (by decide)
  refine sg_iload_n kS_next_10 rfl ?_
  refine sg_istore kS_next_11 (by decide) ?_
  exact sg_lw (loop (16 - j) j (by omega) rfl) ⟨rfl, rfl, rfl, trivial⟩
set_option maxRecDepth 100000 in
theorem cS_versions (hst : l.stackTraces = false) (h : ss_XP V z b st) (key : Int32) (hr : ss_key key → Qr (some (.int (nI (ss_cnt (ss_hit (ss_pe key) st.2.2.2.1) st.2.2.2.1.length)))) z) (hx : ¬ ss_key key → Qx sx_A z) : ss_C V l 9 mS_versions 4 24 [.ref b, .int key] z Qr Qx := by
  refine ss_C.of hst rfl (by decide) (Nat.le_of_ble_eq_true rfl) ?_
  refine sg_iload_n kS_versions_0 rfl ?_
  refine sg_ck9 hst rfl rfl key kS_versions_1 (by decide) (by decide) (by decide) hx (fun hk => ?_)
  have hr := hr hk
  obtain ⟨h0, ⟨fk, ft, fv, fe, ⟨g0, g1, g2, g3, g4, g5⟩, he⟩, -⟩ := h
  have loop : ∀ m i, i + m = st.2.2.2.1.length → ss_G V l mS_versions (ss_rm 9 4 24) (ss_Q V Qr Qx 4 24) 8 [(3, .int (nI i)), (2, .int (nI (ss_cnt (ss_hit (ss_pe key) st.2.2.2.1) i))), (0, .ref b), (1, .int key)] [] z 1 6 := by
    intro m
    induction m with
    | zero =>
      intro i hi
      have hi : i = st.2.2.2.1.length := by omega
      subst hi
      refine sg_iload_n kS_versions_8 rfl ?_
      refine sg_aload_n kS_versions_9 rfl ?_
      refine sg_get fl_S_14 kS_versions_10 h0 rfl ?_
      refine sg_get fl_S_84 kS_versions_13 g0 rfl ?_
      refine sg_icmp_ge 41 kS_versions_16 (by decide) (fun hb => ?_) (fun hb => ?_)
      · refine sg_iload_n kS_versions_41 rfl ?_
        exact sg_iret kS_versions_42 rfl rfl hr (by decide) (by decide)
      · exact absurd (nI_le (Nat.le_refl _) (by omega)) hb
    | succ m ih =>
      intro i hi
      have hi2 : i < st.2.2.2.1.length := by omega
      have hg := List.getElem?_eq_getElem hi2
      have hh : ss_hit (ss_pe key) st.2.2.2.1 i = ss_pe key st.2.2.2.1[i] := ss_hit_some hg
      have hs : ss_cnt (ss_hit (ss_pe key) st.2.2.2.1) (i + 1) = ss_cnt (ss_hit (ss_pe key) st.2.2.2.1) i + (if ss_hit (ss_pe key) st.2.2.2.1 i = true then 1 else 0) := rfl
      rw [hh] at hs
      refine sg_iload_n kS_versions_8 rfl ?_
      refine sg_aload_n kS_versions_9 rfl ?_
      refine sg_get fl_S_14 kS_versions_10 h0 rfl ?_
      refine sg_get fl_S_84 kS_versions_13 g0 rfl ?_
      refine sg_icmp_ge 41 kS_versions_16 (by decide) (fun hb => ?_) (fun hb => ?_)
      · exact absurd hb (nI_ge (by omega) (by omega))
      · refine sg_aload_n kS_versions_19 rfl ?_
        refine sg_get fl_S_14 kS_versions_20 h0 rfl ?_
        refine sg_get fl_S_117 kS_versions_23 g0 rfl ?_
        refine sg_iload_n kS_versions_26 rfl ?_
        refine sg_iald kS_versions_27 g1 (by omega) (by omega) ?_
        refine sg_iload_n kS_versions_28 rfl ?_
        rw [(he i _ hg).1]
        refine sg_icmp_ne 35 kS_versions_29 (by decide) (fun hc => ?_) (fun hc => ?_)
        · refine sg_iinc kS_versions_35 rfl (ss_inc _) (by decide) ?_
          refine sg_goto 8 kS_versions_38 (by decide) ?_
          rw [if_neg (by unfold ss_pe; rw [decide_eq_false hc]; decide)] at hs
          refine sg_lw (ih (i + 1) (by omega)) ⟨rfl, ?_, rfl, rfl, trivial⟩
          rw [hs]
          rfl
        · refine sg_iinc kS_versions_32 rfl (ss_inc _) (by decide) ?_
          refine sg_iinc kS_versions_35 rfl (ss_inc _) (by decide) ?_
          refine sg_goto 8 kS_versions_38 (by decide) ?_
          rw [if_pos (by unfold ss_pe; rw [decide_eq_true hc])] at hs
          refine sg_lw (ih (i + 1) (by omega)) ⟨rfl, ?_, rfl, rfl, trivial⟩
          rw [hs]
          rfl
  refine sg_iconst (v := 0) kS_versions_4 (by decide) ?_
  refine sg_istore_n kS_versions_5 (by decide) ?_
  refine sg_iconst (v := 0) kS_versions_6 (by decide) ?_
  refine sg_istore_n kS_versions_7 (by decide) ?_
  exact sg_lw (loop st.2.2.2.1.length 0 (by omega)) ⟨rfl, rfl, rfl, rfl, trivial⟩
set_option maxRecDepth 100000 in
theorem cS_timeOf (hst : l.stackTraces = false) (h : ss_XP V z b st) (key kk : Int32) (hr : ∀ e, ss_key key → ss_vs st key kk = some e → Qr (some (.int e.2.1)) z) (hx1 : cd_timeOf st key kk = 1 → Qx sx_A z) (hx2 : cd_timeOf st key kk = 2 → Qx sx_N z) : ss_C V l 9 mS_timeOf 4 24 [.ref b, .int key, .int kk] z Qr Qx := by
  unfold cd_timeOf at hx1 hx2
  refine ss_C.of hst rfl (by decide) (Nat.le_of_ble_eq_true rfl) ?_
  refine sg_iload_n kS_timeOf_0 rfl ?_
  refine sg_ck9 hst rfl rfl key kS_timeOf_1 (by decide) (by decide) (by decide) (fun hk => hx1 (if_neg hk)) (fun hk => ?_)
  rw [if_pos hk] at hx2
  have hF := cR_fromNewest (d := 8) hst (by decide) h.2.1 key kk
  obtain ⟨h0, ⟨fk, ft, fv, fe, ⟨g0, g1, g2, g3, g4, g5⟩, he⟩, -⟩ := h
  refine sg_aload_n kS_timeOf_4 rfl ?_
  refine sg_get fl_S_14 kS_timeOf_5 h0 rfl ?_
  refine sg_iload_n kS_timeOf_8 rfl ?_
  refine sg_iload_n kS_timeOf_9 rfl ?_
  refine sg_fV (As := [.int key, .int kk]) (rest := []) hF vl_S_121 kS_timeOf_10 g0 rfl (by decide) ⟨by decide, by decide⟩ ⟨by decide, by decide⟩ ?_
  have hx := ss_ix_neg (o := ss_nt (ss_hit (ss_pe key) st.2.2.2.1) kk st.2.2.2.1.length 0) (fun j hj => by
    have h1 := ss_nt_lt hj
    omega)
  refine sg_istore_n kS_timeOf_13 (by decide) ?_
  refine sg_iload_n kS_timeOf_14 rfl ?_
  refine sg_iconst (v := (-1)) kS_timeOf_15 (by decide) ?_
  refine sg_icmp_ne 29 kS_timeOf_16 (by decide) (fun hb => ?_) (fun hb => ?_)
  · rw [hx] at hb
    cases hp : ss_nt (ss_hit (ss_pe key) st.2.2.2.1) kk st.2.2.2.1.length 0 with
    | none => exact absurd hp hb
    | some j =>
      have hj := ss_nt_lt hp
      have hg := List.getElem?_eq_getElem hj
      refine sg_aload_n kS_timeOf_29 rfl ?_
      refine sg_get fl_S_14 kS_timeOf_30 h0 rfl ?_
      refine sg_get fl_S_126 kS_timeOf_33 g0 rfl ?_
      refine sg_iload_n kS_timeOf_36 rfl ?_
      refine sg_iald kS_timeOf_37 g2 (by omega) (by omega) ?_
      rw [(he j _ hg).2.1]
      refine sg_iret kS_timeOf_38 rfl rfl (hr _ hk ?_) (by decide) (by decide)
      unfold ss_vs
      rw [hp]
      exact hg
  · rw [hx] at hb
    exact sg_throwN tl_124 rfl kS_timeOf_19 kS_timeOf_22 kS_timeOf_23 kS_timeOf_25 kS_timeOf_28 (by decide) (by decide) (hx2 (if_pos hb)) (by decide) (by decide)
set_option maxRecDepth 100000 in
theorem cS_valueOf (hst : l.stackTraces = false) (h : ss_XP V z b st) (key kk : Int32) (hr : ∀ e, ss_key key → ss_vs st key kk = some e → e.2.2.2 = false → Qr (some (.long e.2.2.1)) z) (hx1 : cd_valueOf st key kk = 1 → Qx sx_A z) (hx2 : cd_valueOf st key kk = 2 → Qx sx_N z) : ss_C V l 9 mS_valueOf 4 24 [.ref b, .int key, .int kk] z Qr Qx := by
  unfold cd_valueOf at hx1 hx2
  refine ss_C.of hst rfl (by decide) (Nat.le_of_ble_eq_true rfl) ?_
  refine sg_iload_n kS_valueOf_0 rfl ?_
  refine sg_ck9 hst rfl rfl key kS_valueOf_1 (by decide) (by decide) (by decide) (fun hk => hx1 (if_neg hk)) (fun hk => ?_)
  rw [if_pos hk] at hx2
  have hF := cR_fromNewest (d := 8) hst (by decide) h.2.1 key kk
  obtain ⟨h0, ⟨fk, ft, fv, fe, ⟨g0, g1, g2, g3, g4, g5⟩, he⟩, -⟩ := h
  have bad : (match ss_vs st key kk with
    | none => 2
    | some e => if e.2.2.2 = true then 2 else 0) = 2 → ∀ lo, ss_G V l mS_valueOf (ss_rm 9 4 24) (ss_Q V Qr Qx 4 24) 31 lo [] z 1 6 := fun hb lo => sg_throwN tl_133 rfl kS_valueOf_31 kS_valueOf_34 kS_valueOf_35 kS_valueOf_37 kS_valueOf_40 (by decide) (by decide) (hx2 hb) (by decide) (by decide)
  refine sg_aload_n kS_valueOf_4 rfl ?_
  refine sg_get fl_S_14 kS_valueOf_5 h0 rfl ?_
  refine sg_iload_n kS_valueOf_8 rfl ?_
  refine sg_iload_n kS_valueOf_9 rfl ?_
  refine sg_fV (As := [.int key, .int kk]) (rest := []) hF vl_S_121 kS_valueOf_10 g0 rfl (by decide) ⟨by decide, by decide⟩ ⟨by decide, by decide⟩ ?_
  have hx := ss_ix_neg (o := ss_nt (ss_hit (ss_pe key) st.2.2.2.1) kk st.2.2.2.1.length 0) (fun j hj => by
    have h1 := ss_nt_lt hj
    omega)
  refine sg_istore_n kS_valueOf_13 (by decide) ?_
  refine sg_iload_n kS_valueOf_14 rfl ?_
  refine sg_iconst (v := (-1)) kS_valueOf_15 (by decide) ?_
  refine sg_icmp_eq 31 kS_valueOf_16 (by decide) (fun hb => ?_) (fun hb => ?_)
  · rw [hx] at hb
    refine bad ?_ _
    unfold ss_vs
    rw [hb]
    rfl
  · rw [hx] at hb
    cases hp : ss_nt (ss_hit (ss_pe key) st.2.2.2.1) kk st.2.2.2.1.length 0 with
    | none => exact absurd hp hb
    | some j =>
      have hj := ss_nt_lt hp
      have hg := List.getElem?_eq_getElem hj
      have hv : ss_vs st key kk = some st.2.2.2.1[j] := by
        unfold ss_vs
        rw [hp]
        exact hg
      refine sg_aload_n kS_valueOf_19 rfl ?_
      refine sg_get fl_S_14 kS_valueOf_20 h0 rfl ?_
      refine sg_get fl_S_129 kS_valueOf_23 g0 rfl ?_
      refine sg_iload_n kS_valueOf_26 rfl ?_
      refine sg_zald kS_valueOf_27 g4 (by omega) (by omega) ?_
      rw [(he j _ hg).2.2.2]
      refine sg_if_eq 41 kS_valueOf_28 (by decide) (fun hc => ?_) (fun hc => ?_)
      · rw [ss_b0] at hc
        refine sg_aload_n kS_valueOf_41 rfl ?_
        refine sg_get fl_S_14 kS_valueOf_42 h0 rfl ?_
        refine sg_get fl_S_69 kS_valueOf_45 g0 rfl ?_
        refine sg_iload_n kS_valueOf_48 rfl ?_
        refine sg_lald kS_valueOf_49 g3 (by omega) (by omega) ?_
        rw [(he j _ hg).2.2.1]
        exact sg_lret kS_valueOf_50 rfl (hr _ hk hv hc) (by decide) (by decide)
      · rw [ss_b1] at hc
        refine bad ?_ _
        rw [hv]
        exact if_pos hc
end SSW
