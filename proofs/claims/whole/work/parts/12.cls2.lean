/-! SnapshotShelves: transactions, one by one. -/
section SSY
variable {V : ss_V} {l : Launch} {z : ss_Z} {d b : Nat} {st : ss_St} {Qr : Option Value → ss_Z → Prop} {Qx : String → ss_Z → Prop} {M : ss_M} {pc : Nat} {lo : List (Nat × Value)} {rest : List Value} {k n : Nat}
/-- a call of liveTransaction in a public method -/
theorem sg_lt9 (hst : l.stackTraces = false) (hc : M.1.cls = RX2) (hh : M.2.2.2.2 = []) (h : ss_XP V z b st) (t : Int32) (hd : decode M.2.1 pc = .ok (.invokevirtual 46, 3)) (h8 : (rest.map fun v => v.category).sum ≤ 8) (hk : k + 1 ≤ 4) (hn : n + 6 ≤ 24) (hx : ss_lx st t = none → Qx sx_S z) (kk : ∀ i x, i < 6 → st.2.2.2.2 i = some x → ss_lx st t = some (i, x) → ss_G V l M (ss_rm 9 4 24) (ss_Q V Qr Qx 4 24) (pc + 3) lo (.ref (ss_ad b i) :: rest) z (k + 1) (n + 6)) : ss_G V l M (ss_rm 9 4 24) (ss_Q V Qr Qx 4 24) pc lo (.int t :: .ref b :: rest) z k n := by
  refine sg_callV (As := [.int t]) (rest := rest) (cS_liveTx (d := 8) hst (by decide) h t (Qr := fun v z' => (∃ i, ss_lt st t = some i ∧ v = some (.ref (ss_ad b i))) ∧ z' = z) (Qx := fun E z' => ss_lt st t = none ∧ E = sx_S ∧ z' = z) (fun i hi => ⟨⟨i, hi, rfl⟩, rfl⟩) (fun hi => ⟨hi, rfl, rfl⟩)) (by rw [hc]; exact vl_S_46) hd h.1 rfl h8 ⟨by decide, by decide⟩ ⟨hk, hn⟩ (fun E z' hq => ?_) (fun v z' hq => ?_)
  · obtain ⟨h1, rfl, rfl⟩ := hq
    exact sx_out hh (hx (ss_lx_none h1)) hk hn
  · obtain ⟨⟨i, hi, rfl⟩, rfl⟩ := hq
    obtain ⟨h6, x, h7, h9⟩ := ss_lx_some hi
    exact kk i x h6 h7 h9
theorem sg_ck9 (hst : l.stackTraces = false) (hc : M.1.cls = RX2) (hh : M.2.2.2.2 = []) (key : Int32) (hd : decode M.2.1 pc = .ok (.invokestatic 50, 3)) (h8 : (rest.map fun v => v.category).sum ≤ 8) (hk : k + 1 ≤ 4) (hn : n + 6 ≤ 24) (hx : ¬ ss_key key → Qx sx_A z) (kk : ss_key key → ss_G V l M (ss_rm 9 4 24) (ss_Q V Qr Qx 4 24) (pc + 3) lo rest z (k + 1) (n + 6)) : ss_G V l M (ss_rm 9 4 24) (ss_Q V Qr Qx 4 24) pc lo (.int key :: rest) z k n := by
  refine sg_callS (As := [.int key]) (rest := rest) (cS_checkKey (d := 8) hst (by decide) key (Qr := fun v z' => ss_key key ∧ v = none ∧ z' = z) (Qx := fun E z' => ¬ ss_key key ∧ E = sx_A ∧ z' = z) (fun hi => ⟨hi, rfl, rfl⟩) (fun hi => ⟨hi, rfl, rfl⟩)) (by rw [hc]; exact sl_S_50) hd rfl h8 ⟨by decide, by decide⟩ ⟨hk, hn⟩ (fun E z' hq => ?_) (fun v z' hq => ?_)
  · obtain ⟨h1, rfl, rfl⟩ := hq
    exact sx_out hh (hx h1) hk hn
  · obtain ⟨h1, rfl, rfl⟩ := hq
    exact kk h1
theorem cS_start (hst : l.stackTraces = false) (h : ss_XP V z b st) (t : Int32) (hr : ∀ q, ss_lx st t = some q → Qr (some (.int q.2.2.1)) z) (hx : ss_lx st t = none → Qx sx_S z) : ss_C V l 9 mS_start 4 24 [.ref b, .int t] z Qr Qx := by
  refine ss_C.of hst rfl (by decide) (Nat.le_of_ble_eq_true rfl) ?_
  refine sg_aload_n kS_start_0 rfl ?_
  refine sg_iload_n kS_start_1 rfl ?_
  refine sg_lt9 hst rfl rfl h t kS_start_2 (by decide) (by decide) (by decide) hx (fun i x hi ho hl => ?_)
  obtain ⟨g1, g2⟩ := h.slot hi ho
  refine sg_get fl_S_57 kS_start_5 g1 rfl ?_
  exact sg_iret kS_start_8 rfl rfl (hr _ hl) (by decide) (by decide)
theorem cS_mark (hst : l.stackTraces = false) (h : ss_XP V z b st) (t : Int32) (hr : ∀ q, ss_lx st t = some q → Qr (some (.int (nI q.2.2.2.length))) z) (hx : ss_lx st t = none → Qx sx_S z) : ss_C V l 9 mS_mark 4 24 [.ref b, .int t] z Qr Qx := by
  refine ss_C.of hst rfl (by decide) (Nat.le_of_ble_eq_true rfl) ?_
  refine sg_aload_n kS_mark_0 rfl ?_
  refine sg_iload_n kS_mark_1 rfl ?_
  refine sg_lt9 hst rfl rfl h t kS_mark_2 (by decide) (by decide) (by decide) hx (fun i x hi ho hl => ?_)
  obtain ⟨g1, fk, ft, fv, fe, ⟨g2, -⟩, -⟩ := h.slot hi ho
  rw [ss_es_len] at g2
  refine sg_get fl_S_81 kS_mark_5 g1 rfl ?_
  refine sg_get fl_S_84 kS_mark_8 g2 rfl ?_
  exact sg_iret kS_mark_11 rfl rfl (hr _ hl) (by decide) (by decide)
theorem cS_abort (hst : l.stackTraces = false) (h : ss_XP V z b st) (t : Int32) (hr : cd_tx st t = 0 → ∀ z', ss_XP V z' b (nx_end st t) → ss_fr (ss_xc b) z z' → Qr none z') (hx : cd_tx st t = 1 → Qx sx_S z) : ss_C V l 9 mS_abort 4 24 [.ref b, .int t] z Qr Qx := by
  unfold cd_tx nx_end at hr
  unfold cd_tx at hx
  refine ss_C.of hst rfl (by decide) (Nat.le_of_ble_eq_true rfl) ?_
  refine sg_aload_n kS_abort_0 rfl ?_
  refine sg_iload_n kS_abort_1 rfl ?_
  refine sg_lt9 hst rfl rfl h t kS_abort_2 (by decide) (by decide) (by decide) (fun hl => hx (by rw [hl])) (fun i x hi ho hl => ?_)
  rw [hl] at hr
  obtain ⟨g1, g2⟩ := h.slot hi ho
  refine sg_iconst (v := 0) kS_abort_5 (by decide) ?_
  refine sg_put fl_S_89 kS_abort_6 g1 rfl rfl rfl (Nat.le_of_ble_eq_true rfl) (fun z1 u1 => ?_)
  have g1 := u1.at g1
  have f1 : ss_fr (ss_tcell (ss_ad b i)) z z1 := u1.fr ⟨by omega, by omega⟩
  have f2 : ss_fr (fun q => q = ss_ad b i) z z1 := u1.fr rfl
  refine sg_vret kS_abort_9 rfl (hr rfl z1 (h.setTx hi f1 ⟨false, _, _, _, g1, g2.fr f2 (fun q hq hr => by have := hr.1; omega), rfl⟩) (f1.mono (ss_tc_xc hi))) (by decide) (by decide)
theorem cS_rollback (hst : l.stackTraces = false) (h : ss_XP V z b st) (t m : Int32) (hr : cd_rollback st t m = 0 → ∀ z', ss_XP V z' b (nx_rollback st t m) → ss_fr (ss_xc b) z z' → Qr none z') (hx1 : cd_rollback st t m = 1 → Qx sx_S z) (hx2 : cd_rollback st t m = 2 → Qx sx_A z) : ss_C V l 9 mS_rollback 4 24 [.ref b, .int t, .int m] z Qr Qx := by
  unfold cd_rollback nx_rollback at hr
  unfold cd_rollback at hx1 hx2
  refine ss_C.of hst rfl (by decide) (Nat.le_of_ble_eq_true rfl) ?_
  refine sg_aload_n kS_rollback_0 rfl ?_
  refine sg_iload_n kS_rollback_1 rfl ?_
  refine sg_lt9 hst rfl rfl h t kS_rollback_2 (by decide) (by decide) (by decide) (fun hl => hx1 (by rw [hl])) (fun i x hi ho hl => ?_)
  rw [hl] at hr hx2
  have hr : (if m < 0 ∨ nI x.2.2.length < m then 2 else 0) = 0 → ∀ z', ss_XP V z' b (ss_stx st i (some (x.1, x.2.1, x.2.2.take m.toNatClampNeg))) → ss_fr (ss_xc b) z z' → Qr none z' := hr
  have hx2 : (if m < 0 ∨ nI x.2.2.length < m then 2 else 0) = 2 → Qx sx_A z := hx2
  obtain ⟨g1, fk, ft, fv, fe, ⟨g2, g3, g4, g5, g6, g7⟩, he⟩ := h.slot hi ho
  rw [ss_es_len] at g2 g7
  have bad : (m < 0 ∨ nI x.2.2.length < m) → ∀ lo, ss_G V l mS_rollback (ss_rm 9 4 24) (ss_Q V Qr Qx 4 24) 21 lo [] z 1 6 := fun hb lo => sg_throw tl_87 rfl kS_rollback_21 kS_rollback_24 kS_rollback_25 kS_rollback_27 kS_rollback_30 (by decide) (by decide) (hx2 (if_pos hb)) (by decide) (by decide)
  refine sg_get fl_S_81 kS_rollback_5 g1 rfl ?_
  refine sg_astore_n kS_rollback_8 (by decide) ?_
  refine sg_iload_n kS_rollback_9 rfl ?_
  refine sg_if_lt 21 kS_rollback_10 (by decide) (fun hb => ?_) (fun hb => ?_)
  · exact bad (Or.inl hb) _
  · refine sg_iload_n kS_rollback_13 rfl ?_
    refine sg_aload_n kS_rollback_14 rfl ?_
    refine sg_get fl_S_84 kS_rollback_15 g2 rfl ?_
    refine sg_icmp_le 31 kS_rollback_18 (by decide) (fun hc => ?_) (fun hc => ?_)
    · obtain ⟨j, hj, rfl⟩ := nI_of hb
      have hjl : j ≤ x.2.2.length := by
        have := (nI_leI (by omega) (by omega)).mp hc
        exact this
      rw [if_neg (fun q => q.elim hb (fun q => absurd q (nI_nlt hjl (by omega)))), nI_clamp (by omega)] at hr
      refine sg_aload_n kS_rollback_31 rfl ?_
      refine sg_iload_n kS_rollback_32 rfl ?_
      refine sg_put fl_S_84 kS_rollback_33 g2 rfl rfl rfl (Nat.le_of_ble_eq_true rfl) (fun z1 u1 => ?_)
      have g2 := u1.at g2
      have g1 := u1.ne g1 (by omega)
      have g3 := u1.ne g3 (by omega)
      have g4 := u1.ne g4 (by omega)
      have g5 := u1.ne g5 (by omega)
      have g6 := u1.ne g6 (by omega)
      have f1 : ss_fr (ss_tcell (ss_ad b i)) z z1 := u1.fr ⟨by omega, by omega⟩
      have hlen : (ss_es (x.1, x.2.1, x.2.2.take j)).length = j := by
        rw [ss_es_len]
        show (x.2.2.take j).length = j
        rw [List.length_take]
        omega
      refine sg_vret kS_rollback_36 rfl (hr rfl z1 (h.setTx hi f1 ⟨true, _, _, _, g1, ⟨fk, ft, fv, fe, ⟨?_, g3, g4, g5, g6, ?_⟩, ?_⟩, rfl, rfl, rfl, rfl⟩) (f1.mono (ss_tc_xc hi))) (by decide) (by decide)
      · rw [hlen]
        exact g2
      · rw [hlen]
        omega
      · intro q e hq
        have hq1 := (List.getElem?_eq_some_iff.mp hq).1
        rw [hlen] at hq1
        refine he q e ?_
        rw [ss_es_at] at hq ⊢
        have hq : ((x.2.2.take j)[q]?).map _ = some e := hq
        rw [List.getElem?_take_of_lt hq1] at hq
        exact hq
    · exact bad (Or.inr (Int32.not_le.mp hc)) _
/-- where the row that a transaction reads lies -/
def ss_ra (b i : Nat) (x : ss_Tx) (key : Int32) : Nat := if ss_li (ss_pk key) x.2.2 = none then b + 1 else ss_ad b i + 1
theorem ss_ra_row (h : ss_XP V z b st) {i : Nat} (hi : i < 6) {x : ss_Tx} (ho : st.2.2.2.2 i = some x) (key : Int32) : ∃ cap, cap < 1000 ∧ ss_row V z (ss_ra b i x key) cap (ss_rr st.2.2.2.1 x key) := by
  unfold ss_ra ss_rr
  by_cases hn : ss_li (ss_pk key) x.2.2 = none
  · rw [if_pos hn, if_pos hn]
    exact ⟨48, by decide, h.2.1⟩
  · rw [if_neg hn, if_neg hn]
    exact ⟨12, by decide, (h.slot hi ho).2⟩
theorem cS_rowToRead (hst : l.stackTraces = false) (h : ss_XP V z b st) {i : Nat} (hi : i < 6) {x : ss_Tx} (ho : st.2.2.2.2 i = some x) (key : Int32) : ss_F V l (d + 1) mS_rowToRead [.ref b, .ref (ss_ad b i), .int key] z (.ref (ss_ra b i x key)) := by
  intro Qr Qx hq
  obtain ⟨g1, g2⟩ := h.slot hi ho
  have hL := cR_latest (d := d) hst (by decide) g2 key x.2.1
  rw [ss_es_li] at hL
  have h0 := h.1
  have g3 := g2.choose_spec.choose_spec.choose_spec.choose_spec.1.1
  refine ss_C.of hst rfl (by decide) (Nat.le_of_ble_eq_true rfl) ?_
  refine sg_aload_n kS_rowToRead_0 rfl ?_
  refine sg_get fl_S_81 kS_rowToRead_1 g1 rfl ?_
  refine sg_iload_n kS_rowToRead_4 rfl ?_
  refine sg_aload_n kS_rowToRead_5 rfl ?_
  refine sg_get fl_S_57 kS_rowToRead_6 g1 rfl ?_
  refine sg_fV (As := [.int key, .int x.2.1]) (rest := []) hL vl_S_157 kS_rowToRead_9 g3 rfl (by decide) ⟨Nat.le_refl _, by show 8 + (4 + 11) + (30 * d + 60) ≤ 30 * (d + 1) + 60; omega⟩ ⟨Nat.le_refl _, Nat.le_refl _⟩ ?_
  unfold ss_ra at hq
  have hx := ss_ix_neg (o := ss_li (ss_pk key) x.2.2) (fun j hj => by
    have h1 := ss_li_lt hj
    obtain ⟨_, _, _, _, ⟨_, _, _, _, _, h7⟩, _⟩ := g2
    rw [ss_es_len] at h7
    omega)
  refine sg_iconst (v := (-1)) kS_rowToRead_12 (by decide) ?_
  refine sg_icmp_ne 23 kS_rowToRead_13 (by decide) (fun hb => ?_) (fun hb => ?_)
  · rw [hx] at hb
    rw [if_neg hb] at hq
    refine sg_aload_n kS_rowToRead_23 rfl ?_
    refine sg_get fl_S_81 kS_rowToRead_24 g1 rfl ?_
    exact sg_aret kS_rowToRead_27 rfl hq (Nat.le_refl _) (Nat.le_refl _)
  · rw [hx] at hb
    rw [if_pos hb] at hq
    refine sg_aload_n kS_rowToRead_16 rfl ?_
    refine sg_get fl_S_14 kS_rowToRead_17 h0 rfl ?_
    refine sg_goto 27 kS_rowToRead_20 (by decide) ?_
    exact sg_aret kS_rowToRead_27 rfl hq (Nat.le_refl _) (Nat.le_refl _)
theorem cS_finds (hst : l.stackTraces = false) (h : ss_XP V z b st) {i : Nat} (hi : i < 6) {x : ss_Tx} (ho : st.2.2.2.2 i = some x) (key : Int32) : ss_F V l (d + 2) mS_findsSomething [.ref b, .ref (ss_ad b i), .int key] z (.int (ss_b (decide (¬ ss_rd st.2.2.2.1 x key = none)))) := by
  intro Qr Qx hq
  obtain ⟨g1, -⟩ := h.slot hi ho
  obtain ⟨cap, hcap, hrow⟩ := ss_ra_row h hi ho key
  have hS := cR_something (d := d) hst hcap hrow key x.2.1
  have hS : ss_F V l (d + 1) mR_something [.ref (ss_ra b i x key), .int key, .int x.2.1] z (.int (ss_ix (ss_pl (ss_rr st.2.2.2.1 x key) key x.2.1))) := hS
  have g3 := hrow.choose_spec.choose_spec.choose_spec.choose_spec.1.1
  have g4 := hrow.choose_spec.choose_spec.choose_spec.choose_spec.1.2.2.2.2.2
  have h0 := h.1
  refine ss_C.of hst rfl (by decide) (Nat.le_of_ble_eq_true rfl) ?_
  refine sg_aload_n kS_findsSomething_0 rfl ?_
  refine sg_aload_n kS_findsSomething_1 rfl ?_
  refine sg_iload_n kS_findsSomething_2 rfl ?_
  refine sg_fV (As := [.ref (ss_ad b i), .int key]) (rest := []) (cS_rowToRead (d := d) hst h hi ho key) vl_S_53 kS_findsSomething_3 h0 rfl (by decide) ⟨Nat.le_refl _, by show 8 + (3 + 11) + (30 * (d + 1) + 60) ≤ 30 * (d + 2) + 60; omega⟩ ⟨Nat.le_refl _, Nat.le_refl _⟩ ?_
  refine sg_iload_n kS_findsSomething_6 rfl ?_
  refine sg_aload_n kS_findsSomething_7 rfl ?_
  refine sg_get fl_S_57 kS_findsSomething_8 g1 rfl ?_
  refine sg_fV (As := [.int key, .int x.2.1]) (rest := []) hS vl_S_60 kS_findsSomething_11 g3 rfl (by decide) ⟨Nat.le_refl _, by show 8 + (4 + 11) + (30 * (d + 1) + 60) ≤ 30 * (d + 2) + 60; omega⟩ ⟨Nat.le_refl _, Nat.le_refl _⟩ ?_
  have hx := ss_ix_neg (o := ss_pl (ss_rr st.2.2.2.1 x key) key x.2.1) (fun j hj => by
    have h1 := ss_pl_some hj
    omega)
  refine sg_iconst (v := (-1)) kS_findsSomething_14 (by decide) ?_
  refine sg_icmp_eq 22 kS_findsSomething_15 (by decide) (fun hb => ?_) (fun hb => ?_)
  · rw [hx] at hb
    rw [decide_eq_false (show ¬ ¬ ss_rd st.2.2.2.1 x key = none from fun q => q (ss_rd_none.mpr hb))] at hq
    refine sg_iconst (v := 0) kS_findsSomething_22 (by decide) ?_
    exact sg_iret kS_findsSomething_23 rfl rfl hq (Nat.le_refl _) (Nat.le_refl _)
  · rw [hx] at hb
    rw [decide_eq_true (show ¬ ss_rd st.2.2.2.1 x key = none from fun q => hb (ss_rd_none.mp q))] at hq
    refine sg_iconst (v := 1) kS_findsSomething_18 (by decide) ?_
    refine sg_goto 23 kS_findsSomething_19 (by decide) ?_
    exact sg_iret kS_findsSomething_23 rfl rfl hq (Nat.le_refl _) (Nat.le_refl _)
theorem cS_read (hst : l.stackTraces = false) (h : ss_XP V z b st) (t key : Int32) (hr : ∀ q v, ss_lx st t = some q → ss_key key → ss_rd st.2.2.2.1 q.2 key = some v → Qr (some (.long v)) z) (hx1 : cd_read st t key = 1 → Qx sx_S z) (hx2 : cd_read st t key = 2 → Qx sx_A z) (hx3 : cd_read st t key = 3 → Qx sx_N z) : ss_C V l 9 mS_read 4 24 [.ref b, .int t, .int key] z Qr Qx := by
  unfold cd_read at hx1 hx2 hx3
  refine ss_C.of hst rfl (by decide) (Nat.le_of_ble_eq_true rfl) ?_
  refine sg_aload_n kS_read_0 rfl ?_
  refine sg_iload_n kS_read_1 rfl ?_
  refine sg_lt9 hst rfl rfl h t kS_read_2 (by decide) (by decide) (by decide) (fun hl => hx1 (by rw [hl])) (fun i x hi ho hl => ?_)
  rw [hl] at hx2 hx3
  have hx2 : (if ss_key key then (if ss_rd st.2.2.2.1 x key = none then 3 else 0) else 2) = 2 → Qx sx_A z := hx2
  have hx3 : (if ss_key key then (if ss_rd st.2.2.2.1 x key = none then 3 else 0) else 2) = 3 → Qx sx_N z := hx3
  refine sg_astore_n kS_read_5 (by decide) ?_
  refine sg_iload_n kS_read_6 rfl ?_
  refine sg_ck9 hst rfl rfl key kS_read_7 (by decide) (by decide) (by decide) (fun hk => hx2 (if_neg hk)) (fun hk => ?_)
  rw [if_pos hk] at hx3
  obtain ⟨g1, -⟩ := h.slot hi ho
  obtain ⟨cap, hcap, hrow⟩ := ss_ra_row h hi ho key
  have hS : ss_F V l 8 mR_something [.ref (ss_ra b i x key), .int key, .int x.2.1] z (.int (ss_ix (ss_pl (ss_rr st.2.2.2.1 x key) key x.2.1))) := cR_something (d := 7) hst hcap hrow key x.2.1
  obtain ⟨fk, ft, fv, fe, ⟨g2, g3, g4, g5, g6, g7⟩, he⟩ := hrow
  have h0 := h.1
  refine sg_aload_n kS_read_10 rfl ?_
  refine sg_aload_n kS_read_11 rfl ?_
  refine sg_iload_n kS_read_12 rfl ?_
  refine sg_fV (As := [.ref (ss_ad b i), .int key]) (rest := []) (cS_rowToRead (d := 7) hst h hi ho key) vl_S_53 kS_read_13 h0 rfl (by decide) ⟨by decide, by decide⟩ ⟨by decide, by decide⟩ ?_
  refine sg_astore kS_read_16 (by decide) ?_
  refine sg_aload kS_read_18 rfl ?_
  refine sg_iload_n kS_read_20 rfl ?_
  refine sg_aload_n kS_read_21 rfl ?_
  refine sg_get fl_S_57 kS_read_22 g1 rfl ?_
  refine sg_fV (As := [.int key, .int x.2.1]) (rest := []) hS vl_S_60 kS_read_25 g2 rfl (by decide) ⟨by decide, by decide⟩ ⟨by decide, by decide⟩ ?_
  refine sg_istore kS_read_28 (by decide) ?_
  refine sg_iload kS_read_30 rfl ?_
  refine sg_iconst (v := (-1)) kS_read_32 (by decide) ?_
  have hx := ss_ix_neg (o := ss_pl (ss_rr st.2.2.2.1 x key) key x.2.1) (fun j hj => by
    have h1 := ss_pl_some hj
    omega)
  refine sg_icmp_ne 46 kS_read_33 (by decide) (fun hb => ?_) (fun hb => ?_)
  · rw [hx] at hb
    cases hp : ss_pl (ss_rr st.2.2.2.1 x key) key x.2.1 with
    | none => exact absurd hp hb
    | some j =>
      have hj := ss_pl_some hp
      have hg := List.getElem?_eq_getElem hj
      refine sg_aload kS_read_46 rfl ?_
      refine sg_get fl_S_69 kS_read_48 g2 rfl ?_
      refine sg_iload kS_read_51 rfl ?_
      refine sg_lald kS_read_53 g5 (by omega) (by omega) ?_
      rw [(he j _ hg).2.2.1]
      refine sg_lret kS_read_54 rfl (hr _ _ hl hk ?_) (by decide) (by decide)
      unfold ss_rd
      rw [hp]
      show ((ss_rr st.2.2.2.1 x key)[j]?).map _ = _
      rw [hg]
      rfl
  · rw [hx] at hb
    exact sg_throwN tl_66 rfl kS_read_36 kS_read_39 kS_read_40 kS_read_42 kS_read_45 (by decide) (by decide) (hx3 (if_pos (ss_rd_none.mpr hb))) (by decide) (by decide)
end SSY
