/-! The law's helpers: what each answers, and what it leaves. Printed by wip/gen/helpers.py. -/
section SSH
variable {V : ss_V} {l : Launch} {z : ss_Z} {b oa : Nat} {st : ss_St} {fo : Nat → Int64} {Qr : Option Value → ss_Z → Prop} {Qx : String → ss_Z → Prop}
/-- the class's cells, and the law's array -/
def ss_xo (b oa : Nat) : Nat → Prop := fun q => ss_xc b q ∨ q = oa
set_option maxRecDepth 100000 in
theorem cL_begin (hst : l.stackTraces = false) (h : ss_XP V z b st) (hout : ss_at z oa (.inl (sv_J V, 1, .inr (.inl fo)))) (hoa : ¬ ss_xc b oa) (hq : ∀ z' g, ss_fr (ss_xo b oa) z z' → ss_XP V z' b (ss_af (cd_begin st) (nx_begin st st.1) st) → ss_at z' oa (.inl (sv_J V, 1, .inr (.inl g))) → (cd_begin st = 0 → g 0 = (nI st.2.2.1).toInt64) → Qr (some (.int (nI (cd_begin st)))) z') : ss_CH V l 10 mL_begin 4 24 [.ref b, .ref oa] z Qr Qx := by
  refine ss_CH.of hst (by decide) (Nat.le_of_ble_eq_true rfl) ?_
  refine sg_aload_n kL_begin_0 rfl ?_
  refine sg_iconst (v := 0) kL_begin_1 (by decide) ?_
  refine sg_aload_n kL_begin_2 rfl ?_
  refine sg_callV (As := []) (rest := [.int 0, .ref oa]) (cS_begin hst h (Qr := fun w z' => w = some (.int (nI st.2.2.1)) ∧ cd_begin st = 0 ∧ ss_XP V z' b (nx_begin st st.1) ∧ ss_fr (ss_xc b) z z') (Qx := fun E z' => z' = z ∧ ((E = sx_U ∧ cd_begin st = 1))) (fun h0 z' h1 h2 => ⟨rfl, h0, h1, h2⟩) (fun hc => ⟨rfl, ⟨rfl, hc⟩⟩)) vl_L_7 kL_begin_3 h.1 rfl (Nat.le_of_ble_eq_true rfl) ⟨by decide, by decide⟩ ⟨by decide, by decide⟩ (fun E z1 hx => ?_) (fun w z1 hr => ?_)
  · obtain ⟨rfl, ⟨rfl, hc⟩⟩ := hx
    refine sx_catch [] (0, 8, 11, 13) [] rfl (by decide +kernel) (fun y hy => by cases hy) (by decide) (by decide) cl_L_13 (fun q => ?_)
    rw [hc] at hq
    refine sg_astore_n kL_begin_11 (by decide) ?_
    refine sg_iconst (v := 1) kL_begin_12 (by decide) ?_
    exact sg_iret kL_begin_13 rfl rfl (hq _ fo ss_fr.rf h hout (fun q => by cases q)) (by decide) (by decide)
  · obtain ⟨rfl, h0, hX, hF⟩ := hr
    rw [h0] at hq
    refine sg_i2l kL_begin_6 ?_
    refine sg_last (j := 0) kL_begin_7 (hF.at hout hoa) (by decide) (by decide) (fun z2 u2 => ?_)
    refine sg_goto 14 kL_begin_8 (by decide) ?_
    refine sg_iconst (v := 0) kL_begin_14 (by decide) ?_
    exact sg_iret kL_begin_15 rfl rfl (hq z2 _ ((hF.mono (fun _ h => Or.inl h)).tr (u2.fr (Or.inr rfl))) (hX.fr (u2.fr rfl : ss_fr (fun q => q = oa) z1 z2) (fun q hq => by rw [hq]; exact hoa)) (u2.at (hF.at hout hoa)) (fun _ => pk_uLs)) (by decide) (by decide)
set_option maxRecDepth 100000 in
theorem cL_beginAt (hst : l.stackTraces = false) (h : ss_XP V z b st) (hout : ss_at z oa (.inl (sv_J V, 1, .inr (.inl fo)))) (hoa : ¬ ss_xc b oa) (p0 : Int32) (hq : ∀ z' g, ss_fr (ss_xo b oa) z z' → ss_XP V z' b (ss_af (cd_beginAt st p0) (nx_begin st p0) st) → ss_at z' oa (.inl (sv_J V, 1, .inr (.inl g))) → (cd_beginAt st p0 = 0 → g 0 = (nI st.2.2.1).toInt64) → Qr (some (.int (nI (cd_beginAt st p0)))) z') : ss_CH V l 10 mL_beginAt 4 24 [.ref b, .int p0, .ref oa] z Qr Qx := by
  refine ss_CH.of hst (by decide) (Nat.le_of_ble_eq_true rfl) ?_
  refine sg_aload_n kL_beginAt_0 rfl ?_
  refine sg_iconst (v := 0) kL_beginAt_1 (by decide) ?_
  refine sg_aload_n kL_beginAt_2 rfl ?_
  refine sg_iload_n kL_beginAt_3 rfl ?_
  refine sg_callV (As := [.int p0]) (rest := [.int 0, .ref oa]) (cS_beginAt hst h p0 (Qr := fun w z' => w = some (.int (nI st.2.2.1)) ∧ cd_beginAt st p0 = 0 ∧ ss_XP V z' b (nx_begin st p0) ∧ ss_fr (ss_xc b) z z') (Qx := fun E z' => z' = z ∧ ((E = sx_A ∧ cd_beginAt st p0 = 1) ∨ (E = sx_U ∧ cd_beginAt st p0 = 2))) (fun h0 z' h1 h2 => ⟨rfl, h0, h1, h2⟩) (fun hc => ⟨rfl, Or.inl ⟨rfl, hc⟩⟩) (fun hc => ⟨rfl, Or.inr (⟨rfl, hc⟩)⟩)) vl_L_15 kL_beginAt_4 h.1 rfl (Nat.le_of_ble_eq_true rfl) ⟨by decide, by decide⟩ ⟨by decide, by decide⟩ (fun E z1 hx => ?_) (fun w z1 hr => ?_)
  · obtain ⟨rfl, (⟨rfl, hc⟩ | ⟨rfl, hc⟩)⟩ := hx
    · refine sx_catch [] (0, 9, 12, 19) [(0, 9, 15, 13)] rfl (by decide +kernel) (fun y hy => by cases hy) (by decide) (by decide) cl_L_19 (fun q => ?_)
      rw [hc] at hq
      refine sg_astore_n kL_beginAt_12 (by decide) ?_
      refine sg_iconst (v := 1) kL_beginAt_13 (by decide) ?_
      exact sg_iret kL_beginAt_14 rfl rfl (hq _ fo ss_fr.rf h hout (fun q => by cases q)) (by decide) (by decide)
    · refine sx_catch [(0, 9, 12, 19)] (0, 9, 15, 13) [] rfl (by decide +kernel) (fun y hy => by
        rcases List.mem_cons.mp hy with rfl | hy
        · exact ⟨by decide, _, cl_L_19, by decide +kernel, by decide +kernel⟩
        cases hy) (by decide) (by decide) cl_L_13 (fun q => ?_)
      rw [hc] at hq
      refine sg_astore_n kL_beginAt_15 (by decide) ?_
      refine sg_iconst (v := 2) kL_beginAt_16 (by decide) ?_
      exact sg_iret kL_beginAt_17 rfl rfl (hq _ fo ss_fr.rf h hout (fun q => by cases q)) (by decide) (by decide)
  · obtain ⟨rfl, h0, hX, hF⟩ := hr
    rw [h0] at hq
    refine sg_i2l kL_beginAt_7 ?_
    refine sg_last (j := 0) kL_beginAt_8 (hF.at hout hoa) (by decide) (by decide) (fun z2 u2 => ?_)
    refine sg_goto 18 kL_beginAt_9 (by decide) ?_
    refine sg_iconst (v := 0) kL_beginAt_18 (by decide) ?_
    exact sg_iret kL_beginAt_19 rfl rfl (hq z2 _ ((hF.mono (fun _ h => Or.inl h)).tr (u2.fr (Or.inr rfl))) (hX.fr (u2.fr rfl : ss_fr (fun q => q = oa) z1 z2) (fun q hq => by rw [hq]; exact hoa)) (u2.at (hF.at hout hoa)) (fun _ => pk_uLs)) (by decide) (by decide)
set_option maxRecDepth 100000 in
theorem cL_read (hst : l.stackTraces = false) (h : ss_XP V z b st) (hout : ss_at z oa (.inl (sv_J V, 1, .inr (.inl fo)))) (hoa : ¬ ss_xc b oa) (p0 : Int32) (p1 : Int32) (hq : ∀ z' g, ss_fr (ss_xo b oa) z z' → ss_XP V z' b st → ss_at z' oa (.inl (sv_J V, 1, .inr (.inl g))) → (cd_read st p0 p1 = 0 → ∀ q v, ss_lx st p0 = some q → ss_key p1 → ss_rd st.2.2.2.1 q.2 p1 = some v → g 0 = (v)) → Qr (some (.int (nI (cd_read st p0 p1)))) z') : ss_CH V l 10 mL_read 4 24 [.ref b, .int p0, .int p1, .ref oa] z Qr Qx := by
  refine ss_CH.of hst (by decide) (Nat.le_of_ble_eq_true rfl) ?_
  refine sg_aload_n kL_read_0 rfl ?_
  refine sg_iconst (v := 0) kL_read_1 (by decide) ?_
  refine sg_aload_n kL_read_2 rfl ?_
  refine sg_iload_n kL_read_3 rfl ?_
  refine sg_iload_n kL_read_4 rfl ?_
  refine sg_callV (As := [.int p0, .int p1]) (rest := [.int 0, .ref oa]) (cS_read hst h p0 p1 (Qr := fun w z' => z' = z ∧ ∃ r, w = some (.long r) ∧ cd_read st p0 p1 = 0 ∧ (∀ q v, ss_lx st p0 = some q → ss_key p1 → ss_rd st.2.2.2.1 q.2 p1 = some v → r = v)) (Qx := fun E z' => z' = z ∧ ((E = sx_S ∧ cd_read st p0 p1 = 1) ∨ (E = sx_A ∧ cd_read st p0 p1 = 2) ∨ (E = sx_N ∧ cd_read st p0 p1 = 3))) (fun q v e1 e2 e3 => ⟨rfl, v, rfl, (by unfold cd_read; rw [e1]; exact (if_pos e2).trans (if_neg (by rw [e3]; exact fun w => by cases w))), fun q2 v2 f1 f2 f3 => by rw [e1] at f1; cases f1; rw [e3] at f3; cases f3; rfl⟩) (fun hc => ⟨rfl, Or.inl ⟨rfl, hc⟩⟩) (fun hc => ⟨rfl, Or.inr (Or.inl ⟨rfl, hc⟩)⟩) (fun hc => ⟨rfl, Or.inr (Or.inr (⟨rfl, hc⟩))⟩)) vl_L_21 kL_read_5 h.1 rfl (Nat.le_of_ble_eq_true rfl) ⟨by decide, by decide⟩ ⟨by decide, by decide⟩ (fun E z1 hx => ?_) (fun w z1 hr => ?_)
  · obtain ⟨rfl, (⟨rfl, hc⟩ | ⟨rfl, hc⟩ | ⟨rfl, hc⟩)⟩ := hx
    · refine sx_catch [] (0, 9, 12, 25) [(0, 9, 16, 19), (0, 9, 20, 27)] rfl (by decide +kernel) (fun y hy => by cases hy) (by decide) (by decide) cl_L_25 (fun q => ?_)
      rw [hc] at hq
      refine sg_astore kL_read_12 (by decide) ?_
      refine sg_iconst (v := 1) kL_read_14 (by decide) ?_
      exact sg_iret kL_read_15 rfl rfl (hq _ fo ss_fr.rf h hout (fun q => by cases q)) (by decide) (by decide)
    · refine sx_catch [(0, 9, 12, 25)] (0, 9, 16, 19) [(0, 9, 20, 27)] rfl (by decide +kernel) (fun y hy => by
        rcases List.mem_cons.mp hy with rfl | hy
        · exact ⟨by decide, _, cl_L_25, by decide +kernel, by decide +kernel⟩
        cases hy) (by decide) (by decide) cl_L_19 (fun q => ?_)
      rw [hc] at hq
      refine sg_astore kL_read_16 (by decide) ?_
      refine sg_iconst (v := 2) kL_read_18 (by decide) ?_
      exact sg_iret kL_read_19 rfl rfl (hq _ fo ss_fr.rf h hout (fun q => by cases q)) (by decide) (by decide)
    · refine sx_catch [(0, 9, 12, 25), (0, 9, 16, 19)] (0, 9, 20, 27) [] rfl (by decide +kernel) (fun y hy => by
        rcases List.mem_cons.mp hy with rfl | hy
        · exact ⟨by decide, _, cl_L_25, by decide +kernel, by decide +kernel⟩
        rcases List.mem_cons.mp hy with rfl | hy
        · exact ⟨by decide, _, cl_L_19, by decide +kernel, by decide +kernel⟩
        cases hy) (by decide) (by decide) cl_L_27 (fun q => ?_)
      rw [hc] at hq
      refine sg_astore kL_read_20 (by decide) ?_
      refine sg_iconst (v := 3) kL_read_22 (by decide) ?_
      exact sg_iret kL_read_23 rfl rfl (hq _ fo ss_fr.rf h hout (fun q => by cases q)) (by decide) (by decide)
  · obtain ⟨rfl, r, rfl, h0, h9⟩ := hr
    rw [h0] at hq
    refine sg_last (j := 0) kL_read_8 hout (by decide) (by decide) (fun z2 u2 => ?_)
    refine sg_goto 24 kL_read_9 (by decide) ?_
    refine sg_iconst (v := 0) kL_read_24 (by decide) ?_
    exact sg_iret kL_read_25 rfl rfl (hq z2 _ (u2.fr (Or.inr rfl)) (h.fr (u2.fr rfl : ss_fr (fun q => q = oa) z1 z2) (fun q hq => by rw [hq]; exact hoa)) (u2.at hout) (fun _ => fun q v h1 h2 h3 => by rw [pk_uLs, h9 q v h1 h2 h3])) (by decide) (by decide)
set_option maxRecDepth 100000 in
theorem cL_write (hst : l.stackTraces = false) (h : ss_XP V z b st) (p0 : Int32) (p1 : Int32) (p2 : Int64) (hq : ∀ z', ss_fr (ss_xc b) z z' → ss_XP V z' b (ss_af (cd_write st p0 p1) (nx_write st p0 p1 p2 false) st) → Qr (some (.int (nI (cd_write st p0 p1)))) z') : ss_CH V l 10 mL_write 4 24 [.ref b, .int p0, .int p1, .long p2] z Qr Qx := by
  refine ss_CH.of hst (by decide) (Nat.le_of_ble_eq_true rfl) ?_
  refine sg_aload_n kL_write_0 rfl ?_
  refine sg_iload_n kL_write_1 rfl ?_
  refine sg_iload_n kL_write_2 rfl ?_
  refine sg_lload_n kL_write_3 rfl ?_
  refine sg_callV (As := [.int p0, .int p1, .long p2]) (rest := []) (cS_write hst h p0 p1 p2 (Qr := fun w z' => w = none ∧ cd_write st p0 p1 = 0 ∧ ss_XP V z' b (nx_write st p0 p1 p2 false) ∧ ss_fr (ss_xc b) z z') (Qx := fun E z' => z' = z ∧ ((E = sx_S ∧ cd_write st p0 p1 = 1) ∨ (E = sx_A ∧ cd_write st p0 p1 = 2) ∨ (E = sx_U ∧ cd_write st p0 p1 = 3))) (fun h0 z' h1 h2 => ⟨rfl, h0, h1, h2⟩) (fun hc => ⟨rfl, Or.inl ⟨rfl, hc⟩⟩) (fun hc => ⟨rfl, Or.inr (Or.inl ⟨rfl, hc⟩)⟩) (fun hc => ⟨rfl, Or.inr (Or.inr (⟨rfl, hc⟩))⟩)) vl_L_29 kL_write_4 h.1 rfl (Nat.le_of_ble_eq_true rfl) ⟨by decide, by decide⟩ ⟨by decide, by decide⟩ (fun E z1 hx => ?_) (fun w z1 hr => ?_)
  · obtain ⟨rfl, (⟨rfl, hc⟩ | ⟨rfl, hc⟩ | ⟨rfl, hc⟩)⟩ := hx
    · refine sx_catch [] (0, 7, 10, 25) [(0, 7, 14, 19), (0, 7, 18, 13)] rfl (by decide +kernel) (fun y hy => by cases hy) (by decide) (by decide) cl_L_25 (fun q => ?_)
      rw [hc] at hq
      refine sg_astore kL_write_10 (by decide) ?_
      refine sg_iconst (v := 1) kL_write_12 (by decide) ?_
      exact sg_iret kL_write_13 rfl rfl (hq _ ss_fr.rf h) (by decide) (by decide)
    · refine sx_catch [(0, 7, 10, 25)] (0, 7, 14, 19) [(0, 7, 18, 13)] rfl (by decide +kernel) (fun y hy => by
        rcases List.mem_cons.mp hy with rfl | hy
        · exact ⟨by decide, _, cl_L_25, by decide +kernel, by decide +kernel⟩
        cases hy) (by decide) (by decide) cl_L_19 (fun q => ?_)
      rw [hc] at hq
      refine sg_astore kL_write_14 (by decide) ?_
      refine sg_iconst (v := 2) kL_write_16 (by decide) ?_
      exact sg_iret kL_write_17 rfl rfl (hq _ ss_fr.rf h) (by decide) (by decide)
    · refine sx_catch [(0, 7, 10, 25), (0, 7, 14, 19)] (0, 7, 18, 13) [] rfl (by decide +kernel) (fun y hy => by
        rcases List.mem_cons.mp hy with rfl | hy
        · exact ⟨by decide, _, cl_L_25, by decide +kernel, by decide +kernel⟩
        rcases List.mem_cons.mp hy with rfl | hy
        · exact ⟨by decide, _, cl_L_19, by decide +kernel, by decide +kernel⟩
        cases hy) (by decide) (by decide) cl_L_13 (fun q => ?_)
      rw [hc] at hq
      refine sg_astore kL_write_18 (by decide) ?_
      refine sg_iconst (v := 3) kL_write_20 (by decide) ?_
      exact sg_iret kL_write_21 rfl rfl (hq _ ss_fr.rf h) (by decide) (by decide)
  · obtain ⟨rfl, h0, hX, hF⟩ := hr
    rw [h0] at hq
    refine sg_goto 22 kL_write_7 (by decide) ?_
    refine sg_iconst (v := 0) kL_write_22 (by decide) ?_
    exact sg_iret kL_write_23 rfl rfl (hq z1 hF hX) (by decide) (by decide)
set_option maxRecDepth 100000 in
theorem cL_erase (hst : l.stackTraces = false) (h : ss_XP V z b st) (p0 : Int32) (p1 : Int32) (hq : ∀ z', ss_fr (ss_xc b) z z' → ss_XP V z' b (ss_af (cd_erase st p0 p1) (nx_write st p0 p1 0 true) st) → Qr (some (.int (nI (cd_erase st p0 p1)))) z') : ss_CH V l 10 mL_erase 4 24 [.ref b, .int p0, .int p1] z Qr Qx := by
  refine ss_CH.of hst (by decide) (Nat.le_of_ble_eq_true rfl) ?_
  refine sg_aload_n kL_erase_0 rfl ?_
  refine sg_iload_n kL_erase_1 rfl ?_
  refine sg_iload_n kL_erase_2 rfl ?_
  refine sg_callV (As := [.int p0, .int p1]) (rest := []) (cS_erase hst h p0 p1 (Qr := fun w z' => w = none ∧ cd_erase st p0 p1 = 0 ∧ ss_XP V z' b (nx_write st p0 p1 0 true) ∧ ss_fr (ss_xc b) z z') (Qx := fun E z' => z' = z ∧ ((E = sx_S ∧ cd_erase st p0 p1 = 1) ∨ (E = sx_A ∧ cd_erase st p0 p1 = 2) ∨ (E = sx_N ∧ cd_erase st p0 p1 = 3) ∨ (E = sx_U ∧ cd_erase st p0 p1 = 4))) (fun h0 z' h1 h2 => ⟨rfl, h0, h1, h2⟩) (fun hc => ⟨rfl, Or.inl ⟨rfl, hc⟩⟩) (fun hc => ⟨rfl, Or.inr (Or.inl ⟨rfl, hc⟩)⟩) (fun hc => ⟨rfl, Or.inr (Or.inr (Or.inl ⟨rfl, hc⟩))⟩) (fun hc => ⟨rfl, Or.inr (Or.inr (Or.inr (⟨rfl, hc⟩)))⟩)) vl_L_33 kL_erase_3 h.1 rfl (Nat.le_of_ble_eq_true rfl) ⟨by decide, by decide⟩ ⟨by decide, by decide⟩ (fun E z1 hx => ?_) (fun w z1 hr => ?_)
  · obtain ⟨rfl, (⟨rfl, hc⟩ | ⟨rfl, hc⟩ | ⟨rfl, hc⟩ | ⟨rfl, hc⟩)⟩ := hx
    · refine sx_catch [] (0, 6, 9, 25) [(0, 6, 12, 19), (0, 6, 15, 27), (0, 6, 18, 13)] rfl (by decide +kernel) (fun y hy => by cases hy) (by decide) (by decide) cl_L_25 (fun q => ?_)
      rw [hc] at hq
      refine sg_astore_n kL_erase_9 (by decide) ?_
      refine sg_iconst (v := 1) kL_erase_10 (by decide) ?_
      exact sg_iret kL_erase_11 rfl rfl (hq _ ss_fr.rf h) (by decide) (by decide)
    · refine sx_catch [(0, 6, 9, 25)] (0, 6, 12, 19) [(0, 6, 15, 27), (0, 6, 18, 13)] rfl (by decide +kernel) (fun y hy => by
        rcases List.mem_cons.mp hy with rfl | hy
        · exact ⟨by decide, _, cl_L_25, by decide +kernel, by decide +kernel⟩
        cases hy) (by decide) (by decide) cl_L_19 (fun q => ?_)
      rw [hc] at hq
      refine sg_astore_n kL_erase_12 (by decide) ?_
      refine sg_iconst (v := 2) kL_erase_13 (by decide) ?_
      exact sg_iret kL_erase_14 rfl rfl (hq _ ss_fr.rf h) (by decide) (by decide)
    · refine sx_catch [(0, 6, 9, 25), (0, 6, 12, 19)] (0, 6, 15, 27) [(0, 6, 18, 13)] rfl (by decide +kernel) (fun y hy => by
        rcases List.mem_cons.mp hy with rfl | hy
        · exact ⟨by decide, _, cl_L_25, by decide +kernel, by decide +kernel⟩
        rcases List.mem_cons.mp hy with rfl | hy
        · exact ⟨by decide, _, cl_L_19, by decide +kernel, by decide +kernel⟩
        cases hy) (by decide) (by decide) cl_L_27 (fun q => ?_)
      rw [hc] at hq
      refine sg_astore_n kL_erase_15 (by decide) ?_
      refine sg_iconst (v := 3) kL_erase_16 (by decide) ?_
      exact sg_iret kL_erase_17 rfl rfl (hq _ ss_fr.rf h) (by decide) (by decide)
    · refine sx_catch [(0, 6, 9, 25), (0, 6, 12, 19), (0, 6, 15, 27)] (0, 6, 18, 13) [] rfl (by decide +kernel) (fun y hy => by
        rcases List.mem_cons.mp hy with rfl | hy
        · exact ⟨by decide, _, cl_L_25, by decide +kernel, by decide +kernel⟩
        rcases List.mem_cons.mp hy with rfl | hy
        · exact ⟨by decide, _, cl_L_19, by decide +kernel, by decide +kernel⟩
        rcases List.mem_cons.mp hy with rfl | hy
        · exact ⟨by decide, _, cl_L_27, by decide +kernel, by decide +kernel⟩
        cases hy) (by decide) (by decide) cl_L_13 (fun q => ?_)
      rw [hc] at hq
      refine sg_astore_n kL_erase_18 (by decide) ?_
      refine sg_iconst (v := 4) kL_erase_19 (by decide) ?_
      exact sg_iret kL_erase_20 rfl rfl (hq _ ss_fr.rf h) (by decide) (by decide)
  · obtain ⟨rfl, h0, hX, hF⟩ := hr
    rw [h0] at hq
    refine sg_goto 21 kL_erase_6 (by decide) ?_
    refine sg_iconst (v := 0) kL_erase_21 (by decide) ?_
    exact sg_iret kL_erase_22 rfl rfl (hq z1 hF hX) (by decide) (by decide)
set_option maxRecDepth 100000 in
theorem cL_mark (hst : l.stackTraces = false) (h : ss_XP V z b st) (hout : ss_at z oa (.inl (sv_J V, 1, .inr (.inl fo)))) (hoa : ¬ ss_xc b oa) (p0 : Int32) (hq : ∀ z' g, ss_fr (ss_xo b oa) z z' → ss_XP V z' b st → ss_at z' oa (.inl (sv_J V, 1, .inr (.inl g))) → (cd_tx st p0 = 0 → ∀ q, ss_lx st p0 = some q → g 0 = (nI q.2.2.2.length).toInt64) → Qr (some (.int (nI (cd_tx st p0)))) z') : ss_CH V l 10 mL_mark 4 24 [.ref b, .int p0, .ref oa] z Qr Qx := by
  refine ss_CH.of hst (by decide) (Nat.le_of_ble_eq_true rfl) ?_
  refine sg_aload_n kL_mark_0 rfl ?_
  refine sg_iconst (v := 0) kL_mark_1 (by decide) ?_
  refine sg_aload_n kL_mark_2 rfl ?_
  refine sg_iload_n kL_mark_3 rfl ?_
  refine sg_callV (As := [.int p0]) (rest := [.int 0, .ref oa]) (cS_mark hst h p0 (Qr := fun w z' => z' = z ∧ ∃ r, w = some (.int r) ∧ cd_tx st p0 = 0 ∧ (∀ q, ss_lx st p0 = some q → r = nI q.2.2.2.length)) (Qx := fun E z' => z' = z ∧ ((E = sx_S ∧ cd_tx st p0 = 1))) (fun q e1 => ⟨rfl, _, rfl, (by unfold cd_tx; rw [e1]), fun q2 f1 => by rw [e1] at f1; cases f1; rfl⟩) (fun hn => ⟨rfl, ⟨rfl, by unfold cd_tx; rw [hn]⟩⟩)) vl_L_37 kL_mark_4 h.1 rfl (Nat.le_of_ble_eq_true rfl) ⟨by decide, by decide⟩ ⟨by decide, by decide⟩ (fun E z1 hx => ?_) (fun w z1 hr => ?_)
  · obtain ⟨rfl, ⟨rfl, hc⟩⟩ := hx
    refine sx_catch [] (0, 9, 12, 25) [] rfl (by decide +kernel) (fun y hy => by cases hy) (by decide) (by decide) cl_L_25 (fun q => ?_)
    rw [hc] at hq
    refine sg_astore_n kL_mark_12 (by decide) ?_
    refine sg_iconst (v := 1) kL_mark_13 (by decide) ?_
    exact sg_iret kL_mark_14 rfl rfl (hq _ fo ss_fr.rf h hout (fun q => by cases q)) (by decide) (by decide)
  · obtain ⟨rfl, r, rfl, h0, h9⟩ := hr
    rw [h0] at hq
    refine sg_i2l kL_mark_7 ?_
    refine sg_last (j := 0) kL_mark_8 hout (by decide) (by decide) (fun z2 u2 => ?_)
    refine sg_goto 15 kL_mark_9 (by decide) ?_
    refine sg_iconst (v := 0) kL_mark_15 (by decide) ?_
    exact sg_iret kL_mark_16 rfl rfl (hq z2 _ (u2.fr (Or.inr rfl)) (h.fr (u2.fr rfl : ss_fr (fun q => q = oa) z1 z2) (fun q hq => by rw [hq]; exact hoa)) (u2.at hout) (fun _ => fun q h1 => by rw [pk_uLs, h9 q h1])) (by decide) (by decide)
set_option maxRecDepth 100000 in
theorem cL_rollback (hst : l.stackTraces = false) (h : ss_XP V z b st) (p0 : Int32) (p1 : Int32) (hq : ∀ z', ss_fr (ss_xc b) z z' → ss_XP V z' b (ss_af (cd_rollback st p0 p1) (nx_rollback st p0 p1) st) → Qr (some (.int (nI (cd_rollback st p0 p1)))) z') : ss_CH V l 10 mL_rollback 4 24 [.ref b, .int p0, .int p1] z Qr Qx := by
  refine ss_CH.of hst (by decide) (Nat.le_of_ble_eq_true rfl) ?_
  refine sg_aload_n kL_rollback_0 rfl ?_
  refine sg_iload_n kL_rollback_1 rfl ?_
  refine sg_iload_n kL_rollback_2 rfl ?_
  refine sg_callV (As := [.int p0, .int p1]) (rest := []) (cS_rollback hst h p0 p1 (Qr := fun w z' => w = none ∧ cd_rollback st p0 p1 = 0 ∧ ss_XP V z' b (nx_rollback st p0 p1) ∧ ss_fr (ss_xc b) z z') (Qx := fun E z' => z' = z ∧ ((E = sx_S ∧ cd_rollback st p0 p1 = 1) ∨ (E = sx_A ∧ cd_rollback st p0 p1 = 2))) (fun h0 z' h1 h2 => ⟨rfl, h0, h1, h2⟩) (fun hc => ⟨rfl, Or.inl ⟨rfl, hc⟩⟩) (fun hc => ⟨rfl, Or.inr (⟨rfl, hc⟩)⟩)) vl_L_40 kL_rollback_3 h.1 rfl (Nat.le_of_ble_eq_true rfl) ⟨by decide, by decide⟩ ⟨by decide, by decide⟩ (fun E z1 hx => ?_) (fun w z1 hr => ?_)
  · obtain ⟨rfl, (⟨rfl, hc⟩ | ⟨rfl, hc⟩)⟩ := hx
    · refine sx_catch [] (0, 6, 9, 25) [(0, 6, 12, 19)] rfl (by decide +kernel) (fun y hy => by cases hy) (by decide) (by decide) cl_L_25 (fun q => ?_)
      rw [hc] at hq
      refine sg_astore_n kL_rollback_9 (by decide) ?_
      refine sg_iconst (v := 1) kL_rollback_10 (by decide) ?_
      exact sg_iret kL_rollback_11 rfl rfl (hq _ ss_fr.rf h) (by decide) (by decide)
    · refine sx_catch [(0, 6, 9, 25)] (0, 6, 12, 19) [] rfl (by decide +kernel) (fun y hy => by
        rcases List.mem_cons.mp hy with rfl | hy
        · exact ⟨by decide, _, cl_L_25, by decide +kernel, by decide +kernel⟩
        cases hy) (by decide) (by decide) cl_L_19 (fun q => ?_)
      rw [hc] at hq
      refine sg_astore_n kL_rollback_12 (by decide) ?_
      refine sg_iconst (v := 2) kL_rollback_13 (by decide) ?_
      exact sg_iret kL_rollback_14 rfl rfl (hq _ ss_fr.rf h) (by decide) (by decide)
  · obtain ⟨rfl, h0, hX, hF⟩ := hr
    rw [h0] at hq
    refine sg_goto 15 kL_rollback_6 (by decide) ?_
    refine sg_iconst (v := 0) kL_rollback_15 (by decide) ?_
    exact sg_iret kL_rollback_16 rfl rfl (hq z1 hF hX) (by decide) (by decide)
set_option maxRecDepth 100000 in
theorem cL_next (hst : l.stackTraces = false) (h : ss_XP V z b st) (hout : ss_at z oa (.inl (sv_J V, 1, .inr (.inl fo)))) (hoa : ¬ ss_xc b oa) (p0 : Int32) (p1 : Int32) (hq : ∀ z' g, ss_fr (ss_xo b oa) z z' → ss_XP V z' b st → ss_at z' oa (.inl (sv_J V, 1, .inr (.inl g))) → (cd_next st p0 p1 = 0 → ∀ q, ss_lx st p0 = some q → ss_key p1 → g 0 = (ss_ix (ss_nx st q.2 p1)).toInt64) → Qr (some (.int (nI (cd_next st p0 p1)))) z') : ss_CH V l 10 mL_next 4 24 [.ref b, .int p0, .int p1, .ref oa] z Qr Qx := by
  refine ss_CH.of hst (by decide) (Nat.le_of_ble_eq_true rfl) ?_
  refine sg_aload_n kL_next_0 rfl ?_
  refine sg_iconst (v := 0) kL_next_1 (by decide) ?_
  refine sg_aload_n kL_next_2 rfl ?_
  refine sg_iload_n kL_next_3 rfl ?_
  refine sg_iload_n kL_next_4 rfl ?_
  refine sg_callV (As := [.int p0, .int p1]) (rest := [.int 0, .ref oa]) (cS_next hst h p0 p1 (Qr := fun w z' => z' = z ∧ ∃ r, w = some (.int r) ∧ cd_next st p0 p1 = 0 ∧ (∀ q, ss_lx st p0 = some q → ss_key p1 → r = ss_ix (ss_nx st q.2 p1))) (Qx := fun E z' => z' = z ∧ ((E = sx_S ∧ cd_next st p0 p1 = 1) ∨ (E = sx_A ∧ cd_next st p0 p1 = 2))) (fun q e1 e2 => ⟨rfl, _, rfl, (by unfold cd_next; rw [e1]; exact if_pos e2), fun q2 f1 f2 => by rw [e1] at f1; cases f1; rfl⟩) (fun hc => ⟨rfl, Or.inl ⟨rfl, hc⟩⟩) (fun hc => ⟨rfl, Or.inr (⟨rfl, hc⟩)⟩)) vl_L_43 kL_next_5 h.1 rfl (Nat.le_of_ble_eq_true rfl) ⟨by decide, by decide⟩ ⟨by decide, by decide⟩ (fun E z1 hx => ?_) (fun w z1 hr => ?_)
  · obtain ⟨rfl, (⟨rfl, hc⟩ | ⟨rfl, hc⟩)⟩ := hx
    · refine sx_catch [] (0, 10, 13, 25) [(0, 10, 17, 19)] rfl (by decide +kernel) (fun y hy => by cases hy) (by decide) (by decide) cl_L_25 (fun q => ?_)
      rw [hc] at hq
      refine sg_astore kL_next_13 (by decide) ?_
      refine sg_iconst (v := 1) kL_next_15 (by decide) ?_
      exact sg_iret kL_next_16 rfl rfl (hq _ fo ss_fr.rf h hout (fun q => by cases q)) (by decide) (by decide)
    · refine sx_catch [(0, 10, 13, 25)] (0, 10, 17, 19) [] rfl (by decide +kernel) (fun y hy => by
        rcases List.mem_cons.mp hy with rfl | hy
        · exact ⟨by decide, _, cl_L_25, by decide +kernel, by decide +kernel⟩
        cases hy) (by decide) (by decide) cl_L_19 (fun q => ?_)
      rw [hc] at hq
      refine sg_astore kL_next_17 (by decide) ?_
      refine sg_iconst (v := 2) kL_next_19 (by decide) ?_
      exact sg_iret kL_next_20 rfl rfl (hq _ fo ss_fr.rf h hout (fun q => by cases q)) (by decide) (by decide)
  · obtain ⟨rfl, r, rfl, h0, h9⟩ := hr
    rw [h0] at hq
    refine sg_i2l kL_next_8 ?_
    refine sg_last (j := 0) kL_next_9 hout (by decide) (by decide) (fun z2 u2 => ?_)
    refine sg_goto 21 kL_next_10 (by decide) ?_
    refine sg_iconst (v := 0) kL_next_21 (by decide) ?_
    exact sg_iret kL_next_22 rfl rfl (hq z2 _ (u2.fr (Or.inr rfl)) (h.fr (u2.fr rfl : ss_fr (fun q => q = oa) z1 z2) (fun q hq => by rw [hq]; exact hoa)) (u2.at hout) (fun _ => fun q h1 h2 => by rw [pk_uLs, h9 q h1 h2])) (by decide) (by decide)
set_option maxRecDepth 100000 in
theorem cL_commit (hst : l.stackTraces = false) (h : ss_XP V z b st) (hout : ss_at z oa (.inl (sv_J V, 1, .inr (.inl fo)))) (hoa : ¬ ss_xc b oa) (p0 : Int32) (hq : ∀ z' g, ss_fr (ss_xo b oa) z z' → ss_XP V z' b (ss_af (cd_commit st p0) ((nx_commit st p0).2) st) → ss_at z' oa (.inl (sv_J V, 1, .inr (.inl g))) → (cd_commit st p0 = 0 → g 0 = ((nx_commit st p0).1).toInt64) → Qr (some (.int (nI (cd_commit st p0)))) z') : ss_CH V l 10 mL_commit 4 24 [.ref b, .int p0, .ref oa] z Qr Qx := by
  refine ss_CH.of hst (by decide) (Nat.le_of_ble_eq_true rfl) ?_
  refine sg_aload_n kL_commit_0 rfl ?_
  refine sg_iconst (v := 0) kL_commit_1 (by decide) ?_
  refine sg_aload_n kL_commit_2 rfl ?_
  refine sg_iload_n kL_commit_3 rfl ?_
  refine sg_callV (As := [.int p0]) (rest := [.int 0, .ref oa]) (cS_commit hst h p0 (Qr := fun w z' => w = some (.int ((nx_commit st p0).1)) ∧ cd_commit st p0 = 0 ∧ ss_XP V z' b ((nx_commit st p0).2) ∧ ss_fr (ss_xc b) z z') (Qx := fun E z' => z' = z ∧ ((E = sx_S ∧ cd_commit st p0 = 1) ∨ (E = sx_U ∧ cd_commit st p0 = 2))) (fun h0 z' h1 h2 => ⟨rfl, h0, h1, h2⟩) (fun hc => ⟨rfl, Or.inl ⟨rfl, hc⟩⟩) (fun hc => ⟨rfl, Or.inr (⟨rfl, hc⟩)⟩)) vl_L_47 kL_commit_4 h.1 rfl (Nat.le_of_ble_eq_true rfl) ⟨by decide, by decide⟩ ⟨by decide, by decide⟩ (fun E z1 hx => ?_) (fun w z1 hr => ?_)
  · obtain ⟨rfl, (⟨rfl, hc⟩ | ⟨rfl, hc⟩)⟩ := hx
    · refine sx_catch [] (0, 9, 12, 25) [(0, 9, 15, 13)] rfl (by decide +kernel) (fun y hy => by cases hy) (by decide) (by decide) cl_L_25 (fun q => ?_)
      rw [hc] at hq
      refine sg_astore_n kL_commit_12 (by decide) ?_
      refine sg_iconst (v := 1) kL_commit_13 (by decide) ?_
      exact sg_iret kL_commit_14 rfl rfl (hq _ fo ss_fr.rf h hout (fun q => by cases q)) (by decide) (by decide)
    · refine sx_catch [(0, 9, 12, 25)] (0, 9, 15, 13) [] rfl (by decide +kernel) (fun y hy => by
        rcases List.mem_cons.mp hy with rfl | hy
        · exact ⟨by decide, _, cl_L_25, by decide +kernel, by decide +kernel⟩
        cases hy) (by decide) (by decide) cl_L_13 (fun q => ?_)
      rw [hc] at hq
      refine sg_astore_n kL_commit_15 (by decide) ?_
      refine sg_iconst (v := 2) kL_commit_16 (by decide) ?_
      exact sg_iret kL_commit_17 rfl rfl (hq _ fo ss_fr.rf h hout (fun q => by cases q)) (by decide) (by decide)
  · obtain ⟨rfl, h0, hX, hF⟩ := hr
    rw [h0] at hq
    refine sg_i2l kL_commit_7 ?_
    refine sg_last (j := 0) kL_commit_8 (hF.at hout hoa) (by decide) (by decide) (fun z2 u2 => ?_)
    refine sg_goto 18 kL_commit_9 (by decide) ?_
    refine sg_iconst (v := 0) kL_commit_18 (by decide) ?_
    exact sg_iret kL_commit_19 rfl rfl (hq z2 _ ((hF.mono (fun _ h => Or.inl h)).tr (u2.fr (Or.inr rfl))) (hX.fr (u2.fr rfl : ss_fr (fun q => q = oa) z1 z2) (fun q hq => by rw [hq]; exact hoa)) (u2.at (hF.at hout hoa)) (fun _ => pk_uLs)) (by decide) (by decide)
set_option maxRecDepth 100000 in
theorem cL_abort (hst : l.stackTraces = false) (h : ss_XP V z b st) (p0 : Int32) (hq : ∀ z', ss_fr (ss_xc b) z z' → ss_XP V z' b (ss_af (cd_tx st p0) (nx_end st p0) st) → Qr (some (.int (nI (cd_tx st p0)))) z') : ss_CH V l 10 mL_abort 4 24 [.ref b, .int p0] z Qr Qx := by
  refine ss_CH.of hst (by decide) (Nat.le_of_ble_eq_true rfl) ?_
  refine sg_aload_n kL_abort_0 rfl ?_
  refine sg_iload_n kL_abort_1 rfl ?_
  refine sg_callV (As := [.int p0]) (rest := []) (cS_abort hst h p0 (Qr := fun w z' => w = none ∧ cd_tx st p0 = 0 ∧ ss_XP V z' b (nx_end st p0) ∧ ss_fr (ss_xc b) z z') (Qx := fun E z' => z' = z ∧ ((E = sx_S ∧ cd_tx st p0 = 1))) (fun h0 z' h1 h2 => ⟨rfl, h0, h1, h2⟩) (fun hc => ⟨rfl, ⟨rfl, hc⟩⟩)) vl_L_50 kL_abort_2 h.1 rfl (Nat.le_of_ble_eq_true rfl) ⟨by decide, by decide⟩ ⟨by decide, by decide⟩ (fun E z1 hx => ?_) (fun w z1 hr => ?_)
  · obtain ⟨rfl, ⟨rfl, hc⟩⟩ := hx
    refine sx_catch [] (0, 5, 8, 25) [] rfl (by decide +kernel) (fun y hy => by cases hy) (by decide) (by decide) cl_L_25 (fun q => ?_)
    rw [hc] at hq
    refine sg_astore_n kL_abort_8 (by decide) ?_
    refine sg_iconst (v := 1) kL_abort_9 (by decide) ?_
    exact sg_iret kL_abort_10 rfl rfl (hq _ ss_fr.rf h) (by decide) (by decide)
  · obtain ⟨rfl, h0, hX, hF⟩ := hr
    rw [h0] at hq
    refine sg_goto 11 kL_abort_5 (by decide) ?_
    refine sg_iconst (v := 0) kL_abort_11 (by decide) ?_
    exact sg_iret kL_abort_12 rfl rfl (hq z1 hF hX) (by decide) (by decide)
set_option maxRecDepth 100000 in
theorem cL_start (hst : l.stackTraces = false) (h : ss_XP V z b st) (hout : ss_at z oa (.inl (sv_J V, 1, .inr (.inl fo)))) (hoa : ¬ ss_xc b oa) (p0 : Int32) (hq : ∀ z' g, ss_fr (ss_xo b oa) z z' → ss_XP V z' b st → ss_at z' oa (.inl (sv_J V, 1, .inr (.inl g))) → (cd_tx st p0 = 0 → ∀ q, ss_lx st p0 = some q → g 0 = (q.2.2.1).toInt64) → Qr (some (.int (nI (cd_tx st p0)))) z') : ss_CH V l 10 mL_start 4 24 [.ref b, .int p0, .ref oa] z Qr Qx := by
  refine ss_CH.of hst (by decide) (Nat.le_of_ble_eq_true rfl) ?_
  refine sg_aload_n kL_start_0 rfl ?_
  refine sg_iconst (v := 0) kL_start_1 (by decide) ?_
  refine sg_aload_n kL_start_2 rfl ?_
  refine sg_iload_n kL_start_3 rfl ?_
  refine sg_callV (As := [.int p0]) (rest := [.int 0, .ref oa]) (cS_start hst h p0 (Qr := fun w z' => z' = z ∧ ∃ r, w = some (.int r) ∧ cd_tx st p0 = 0 ∧ (∀ q, ss_lx st p0 = some q → r = q.2.2.1)) (Qx := fun E z' => z' = z ∧ ((E = sx_S ∧ cd_tx st p0 = 1))) (fun q e1 => ⟨rfl, _, rfl, (by unfold cd_tx; rw [e1]), fun q2 f1 => by rw [e1] at f1; cases f1; rfl⟩) (fun hn => ⟨rfl, ⟨rfl, by unfold cd_tx; rw [hn]⟩⟩)) vl_L_54 kL_start_4 h.1 rfl (Nat.le_of_ble_eq_true rfl) ⟨by decide, by decide⟩ ⟨by decide, by decide⟩ (fun E z1 hx => ?_) (fun w z1 hr => ?_)
  · obtain ⟨rfl, ⟨rfl, hc⟩⟩ := hx
    refine sx_catch [] (0, 9, 12, 25) [] rfl (by decide +kernel) (fun y hy => by cases hy) (by decide) (by decide) cl_L_25 (fun q => ?_)
    rw [hc] at hq
    refine sg_astore_n kL_start_12 (by decide) ?_
    refine sg_iconst (v := 1) kL_start_13 (by decide) ?_
    exact sg_iret kL_start_14 rfl rfl (hq _ fo ss_fr.rf h hout (fun q => by cases q)) (by decide) (by decide)
  · obtain ⟨rfl, r, rfl, h0, h9⟩ := hr
    rw [h0] at hq
    refine sg_i2l kL_start_7 ?_
    refine sg_last (j := 0) kL_start_8 hout (by decide) (by decide) (fun z2 u2 => ?_)
    refine sg_goto 15 kL_start_9 (by decide) ?_
    refine sg_iconst (v := 0) kL_start_15 (by decide) ?_
    exact sg_iret kL_start_16 rfl rfl (hq z2 _ (u2.fr (Or.inr rfl)) (h.fr (u2.fr rfl : ss_fr (fun q => q = oa) z1 z2) (fun q hq => by rw [hq]; exact hoa)) (u2.at hout) (fun _ => fun q h1 => by rw [pk_uLs, h9 q h1])) (by decide) (by decide)
set_option maxRecDepth 100000 in
theorem cL_versions (hst : l.stackTraces = false) (h : ss_XP V z b st) (hout : ss_at z oa (.inl (sv_J V, 1, .inr (.inl fo)))) (hoa : ¬ ss_xc b oa) (p0 : Int32) (hq : ∀ z' g, ss_fr (ss_xo b oa) z z' → ss_XP V z' b st → ss_at z' oa (.inl (sv_J V, 1, .inr (.inl g))) → (cd_key p0 = 0 → ss_key p0 → g 0 = (nI (ss_cnt (ss_hit (ss_pe p0) st.2.2.2.1) st.2.2.2.1.length)).toInt64) → Qr (some (.int (nI (cd_key p0)))) z') : ss_CH V l 10 mL_versions 4 24 [.ref b, .int p0, .ref oa] z Qr Qx := by
  refine ss_CH.of hst (by decide) (Nat.le_of_ble_eq_true rfl) ?_
  refine sg_aload_n kL_versions_0 rfl ?_
  refine sg_iconst (v := 0) kL_versions_1 (by decide) ?_
  refine sg_aload_n kL_versions_2 rfl ?_
  refine sg_iload_n kL_versions_3 rfl ?_
  refine sg_callV (As := [.int p0]) (rest := [.int 0, .ref oa]) (cS_versions hst h p0 (Qr := fun w z' => z' = z ∧ ∃ r, w = some (.int r) ∧ cd_key p0 = 0 ∧ (ss_key p0 → r = nI (ss_cnt (ss_hit (ss_pe p0) st.2.2.2.1) st.2.2.2.1.length))) (Qx := fun E z' => z' = z ∧ ((E = sx_A ∧ cd_key p0 = 1))) (fun e1 => ⟨rfl, _, rfl, (by unfold cd_key; exact if_pos e1), fun _ => rfl⟩) (fun hn => ⟨rfl, ⟨rfl, by unfold cd_key; exact if_neg hn⟩⟩)) vl_L_57 kL_versions_4 h.1 rfl (Nat.le_of_ble_eq_true rfl) ⟨by decide, by decide⟩ ⟨by decide, by decide⟩ (fun E z1 hx => ?_) (fun w z1 hr => ?_)
  · obtain ⟨rfl, ⟨rfl, hc⟩⟩ := hx
    refine sx_catch [] (0, 9, 12, 19) [] rfl (by decide +kernel) (fun y hy => by cases hy) (by decide) (by decide) cl_L_19 (fun q => ?_)
    rw [hc] at hq
    refine sg_astore_n kL_versions_12 (by decide) ?_
    refine sg_iconst (v := 1) kL_versions_13 (by decide) ?_
    exact sg_iret kL_versions_14 rfl rfl (hq _ fo ss_fr.rf h hout (fun q => by cases q)) (by decide) (by decide)
  · obtain ⟨rfl, r, rfl, h0, h9⟩ := hr
    rw [h0] at hq
    refine sg_i2l kL_versions_7 ?_
    refine sg_last (j := 0) kL_versions_8 hout (by decide) (by decide) (fun z2 u2 => ?_)
    refine sg_goto 15 kL_versions_9 (by decide) ?_
    refine sg_iconst (v := 0) kL_versions_15 (by decide) ?_
    exact sg_iret kL_versions_16 rfl rfl (hq z2 _ (u2.fr (Or.inr rfl)) (h.fr (u2.fr rfl : ss_fr (fun q => q = oa) z1 z2) (fun q hq => by rw [hq]; exact hoa)) (u2.at hout) (fun _ => fun h1 => by rw [pk_uLs, h9 h1])) (by decide) (by decide)
set_option maxRecDepth 100000 in
theorem cL_timeOf (hst : l.stackTraces = false) (h : ss_XP V z b st) (hout : ss_at z oa (.inl (sv_J V, 1, .inr (.inl fo)))) (hoa : ¬ ss_xc b oa) (p0 : Int32) (p1 : Int32) (hq : ∀ z' g, ss_fr (ss_xo b oa) z z' → ss_XP V z' b st → ss_at z' oa (.inl (sv_J V, 1, .inr (.inl g))) → (cd_timeOf st p0 p1 = 0 → ∀ e, ss_key p0 → ss_vs st p0 p1 = some e → g 0 = (e.2.1).toInt64) → Qr (some (.int (nI (cd_timeOf st p0 p1)))) z') : ss_CH V l 10 mL_timeOf 4 24 [.ref b, .int p0, .int p1, .ref oa] z Qr Qx := by
  refine ss_CH.of hst (by decide) (Nat.le_of_ble_eq_true rfl) ?_
  refine sg_aload_n kL_timeOf_0 rfl ?_
  refine sg_iconst (v := 0) kL_timeOf_1 (by decide) ?_
  refine sg_aload_n kL_timeOf_2 rfl ?_
  refine sg_iload_n kL_timeOf_3 rfl ?_
  refine sg_iload_n kL_timeOf_4 rfl ?_
  refine sg_callV (As := [.int p0, .int p1]) (rest := [.int 0, .ref oa]) (cS_timeOf hst h p0 p1 (Qr := fun w z' => z' = z ∧ ∃ r, w = some (.int r) ∧ cd_timeOf st p0 p1 = 0 ∧ (∀ e, ss_key p0 → ss_vs st p0 p1 = some e → r = e.2.1)) (Qx := fun E z' => z' = z ∧ ((E = sx_A ∧ cd_timeOf st p0 p1 = 1) ∨ (E = sx_N ∧ cd_timeOf st p0 p1 = 2))) (fun e e1 e2 => ⟨rfl, _, rfl, (by unfold cd_timeOf; unfold ss_vs at e2; exact (if_pos e1).trans (if_neg (by intro w; rw [w] at e2; cases e2))), fun e3 _ f2 => by rw [e2] at f2; cases f2; rfl⟩) (fun hc => ⟨rfl, Or.inl ⟨rfl, hc⟩⟩) (fun hc => ⟨rfl, Or.inr (⟨rfl, hc⟩)⟩)) vl_L_60 kL_timeOf_5 h.1 rfl (Nat.le_of_ble_eq_true rfl) ⟨by decide, by decide⟩ ⟨by decide, by decide⟩ (fun E z1 hx => ?_) (fun w z1 hr => ?_)
  · obtain ⟨rfl, (⟨rfl, hc⟩ | ⟨rfl, hc⟩)⟩ := hx
    · refine sx_catch [] (0, 10, 13, 19) [(0, 10, 17, 27)] rfl (by decide +kernel) (fun y hy => by cases hy) (by decide) (by decide) cl_L_19 (fun q => ?_)
      rw [hc] at hq
      refine sg_astore kL_timeOf_13 (by decide) ?_
      refine sg_iconst (v := 1) kL_timeOf_15 (by decide) ?_
      exact sg_iret kL_timeOf_16 rfl rfl (hq _ fo ss_fr.rf h hout (fun q => by cases q)) (by decide) (by decide)
    · refine sx_catch [(0, 10, 13, 19)] (0, 10, 17, 27) [] rfl (by decide +kernel) (fun y hy => by
        rcases List.mem_cons.mp hy with rfl | hy
        · exact ⟨by decide, _, cl_L_19, by decide +kernel, by decide +kernel⟩
        cases hy) (by decide) (by decide) cl_L_27 (fun q => ?_)
      rw [hc] at hq
      refine sg_astore kL_timeOf_17 (by decide) ?_
      refine sg_iconst (v := 2) kL_timeOf_19 (by decide) ?_
      exact sg_iret kL_timeOf_20 rfl rfl (hq _ fo ss_fr.rf h hout (fun q => by cases q)) (by decide) (by decide)
  · obtain ⟨rfl, r, rfl, h0, h9⟩ := hr
    rw [h0] at hq
    refine sg_i2l kL_timeOf_8 ?_
    refine sg_last (j := 0) kL_timeOf_9 hout (by decide) (by decide) (fun z2 u2 => ?_)
    refine sg_goto 21 kL_timeOf_10 (by decide) ?_
    refine sg_iconst (v := 0) kL_timeOf_21 (by decide) ?_
    exact sg_iret kL_timeOf_22 rfl rfl (hq z2 _ (u2.fr (Or.inr rfl)) (h.fr (u2.fr rfl : ss_fr (fun q => q = oa) z1 z2) (fun q hq => by rw [hq]; exact hoa)) (u2.at hout) (fun _ => fun e h1 h2 => by rw [pk_uLs, h9 e h1 h2])) (by decide) (by decide)
set_option maxRecDepth 100000 in
theorem cL_valueOf (hst : l.stackTraces = false) (h : ss_XP V z b st) (hout : ss_at z oa (.inl (sv_J V, 1, .inr (.inl fo)))) (hoa : ¬ ss_xc b oa) (p0 : Int32) (p1 : Int32) (hq : ∀ z' g, ss_fr (ss_xo b oa) z z' → ss_XP V z' b st → ss_at z' oa (.inl (sv_J V, 1, .inr (.inl g))) → (cd_valueOf st p0 p1 = 0 → ∀ e, ss_key p0 → ss_vs st p0 p1 = some e → e.2.2.2 = false → g 0 = (e.2.2.1)) → Qr (some (.int (nI (cd_valueOf st p0 p1)))) z') : ss_CH V l 10 mL_valueOf 4 24 [.ref b, .int p0, .int p1, .ref oa] z Qr Qx := by
  refine ss_CH.of hst (by decide) (Nat.le_of_ble_eq_true rfl) ?_
  refine sg_aload_n kL_valueOf_0 rfl ?_
  refine sg_iconst (v := 0) kL_valueOf_1 (by decide) ?_
  refine sg_aload_n kL_valueOf_2 rfl ?_
  refine sg_iload_n kL_valueOf_3 rfl ?_
  refine sg_iload_n kL_valueOf_4 rfl ?_
  refine sg_callV (As := [.int p0, .int p1]) (rest := [.int 0, .ref oa]) (cS_valueOf hst h p0 p1 (Qr := fun w z' => z' = z ∧ ∃ r, w = some (.long r) ∧ cd_valueOf st p0 p1 = 0 ∧ (∀ e, ss_key p0 → ss_vs st p0 p1 = some e → e.2.2.2 = false → r = e.2.2.1)) (Qx := fun E z' => z' = z ∧ ((E = sx_A ∧ cd_valueOf st p0 p1 = 1) ∨ (E = sx_N ∧ cd_valueOf st p0 p1 = 2))) (fun e e1 e2 e4 => ⟨rfl, _, rfl, (by unfold cd_valueOf; rw [e2]; exact (if_pos e1).trans (if_neg (by rw [e4]; decide))), fun e3 _ f2 _ => by rw [e2] at f2; cases f2; rfl⟩) (fun hc => ⟨rfl, Or.inl ⟨rfl, hc⟩⟩) (fun hc => ⟨rfl, Or.inr (⟨rfl, hc⟩)⟩)) vl_L_63 kL_valueOf_5 h.1 rfl (Nat.le_of_ble_eq_true rfl) ⟨by decide, by decide⟩ ⟨by decide, by decide⟩ (fun E z1 hx => ?_) (fun w z1 hr => ?_)
  · obtain ⟨rfl, (⟨rfl, hc⟩ | ⟨rfl, hc⟩)⟩ := hx
    · refine sx_catch [] (0, 9, 12, 19) [(0, 9, 16, 27)] rfl (by decide +kernel) (fun y hy => by cases hy) (by decide) (by decide) cl_L_19 (fun q => ?_)
      rw [hc] at hq
      refine sg_astore kL_valueOf_12 (by decide) ?_
      refine sg_iconst (v := 1) kL_valueOf_14 (by decide) ?_
      exact sg_iret kL_valueOf_15 rfl rfl (hq _ fo ss_fr.rf h hout (fun q => by cases q)) (by decide) (by decide)
    · refine sx_catch [(0, 9, 12, 19)] (0, 9, 16, 27) [] rfl (by decide +kernel) (fun y hy => by
        rcases List.mem_cons.mp hy with rfl | hy
        · exact ⟨by decide, _, cl_L_19, by decide +kernel, by decide +kernel⟩
        cases hy) (by decide) (by decide) cl_L_27 (fun q => ?_)
      rw [hc] at hq
      refine sg_astore kL_valueOf_16 (by decide) ?_
      refine sg_iconst (v := 2) kL_valueOf_18 (by decide) ?_
      exact sg_iret kL_valueOf_19 rfl rfl (hq _ fo ss_fr.rf h hout (fun q => by cases q)) (by decide) (by decide)
  · obtain ⟨rfl, r, rfl, h0, h9⟩ := hr
    rw [h0] at hq
    refine sg_last (j := 0) kL_valueOf_8 hout (by decide) (by decide) (fun z2 u2 => ?_)
    refine sg_goto 20 kL_valueOf_9 (by decide) ?_
    refine sg_iconst (v := 0) kL_valueOf_20 (by decide) ?_
    exact sg_iret kL_valueOf_21 rfl rfl (hq z2 _ (u2.fr (Or.inr rfl)) (h.fr (u2.fr rfl : ss_fr (fun q => q = oa) z1 z2) (fun q hq => by rw [hq]; exact hoa)) (u2.at hout) (fun _ => fun e h1 h2 h3 => by rw [pk_uLs, h9 e h1 h2 h3])) (by decide) (by decide)
end SSH
