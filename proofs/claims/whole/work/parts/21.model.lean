/-! The reference: what only reads. -/
section SSN
variable {V : ss_V} {l : Launch} {z : ss_Z} {d a : Nat} {st : ss_St} {th : Int32} {va : Int64}
theorem cM_thrown (hst : l.stackTraces = false) (h : ss_MP V z a st th va) : ss_F V l d mM_thrown [.ref a] z (.int th) := by
  intro Qr Qx hq
  obtain ⟨fo, fK, fT, fW, fE, fY, fN, fS, fC, fA, fB, fD, h1, h2, h3⟩ := h
  refine ss_C.of hst rfl (by decide) (Nat.le_of_ble_eq_true rfl) ?_
  refine sg_aload_n kM_thrown_0 rfl ?_
  refine sg_get fl_M_45 kM_thrown_1 h1.go rfl ?_
  exact sg_iret kM_thrown_4 rfl rfl hq (Nat.le_refl _) (Nat.le_refl _)
theorem ss_key_15 {key : Int32} : ¬ 15 < key ↔ key < 16 := by
  rw [Int32.not_lt, Int32.le_iff_toInt_le, Int32.lt_iff_toInt_lt]
  have h1 : (15 : Int32).toInt = 15 := by decide
  have h2 : (16 : Int32).toInt = 16 := by decide
  omega
theorem cM_isKey (hst : l.stackTraces = false) (key : Int32) : ss_F V l d mM_isKey [.int key] z (.int (ss_b (decide (ss_key key)))) := by
  intro Qr Qx hq
  refine ss_C.of hst rfl (by decide) (Nat.le_of_ble_eq_true rfl) ?_
  refine sg_iload_n kM_isKey_0 rfl ?_
  refine sg_if_lt 14 kM_isKey_1 (by decide) (fun hb => ?_) (fun hb => ?_)
  · rw [decide_eq_false (fun q : ss_key key => q.1 hb)] at hq
    refine sg_iconst (v := 0) kM_isKey_14 (by decide) ?_
    exact sg_iret kM_isKey_15 rfl rfl hq (Nat.le_refl _) (Nat.le_refl _)
  · refine sg_iload_n kM_isKey_4 rfl ?_
    refine sg_bipush (v := 15) kM_isKey_5 (by decide) ?_
    refine sg_icmp_gt 14 kM_isKey_7 (by decide) (fun hc => ?_) (fun hc => ?_)
    · rw [decide_eq_false (fun q : ss_key key => absurd hc (ss_key_15.mpr q.2))] at hq
      refine sg_iconst (v := 0) kM_isKey_14 (by decide) ?_
      exact sg_iret kM_isKey_15 rfl rfl hq (Nat.le_refl _) (Nat.le_refl _)
    · rw [decide_eq_true (show ss_key key from ⟨hb, ss_key_15.mp hc⟩)] at hq
      refine sg_iconst (v := 1) kM_isKey_10 (by decide) ?_
      refine sg_goto 15 kM_isKey_11 (by decide) ?_
      exact sg_iret kM_isKey_15 rfl rfl hq (Nat.le_refl _) (Nat.le_refl _)
theorem ss_ms_none {o : Option ss_Tx} {i : Nat} {fN fS fC fA : Nat → Int32} {fB : Nat → Int64} {fD : Nat → Int32} (h : ss_ms o i fN fS fC fA fB fD) (hb : ∀ x, o = some x → x.1 < 1000000) : fN i ≤ 0 ↔ o = none := by
  cases o with
  | none =>
    have h : fN i = 0 := h
    rw [h]
    exact ⟨fun _ => rfl, fun _ => by decide⟩
  | some x =>
    have h := h.1
    rw [h]
    exact ⟨fun q => absurd q (nI_nle (by omega) (by have := hb x rfl; omega)), fun q => by cases q⟩
theorem ss_sm.lt (h : ss_sm st) {i : Nat} : ∀ x, st.2.2.2.2 i = some x → x.1 < 1000000 := fun x hx => Nat.lt_trans (h.2.2 i x hx) h.1
set_option maxRecDepth 100000 in
theorem cM_place (hst : l.stackTraces = false) (hsm : ss_sm st) (h : ss_MP V z a st th va) (t : Int32) : ss_F V l d mM_place [.ref a, .int t] z (.int (ss_ix (ss_lt st t))) := by
  intro Qr Qx hq
  obtain ⟨fo, fK, fT, fW, fE, fY, fN, fS, fC, fA, fB, fD, h1, h2, h3⟩ := h
  refine ss_C.of hst rfl (by decide) (Nat.le_of_ble_eq_true rfl) ?_
  have loop : ∀ m i, i + m = 6 → ss_lt st t = ss_first (ss_lvt st t) i m → ss_G V l mM_place (ss_rm d 0 0) (ss_Q V Qr Qx 0 0) 2 [(2, .int (nI i)), (0, .ref a), (1, .int t)] [] z 0 0 := by
    intro m
    induction m with
    | zero =>
      intro i hi hf
      have hi : i = 6 := by omega
      subst hi
      rw [hf] at hq
      refine sg_iload_n kM_place_2 rfl ?_
      refine sg_bipush (v := 6) kM_place_3 (by decide) ?_
      refine sg_icmp_ge 37 kM_place_5 (by decide) (fun hb => ?_) (fun hb => ?_)
      · refine sg_iconst (v := (-1)) kM_place_37 (by decide) ?_
        exact sg_iret kM_place_38 rfl rfl hq (Nat.le_refl _) (Nat.le_refl _)
      · exact absurd (by decide) hb
    | succ m ih =>
      intro i hi hf
      have hf2 : ss_lt st t = if ss_lvt st t i = true then some i else ss_first (ss_lvt st t) (i + 1) m := hf
      have next : ss_lvt st t i = false → ss_G V l mM_place (ss_rm d 0 0) (ss_Q V Qr Qx 0 0) 31 [(2, .int (nI i)), (0, .ref a), (1, .int t)] [] z 0 0 := by
        intro hn
        refine sg_iinc kM_place_31 rfl (ss_inc _) (by decide) ?_
        refine sg_goto 2 kM_place_34 (by decide) ?_
        refine ih (i + 1) (by omega) ?_
        rw [hf2, hn]
        rfl
      have hm := h3 i (by omega)
      have hn := ss_ms_none hm hsm.lt
      unfold ss_lvt at hf2 next
      refine sg_iload_n kM_place_2 rfl ?_
      refine sg_bipush (v := 6) kM_place_3 (by decide) ?_
      refine sg_icmp_ge 37 kM_place_5 (by decide) (fun hb => ?_) (fun hb => ?_)
      · exact absurd hb (nI_ge (b := 6) (by omega) (by decide))
      · refine sg_aload_n kM_place_8 rfl ?_
        refine sg_get fl_M_27 kM_place_9 h1.go rfl ?_
        refine sg_iload_n kM_place_12 rfl ?_
        refine sg_iald kM_place_13 h1.gN (by omega) (by omega) ?_
        refine sg_if_le 31 kM_place_14 (by decide) (fun hc => ?_) (fun hc => ?_)
        · rw [hn] at hc
          rw [hc] at next
          exact next rfl
        · rw [hn] at hc
          cases ho : st.2.2.2.2 i with
          | none => exact absurd ho hc
          | some x =>
            rw [ho] at hm next hf2
            refine sg_aload_n kM_place_17 rfl ?_
            refine sg_get fl_M_27 kM_place_18 h1.go rfl ?_
            refine sg_iload_n kM_place_21 rfl ?_
            refine sg_iald kM_place_22 h1.gN (by omega) (by omega) ?_
            rw [hm.1]
            refine sg_iconst (v := 1) kM_place_23 (by decide) ?_
            refine sg_isub kM_place_24 ?_
            refine sg_i (nI_pred _) ?_
            refine sg_iload_n kM_place_25 rfl ?_
            refine sg_icmp_ne 31 kM_place_26 (by decide) (fun he => ?_) (fun he => ?_)
            · exact next (decide_eq_false he)
            · refine sg_iload_n kM_place_29 rfl ?_
              have hf3 : ss_lt st t = some i := by
                rw [hf2]
                show (if decide _ = true then _ else _) = _
                rw [decide_eq_true he]
                rfl
              rw [hf3] at hq
              exact sg_iret kM_place_30 rfl rfl hq (Nat.le_refl _) (Nat.le_refl _)
  refine sg_iconst (v := 0) kM_place_0 (by decide) ?_
  refine sg_istore_n kM_place_1 (by decide) ?_
  exact sg_lw (loop 6 0 rfl rfl) ⟨rfl, rfl, rfl, trivial⟩
set_option maxRecDepth 100000 in
theorem cM_count (hst : l.stackTraces = false) (hsm : ss_sm st) (h : ss_MP V z a st th va) : ss_F V l d mM_count [.ref a] z (.int (nI (ss_cnt (ss_lv st) 6))) := by
  intro Qr Qx hq
  obtain ⟨fo, fK, fT, fW, fE, fY, fN, fS, fC, fA, fB, fD, h1, h2, h3⟩ := h
  refine ss_C.of hst rfl (by decide) (Nat.le_of_ble_eq_true rfl) ?_
  have loop : ∀ m i, i + m = 6 → ss_G V l mM_count (ss_rm d 0 0) (ss_Q V Qr Qx 0 0) 4 [(2, .int (nI i)), (1, .int (nI (ss_cnt (ss_lv st) i))), (0, .ref a)] [] z 0 0 := by
    intro m
    induction m with
    | zero =>
      intro i hi
      have hi : i = 6 := by omega
      subst hi
      refine sg_iload_n kM_count_4 rfl ?_
      refine sg_bipush (v := 6) kM_count_5 (by decide) ?_
      refine sg_icmp_ge 33 kM_count_7 (by decide) (fun hb => ?_) (fun hb => ?_)
      · refine sg_iload_n kM_count_33 rfl ?_
        exact sg_iret kM_count_34 rfl rfl hq (Nat.le_refl _) (Nat.le_refl _)
      · exact absurd (by decide) hb
    | succ m ih =>
      intro i hi
      have hn := ss_ms_none (h3 i (by omega)) hsm.lt
      have hs : ss_cnt (ss_lv st) (i + 1) = ss_cnt (ss_lv st) i + (if ss_lv st i = true then 1 else 0) := rfl
      unfold ss_lv at hs
      refine sg_iload_n kM_count_4 rfl ?_
      refine sg_bipush (v := 6) kM_count_5 (by decide) ?_
      refine sg_icmp_ge 33 kM_count_7 (by decide) (fun hb => ?_) (fun hb => ?_)
      · exact absurd hb (nI_ge (b := 6) (by omega) (by decide))
      · refine sg_iload_n kM_count_10 rfl ?_
        refine sg_aload_n kM_count_11 rfl ?_
        refine sg_get fl_M_27 kM_count_12 h1.go rfl ?_
        refine sg_iload_n kM_count_15 rfl ?_
        refine sg_iald kM_count_16 h1.gN (by omega) (by omega) ?_
        refine sg_if_le 24 kM_count_17 (by decide) (fun hc => ?_) (fun hc => ?_)
        · rw [hn] at hc
          rw [hc] at hs
          refine sg_iconst (v := 0) kM_count_24 (by decide) ?_
          refine sg_iadd kM_count_25 ?_
          refine sg_istore_n kM_count_26 (by decide) ?_
          refine sg_iinc kM_count_27 rfl (ss_inc _) (by decide) ?_
          refine sg_goto 4 kM_count_30 (by decide) ?_
          refine sg_lw (ih (i + 1) (by omega)) ⟨rfl, ?_, rfl, trivial⟩
          unfold ss_lv
          rw [hs]
          show some (Value.int (nI _ + 0)) = _
          rw [Int32.add_zero]
          rfl
        · rw [hn] at hc
          rw [if_pos (by cases ho : st.2.2.2.2 i with
            | none => exact absurd ho hc
            | some x => rfl)] at hs
          refine sg_iconst (v := 1) kM_count_20 (by decide) ?_
          refine sg_goto 25 kM_count_21 (by decide) ?_
          refine sg_iadd kM_count_25 ?_
          refine sg_istore_n kM_count_26 (by decide) ?_
          refine sg_iinc kM_count_27 rfl (ss_inc _) (by decide) ?_
          refine sg_goto 4 kM_count_30 (by decide) ?_
          refine sg_lw (ih (i + 1) (by omega)) ⟨rfl, ?_, rfl, trivial⟩
          unfold ss_lv
          rw [hs]
          show some (Value.int (nI _ + 1)) = _
          rw [nI_1]
  refine sg_iconst (v := 0) kM_count_0 (by decide) ?_
  refine sg_istore_n kM_count_1 (by decide) ?_
  refine sg_iconst (v := 0) kM_count_2 (by decide) ?_
  refine sg_istore_n kM_count_3 (by decide) ?_
  exact sg_lw (loop 6 0 rfl) ⟨rfl, rfl, rfl, trivial⟩
theorem ss_ix_lt {o : Option Nat} (h : ∀ j, o = some j → j < 2 ^ 31) : ¬ 0 ≤ ss_ix o ↔ o = none := by
  cases o with
  | none => exact ⟨fun _ => rfl, fun _ => by decide⟩
  | some j => exact ⟨fun q => absurd (nI_pos' (h j rfl)) q, fun q => by cases q⟩
def ss_wr (st : ss_St) (t key : Int32) : Int32 := if ss_lt st t = none then 1 else if ss_key key then 0 else 2
theorem ss_lt31 {t : Int32} : ∀ j, ss_lt st t = some j → j < 2 ^ 31 := fun j hj => by
  have := (ss_lt_some hj).1
  omega
theorem cM_wrong (hst : l.stackTraces = false) (hsm : ss_sm st) (h : ss_MP V z a st th va) (t key : Int32) : ss_F V l (d + 1) mM_wrong [.ref a, .int t, .int key] z (.int (ss_wr st t key)) := by
  intro Qr Qx hq
  have hP := cM_place (d := d) hst hsm h t
  obtain ⟨fo, fK, fT, fW, fE, fY, fN, fS, fC, fA, fB, fD, h1, h2, h3⟩ := h
  refine ss_C.of hst rfl (by decide) (Nat.le_of_ble_eq_true rfl) ?_
  unfold ss_wr at hq
  refine sg_aload_n kM_wrong_0 rfl ?_
  refine sg_iload_n kM_wrong_1 rfl ?_
  refine sg_fV (As := [.int t]) (rest := []) hP vl_M_49 kM_wrong_2 h1.go rfl (Nat.le_of_ble_eq_true rfl) ⟨Nat.le_refl _, by show 8 + (3 + 11) + (30 * d + 60) ≤ 30 * (d + 1) + 60; omega⟩ ⟨Nat.le_refl _, Nat.le_refl _⟩ ?_
  have hx := ss_ix_lt (o := ss_lt st t) ss_lt31
  refine sg_if_ge 12 kM_wrong_5 (by decide) (fun hb => ?_) (fun hb => ?_)
  · rw [if_neg (fun q => (hx.mpr q) hb)] at hq
    refine sg_iload_n kM_wrong_12 rfl ?_
    refine sg_fS (As := [.int key]) (rest := []) (cM_isKey (d := d) hst key) sl_M_53 kM_wrong_13 rfl (Nat.le_of_ble_eq_true rfl) ⟨Nat.le_refl _, by show 8 + (1 + 11) + (30 * d + 60) ≤ 30 * (d + 1) + 60; omega⟩ ⟨Nat.le_refl _, Nat.le_refl _⟩ ?_
    refine sg_if_eq 23 kM_wrong_16 (by decide) (fun hc => ?_) (fun hc => ?_)
    · rw [ss_b0] at hc
      rw [if_neg (of_decide_eq_false hc)] at hq
      refine sg_iconst (v := 2) kM_wrong_23 (by decide) ?_
      exact sg_iret kM_wrong_24 rfl rfl hq (Nat.le_refl _) (Nat.le_refl _)
    · rw [ss_b1] at hc
      rw [if_pos (of_decide_eq_true hc)] at hq
      refine sg_iconst (v := 0) kM_wrong_19 (by decide) ?_
      refine sg_goto 24 kM_wrong_20 (by decide) ?_
      exact sg_iret kM_wrong_24 rfl rfl hq (Nat.le_refl _) (Nat.le_refl _)
  · rw [if_pos (hx.mp hb)] at hq
    refine sg_iconst (v := 1) kM_wrong_8 (by decide) ?_
    refine sg_goto 24 kM_wrong_9 (by decide) ?_
    exact sg_iret kM_wrong_24 rfl rfl hq (Nat.le_refl _) (Nat.le_refl _)
set_option maxRecDepth 100000 in
theorem cM_version (hst : l.stackTraces = false) (hsm : ss_sm st) (h : ss_MP V z a st th va) (key t : Int32) : ss_F V l d mM_version [.ref a, .int key, .int t] z (.int (ss_ix (ss_li (ss_pm key t) st.2.2.2.1))) := by
  intro Qr Qx hq
  obtain ⟨fo, fK, fT, fW, fE, fY, fN, fS, fC, fA, fB, fD, h1, h2, h3⟩ := h
  have hlen := hsm.2.1
  refine ss_C.of hst rfl (by decide) (Nat.le_of_ble_eq_true rfl) ?_
  have loop : ∀ m i, i + m = st.2.2.2.1.length → ss_G V l mM_version (ss_rm d 0 0) (ss_Q V Qr Qx 0 0) 5 [(4, .int (nI i)), (3, .int (ss_ix (ss_last (ss_hit (ss_pm key t) st.2.2.2.1) i))), (0, .ref a), (1, .int key), (2, .int t)] [] z 0 0 := by
    intro m
    induction m with
    | zero =>
      intro i hi
      have hi : i = st.2.2.2.1.length := by omega
      subst hi
      refine sg_iload kM_version_5 rfl ?_
      refine sg_aload_n kM_version_7 rfl ?_
      refine sg_get fl_M_73 kM_version_8 h1.go rfl ?_
      refine sg_icmp_ge 49 kM_version_11 (by decide) (fun hb => ?_) (fun hb => ?_)
      · refine sg_iload_n kM_version_49 rfl ?_
        exact sg_iret kM_version_50 rfl rfl hq (Nat.le_refl _) (Nat.le_refl _)
      · exact absurd (nI_le (Nat.le_refl _) (by omega)) hb
    | succ m ih =>
      intro i hi
      have hi2 : i < st.2.2.2.1.length := by omega
      have hg := List.getElem?_eq_getElem hi2
      obtain ⟨e1, e2, -, -⟩ := h2 i _ hg
      have hs : ss_last (ss_hit (ss_pm key t) st.2.2.2.1) (i + 1) = if ss_hit (ss_pm key t) st.2.2.2.1 i = true then some i else ss_last (ss_hit (ss_pm key t) st.2.2.2.1) i := rfl
      rw [ss_hit_some hg] at hs
      have hno : ¬ (st.2.2.2.1[i].1 = key ∧ st.2.2.2.1[i].2.1 ≤ t) → ss_G V l mM_version (ss_rm d 0 0) (ss_Q V Qr Qx 0 0) 41 [(4, .int (nI i)), (3, .int (ss_ix (ss_last (ss_hit (ss_pm key t) st.2.2.2.1) i))), (0, .ref a), (1, .int key), (2, .int t)] [] z 0 0 := by
        intro hn
        refine sg_iload_n kM_version_41 rfl ?_
        refine sg_istore_n kM_version_42 (by decide) ?_
        refine sg_iinc kM_version_43 rfl (ss_inc _) (by decide) ?_
        refine sg_goto 5 kM_version_46 (by decide) ?_
        refine sg_lw (ih (i + 1) (by omega)) ⟨rfl, ?_, rfl, rfl, rfl, trivial⟩
        rw [hs, if_neg (by unfold ss_pm; rw [Bool.and_eq_true, decide_eq_true_eq, decide_eq_true_eq]; exact hn)]
        rfl
      refine sg_iload kM_version_5 rfl ?_
      refine sg_aload_n kM_version_7 rfl ?_
      refine sg_get fl_M_73 kM_version_8 h1.go rfl ?_
      refine sg_icmp_ge 49 kM_version_11 (by decide) (fun hb => ?_) (fun hb => ?_)
      · exact absurd hb (nI_ge (by omega) (by omega))
      · refine sg_aload_n kM_version_14 rfl ?_
        refine sg_get fl_M_7 kM_version_15 h1.go rfl ?_
        refine sg_iload kM_version_18 rfl ?_
        refine sg_iald kM_version_20 h1.gK (by omega) (by omega) ?_
        refine sg_iload_n kM_version_21 rfl ?_
        rw [e1]
        refine sg_icmp_ne 41 kM_version_22 (by decide) (fun hc => ?_) (fun hc => ?_)
        · exact hno (fun q => hc q.1)
        · refine sg_aload_n kM_version_25 rfl ?_
          refine sg_get fl_M_13 kM_version_26 h1.go rfl ?_
          refine sg_iload kM_version_29 rfl ?_
          refine sg_iald kM_version_31 h1.gT (by omega) (by omega) ?_
          refine sg_iload_n kM_version_32 rfl ?_
          rw [e2]
          refine sg_icmp_gt 41 kM_version_33 (by decide) (fun he => ?_) (fun he => ?_)
          · exact hno (fun q => absurd q.2 (Int32.not_le.mpr he))
          · refine sg_iload kM_version_36 rfl ?_
            refine sg_goto 42 kM_version_38 (by decide) ?_
            refine sg_istore_n kM_version_42 (by decide) ?_
            refine sg_iinc kM_version_43 rfl (ss_inc _) (by decide) ?_
            refine sg_goto 5 kM_version_46 (by decide) ?_
            refine sg_lw (ih (i + 1) (by omega)) ⟨rfl, ?_, rfl, rfl, rfl, trivial⟩
            rw [hs, if_pos (by unfold ss_pm; rw [Bool.and_eq_true, decide_eq_true_eq, decide_eq_true_eq]; exact ⟨hc, Int32.not_lt.mp he⟩)]
            rfl
  refine sg_iconst (v := (-1)) kM_version_0 (by decide) ?_
  refine sg_istore_n kM_version_1 (by decide) ?_
  refine sg_iconst (v := 0) kM_version_2 (by decide) ?_
  refine sg_istore kM_version_3 (by decide) ?_
  exact sg_lw (loop st.2.2.2.1.length 0 (by omega)) ⟨rfl, rfl, rfl, rfl, rfl, trivial⟩
set_option maxRecDepth 100000 in
theorem cM_counted (hst : l.stackTraces = false) (hsm : ss_sm st) (h : ss_MP V z a st th va) (key kk : Int32) : ss_F V l d mM_counted [.ref a, .int key, .int kk] z (.int (ss_ix (ss_nt (ss_hit (ss_pe key) st.2.2.2.1) kk st.2.2.2.1.length 0))) := by
  intro Qr Qx hq
  obtain ⟨fo, fK, fT, fW, fE, fY, fN, fS, fC, fA, fB, fD, h1, h2, h3⟩ := h
  have hlen := hsm.2.1
  refine ss_C.of hst rfl (by decide) (Nat.le_of_ble_eq_true rfl) ?_
  have loop : ∀ p c, p ≤ st.2.2.2.1.length → Qr (some (.int (ss_ix (ss_nt (ss_hit (ss_pe key) st.2.2.2.1) kk p c)))) z → ss_G V l mM_counted (ss_rm d 0 0) (ss_Q V Qr Qx 0 0) 10 [(4, .int (nI p - 1)), (3, .int (c - 1)), (0, .ref a), (1, .int key), (2, .int kk)] [] z 0 0 := by
    intro p
    induction p with
    | zero =>
      intro c _ hp
      refine sg_iload kM_counted_10 rfl ?_
      refine sg_if_lt 59 kM_counted_12 (by decide) (fun hb => ?_) (fun hb => ?_)
      · refine sg_iconst (v := (-1)) kM_counted_59 (by decide) ?_
        exact sg_iret kM_counted_60 rfl rfl hp (Nat.le_refl _) (Nat.le_refl _)
      · exact absurd (by decide) hb
    | succ q ih =>
      intro c hle hp
      rw [nI_pred]
      have hq1 : q < st.2.2.2.1.length := by omega
      have hg := List.getElem?_eq_getElem hq1
      obtain ⟨e1, -, -, -⟩ := h2 q _ hg
      have hp2 : Qr (some (.int (ss_ix (if ss_pe key st.2.2.2.1[q] = true then (if c = kk then some q else ss_nt (ss_hit (ss_pe key) st.2.2.2.1) kk q (c + 1)) else ss_nt (ss_hit (ss_pe key) st.2.2.2.1) kk q c)))) z := by
        rw [← ss_hit_some (p := ss_pe key) hg]
        exact hp
      refine sg_iload kM_counted_10 rfl ?_
      refine sg_if_lt 59 kM_counted_12 (by decide) (fun hb => ?_) (fun hb => ?_)
      · exact absurd hb (nI_pos (by omega))
      · refine sg_iload_n kM_counted_15 rfl ?_
        refine sg_aload_n kM_counted_16 rfl ?_
        refine sg_get fl_M_7 kM_counted_17 h1.go rfl ?_
        refine sg_iload kM_counted_20 rfl ?_
        refine sg_iald kM_counted_22 h1.gK (by omega) (by omega) ?_
        refine sg_iload_n kM_counted_23 rfl ?_
        rw [e1]
        refine sg_icmp_ne 31 kM_counted_24 (by decide) (fun hc => ?_) (fun hc => ?_)
        · rw [if_neg (by unfold ss_pe; rw [decide_eq_false hc]; decide)] at hp2
          refine sg_iconst (v := 0) kM_counted_31 (by decide) ?_
          refine sg_iadd kM_counted_32 ?_
          refine sg_i (Int32.add_zero _) ?_
          refine sg_istore_n kM_counted_33 (by decide) ?_
          refine sg_aload_n kM_counted_34 rfl ?_
          refine sg_get fl_M_7 kM_counted_35 h1.go rfl ?_
          refine sg_iload kM_counted_38 rfl ?_
          refine sg_iald kM_counted_40 h1.gK (by omega) (by omega) ?_
          refine sg_iload_n kM_counted_41 rfl ?_
          rw [e1]
          refine sg_icmp_ne 53 kM_counted_42 (by decide) (fun he => ?_) (fun he => ?_)
          · refine sg_iinc kM_counted_53 rfl (ss_dec _) (by decide) ?_
            refine sg_goto 10 kM_counted_56 (by decide) ?_
            exact sg_lw (ih c (by omega) hp2) ⟨rfl, rfl, rfl, rfl, rfl, trivial⟩
          · exact absurd he hc
        · rw [if_pos (by unfold ss_pe; rw [decide_eq_true hc])] at hp2
          refine sg_iconst (v := 1) kM_counted_27 (by decide) ?_
          refine sg_goto 32 kM_counted_28 (by decide) ?_
          refine sg_iadd kM_counted_32 ?_
          refine sg_i (y := c) (Int32.sub_add_cancel c 1) ?_
          refine sg_istore_n kM_counted_33 (by decide) ?_
          refine sg_aload_n kM_counted_34 rfl ?_
          refine sg_get fl_M_7 kM_counted_35 h1.go rfl ?_
          refine sg_iload kM_counted_38 rfl ?_
          refine sg_iald kM_counted_40 h1.gK (by omega) (by omega) ?_
          refine sg_iload_n kM_counted_41 rfl ?_
          rw [e1]
          refine sg_icmp_ne 53 kM_counted_42 (by decide) (fun he => ?_) (fun he => ?_)
          · exact absurd hc he
          · refine sg_iload_n kM_counted_45 rfl ?_
            refine sg_iload_n kM_counted_46 rfl ?_
            refine sg_icmp_ne 53 kM_counted_47 (by decide) (fun hd9 => ?_) (fun hd9 => ?_)
            · rw [if_neg hd9] at hp2
              refine sg_iinc kM_counted_53 rfl (ss_dec _) (by decide) ?_
              refine sg_goto 10 kM_counted_56 (by decide) ?_
              refine sg_lw (ih (c + 1) (by omega) hp2) ⟨rfl, ?_, rfl, rfl, rfl, trivial⟩
              rw [Int32.add_sub_cancel]
              rfl
            · rw [if_pos hd9] at hp2
              refine sg_iload kM_counted_50 rfl ?_
              exact sg_iret kM_counted_52 rfl rfl hp2 (Nat.le_refl _) (Nat.le_refl _)
  refine sg_iconst (v := (-1)) kM_counted_0 (by decide) ?_
  refine sg_istore_n kM_counted_1 (by decide) ?_
  refine sg_aload_n kM_counted_2 rfl ?_
  refine sg_get fl_M_73 kM_counted_3 h1.go rfl ?_
  refine sg_iconst (v := 1) kM_counted_6 (by decide) ?_
  refine sg_isub kM_counted_7 ?_
  refine sg_istore kM_counted_8 (by decide) ?_
  exact sg_lw (loop st.2.2.2.1.length 0 (Nat.le_refl _) hq) ⟨rfl, rfl, rfl, rfl, rfl, trivial⟩
end SSN
