/-! The reference: ends, marks, versions, reads, writes. -/
section SSQ
variable {V : ss_V} {l : Launch} {z : ss_Z} {d a : Nat} {st : ss_St} {th : Int32} {va : Int64} {Qr : Option Value → ss_Z → Prop} {Qx : String → ss_Z → Prop}
set_option maxRecDepth 100000 in
theorem cM_abort (hst : l.stackTraces = false) (hsm : ss_sm st) (h : ss_MP V z a st th va) (t : Int32) (hq : ∀ z', ss_MP V z' a (ss_af (cd_tx st t) (nx_end st t) st) (nI (cd_tx st t)) va → ss_fr (ss_mc a) z z' → Qr none z') : ss_C V l (d + 1) mM_abort 0 0 [.ref a, .int t] z Qr Qx := by
  have hP := cM_place (d := d) hst hsm h t
  obtain ⟨fo, fK, fT, fW, fE, fY, fN, fS, fC, fA, fB, fD, h1, h2, h3⟩ := h
  refine ss_C.of hst rfl (by decide) (Nat.le_of_ble_eq_true rfl) ?_
  have hx := ss_ix_nn (o := ss_lt st t) ss_lt31
  unfold ss_af at hq
  refine sg_aload_n kM_abort_0 rfl ?_
  refine sg_iload_n kM_abort_1 rfl ?_
  refine sg_fV (As := [.int t]) (rest := []) hP vl_M_49 kM_abort_2 h1.go rfl (Nat.le_of_ble_eq_true rfl) ⟨Nat.le_refl _, by show 8 + (3 + 11) + (30 * d + 60) ≤ 30 * (d + 1) + 60; omega⟩ ⟨Nat.le_refl _, Nat.le_refl _⟩ ?_
  refine sg_istore_n kM_abort_5 (by decide) ?_
  refine sg_aload_n kM_abort_6 rfl ?_
  refine sg_iload_n kM_abort_7 rfl ?_
  refine sg_if_ge 15 kM_abort_8 (by decide) (fun hb => ?_) (fun hb => ?_)
  · rw [hx] at hb
    obtain ⟨i, hi⟩ := Option.ne_none_iff_exists'.mp hb
    obtain ⟨hi6, x, hx1, hx2⟩ := ss_lx_some hi
    have hc0 : cd_tx st t = 0 := by
      unfold cd_tx
      rw [hx2]
    rw [hc0] at hq
    unfold nx_end at hq
    rw [hx2] at hq
    rw [hi]
    refine sg_iconst (v := 0) kM_abort_15 (by decide) ?_
    refine sg_put fl_M_45 kM_abort_16 h1.go rfl rfl rfl (Nat.le_of_ble_eq_true rfl) (fun z1 u1 => ?_)
    have h1 := h1.obj u1
    refine sg_aload_n kM_abort_19 rfl ?_
    refine sg_get fl_M_45 kM_abort_20 h1.go rfl ?_
    refine sg_if_ne 33 kM_abort_23 (by decide) (fun hc => ?_) (fun hc => ?_)
    · exact absurd rfl hc
    · refine sg_aload_n kM_abort_26 rfl ?_
      refine sg_get fl_M_27 kM_abort_27 h1.go rfl ?_
      refine sg_iload_n kM_abort_30 rfl ?_
      refine sg_iconst (v := 0) kM_abort_31 (by decide) ?_
      refine sg_iast kM_abort_32 h1.gN (by omega) (by omega) (fun z2 u2 => ?_)
      have h1 := h1.upN u2
      refine sg_vret kM_abort_33 rfl (hq z2 ⟨_, _, _, _, _, _, _, _, _, _, _, _, h1, h2, fun j hj => ?_⟩ ((u1.fr ⟨by omega, by omega⟩ : ss_fr (ss_mc a) z z1).tr (u2.fr ⟨by omega, by omega⟩))) (Nat.le_refl _) (Nat.le_refl _)
      by_cases hji : j = i
      · subst hji
        show ss_ms (va_up st.2.2.2.2 j none j) j _ _ _ _ _ _
        rw [va_up_self]
        exact pk_us
      · show ss_ms (va_up st.2.2.2.2 i none j) j _ _ _ _ _ _
        rw [va_up_ne _ _ hji]
        exact (h3 j hj).congr (pk_un hji) rfl rfl (fun _ _ => rfl) (fun _ _ => rfl) (fun _ _ => rfl)
  · rw [hx] at hb
    have hn := Decidable.not_not.mp hb
    rw [ss_lx_nl hn] at hq
    refine sg_iconst (v := 1) kM_abort_11 (by decide) ?_
    refine sg_goto 16 kM_abort_12 (by decide) ?_
    refine sg_put fl_M_45 kM_abort_16 h1.go rfl rfl rfl (Nat.le_of_ble_eq_true rfl) (fun z1 u1 => ?_)
    have h1 := h1.obj u1
    refine sg_aload_n kM_abort_19 rfl ?_
    refine sg_get fl_M_45 kM_abort_20 h1.go rfl ?_
    refine sg_if_ne 33 kM_abort_23 (by decide) (fun hc => ?_) (fun hc => ?_)
    · exact sg_vret kM_abort_33 rfl (hq z1 ⟨_, _, _, _, _, _, _, _, _, _, _, _, h1, h2, h3⟩ (u1.fr ⟨by omega, by omega⟩)) (Nat.le_refl _) (Nat.le_refl _)
    · exact absurd hc (by decide)
set_option maxRecDepth 100000 in
theorem cM_rollback (hst : l.stackTraces = false) (hsm : ss_sm st) (h : ss_MP V z a st th va) (t m : Int32) (hq : ∀ z', ss_MP V z' a (ss_af (cd_rollback st t m) (nx_rollback st t m) st) (nI (cd_rollback st t m)) va → ss_fr (ss_mc a) z z' → Qr none z') : ss_C V l (d + 1) mM_rollback 0 0 [.ref a, .int t, .int m] z Qr Qx := by
  have hP := cM_place (d := d) hst hsm h t
  obtain ⟨fo, fK, fT, fW, fE, fY, fN, fS, fC, fA, fB, fD, h1, h2, h3⟩ := h
  refine ss_C.of hst rfl (by decide) (Nat.le_of_ble_eq_true rfl) ?_
  have hx := ss_ix_nn (o := ss_lt st t) ss_lt31
  unfold cd_rollback nx_rollback at hq
  refine sg_aload_n kM_rollback_0 rfl ?_
  refine sg_iload_n kM_rollback_1 rfl ?_
  refine sg_fV (As := [.int t]) (rest := []) hP vl_M_49 kM_rollback_2 h1.go rfl (Nat.le_of_ble_eq_true rfl) ⟨Nat.le_refl _, by show 8 + (3 + 11) + (30 * d + 60) ≤ 30 * (d + 1) + 60; omega⟩ ⟨Nat.le_refl _, Nat.le_refl _⟩ ?_
  refine sg_istore_n kM_rollback_5 (by decide) ?_
  refine sg_aload_n kM_rollback_6 rfl ?_
  refine sg_iload_n kM_rollback_7 rfl ?_
  refine sg_if_ge 15 kM_rollback_8 (by decide) (fun hb => ?_) (fun hb => ?_)
  · rw [hx] at hb
    obtain ⟨i, hi⟩ := Option.ne_none_iff_exists'.mp hb
    obtain ⟨hi6, x, hx1, hx2⟩ := ss_lx_some hi
    rw [hx2] at hq
    dsimp only at hq
    rw [hi]
    have hm := h3 i hi6
    rw [hx1] at hm
    obtain ⟨m1, m2, m3, m4, m5⟩ := hm
    refine sg_iconst (v := 0) kM_rollback_15 (by decide) ?_
    refine sg_put fl_M_45 kM_rollback_16 h1.go rfl rfl rfl (Nat.le_of_ble_eq_true rfl) (fun z1 u1 => ?_)
    have h1 := h1.obj u1
    refine sg_aload_n kM_rollback_19 rfl ?_
    refine sg_get fl_M_45 kM_rollback_20 h1.go rfl ?_
    refine sg_if_eq 27 kM_rollback_23 (by decide) (fun hc => ?_) (fun hc => ?_)
    · have bad : (m < 0 ∨ nI x.2.2.length < m) → ss_G V l mM_rollback (ss_rm (d + 1) 0 0) (ss_Q V Qr Qx 0 0) 42 [(3, .int (nI i)), (0, .ref a), (1, .int t), (2, .int m)] [.ref a] z1 0 0 := by
        intro hbad
        rw [if_pos hbad] at hq
        refine sg_iconst (v := 2) kM_rollback_42 (by decide) ?_
        refine sg_goto 47 kM_rollback_43 (by decide) ?_
        refine sg_put fl_M_45 kM_rollback_47 h1.go rfl rfl rfl (Nat.le_of_ble_eq_true rfl) (fun z2 u2 => ?_)
        have h1 := h1.obj u2
        refine sg_aload_n kM_rollback_50 rfl ?_
        refine sg_get fl_M_33 kM_rollback_51 h1.go rfl ?_
        refine sg_iload_n kM_rollback_54 rfl ?_
        refine sg_aload_n kM_rollback_55 rfl ?_
        refine sg_get fl_M_45 kM_rollback_56 h1.go rfl ?_
        refine sg_if_ne 66 kM_rollback_59 (by decide) (fun he => ?_) (fun he => ?_)
        · refine sg_aload_n kM_rollback_66 rfl ?_
          refine sg_get fl_M_33 kM_rollback_67 h1.go rfl ?_
          refine sg_iload_n kM_rollback_70 rfl ?_
          refine sg_iald kM_rollback_71 h1.gC (by omega) (by omega) ?_
          refine sg_iast kM_rollback_72 h1.gC (by omega) (by omega) (fun z3 u3 => ?_)
          have h1 := h1.upC u3
          rw [show upd fC i (fC i) = fC from funext (fun j => by
            unfold upd
            split
            · rename_i q; rw [q]
            · rfl)] at h1
          exact sg_vret kM_rollback_73 rfl (hq z3 ⟨_, _, _, _, _, _, _, _, _, _, _, _, h1, h2, h3⟩ (((u1.fr ⟨by omega, by omega⟩ : ss_fr (ss_mc a) z z1).tr (u2.fr ⟨by omega, by omega⟩)).tr (u3.fr ⟨by omega, by omega⟩))) (Nat.le_refl _) (Nat.le_refl _)
        · exact absurd he (by decide)
      refine sg_aload_n kM_rollback_27 rfl ?_
      refine sg_iload_n kM_rollback_28 rfl ?_
      refine sg_if_lt 42 kM_rollback_29 (by decide) (fun he => ?_) (fun he => ?_)
      · exact bad (Or.inl he)
      · refine sg_iload_n kM_rollback_32 rfl ?_
        refine sg_aload_n kM_rollback_33 rfl ?_
        refine sg_get fl_M_33 kM_rollback_34 h1.go rfl ?_
        refine sg_iload_n kM_rollback_37 rfl ?_
        refine sg_iald kM_rollback_38 h1.gC (by omega) (by omega) ?_
        rw [m3]
        refine sg_icmp_le 46 kM_rollback_39 (by decide) (fun hf => ?_) (fun hf => ?_)
        · have hn : ¬ (m < 0 ∨ nI x.2.2.length < m) := fun q => q.elim he (fun q => absurd hf (Int32.not_le.mpr q))
          rw [if_neg hn] at hq
          obtain ⟨j, hj, rfl⟩ := nI_of he
          have hjl : j ≤ x.2.2.length := (nI_leI (by omega) (by omega)).mp hf
          rw [nI_clamp (by omega)] at hq
          refine sg_iconst (v := 0) kM_rollback_46 (by decide) ?_
          refine sg_put fl_M_45 kM_rollback_47 h1.go rfl rfl rfl (Nat.le_of_ble_eq_true rfl) (fun z2 u2 => ?_)
          have h1 := h1.obj u2
          refine sg_aload_n kM_rollback_50 rfl ?_
          refine sg_get fl_M_33 kM_rollback_51 h1.go rfl ?_
          refine sg_iload_n kM_rollback_54 rfl ?_
          refine sg_aload_n kM_rollback_55 rfl ?_
          refine sg_get fl_M_45 kM_rollback_56 h1.go rfl ?_
          refine sg_if_ne 66 kM_rollback_59 (by decide) (fun hd9 => ?_) (fun hd9 => ?_)
          · exact absurd rfl hd9
          · refine sg_iload_n kM_rollback_62 rfl ?_
            refine sg_goto 72 kM_rollback_63 (by decide) ?_
            refine sg_iast kM_rollback_72 h1.gC (by omega) (by omega) (fun z3 u3 => ?_)
            have h1 := h1.upC u3
            refine sg_vret kM_rollback_73 rfl (hq z3 ⟨_, _, _, _, _, _, _, _, _, _, _, _, h1, h2, fun q hq9 => ?_⟩ (((u1.fr ⟨by omega, by omega⟩ : ss_fr (ss_mc a) z z1).tr (u2.fr ⟨by omega, by omega⟩)).tr (u3.fr ⟨by omega, by omega⟩))) (Nat.le_refl _) (Nat.le_refl _)
            by_cases hji : q = i
            · subst hji
              show ss_ms (va_up st.2.2.2.2 q _ q) q _ _ _ _ _ _
              rw [va_up_self]
              have hlt : (x.2.2.take j).length = j := by
                rw [List.length_take]
                omega
              refine ⟨m1, m2, ?_, ?_, fun p w hp => ?_⟩
              · show upd fC q (nI j) q = nI (x.2.2.take j).length
                rw [hlt]
                exact pk_us
              · show (x.2.2.take j).length ≤ 12
                omega
              · have hp1 := (List.getElem?_eq_some_iff.mp hp).1
                have hp1 : p < (x.2.2.take j).length := hp1
                rw [hlt] at hp1
                have hp : (x.2.2.take j)[p]? = some w := hp
                rw [List.getElem?_take_of_lt hp1] at hp
                exact m5 p w hp
            · show ss_ms (va_up st.2.2.2.2 i _ q) q _ _ _ _ _ _
              rw [va_up_ne _ _ hji]
              exact (h3 q hq9).congr rfl rfl (pk_un hji) (fun _ _ => rfl) (fun _ _ => rfl) (fun _ _ => rfl)
        · exact bad (Or.inr (Int32.not_le.mp hf))
    · exact absurd rfl hc
  · rw [hx] at hb
    have hn := Decidable.not_not.mp hb
    rw [ss_lx_none hn] at hq
    refine sg_iconst (v := 1) kM_rollback_11 (by decide) ?_
    refine sg_goto 16 kM_rollback_12 (by decide) ?_
    refine sg_put fl_M_45 kM_rollback_16 h1.go rfl rfl rfl (Nat.le_of_ble_eq_true rfl) (fun z1 u1 => ?_)
    have h1 := h1.obj u1
    refine sg_aload_n kM_rollback_19 rfl ?_
    refine sg_get fl_M_45 kM_rollback_20 h1.go rfl ?_
    refine sg_if_eq 27 kM_rollback_23 (by decide) (fun hc => ?_) (fun hc => ?_)
    · exact absurd hc (by decide)
    · exact sg_vret kM_rollback_26 rfl (hq z1 ⟨_, _, _, _, _, _, _, _, _, _, _, _, h1, h2, h3⟩ (u1.fr ⟨by omega, by omega⟩)) (Nat.le_refl _) (Nat.le_refl _)
set_option maxRecDepth 100000 in
theorem cM_versions (hst : l.stackTraces = false) (hsm : ss_sm st) (h : ss_MP V z a st th va) (key : Int32) (hq : ∀ z' w, ss_MP V z' a st (nI (cd_key key)) va → ss_fr (ss_mc a) z z' → (cd_key key = 0 → w = nI (ss_cnt (ss_hit (ss_pe key) st.2.2.2.1) st.2.2.2.1.length)) → Qr (some (.int w)) z') : ss_C V l (d + 1) mM_versions 0 0 [.ref a, .int key] z Qr Qx := by
  obtain ⟨fo, fK, fT, fW, fE, fY, fN, fS, fC, fA, fB, fD, h1, h2, h3⟩ := h
  have hlen := hsm.2.1
  refine ss_C.of hst rfl (by decide) (Nat.le_of_ble_eq_true rfl) ?_
  have loop : ∀ m i z1, i + m = st.2.2.2.1.length → ss_fr (ss_mc a) z z1 → ss_mo V z1 a (nI (cd_key key)) st.1 st.2.1 (nI st.2.2.1) (nI st.2.2.2.1.length) fo va fK fT fW fE fY fN fS fC fA fB fD → ss_G V l mM_versions (ss_rm (d + 1) 0 0) (ss_Q V Qr Qx 0 0) 20 [(3, .int (nI i)), (2, .int (nI (ss_cnt (ss_hit (ss_pe key) st.2.2.2.1) i))), (0, .ref a), (1, .int key)] [] z1 0 0 := by
    intro m
    induction m with
    | zero =>
      intro i z1 hi hF h1
      have hi : i = st.2.2.2.1.length := by omega
      subst hi
      refine sg_iload_n kM_versions_20 rfl ?_
      refine sg_aload_n kM_versions_21 rfl ?_
      refine sg_get fl_M_73 kM_versions_22 h1.go rfl ?_
      refine sg_icmp_ge 52 kM_versions_25 (by decide) (fun hb => ?_) (fun hb => ?_)
      · refine sg_aload_n kM_versions_52 rfl ?_
        refine sg_get fl_M_45 kM_versions_53 h1.go rfl ?_
        refine sg_if_ne 63 kM_versions_56 (by decide) (fun hc => ?_) (fun hc => ?_)
        · refine sg_iconst (v := 0) kM_versions_63 (by decide) ?_
          refine sg_iret kM_versions_64 rfl rfl (hq z1 _ ⟨_, _, _, _, _, _, _, _, _, _, _, _, h1, h2, h3⟩ hF (fun q => absurd (by rw [q]; rfl) hc)) (Nat.le_refl _) (Nat.le_refl _)
        · refine sg_iload_n kM_versions_59 rfl ?_
          refine sg_goto 64 kM_versions_60 (by decide) ?_
          exact sg_iret kM_versions_64 rfl rfl (hq z1 _ ⟨_, _, _, _, _, _, _, _, _, _, _, _, h1, h2, h3⟩ hF (fun _ => rfl)) (Nat.le_refl _) (Nat.le_refl _)
      · exact absurd (nI_le (Nat.le_refl _) (by omega)) hb
    | succ m ih =>
      intro i z1 hi hF h1
      have hi2 : i < st.2.2.2.1.length := by omega
      have hg := List.getElem?_eq_getElem hi2
      have hs : ss_cnt (ss_hit (ss_pe key) st.2.2.2.1) (i + 1) = ss_cnt (ss_hit (ss_pe key) st.2.2.2.1) i + (if ss_hit (ss_pe key) st.2.2.2.1 i = true then 1 else 0) := rfl
      rw [ss_hit_some hg] at hs
      refine sg_iload_n kM_versions_20 rfl ?_
      refine sg_aload_n kM_versions_21 rfl ?_
      refine sg_get fl_M_73 kM_versions_22 h1.go rfl ?_
      refine sg_icmp_ge 52 kM_versions_25 (by decide) (fun hb => ?_) (fun hb => ?_)
      · exact absurd hb (nI_ge (by omega) (by omega))
      · refine sg_iload_n kM_versions_28 rfl ?_
        refine sg_aload_n kM_versions_29 rfl ?_
        refine sg_get fl_M_7 kM_versions_30 h1.go rfl ?_
        refine sg_iload_n kM_versions_33 rfl ?_
        refine sg_iald kM_versions_34 h1.gK (by omega) (by omega) ?_
        refine sg_iload_n kM_versions_35 rfl ?_
        rw [(h2 i _ hg).1]
        refine sg_icmp_ne 43 kM_versions_36 (by decide) (fun hc => ?_) (fun hc => ?_)
        · refine sg_iconst (v := 0) kM_versions_43 (by decide) ?_
          refine sg_iadd kM_versions_44 ?_
          refine sg_istore_n kM_versions_45 (by decide) ?_
          refine sg_iinc kM_versions_46 rfl (ss_inc _) (by decide) ?_
          refine sg_goto 20 kM_versions_49 (by decide) ?_
          rw [if_neg (by unfold ss_pe; rw [decide_eq_false hc]; decide)] at hs
          refine sg_lw (ih (i + 1) z1 (by omega) hF h1) ⟨rfl, ?_, rfl, rfl, trivial⟩
          rw [hs]
          show some (Value.int (nI _ + 0)) = _
          rw [Int32.add_zero]
          rfl
        · refine sg_iconst (v := 1) kM_versions_39 (by decide) ?_
          refine sg_goto 44 kM_versions_40 (by decide) ?_
          refine sg_iadd kM_versions_44 ?_
          refine sg_istore_n kM_versions_45 (by decide) ?_
          refine sg_iinc kM_versions_46 rfl (ss_inc _) (by decide) ?_
          refine sg_goto 20 kM_versions_49 (by decide) ?_
          rw [if_pos (by unfold ss_pe; rw [decide_eq_true hc])] at hs
          refine sg_lw (ih (i + 1) z1 (by omega) hF h1) ⟨rfl, ?_, rfl, rfl, trivial⟩
          rw [hs]
          show some (Value.int (nI _ + 1)) = _
          rw [nI_1]
  refine sg_aload_n kM_versions_0 rfl ?_
  refine sg_iload_n kM_versions_1 rfl ?_
  refine sg_fS (As := [.int key]) (rest := [.ref a]) (cM_isKey (d := d) hst key) sl_M_53 kM_versions_2 rfl (Nat.le_of_ble_eq_true rfl) ⟨Nat.le_refl _, by show 8 + (1 + 11) + (30 * d + 60) ≤ 30 * (d + 1) + 60; omega⟩ ⟨Nat.le_refl _, Nat.le_refl _⟩ ?_
  unfold cd_key at loop
  refine sg_if_eq 12 kM_versions_5 (by decide) (fun hb => ?_) (fun hb => ?_)
  · rw [ss_b0] at hb
    rw [if_neg (of_decide_eq_false hb)] at loop
    refine sg_iconst (v := 1) kM_versions_12 (by decide) ?_
    refine sg_put fl_M_45 kM_versions_13 h1.go rfl rfl rfl (Nat.le_of_ble_eq_true rfl) (fun z1 u1 => ?_)
    have h1 := h1.obj u1
    refine sg_iconst (v := 0) kM_versions_16 (by decide) ?_
    refine sg_istore_n kM_versions_17 (by decide) ?_
    refine sg_iconst (v := 0) kM_versions_18 (by decide) ?_
    refine sg_istore_n kM_versions_19 (by decide) ?_
    exact sg_lw (loop st.2.2.2.1.length 0 z1 (by omega) (u1.fr ⟨by omega, by omega⟩) h1) ⟨rfl, rfl, rfl, rfl, trivial⟩
  · rw [ss_b1] at hb
    rw [if_pos (of_decide_eq_true hb)] at loop
    refine sg_iconst (v := 0) kM_versions_8 (by decide) ?_
    refine sg_goto 13 kM_versions_9 (by decide) ?_
    refine sg_put fl_M_45 kM_versions_13 h1.go rfl rfl rfl (Nat.le_of_ble_eq_true rfl) (fun z1 u1 => ?_)
    have h1 := h1.obj u1
    refine sg_iconst (v := 0) kM_versions_16 (by decide) ?_
    refine sg_istore_n kM_versions_17 (by decide) ?_
    refine sg_iconst (v := 0) kM_versions_18 (by decide) ?_
    refine sg_istore_n kM_versions_19 (by decide) ?_
    exact sg_lw (loop st.2.2.2.1.length 0 z1 (by omega) (u1.fr ⟨by omega, by omega⟩) h1) ⟨rfl, rfl, rfl, rfl, trivial⟩
set_option maxRecDepth 100000 in
theorem cM_timeOf (hst : l.stackTraces = false) (hsm : ss_sm st) (h : ss_MP V z a st th va) (key kk : Int32) (hq : ∀ z' w, ss_MP V z' a st (nI (cd_timeOf st key kk)) va → ss_fr (ss_mc a) z z' → (∀ e, ss_key key → ss_vs st key kk = some e → w = e.2.1) → Qr (some (.int w)) z') : ss_C V l (d + 1) mM_timeOf 0 0 [.ref a, .int key, .int kk] z Qr Qx := by
  have hC := cM_counted (d := d) hst hsm h key kk
  obtain ⟨fo, fK, fT, fW, fE, fY, fN, fS, fC, fA, fB, fD, h1, h2, h3⟩ := h
  have hlen := hsm.2.1
  refine ss_C.of hst rfl (by decide) (Nat.le_of_ble_eq_true rfl) ?_
  unfold cd_timeOf at hq
  have hx := ss_ix_nn (o := ss_nt (ss_hit (ss_pe key) st.2.2.2.1) kk st.2.2.2.1.length 0) (fun j hj => by
    have h1 := ss_nt_lt hj
    omega)
  refine sg_aload_n kM_timeOf_0 rfl ?_
  refine sg_iload_n kM_timeOf_1 rfl ?_
  refine sg_fS (As := [.int key]) (rest := [.ref a]) (cM_isKey (d := d) hst key) sl_M_53 kM_timeOf_2 rfl (Nat.le_of_ble_eq_true rfl) ⟨Nat.le_refl _, by show 8 + (1 + 11) + (30 * d + 60) ≤ 30 * (d + 1) + 60; omega⟩ ⟨Nat.le_refl _, Nat.le_refl _⟩ ?_
  refine sg_if_ne 12 kM_timeOf_5 (by decide) (fun hb => ?_) (fun hb => ?_)
  · rw [ss_b1] at hb
    have hb := of_decide_eq_true hb
    rw [if_pos hb] at hq
    refine sg_aload_n kM_timeOf_12 rfl ?_
    refine sg_iload_n kM_timeOf_13 rfl ?_
    refine sg_iload_n kM_timeOf_14 rfl ?_
    refine sg_fV (As := [.int key, .int kk]) (rest := [.ref a]) hC vl_M_108 kM_timeOf_15 h1.go rfl (Nat.le_of_ble_eq_true rfl) ⟨Nat.le_refl _, by show 8 + (5 + 11) + (30 * d + 60) ≤ 30 * (d + 1) + 60; omega⟩ ⟨Nat.le_refl _, Nat.le_refl _⟩ ?_
    refine sg_if_ge 25 kM_timeOf_18 (by decide) (fun hc => ?_) (fun hc => ?_)
    · rw [hx] at hc
      rw [if_neg hc] at hq
      obtain ⟨j, hj⟩ := Option.ne_none_iff_exists'.mp hc
      have hjl := ss_nt_lt hj
      have hg := List.getElem?_eq_getElem hjl
      refine sg_iconst (v := 0) kM_timeOf_25 (by decide) ?_
      refine sg_put fl_M_45 kM_timeOf_26 h1.go rfl rfl rfl (Nat.le_of_ble_eq_true rfl) (fun z1 u1 => ?_)
      have h1 := h1.obj u1
      have hM : ss_MP V z1 a st 0 va := ⟨_, _, _, _, _, _, _, _, _, _, _, _, h1, h2, h3⟩
      have hC := cM_counted (d := d) hst hsm hM key kk
      rw [hj] at hC
      refine sg_aload_n kM_timeOf_29 rfl ?_
      refine sg_get fl_M_45 kM_timeOf_30 h1.go rfl ?_
      refine sg_if_ne 50 kM_timeOf_33 (by decide) (fun he => ?_) (fun he => ?_)
      · exact absurd rfl he
      · refine sg_aload_n kM_timeOf_36 rfl ?_
        refine sg_get fl_M_13 kM_timeOf_37 h1.go rfl ?_
        refine sg_aload_n kM_timeOf_40 rfl ?_
        refine sg_iload_n kM_timeOf_41 rfl ?_
        refine sg_iload_n kM_timeOf_42 rfl ?_
        refine sg_fV (As := [.int key, .int kk]) (rest := [.ref (a + 2)]) hC vl_M_108 kM_timeOf_43 h1.go rfl (Nat.le_of_ble_eq_true rfl) ⟨Nat.le_refl _, by show 8 + (5 + 11) + (30 * d + 60) ≤ 30 * (d + 1) + 60; omega⟩ ⟨Nat.le_refl _, Nat.le_refl _⟩ ?_
        refine sg_iald kM_timeOf_46 h1.gT (by omega) (by omega) ?_
        refine sg_goto 51 kM_timeOf_47 (by decide) ?_
        refine sg_iret kM_timeOf_51 rfl rfl (hq z1 _ hM (u1.fr ⟨by omega, by omega⟩) (fun e _ hv => ?_)) (Nat.le_refl _) (Nat.le_refl _)
        unfold ss_vs at hv
        rw [hj] at hv
        have hv : st.2.2.2.1[j]? = some e := hv
        exact (h2 j e hv).2.1
    · rw [hx] at hc
      have hn := Decidable.not_not.mp hc
      rw [if_pos hn] at hq
      refine sg_iconst (v := 2) kM_timeOf_21 (by decide) ?_
      refine sg_goto 26 kM_timeOf_22 (by decide) ?_
      refine sg_put fl_M_45 kM_timeOf_26 h1.go rfl rfl rfl (Nat.le_of_ble_eq_true rfl) (fun z1 u1 => ?_)
      have h1 := h1.obj u1
      refine sg_aload_n kM_timeOf_29 rfl ?_
      refine sg_get fl_M_45 kM_timeOf_30 h1.go rfl ?_
      refine sg_if_ne 50 kM_timeOf_33 (by decide) (fun he => ?_) (fun he => ?_)
      · refine sg_iconst (v := 0) kM_timeOf_50 (by decide) ?_
        refine sg_iret kM_timeOf_51 rfl rfl (hq z1 _ ⟨_, _, _, _, _, _, _, _, _, _, _, _, h1, h2, h3⟩ (u1.fr ⟨by omega, by omega⟩) (fun e _ hv => ?_)) (Nat.le_refl _) (Nat.le_refl _)
        unfold ss_vs at hv
        rw [hn] at hv
        cases hv
      · exact absurd he (by decide)
  · rw [ss_b0] at hb
    have hb := of_decide_eq_false hb
    rw [if_neg hb] at hq
    refine sg_iconst (v := 1) kM_timeOf_8 (by decide) ?_
    refine sg_goto 26 kM_timeOf_9 (by decide) ?_
    refine sg_put fl_M_45 kM_timeOf_26 h1.go rfl rfl rfl (Nat.le_of_ble_eq_true rfl) (fun z1 u1 => ?_)
    have h1 := h1.obj u1
    refine sg_aload_n kM_timeOf_29 rfl ?_
    refine sg_get fl_M_45 kM_timeOf_30 h1.go rfl ?_
    refine sg_if_ne 50 kM_timeOf_33 (by decide) (fun he => ?_) (fun he => ?_)
    · refine sg_iconst (v := 0) kM_timeOf_50 (by decide) ?_
      exact sg_iret kM_timeOf_51 rfl rfl (hq z1 _ ⟨_, _, _, _, _, _, _, _, _, _, _, _, h1, h2, h3⟩ (u1.fr ⟨by omega, by omega⟩) (fun e hk _ => absurd hk hb)) (Nat.le_refl _) (Nat.le_refl _)
    · exact absurd he (by decide)
set_option maxRecDepth 100000 in
theorem cM_valueOf (hst : l.stackTraces = false) (hsm : ss_sm st) (h : ss_MP V z a st th va) (key kk : Int32) (hq : ∀ z' w, ss_MP V z' a st (nI (cd_valueOf st key kk)) va → ss_fr (ss_mc a) z z' → (∀ e, ss_key key → ss_vs st key kk = some e → e.2.2.2 = false → w = e.2.2.1) → Qr (some (.long w)) z') : ss_C V l (d + 1) mM_valueOf 0 0 [.ref a, .int key, .int kk] z Qr Qx := by
  have hC := cM_counted (d := d) hst hsm h key kk
  obtain ⟨fo, fK, fT, fW, fE, fY, fN, fS, fC, fA, fB, fD, h1, h2, h3⟩ := h
  have hlen := hsm.2.1
  refine ss_C.of hst rfl (by decide) (Nat.le_of_ble_eq_true rfl) ?_
  unfold cd_valueOf at hq
  have hx := ss_ix_nn (o := ss_nt (ss_hit (ss_pe key) st.2.2.2.1) kk st.2.2.2.1.length 0) (fun j hj => by
    have h1 := ss_nt_lt hj
    omega)
  refine sg_aload_n kM_valueOf_0 rfl ?_
  refine sg_iload_n kM_valueOf_1 rfl ?_
  refine sg_fS (As := [.int key]) (rest := [.ref a]) (cM_isKey (d := d) hst key) sl_M_53 kM_valueOf_2 rfl (Nat.le_of_ble_eq_true rfl) ⟨Nat.le_refl _, by show 8 + (1 + 11) + (30 * d + 60) ≤ 30 * (d + 1) + 60; omega⟩ ⟨Nat.le_refl _, Nat.le_refl _⟩ ?_
  refine sg_if_ne 12 kM_valueOf_5 (by decide) (fun hb => ?_) (fun hb => ?_)
  · rw [ss_b1] at hb
    have hb := of_decide_eq_true hb
    rw [if_pos hb] at hq
    refine sg_aload_n kM_valueOf_12 rfl ?_
    refine sg_iload_n kM_valueOf_13 rfl ?_
    refine sg_iload_n kM_valueOf_14 rfl ?_
    refine sg_fV (As := [.int key, .int kk]) (rest := [.ref a]) hC vl_M_108 kM_valueOf_15 h1.go rfl (Nat.le_of_ble_eq_true rfl) ⟨Nat.le_refl _, by show 8 + (5 + 11) + (30 * d + 60) ≤ 30 * (d + 1) + 60; omega⟩ ⟨Nat.le_refl _, Nat.le_refl _⟩ ?_
    refine sg_if_ge 25 kM_valueOf_18 (by decide) (fun hc => ?_) (fun hc => ?_)
    · rw [hx] at hc
      obtain ⟨j, hj⟩ := Option.ne_none_iff_exists'.mp hc
      have hjl := ss_nt_lt hj
      have hg := List.getElem?_eq_getElem hjl
      have hv : ss_vs st key kk = some st.2.2.2.1[j] := by
        unfold ss_vs
        rw [hj]
        exact hg
      rw [hv] at hq
      dsimp only at hq
      refine sg_iconst (v := 0) kM_valueOf_25 (by decide) ?_
      refine sg_put fl_M_45 kM_valueOf_26 h1.go rfl rfl rfl (Nat.le_of_ble_eq_true rfl) (fun z1 u1 => ?_)
      have h1 := h1.obj u1
      have hM : ss_MP V z1 a st 0 va := ⟨_, _, _, _, _, _, _, _, _, _, _, _, h1, h2, h3⟩
      have hC := cM_counted (d := d) hst hsm hM key kk
      rw [hj] at hC
      refine sg_aload_n kM_valueOf_29 rfl ?_
      refine sg_get fl_M_45 kM_valueOf_30 h1.go rfl ?_
      refine sg_if_eq 38 kM_valueOf_33 (by decide) (fun he => ?_) (fun he => ?_)
      · refine sg_aload_n kM_valueOf_38 rfl ?_
        refine sg_iload_n kM_valueOf_39 rfl ?_
        refine sg_iload_n kM_valueOf_40 rfl ?_
        refine sg_fV (As := [.int key, .int kk]) (rest := []) hC vl_M_108 kM_valueOf_41 h1.go rfl (Nat.le_of_ble_eq_true rfl) ⟨Nat.le_refl _, by show 8 + (5 + 11) + (30 * d + 60) ≤ 30 * (d + 1) + 60; omega⟩ ⟨Nat.le_refl _, Nat.le_refl _⟩ ?_
        refine sg_istore_n kM_valueOf_44 (by decide) ?_
        refine sg_aload_n kM_valueOf_45 rfl ?_
        refine sg_aload_n kM_valueOf_46 rfl ?_
        refine sg_get fl_M_20 kM_valueOf_47 h1.go rfl ?_
        refine sg_iload_n kM_valueOf_50 rfl ?_
        refine sg_zald kM_valueOf_51 h1.gE (by omega) (by omega) ?_
        rw [(h2 j _ hg).2.2.2]
        refine sg_if_eq 59 kM_valueOf_52 (by decide) (fun hf => ?_) (fun hf => ?_)
        · rw [ss_b0] at hf
          rw [if_neg (by rw [hf]; decide)] at hq
          refine sg_iconst (v := 0) kM_valueOf_59 (by decide) ?_
          refine sg_put fl_M_45 kM_valueOf_60 h1.go rfl rfl rfl (Nat.le_of_ble_eq_true rfl) (fun z2 u2 => ?_)
          have h1 := h1.obj u2
          refine sg_aload_n kM_valueOf_63 rfl ?_
          refine sg_get fl_M_45 kM_valueOf_64 h1.go rfl ?_
          refine sg_if_ne 79 kM_valueOf_67 (by decide) (fun hd9 => ?_) (fun hd9 => ?_)
          · exact absurd rfl hd9
          · refine sg_aload_n kM_valueOf_70 rfl ?_
            refine sg_get fl_M_16 kM_valueOf_71 h1.go rfl ?_
            refine sg_iload_n kM_valueOf_74 rfl ?_
            refine sg_lald kM_valueOf_75 h1.gW (by omega) (by omega) ?_
            refine sg_goto 80 kM_valueOf_76 (by decide) ?_
            refine sg_lret kM_valueOf_80 rfl (hq z2 _ ⟨_, _, _, _, _, _, _, _, _, _, _, _, h1, h2, h3⟩ ((u1.fr ⟨by omega, by omega⟩ : ss_fr (ss_mc a) z z1).tr (u2.fr ⟨by omega, by omega⟩)) (fun e _ hv _ => ?_)) (Nat.le_refl _) (Nat.le_refl _)
            cases hv
            exact (h2 j _ hg).2.2.1
        · rw [ss_b1] at hf
          rw [if_pos hf] at hq
          refine sg_iconst (v := 2) kM_valueOf_55 (by decide) ?_
          refine sg_goto 60 kM_valueOf_56 (by decide) ?_
          refine sg_put fl_M_45 kM_valueOf_60 h1.go rfl rfl rfl (Nat.le_of_ble_eq_true rfl) (fun z2 u2 => ?_)
          have h1 := h1.obj u2
          refine sg_aload_n kM_valueOf_63 rfl ?_
          refine sg_get fl_M_45 kM_valueOf_64 h1.go rfl ?_
          refine sg_if_ne 79 kM_valueOf_67 (by decide) (fun hd9 => ?_) (fun hd9 => ?_)
          · refine sg_lconst (v := 0) kM_valueOf_79 (by decide) ?_
            refine sg_lret kM_valueOf_80 rfl (hq z2 _ ⟨_, _, _, _, _, _, _, _, _, _, _, _, h1, h2, h3⟩ ((u1.fr ⟨by omega, by omega⟩ : ss_fr (ss_mc a) z z1).tr (u2.fr ⟨by omega, by omega⟩)) (fun e _ hv he => ?_)) (Nat.le_refl _) (Nat.le_refl _)
            cases hv
            rw [hf] at he
            cases he
          · exact absurd hd9 (by decide)
      · exact absurd rfl he
    · rw [hx] at hc
      have hn := Decidable.not_not.mp hc
      have hv : ss_vs st key kk = none := by
        unfold ss_vs
        rw [hn]
        rfl
      rw [hv] at hq
      refine sg_iconst (v := 2) kM_valueOf_21 (by decide) ?_
      refine sg_goto 26 kM_valueOf_22 (by decide) ?_
      refine sg_put fl_M_45 kM_valueOf_26 h1.go rfl rfl rfl (Nat.le_of_ble_eq_true rfl) (fun z1 u1 => ?_)
      have h1 := h1.obj u1
      refine sg_aload_n kM_valueOf_29 rfl ?_
      refine sg_get fl_M_45 kM_valueOf_30 h1.go rfl ?_
      refine sg_if_eq 38 kM_valueOf_33 (by decide) (fun he => ?_) (fun he => ?_)
      · exact absurd he (by decide)
      · refine sg_lconst (v := 0) kM_valueOf_36 (by decide) ?_
        exact sg_lret kM_valueOf_37 rfl (hq z1 _ ⟨_, _, _, _, _, _, _, _, _, _, _, _, h1, h2, h3⟩ (u1.fr ⟨by omega, by omega⟩) (fun e _ hv _ => by cases hv)) (Nat.le_refl _) (Nat.le_refl _)
  · rw [ss_b0] at hb
    have hb := of_decide_eq_false hb
    rw [if_neg hb] at hq
    refine sg_iconst (v := 1) kM_valueOf_8 (by decide) ?_
    refine sg_goto 26 kM_valueOf_9 (by decide) ?_
    refine sg_put fl_M_45 kM_valueOf_26 h1.go rfl rfl rfl (Nat.le_of_ble_eq_true rfl) (fun z1 u1 => ?_)
    have h1 := h1.obj u1
    refine sg_aload_n kM_valueOf_29 rfl ?_
    refine sg_get fl_M_45 kM_valueOf_30 h1.go rfl ?_
    refine sg_if_eq 38 kM_valueOf_33 (by decide) (fun he => ?_) (fun he => ?_)
    · exact absurd he (by decide)
    · refine sg_lconst (v := 0) kM_valueOf_36 (by decide) ?_
      exact sg_lret kM_valueOf_37 rfl (hq z1 _ ⟨_, _, _, _, _, _, _, _, _, _, _, _, h1, h2, h3⟩ (u1.fr ⟨by omega, by omega⟩) (fun e hk _ _ => absurd hk hb)) (Nat.le_refl _) (Nat.le_refl _)
end SSQ
