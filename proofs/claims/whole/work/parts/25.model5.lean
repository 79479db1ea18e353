/-! The reference: write, erase, commit, vacuum. -/
section SSAA
variable {V : ss_V} {l : Launch} {z : ss_Z} {d a : Nat} {st : ss_St} {th : Int32} {va : Int64} {Qr : Option Value → ss_Z → Prop} {Qx : String → ss_Z → Prop}
set_option maxRecDepth 100000 in
theorem cM_add (hst : l.stackTraces = false) (h : ss_MP V z a st th va) {i : Nat} (hi : i < 6) {x : ss_Tx} (ho : st.2.2.2.2 i = some x) (hl12 : x.2.2.length < 12) (key : Int32) (v : Int64) (er : Bool) (hq : ∀ z', ss_MP V z' a (ss_stx st i (some (x.1, x.2.1, x.2.2 ++ [(key, v, er)]))) th va → ss_fr (ss_mc a) z z' → Qr none z') : ss_C V l d mM_add 0 0 [.ref a, .int (nI i), .int key, .long v, .int (ss_b er)] z Qr Qx := by
  obtain ⟨fo, fK, fT, fW, fE, fY, fN, fS, fC, fA, fB, fD, h1, h2, h3⟩ := h
  have hm := h3 i hi
  rw [ho] at hm
  obtain ⟨m1, m2, m3, m4, m5⟩ := hm
  refine ss_C.of hst rfl (by decide) (Nat.le_of_ble_eq_true rfl) ?_
  refine sg_bipush (v := 12) kM_add_0 (by decide) ?_
  refine sg_iload_n kM_add_2 rfl ?_
  refine sg_imul kM_add_3 ?_
  refine sg_i (pk_mul 12 i) ?_
  refine sg_aload_n kM_add_4 rfl ?_
  refine sg_get fl_M_33 kM_add_5 h1.go rfl ?_
  refine sg_iload_n kM_add_8 rfl ?_
  refine sg_iald kM_add_9 h1.gC (by omega) (by omega) ?_
  rw [m3]
  refine sg_iadd kM_add_10 ?_
  refine sg_i (nI_add _ _) ?_
  refine sg_istore kM_add_11 (by decide) ?_
  refine sg_aload_n kM_add_13 rfl ?_
  refine sg_get fl_M_36 kM_add_14 h1.go rfl ?_
  refine sg_iload kM_add_17 rfl ?_
  refine sg_iload_n kM_add_19 rfl ?_
  refine sg_iast kM_add_20 h1.gA (by omega) (by omega) (fun z1 u1 => ?_)
  have h1 := h1.upA u1
  refine sg_aload_n kM_add_21 rfl ?_
  refine sg_get fl_M_39 kM_add_22 h1.go rfl ?_
  refine sg_iload kM_add_25 rfl ?_
  refine sg_lload_n kM_add_27 rfl ?_
  refine sg_last kM_add_28 h1.gB (by omega) (by omega) (fun z2 u2 => ?_)
  have h1 := h1.upB u2
  refine sg_aload_n kM_add_29 rfl ?_
  refine sg_get fl_M_42 kM_add_30 h1.go rfl ?_
  refine sg_iload kM_add_33 rfl ?_
  refine sg_iload kM_add_35 rfl ?_
  refine sg_zast kM_add_37 h1.gD (by omega) (by omega) (ss_bn er) (fun z3 u3 => ?_)
  have h1 := h1.upD u3
  refine sg_aload_n kM_add_38 rfl ?_
  refine sg_get fl_M_33 kM_add_39 h1.go rfl ?_
  refine sg_iload_n kM_add_42 rfl ?_
  refine sg_dup2 kM_add_43 rfl rfl ?_
  refine sg_iald kM_add_44 h1.gC (by omega) (by omega) ?_
  refine sg_iconst (v := 1) kM_add_45 (by decide) ?_
  rw [m3]
  refine sg_iadd kM_add_46 ?_
  refine sg_i (nI_1 _) ?_
  refine sg_iast kM_add_47 h1.gC (by omega) (by omega) (fun z4 u4 => ?_)
  have h1 := h1.upC u4
  refine sg_vret kM_add_48 rfl (hq z4 ⟨_, _, _, _, _, _, _, _, _, _, _, _, h1, h2, fun q hq9 => ?_⟩ ((((u1.fr ⟨by omega, by omega⟩ : ss_fr (ss_mc a) z z1).tr (u2.fr ⟨by omega, by omega⟩)).tr (u3.fr ⟨by omega, by omega⟩)).tr (u4.fr ⟨by omega, by omega⟩))) (Nat.le_refl _) (Nat.le_refl _)
  by_cases hji : q = i
  · subst hji
    show ss_ms (va_up st.2.2.2.2 q _ q) q _ _ _ _ _ _
    rw [va_up_self]
    have hlen : (x.2.2 ++ [(key, v, er)]).length = x.2.2.length + 1 := by
      rw [List.length_append]
      rfl
    refine ⟨m1, m2, ?_, ?_, fun p w hp => ?_⟩
    · show upd fC q (nI (x.2.2.length + 1)) q = nI (x.2.2 ++ [(key, v, er)]).length
      rw [hlen]
      exact pk_us
    · show (x.2.2 ++ [(key, v, er)]).length ≤ 12
      omega
    · have hp : (x.2.2 ++ [(key, v, er)])[p]? = some w := hp
      by_cases hpl : p < x.2.2.length
      · rw [List.getElem?_append_left hpl] at hp
        rw [pk_un (by omega), pk_uLn (by omega), pk_un (by omega)]
        exact m5 p w hp
      · have hp1 := (List.getElem?_eq_some_iff.mp hp).1
        have hpe : p = x.2.2.length := by omega
        subst hpe
        rw [List.getElem?_append_right (Nat.le_refl _), Nat.sub_self] at hp
        cases hp
        rw [pk_us, pk_uLs, pk_us]
        exact ⟨rfl, rfl, rfl⟩
  · show ss_ms (va_up st.2.2.2.2 i _ q) q _ _ _ _ _ _
    rw [va_up_ne _ _ hji]
    exact (h3 q hq9).congr rfl rfl (pk_un hji) (fun p hp => pk_un (by omega)) (fun p hp => pk_uLn (by omega)) (fun p hp => pk_un (by omega))
set_option maxRecDepth 100000 in
theorem cM_write (hst : l.stackTraces = false) (hsm : ss_sm st) (h : ss_MP V z a st th va) (t key : Int32) (v : Int64) (hq : ∀ z', ss_MP V z' a (ss_af (cd_write st t key) (nx_write st t key v false) st) (nI (cd_write st t key)) va → ss_fr (ss_mc a) z z' → Qr none z') : ss_C V l (d + 2) mM_write 0 0 [.ref a, .int t, .int key, .long v] z Qr Qx := by
  have hW := cM_wrong (d := d) hst hsm h t key
  obtain ⟨fo, fK, fT, fW, fE, fY, fN, fS, fC, fA, fB, fD, h1, h2, h3⟩ := h
  refine ss_C.of hst rfl (by decide) (Nat.le_of_ble_eq_true rfl) ?_
  unfold cd_write nx_write at hq
  refine sg_aload_n kM_write_0 rfl ?_
  refine sg_aload_n kM_write_1 rfl ?_
  refine sg_iload_n kM_write_2 rfl ?_
  refine sg_iload_n kM_write_3 rfl ?_
  refine sg_fV (As := [.int t, .int key]) (rest := [.ref a]) hW vl_M_88 kM_write_4 h1.go rfl (Nat.le_of_ble_eq_true rfl) ⟨Nat.le_refl _, by show 8 + (3 + 11) + (30 * (d + 1) + 60) ≤ 30 * (d + 2) + 60; omega⟩ ⟨Nat.le_refl _, Nat.le_refl _⟩ ?_
  cases hlt : ss_lt st t with
  | none =>
    have hw : ss_wr st t key = 1 := if_pos hlt
    rw [hw]
    rw [ss_lx_none hlt] at hq
    refine sg_put fl_M_45 kM_write_7 h1.go rfl rfl rfl (Nat.le_of_ble_eq_true rfl) (fun z1 u1 => ?_)
    have h1 := h1.obj u1
    refine sg_aload_n kM_write_10 rfl ?_
    refine sg_get fl_M_45 kM_write_11 h1.go rfl ?_
    refine sg_if_eq 18 kM_write_14 (by decide) (fun hb => ?_) (fun hb => ?_)
    · exact absurd hb (by decide)
    · exact sg_vret kM_write_17 rfl (hq z1 ⟨_, _, _, _, _, _, _, _, _, _, _, _, h1, h2, h3⟩ (u1.fr ⟨by omega, by omega⟩)) (Nat.le_refl _) (Nat.le_refl _)
  | some i =>
    obtain ⟨hi6, x, hx1, hx2⟩ := ss_lx_some hlt
    have hw := ss_wr_some (key := key) hlt
    rw [hx2] at hq
    dsimp only at hq
    have hm := h3 i hi6
    rw [hx1] at hm
    obtain ⟨m1, m2, m3, m4, m5⟩ := hm
    by_cases hk : ss_key key
    · rw [if_pos hk] at hq
      rw [hw, if_pos hk]
      refine sg_put fl_M_45 kM_write_7 h1.go rfl rfl rfl (Nat.le_of_ble_eq_true rfl) (fun z1 u1 => ?_)
      have h1 := h1.obj u1
      have hM : ss_MP V z1 a st 0 va := ⟨_, _, _, _, _, _, _, _, _, _, _, _, h1, h2, h3⟩
      have hP := cM_place (d := d + 1) hst hsm hM t
      rw [hlt] at hP
      refine sg_aload_n kM_write_10 rfl ?_
      refine sg_get fl_M_45 kM_write_11 h1.go rfl ?_
      refine sg_if_eq 18 kM_write_14 (by decide) (fun hb => ?_) (fun hb => ?_)
      · refine sg_aload_n kM_write_18 rfl ?_
        refine sg_aload_n kM_write_19 rfl ?_
        refine sg_get fl_M_33 kM_write_20 h1.go rfl ?_
        refine sg_aload_n kM_write_23 rfl ?_
        refine sg_iload_n kM_write_24 rfl ?_
        refine sg_fV (As := [.int t]) (rest := [.ref (a + 8), .ref a]) hP vl_M_49 kM_write_25 h1.go rfl (Nat.le_of_ble_eq_true rfl) ⟨Nat.le_refl _, by show 8 + (3 + 11) + (30 * (d + 1) + 60) ≤ 30 * (d + 2) + 60; omega⟩ ⟨Nat.le_refl _, Nat.le_refl _⟩ ?_
        refine sg_iald kM_write_28 h1.gC (by omega) (by omega) ?_
        rw [m3]
        refine sg_bipush (v := 12) kM_write_29 (by decide) ?_
        refine sg_icmp_ne 38 kM_write_31 (by decide) (fun hc => ?_) (fun hc => ?_)
        · have hlt12 : x.2.2.length < 12 := by
            have : ¬ x.2.2.length = 12 := fun q => hc (by rw [q]; rfl)
            omega
          rw [if_pos hlt12] at hq
          refine sg_iconst (v := 0) kM_write_38 (by decide) ?_
          refine sg_put fl_M_45 kM_write_39 h1.go rfl rfl rfl (Nat.le_of_ble_eq_true rfl) (fun z2 u2 => ?_)
          have h1 := h1.obj u2
          have hM : ss_MP V z2 a st 0 va := ⟨_, _, _, _, _, _, _, _, _, _, _, _, h1, h2, h3⟩
          have hP := cM_place (d := d + 1) hst hsm hM t
          rw [hlt] at hP
          refine sg_aload_n kM_write_42 rfl ?_
          refine sg_get fl_M_45 kM_write_43 h1.go rfl ?_
          refine sg_if_ne 61 kM_write_46 (by decide) (fun he => ?_) (fun he => ?_)
          · exact absurd rfl he
          · refine sg_aload_n kM_write_49 rfl ?_
            refine sg_aload_n kM_write_50 rfl ?_
            refine sg_iload_n kM_write_51 rfl ?_
            refine sg_fV (As := [.int t]) (rest := [.ref a]) hP vl_M_49 kM_write_52 h1.go rfl (Nat.le_of_ble_eq_true rfl) ⟨Nat.le_refl _, by show 8 + (3 + 11) + (30 * (d + 1) + 60) ≤ 30 * (d + 2) + 60; omega⟩ ⟨Nat.le_refl _, Nat.le_refl _⟩ ?_
            refine sg_iload_n kM_write_55 rfl ?_
            refine sg_lload_n kM_write_56 rfl ?_
            refine sg_iconst (v := 0) kM_write_57 (by decide) ?_
            refine sg_callV (As := [.int (nI i), .int key, .long v, .int (ss_b false)]) (rest := []) (cM_add (d := d + 1) hst hM hi6 hx1 hlt12 key v false (Qr := fun w z' => w = none ∧ ss_MP V z' a (ss_stx st i (some (x.1, x.2.1, x.2.2 ++ [(key, v, false)]))) 0 va ∧ ss_fr (ss_mc a) z2 z') (Qx := fun _ _ => False) (fun z' q1 q2 => ⟨rfl, q1, q2⟩)) vl_M_95 kM_write_58 h1.go rfl (Nat.le_of_ble_eq_true rfl) ⟨Nat.le_refl _, by show 8 + (7 + 11) + (30 * (d + 1) + 60) ≤ 30 * (d + 2) + 60; omega⟩ ⟨Nat.le_refl _, Nat.le_refl _⟩ (fun _ _ q => q.elim) (fun w z3 hq2 => ?_)
            obtain ⟨rfl, q1, q2⟩ := hq2
            exact sg_vret kM_write_61 rfl (hq z3 q1 (((u1.fr ⟨by omega, by omega⟩ : ss_fr (ss_mc a) z z1).tr (u2.fr ⟨by omega, by omega⟩)).tr q2)) (Nat.le_refl _) (Nat.le_refl _)
        · have hlt12 : ¬ x.2.2.length < 12 := by
            have : x.2.2.length = 12 := (nI_eq (by omega) (by decide)).mp (show nI _ = nI 12 from hc)
            omega
          rw [if_neg hlt12] at hq
          refine sg_iconst (v := 3) kM_write_34 (by decide) ?_
          refine sg_goto 39 kM_write_35 (by decide) ?_
          refine sg_put fl_M_45 kM_write_39 h1.go rfl rfl rfl (Nat.le_of_ble_eq_true rfl) (fun z2 u2 => ?_)
          have h1 := h1.obj u2
          refine sg_aload_n kM_write_42 rfl ?_
          refine sg_get fl_M_45 kM_write_43 h1.go rfl ?_
          refine sg_if_ne 61 kM_write_46 (by decide) (fun he => ?_) (fun he => ?_)
          · exact sg_vret kM_write_61 rfl (hq z2 ⟨_, _, _, _, _, _, _, _, _, _, _, _, h1, h2, h3⟩ ((u1.fr ⟨by omega, by omega⟩ : ss_fr (ss_mc a) z z1).tr (u2.fr ⟨by omega, by omega⟩))) (Nat.le_refl _) (Nat.le_refl _)
          · exact absurd he (by decide)
      · exact absurd rfl hb
    · rw [if_neg hk] at hq
      rw [hw, if_neg hk]
      refine sg_put fl_M_45 kM_write_7 h1.go rfl rfl rfl (Nat.le_of_ble_eq_true rfl) (fun z1 u1 => ?_)
      have h1 := h1.obj u1
      refine sg_aload_n kM_write_10 rfl ?_
      refine sg_get fl_M_45 kM_write_11 h1.go rfl ?_
      refine sg_if_eq 18 kM_write_14 (by decide) (fun hb => ?_) (fun hb => ?_)
      · exact absurd hb (by decide)
      · exact sg_vret kM_write_17 rfl (hq z1 ⟨_, _, _, _, _, _, _, _, _, _, _, _, h1, h2, h3⟩ (u1.fr ⟨by omega, by omega⟩)) (Nat.le_refl _) (Nat.le_refl _)
set_option maxRecDepth 100000 in
theorem cM_erase (hst : l.stackTraces = false) (hsm : ss_sm st) (h : ss_MP V z a st th va) (t key : Int32) (hq : ∀ z' va', ss_MP V z' a (ss_af (cd_erase st t key) (nx_write st t key 0 true) st) (nI (cd_erase st t key)) va' → ss_fr (ss_mc a) z z' → Qr none z') : ss_C V l (d + 2) mM_erase 0 0 [.ref a, .int t, .int key] z Qr Qx := by
  have hW := cM_wrong (d := d) hst hsm h t key
  obtain ⟨fo, fK, fT, fW, fE, fY, fN, fS, fC, fA, fB, fD, h1, h2, h3⟩ := h
  refine ss_C.of hst rfl (by decide) (Nat.le_of_ble_eq_true rfl) ?_
  unfold cd_erase nx_write at hq
  refine sg_aload_n kM_erase_0 rfl ?_
  refine sg_aload_n kM_erase_1 rfl ?_
  refine sg_iload_n kM_erase_2 rfl ?_
  refine sg_iload_n kM_erase_3 rfl ?_
  refine sg_fV (As := [.int t, .int key]) (rest := [.ref a]) hW vl_M_88 kM_erase_4 h1.go rfl (Nat.le_of_ble_eq_true rfl) ⟨Nat.le_refl _, by show 8 + (3 + 11) + (30 * (d + 1) + 60) ≤ 30 * (d + 2) + 60; omega⟩ ⟨Nat.le_refl _, Nat.le_refl _⟩ ?_
  cases hlt : ss_lt st t with
  | none =>
    have hw : ss_wr st t key = 1 := if_pos hlt
    rw [hw]
    rw [ss_lx_none hlt] at hq
    refine sg_put fl_M_45 kM_erase_7 h1.go rfl rfl rfl (Nat.le_of_ble_eq_true rfl) (fun z1 u1 => ?_)
    have h1 := h1.obj u1
    refine sg_aload_n kM_erase_10 rfl ?_
    refine sg_get fl_M_45 kM_erase_11 h1.go rfl ?_
    refine sg_if_eq 18 kM_erase_14 (by decide) (fun hb => ?_) (fun hb => ?_)
    · exact absurd hb (by decide)
    · exact sg_vret kM_erase_17 rfl (hq z1 _ ⟨_, _, _, _, _, _, _, _, _, _, _, _, h1, h2, h3⟩ (u1.fr ⟨by omega, by omega⟩)) (Nat.le_refl _) (Nat.le_refl _)
  | some i =>
    obtain ⟨hi6, x, hx1, hx2⟩ := ss_lx_some hlt
    have hw := ss_wr_some (key := key) hlt
    rw [hx2] at hq
    dsimp only at hq
    by_cases hk : ss_key key
    · rw [if_pos hk] at hq
      rw [hw, if_pos hk]
      refine sg_put fl_M_45 kM_erase_7 h1.go rfl rfl rfl (Nat.le_of_ble_eq_true rfl) (fun z1 u1 => ?_)
      have h1 := h1.obj u1
      have hM : ss_MP V z1 a st 0 va := ⟨_, _, _, _, _, _, _, _, _, _, _, _, h1, h2, h3⟩
      have hP := cM_place (d := d + 1) hst hsm hM t
      rw [hlt] at hP
      refine sg_aload_n kM_erase_10 rfl ?_
      refine sg_get fl_M_45 kM_erase_11 h1.go rfl ?_
      refine sg_if_eq 18 kM_erase_14 (by decide) (fun hb => ?_) (fun hb => ?_)
      · refine sg_aload_n kM_erase_18 rfl ?_
        refine sg_aload_n kM_erase_19 rfl ?_
        refine sg_aload_n kM_erase_20 rfl ?_
        refine sg_iload_n kM_erase_21 rfl ?_
        refine sg_fV (As := [.int t]) (rest := [.ref a, .ref a]) hP vl_M_49 kM_erase_22 h1.go rfl (Nat.le_of_ble_eq_true rfl) ⟨Nat.le_refl _, by show 8 + (3 + 11) + (30 * (d + 1) + 60) ≤ 30 * (d + 2) + 60; omega⟩ ⟨Nat.le_refl _, Nat.le_refl _⟩ ?_
        refine sg_iload_n kM_erase_25 rfl ?_
        refine sg_callV (As := [.int (nI i), .int key]) (rest := [.ref a]) (cM_find (d := d) hst hsm hM hi6 hx1 key (Qr := fun w z' => w = some (.int (ss_b (decide (¬ ss_rd st.2.2.2.1 x key = none)))) ∧ ∃ va', ss_MP V z' a st 0 va' ∧ ss_fr (ss_mc a) z1 z') (Qx := fun _ _ => False) (fun z' va' q1 q2 q3 => ⟨rfl, va', q1, q2⟩)) vl_M_91 kM_erase_26 h1.go rfl (Nat.le_of_ble_eq_true rfl) ⟨Nat.le_refl _, by show 8 + (5 + 11) + (30 * (d + 1) + 60) ≤ 30 * (d + 2) + 60; omega⟩ ⟨Nat.le_refl _, Nat.le_refl _⟩ (fun _ _ q => q.elim) (fun w z2 hq2 => ?_)
        obtain ⟨rfl, va', hM, q2⟩ := hq2
        have hP := cM_place (d := d + 1) hst hsm hM t
        rw [hlt] at hP
        obtain ⟨fo, fK, fT, fW, fE, fY, fN, fS, fC, fA, fB, fD, h1, h2, h3⟩ := hM
        have hm := h3 i hi6
        rw [hx1] at hm
        obtain ⟨m1, m2, m3, m4, m5⟩ := hm
        have hF2 : ss_fr (ss_mc a) z z2 := (u1.fr ⟨by omega, by omega⟩ : ss_fr (ss_mc a) z z1).tr q2
        refine sg_if_ne 36 kM_erase_29 (by decide) (fun hc => ?_) (fun hc => ?_)
        · rw [ss_b1] at hc
          have hc := of_decide_eq_true hc
          rw [if_neg hc] at hq
          refine sg_aload_n kM_erase_36 rfl ?_
          refine sg_get fl_M_33 kM_erase_37 h1.go rfl ?_
          refine sg_aload_n kM_erase_40 rfl ?_
          refine sg_iload_n kM_erase_41 rfl ?_
          refine sg_fV (As := [.int t]) (rest := [.ref (a + 8), .ref a]) hP vl_M_49 kM_erase_42 h1.go rfl (Nat.le_of_ble_eq_true rfl) ⟨Nat.le_refl _, by show 8 + (3 + 11) + (30 * (d + 1) + 60) ≤ 30 * (d + 2) + 60; omega⟩ ⟨Nat.le_refl _, Nat.le_refl _⟩ ?_
          refine sg_iald kM_erase_45 h1.gC (by omega) (by omega) ?_
          rw [m3]
          refine sg_bipush (v := 12) kM_erase_46 (by decide) ?_
          refine sg_icmp_ne 55 kM_erase_48 (by decide) (fun he => ?_) (fun he => ?_)
          · have hlt12 : x.2.2.length < 12 := by
              have : ¬ x.2.2.length = 12 := fun q => he (by rw [q]; rfl)
              omega
            rw [if_pos hlt12] at hq
            refine sg_iconst (v := 0) kM_erase_55 (by decide) ?_
            refine sg_put fl_M_45 kM_erase_56 h1.go rfl rfl rfl (Nat.le_of_ble_eq_true rfl) (fun z3 u3 => ?_)
            have h1 := h1.obj u3
            have hM : ss_MP V z3 a st 0 va' := ⟨_, _, _, _, _, _, _, _, _, _, _, _, h1, h2, h3⟩
            have hP := cM_place (d := d + 1) hst hsm hM t
            rw [hlt] at hP
            refine sg_aload_n kM_erase_59 rfl ?_
            refine sg_get fl_M_45 kM_erase_60 h1.go rfl ?_
            refine sg_if_ne 78 kM_erase_63 (by decide) (fun hd9 => ?_) (fun hd9 => ?_)
            · exact absurd rfl hd9
            · refine sg_aload_n kM_erase_66 rfl ?_
              refine sg_aload_n kM_erase_67 rfl ?_
              refine sg_iload_n kM_erase_68 rfl ?_
              refine sg_fV (As := [.int t]) (rest := [.ref a]) hP vl_M_49 kM_erase_69 h1.go rfl (Nat.le_of_ble_eq_true rfl) ⟨Nat.le_refl _, by show 8 + (3 + 11) + (30 * (d + 1) + 60) ≤ 30 * (d + 2) + 60; omega⟩ ⟨Nat.le_refl _, Nat.le_refl _⟩ ?_
              refine sg_iload_n kM_erase_72 rfl ?_
              refine sg_lconst (v := 0) kM_erase_73 (by decide) ?_
              refine sg_iconst (v := 1) kM_erase_74 (by decide) ?_
              refine sg_callV (As := [.int (nI i), .int key, .long 0, .int (ss_b true)]) (rest := []) (cM_add (d := d + 1) hst hM hi6 hx1 hlt12 key 0 true (Qr := fun w z' => w = none ∧ ss_MP V z' a (ss_stx st i (some (x.1, x.2.1, x.2.2 ++ [(key, 0, true)]))) 0 va' ∧ ss_fr (ss_mc a) z3 z') (Qx := fun _ _ => False) (fun z' q1 q2 => ⟨rfl, q1, q2⟩)) vl_M_95 kM_erase_75 h1.go rfl (Nat.le_of_ble_eq_true rfl) ⟨Nat.le_refl _, by show 8 + (7 + 11) + (30 * (d + 1) + 60) ≤ 30 * (d + 2) + 60; omega⟩ ⟨Nat.le_refl _, Nat.le_refl _⟩ (fun _ _ q => q.elim) (fun w z4 hq2 => ?_)
              obtain ⟨rfl, q3, q4⟩ := hq2
              exact sg_vret kM_erase_78 rfl (hq z4 _ q3 ((hF2.tr (u3.fr ⟨by omega, by omega⟩)).tr q4)) (Nat.le_refl _) (Nat.le_refl _)
          · have hlt12 : ¬ x.2.2.length < 12 := by
              have : x.2.2.length = 12 := (nI_eq (by omega) (by decide)).mp (show nI _ = nI 12 from he)
              omega
            rw [if_neg hlt12] at hq
            refine sg_iconst (v := 4) kM_erase_51 (by decide) ?_
            refine sg_goto 56 kM_erase_52 (by decide) ?_
            refine sg_put fl_M_45 kM_erase_56 h1.go rfl rfl rfl (Nat.le_of_ble_eq_true rfl) (fun z3 u3 => ?_)
            have h1 := h1.obj u3
            refine sg_aload_n kM_erase_59 rfl ?_
            refine sg_get fl_M_45 kM_erase_60 h1.go rfl ?_
            refine sg_if_ne 78 kM_erase_63 (by decide) (fun hd9 => ?_) (fun hd9 => ?_)
            · exact sg_vret kM_erase_78 rfl (hq z3 _ ⟨_, _, _, _, _, _, _, _, _, _, _, _, h1, h2, h3⟩ (hF2.tr (u3.fr ⟨by omega, by omega⟩))) (Nat.le_refl _) (Nat.le_refl _)
            · exact absurd hd9 (by decide)
        · rw [ss_b0] at hc
          have hc := Decidable.not_not.mp (of_decide_eq_false hc)
          rw [if_pos hc] at hq
          refine sg_iconst (v := 3) kM_erase_32 (by decide) ?_
          refine sg_goto 56 kM_erase_33 (by decide) ?_
          refine sg_put fl_M_45 kM_erase_56 h1.go rfl rfl rfl (Nat.le_of_ble_eq_true rfl) (fun z3 u3 => ?_)
          have h1 := h1.obj u3
          refine sg_aload_n kM_erase_59 rfl ?_
          refine sg_get fl_M_45 kM_erase_60 h1.go rfl ?_
          refine sg_if_ne 78 kM_erase_63 (by decide) (fun hd9 => ?_) (fun hd9 => ?_)
          · exact sg_vret kM_erase_78 rfl (hq z3 _ ⟨_, _, _, _, _, _, _, _, _, _, _, _, h1, h2, h3⟩ (hF2.tr (u3.fr ⟨by omega, by omega⟩))) (Nat.le_refl _) (Nat.le_refl _)
          · exact absurd hd9 (by decide)
      · exact absurd rfl hb
    · rw [if_neg hk] at hq
      rw [hw, if_neg hk]
      refine sg_put fl_M_45 kM_erase_7 h1.go rfl rfl rfl (Nat.le_of_ble_eq_true rfl) (fun z1 u1 => ?_)
      have h1 := h1.obj u1
      refine sg_aload_n kM_erase_10 rfl ?_
      refine sg_get fl_M_45 kM_erase_11 h1.go rfl ?_
      refine sg_if_eq 18 kM_erase_14 (by decide) (fun hb => ?_) (fun hb => ?_)
      · exact absurd hb (by decide)
      · exact sg_vret kM_erase_17 rfl (hq z1 _ ⟨_, _, _, _, _, _, _, _, _, _, _, _, h1, h2, h3⟩ (u1.fr ⟨by omega, by omega⟩)) (Nat.le_refl _) (Nat.le_refl _)
end SSAA
