/-! The reference: find, read, next, write, erase. -/
section SSU
variable {V : ss_V} {l : Launch} {z : ss_Z} {d a : Nat} {st : ss_St} {th : Int32} {va : Int64} {Qr : Option Value → ss_Z → Prop} {Qx : String → ss_Z → Prop}
/-- found and value, out of the versions; then as the writes go by -/
def ss_f0 (S : List ss_Ent) (x : ss_Tx) (key : Int32) : Bool × Int64 := match ss_li (ss_pm key x.2.1) S with
  | none => (false, 0)
  | some j => match S[j]? with
    | none => (false, 0)
    | some e => (!e.2.2.2, e.2.2.1)
def ss_fj (S : List ss_Ent) (x : ss_Tx) (key : Int32) (j : Nat) : Bool × Int64 := match ss_last (ss_hit (ss_pk key) x.2.2) j with
  | none => ss_f0 S x key
  | some q => match x.2.2[q]? with
    | none => (false, 0)
    | some w => (!w.2.2, w.2.1)
theorem ss_pl_of {L : List ss_Ent} {key t : Int32} {j : Nat} {e : ss_Ent} (h : ss_li (ss_pm key t) L = some j) (he : L[j]? = some e) : ss_pl L key t = if e.2.2.2 = true then none else some j := by
  unfold ss_pl
  rw [h]
  show (L[j]?).bind _ = _
  rw [he]
  rfl
theorem ss_pl_no {L : List ss_Ent} {key t : Int32} (h : ss_li (ss_pm key t) L = none) : ss_pl L key t = none := by
  unfold ss_pl
  rw [h]
  rfl
theorem ss_rd_of {L : List ss_Ent} {key t : Int32} {f : Bool × Int64} (hn : ss_li (ss_pm key t) L = none → f = (false, 0)) (hs : ∀ j e, ss_li (ss_pm key t) L = some j → L[j]? = some e → f = (!e.2.2.2, e.2.2.1)) : (ss_pl L key t).bind (fun j => (L[j]?).map (fun e => e.2.2.1)) = if f.1 = true then some f.2 else none := by
  cases hl : ss_li (ss_pm key t) L with
  | none =>
    rw [ss_pl_no hl, hn hl]
    rfl
  | some j =>
    have he := List.getElem?_eq_getElem (ss_li_lt hl)
    rw [ss_pl_of hl he, hs j _ hl he]
    by_cases hb : (L[j]'(ss_li_lt hl)).2.2.2 = true
    · rw [if_pos hb]
      show none = if (!(L[j]'(ss_li_lt hl)).2.2.2) = true then _ else none
      rw [hb]
      rfl
    · rw [if_neg hb]
      show (L[j]?).map _ = _
      rw [he]
      have hb2 : (L[j]'(ss_li_lt hl)).2.2.2 = false := by simpa using hb
      show some _ = if (!(L[j]'(ss_li_lt hl)).2.2.2) = true then _ else none
      rw [hb2]
      rfl
theorem ss_fj_rd (S : List ss_Ent) (x : ss_Tx) (key : Int32) : ss_rd S x key = if (ss_fj S x key x.2.2.length).1 = true then some (ss_fj S x key x.2.2.length).2 else none := by
  have e0 : ss_last (ss_hit (ss_pk key) x.2.2) x.2.2.length = ss_li (ss_pk key) x.2.2 := rfl
  unfold ss_rd
  refine ss_rd_of (fun h => ?_) (fun j e h1 h2 => ?_)
  · unfold ss_rr at h
    unfold ss_fj
    rw [e0]
    cases hl : ss_li (ss_pk key) x.2.2 with
    | none =>
      rw [if_pos hl] at h
      show ss_f0 S x key = _
      unfold ss_f0
      rw [h]
    | some q =>
      rw [if_neg (by rw [hl]; exact fun w => by cases w), ss_es_li, hl] at h
      cases h
  · unfold ss_rr at h1 h2
    unfold ss_fj
    rw [e0]
    cases hl : ss_li (ss_pk key) x.2.2 with
    | none =>
      rw [if_pos hl] at h1 h2
      show ss_f0 S x key = _
      unfold ss_f0
      rw [h1]
      show (match S[j]? with
        | none => (false, 0)
        | some e => (!e.2.2.2, e.2.2.1)) = _
      rw [h2]
    | some q =>
      have hne : ¬ ss_li (ss_pk key) x.2.2 = none := by rw [hl]; exact fun w => by cases w
      rw [if_neg hne] at h1 h2
      rw [ss_es_li, hl] at h1
      cases h1
      rw [ss_es_at] at h2
      show (match x.2.2[j]? with
        | none => (false, 0)
        | some w => (!w.2.2, w.2.1)) = _
      cases hw : x.2.2[j]? with
      | none => rw [hw] at h2; cases h2
      | some w =>
        rw [hw] at h2
        cases h2
        rfl
theorem ss_fj_found (S : List ss_Ent) (x : ss_Tx) (key : Int32) : decide (¬ ss_rd S x key = none) = (ss_fj S x key x.2.2.length).1 := by
  rw [ss_fj_rd]
  cases (ss_fj S x key x.2.2.length).1 with
  | true => rfl
  | false => rfl
theorem ss_fj_value (S : List ss_Ent) (x : ss_Tx) (key : Int32) {v : Int64} (h : ss_rd S x key = some v) : (ss_fj S x key x.2.2.length).2 = v := by
  rw [ss_fj_rd] at h
  by_cases hb : (ss_fj S x key x.2.2.length).1 = true
  · rw [if_pos hb] at h
    cases h
    rfl
  · rw [if_neg hb] at h
    cases h
set_option maxRecDepth 100000 in
theorem cM_find (hst : l.stackTraces = false) (hsm : ss_sm st) (h : ss_MP V z a st th va) {i : Nat} (hi : i < 6) {x : ss_Tx} (ho : st.2.2.2.2 i = some x) (key : Int32) (hq : ∀ z' va', ss_MP V z' a st th va' → ss_fr (ss_mc a) z z' → (∀ v, ss_rd st.2.2.2.1 x key = some v → va' = v) → Qr (some (.int (ss_b (decide (¬ ss_rd st.2.2.2.1 x key = none))))) z') : ss_C V l (d + 1) mM_find 0 0 [.ref a, .int (nI i), .int key] z Qr Qx := by
  have hV := fun t => cM_version (d := d) hst hsm h key t
  obtain ⟨fo, fK, fT, fW, fE, fY, fN, fS, fC, fA, fB, fD, h1, h2, h3⟩ := h
  have hlen := hsm.2.1
  have hm := h3 i hi
  rw [ho] at hm
  obtain ⟨m1, m2, m3, m4, m5⟩ := hm
  refine ss_C.of hst rfl (by decide) (Nat.le_of_ble_eq_true rfl) ?_
  rw [ss_fj_found] at hq
  have hend : nI (12 * i) + nI x.2.2.length = nI (12 * i + x.2.2.length) := nI_add _ _
  have hmul : (12 : Int32) * nI i = nI (12 * i) := pk_mul 12 i
  have loop : ∀ m j z1, j + m = x.2.2.length → ss_fr (ss_mc a) z z1 → ss_mo V z1 a th st.1 st.2.1 (nI st.2.2.1) (nI st.2.2.2.1.length) (ss_b (ss_fj st.2.2.2.1 x key j).1) (ss_fj st.2.2.2.1 x key j).2 fK fT fW fE fY fN fS fC fA fB fD → ss_G V l mM_find (ss_rm (d + 1) 0 0) (ss_Q V Qr Qx 0 0) 58 [(4, .int (nI (12 * i + j))), (0, .ref a), (1, .int (nI i)), (2, .int key)] [] z1 0 0 := by
    intro m
    induction m with
    | zero =>
      intro j z1 hj hF h1
      have hj : j = x.2.2.length := by omega
      subst hj
      refine sg_iload kM_find_58 rfl ?_
      refine sg_bipush (v := 12) kM_find_60 (by decide) ?_
      refine sg_iload_n kM_find_62 rfl ?_
      refine sg_imul kM_find_63 ?_
      refine sg_i hmul ?_
      refine sg_aload_n kM_find_64 rfl ?_
      refine sg_get fl_M_33 kM_find_65 h1.go rfl ?_
      refine sg_iload_n kM_find_68 rfl ?_
      refine sg_iald kM_find_69 h1.gC (by omega) (by omega) ?_
      rw [m3]
      refine sg_iadd kM_find_70 ?_
      refine sg_i hend ?_
      refine sg_icmp_ge 121 kM_find_71 (by decide) (fun hb => ?_) (fun hb => ?_)
      · refine sg_aload_n kM_find_121 rfl ?_
        refine sg_get fl_M_80 kM_find_122 h1.go rfl ?_
        refine sg_iret kM_find_125 rfl ?_ (hq z1 _ ⟨_, _, _, _, _, _, _, _, _, _, _, _, h1, h2, h3⟩ hF (fun v hv => ss_fj_value _ _ _ hv)) (Nat.le_refl _) (Nat.le_refl _)
        cases (ss_fj st.2.2.2.1 x key x.2.2.length).1 <;> rfl
      · exact absurd (nI_le (Nat.le_refl _) (by omega)) hb
    | succ m ih =>
      intro j z1 hj hF h1
      have hj2 : j < x.2.2.length := by omega
      have hg := List.getElem?_eq_getElem hj2
      obtain ⟨k1, k2, k3⟩ := m5 j _ hg
      have hs : ss_last (ss_hit (ss_pk key) x.2.2) (j + 1) = if ss_hit (ss_pk key) x.2.2 j = true then some j else ss_last (ss_hit (ss_pk key) x.2.2) j := rfl
      rw [ss_hit_some hg] at hs
      refine sg_iload kM_find_58 rfl ?_
      refine sg_bipush (v := 12) kM_find_60 (by decide) ?_
      refine sg_iload_n kM_find_62 rfl ?_
      refine sg_imul kM_find_63 ?_
      refine sg_i hmul ?_
      refine sg_aload_n kM_find_64 rfl ?_
      refine sg_get fl_M_33 kM_find_65 h1.go rfl ?_
      refine sg_iload_n kM_find_68 rfl ?_
      refine sg_iald kM_find_69 h1.gC (by omega) (by omega) ?_
      rw [m3]
      refine sg_iadd kM_find_70 ?_
      refine sg_i hend ?_
      refine sg_icmp_ge 121 kM_find_71 (by decide) (fun hb => ?_) (fun hb => ?_)
      · exact absurd hb (nI_ge (by omega) (by omega))
      · refine sg_aload_n kM_find_74 rfl ?_
        refine sg_get fl_M_36 kM_find_75 h1.go rfl ?_
        refine sg_iload kM_find_78 rfl ?_
        refine sg_iald kM_find_80 h1.gA (by omega) (by omega) ?_
        refine sg_iload_n kM_find_81 rfl ?_
        rw [k1]
        refine sg_icmp_ne 115 kM_find_82 (by decide) (fun hc => ?_) (fun hc => ?_)
        · have hsame : ss_fj st.2.2.2.1 x key (j + 1) = ss_fj st.2.2.2.1 x key j := by
            unfold ss_fj
            rw [hs, if_neg (by unfold ss_pk; rw [decide_eq_false hc]; decide)]
          refine sg_iinc kM_find_115 rfl (ss_inc _) (by decide) ?_
          refine sg_goto 58 kM_find_118 (by decide) ?_
          refine sg_lw (ih (j + 1) z1 (by omega) hF ?_) ⟨rfl, rfl, rfl, rfl, trivial⟩
          rw [hsame]
          exact h1
        · have hnew : ss_fj st.2.2.2.1 x key (j + 1) = (!x.2.2[j].2.2, x.2.2[j].2.1) := by
            unfold ss_fj
            rw [hs, if_pos (by unfold ss_pk; rw [decide_eq_true hc])]
            dsimp only
            rw [hg]
          refine sg_aload_n kM_find_85 rfl ?_
          refine sg_aload_n kM_find_86 rfl ?_
          refine sg_get fl_M_42 kM_find_87 h1.go rfl ?_
          refine sg_iload kM_find_90 rfl ?_
          refine sg_zald kM_find_92 h1.gD (by omega) (by omega) ?_
          rw [k3]
          refine sg_if_ne 100 kM_find_93 (by decide) (fun he => ?_) (fun he => ?_)
          · rw [ss_b1] at he
            refine sg_iconst (v := 0) kM_find_100 (by decide) ?_
            refine sg_put fl_M_80 kM_find_101 h1.go rfl rfl rfl (Nat.le_of_ble_eq_true rfl) (fun z1 u1 => ?_)
            have h1 := h1.obj u1
            refine sg_aload_n kM_find_104 rfl ?_
            refine sg_aload_n kM_find_105 rfl ?_
            refine sg_get fl_M_39 kM_find_106 h1.go rfl ?_
            refine sg_iload kM_find_109 rfl ?_
            refine sg_lald kM_find_111 h1.gB (by omega) (by omega) ?_
            rw [k2]
            refine sg_put fl_M_84 kM_find_112 h1.go rfl rfl rfl (Nat.le_of_ble_eq_true rfl) (fun z2 u2 => ?_)
            have h1 := h1.obj u2
            refine sg_iinc kM_find_115 rfl (ss_inc _) (by decide) ?_
            refine sg_goto 58 kM_find_118 (by decide) ?_
            refine sg_lw (ih (j + 1) z2 (by omega) ((hF.tr (u1.fr ⟨by omega, by omega⟩)).tr (u2.fr ⟨by omega, by omega⟩)) ?_) ⟨rfl, rfl, rfl, rfl, trivial⟩
            rw [hnew, he]
            exact h1
          · rw [ss_b0] at he
            refine sg_iconst (v := 1) kM_find_96 (by decide) ?_
            refine sg_goto 101 kM_find_97 (by decide) ?_
            refine sg_put fl_M_80 kM_find_101 h1.go rfl rfl rfl (Nat.le_of_ble_eq_true rfl) (fun z1 u1 => ?_)
            have h1 := h1.obj u1
            refine sg_aload_n kM_find_104 rfl ?_
            refine sg_aload_n kM_find_105 rfl ?_
            refine sg_get fl_M_39 kM_find_106 h1.go rfl ?_
            refine sg_iload kM_find_109 rfl ?_
            refine sg_lald kM_find_111 h1.gB (by omega) (by omega) ?_
            rw [k2]
            refine sg_put fl_M_84 kM_find_112 h1.go rfl rfl rfl (Nat.le_of_ble_eq_true rfl) (fun z2 u2 => ?_)
            have h1 := h1.obj u2
            refine sg_iinc kM_find_115 rfl (ss_inc _) (by decide) ?_
            refine sg_goto 58 kM_find_118 (by decide) ?_
            refine sg_lw (ih (j + 1) z2 (by omega) ((hF.tr (u1.fr ⟨by omega, by omega⟩)).tr (u2.fr ⟨by omega, by omega⟩)) ?_) ⟨rfl, rfl, rfl, rfl, trivial⟩
            rw [hnew, he]
            exact h1
  have start : ∀ z1, ss_fr (ss_mc a) z z1 → ss_mo V z1 a th st.1 st.2.1 (nI st.2.2.1) (nI st.2.2.2.1.length) (ss_b (ss_f0 st.2.2.2.1 x key).1) (ss_f0 st.2.2.2.1 x key).2 fK fT fW fE fY fN fS fC fA fB fD → ∀ w, ss_G V l mM_find (ss_rm (d + 1) 0 0) (ss_Q V Qr Qx 0 0) 52 [(3, .int w), (0, .ref a), (1, .int (nI i)), (2, .int key)] [] z1 0 0 := by
    intro z1 hF h1 w
    refine sg_bipush (v := 12) kM_find_52 (by decide) ?_
    refine sg_iload_n kM_find_54 rfl ?_
    refine sg_imul kM_find_55 ?_
    refine sg_i hmul ?_
    refine sg_istore kM_find_56 (by decide) ?_
    exact sg_lw (loop x.2.2.length 0 z1 (by omega) hF h1) ⟨rfl, rfl, rfl, rfl, trivial⟩
  refine sg_aload_n kM_find_0 rfl ?_
  refine sg_iload_n kM_find_1 rfl ?_
  refine sg_aload_n kM_find_2 rfl ?_
  refine sg_get fl_M_30 kM_find_3 h1.go rfl ?_
  refine sg_iload_n kM_find_6 rfl ?_
  refine sg_iald kM_find_7 h1.gS (by omega) (by omega) ?_
  rw [m2]
  refine sg_fV (As := [.int key, .int x.2.1]) (rest := []) (hV x.2.1) vl_M_76 kM_find_8 h1.go rfl (Nat.le_of_ble_eq_true rfl) ⟨Nat.le_refl _, by show 8 + (5 + 11) + (30 * d + 60) ≤ 30 * (d + 1) + 60; omega⟩ ⟨Nat.le_refl _, Nat.le_refl _⟩ ?_
  unfold ss_f0 at start
  cases hs : ss_li (ss_pm key x.2.1) st.2.2.2.1 with
  | none =>
    rw [hs] at start
    refine sg_istore_n kM_find_11 (by decide) ?_
    refine sg_aload_n kM_find_12 rfl ?_
    refine sg_iload_n kM_find_13 rfl ?_
    refine sg_if_lt 30 kM_find_14 (by decide) (fun hb => ?_) (fun hb => ?_)
    · refine sg_iconst (v := 0) kM_find_30 (by decide) ?_
      refine sg_put fl_M_80 kM_find_31 h1.go rfl rfl rfl (Nat.le_of_ble_eq_true rfl) (fun z1 u1 => ?_)
      have h1 := h1.obj u1
      refine sg_aload_n kM_find_34 rfl ?_
      refine sg_iload_n kM_find_35 rfl ?_
      refine sg_if_lt 48 kM_find_36 (by decide) (fun hc => ?_) (fun hc => ?_)
      · refine sg_lconst (v := 0) kM_find_48 (by decide) ?_
        refine sg_put fl_M_84 kM_find_49 h1.go rfl rfl rfl (Nat.le_of_ble_eq_true rfl) (fun z2 u2 => ?_)
        have h1 := h1.obj u2
        exact sg_lw (start z2 ((u1.fr ⟨by omega, by omega⟩ : ss_fr (ss_mc a) z z1).tr (u2.fr ⟨by omega, by omega⟩)) h1 _) ⟨rfl, rfl, rfl, rfl, trivial⟩
      · exact absurd (by decide) hc
    · exact absurd (by decide) hb
  | some j =>
    have hj := ss_li_lt hs
    have hg := List.getElem?_eq_getElem hj
    obtain ⟨-, -, e3, e4⟩ := h2 j _ hg
    rw [hs] at start
    dsimp only at start
    rw [hg] at start
    dsimp only at start
    refine sg_istore_n kM_find_11 (by decide) ?_
    refine sg_aload_n kM_find_12 rfl ?_
    refine sg_iload_n kM_find_13 rfl ?_
    refine sg_if_lt 30 kM_find_14 (by decide) (fun hb => ?_) (fun hb => ?_)
    · exact absurd hb (nI_pos (by omega))
    · refine sg_aload_n kM_find_17 rfl ?_
      refine sg_get fl_M_20 kM_find_18 h1.go rfl ?_
      refine sg_iload_n kM_find_21 rfl ?_
      refine sg_zald kM_find_22 h1.gE (by omega) (by omega) ?_
      rw [e4]
      refine sg_if_ne 30 kM_find_23 (by decide) (fun hc => ?_) (fun hc => ?_)
      · rw [ss_b1] at hc
        rw [hc] at start
        refine sg_iconst (v := 0) kM_find_30 (by decide) ?_
        refine sg_put fl_M_80 kM_find_31 h1.go rfl rfl rfl (Nat.le_of_ble_eq_true rfl) (fun z1 u1 => ?_)
        have h1 := h1.obj u1
        refine sg_aload_n kM_find_34 rfl ?_
        refine sg_iload_n kM_find_35 rfl ?_
        refine sg_if_lt 48 kM_find_36 (by decide) (fun hd9 => ?_) (fun hd9 => ?_)
        · exact absurd hd9 (nI_pos (by omega))
        · refine sg_aload_n kM_find_39 rfl ?_
          refine sg_get fl_M_16 kM_find_40 h1.go rfl ?_
          refine sg_iload_n kM_find_43 rfl ?_
          refine sg_lald kM_find_44 h1.gW (by omega) (by omega) ?_
          rw [e3]
          refine sg_goto 49 kM_find_45 (by decide) ?_
          refine sg_put fl_M_84 kM_find_49 h1.go rfl rfl rfl (Nat.le_of_ble_eq_true rfl) (fun z2 u2 => ?_)
          have h1 := h1.obj u2
          exact sg_lw (start z2 ((u1.fr ⟨by omega, by omega⟩ : ss_fr (ss_mc a) z z1).tr (u2.fr ⟨by omega, by omega⟩)) h1 _) ⟨rfl, rfl, rfl, rfl, trivial⟩
      · rw [ss_b0] at hc
        rw [hc] at start
        refine sg_iconst (v := 1) kM_find_26 (by decide) ?_
        refine sg_goto 31 kM_find_27 (by decide) ?_
        refine sg_put fl_M_80 kM_find_31 h1.go rfl rfl rfl (Nat.le_of_ble_eq_true rfl) (fun z1 u1 => ?_)
        have h1 := h1.obj u1
        refine sg_aload_n kM_find_34 rfl ?_
        refine sg_iload_n kM_find_35 rfl ?_
        refine sg_if_lt 48 kM_find_36 (by decide) (fun hd9 => ?_) (fun hd9 => ?_)
        · exact absurd hd9 (nI_pos (by omega))
        · refine sg_aload_n kM_find_39 rfl ?_
          refine sg_get fl_M_16 kM_find_40 h1.go rfl ?_
          refine sg_iload_n kM_find_43 rfl ?_
          refine sg_lald kM_find_44 h1.gW (by omega) (by omega) ?_
          rw [e3]
          refine sg_goto 49 kM_find_45 (by decide) ?_
          refine sg_put fl_M_84 kM_find_49 h1.go rfl rfl rfl (Nat.le_of_ble_eq_true rfl) (fun z2 u2 => ?_)
          have h1 := h1.obj u2
          exact sg_lw (start z2 ((u1.fr ⟨by omega, by omega⟩ : ss_fr (ss_mc a) z z1).tr (u2.fr ⟨by omega, by omega⟩)) h1 _) ⟨rfl, rfl, rfl, rfl, trivial⟩
/-- how the four that name a key begin: thrown is set; a wrong call ends there -/
theorem ss_wr_some {t key : Int32} {i : Nat} (h : ss_lt st t = some i) : ss_wr st t key = if ss_key key then 0 else 2 := by
  unfold ss_wr
  rw [h, if_neg (by intro q; cases q)]
set_option maxRecDepth 100000 in
theorem cM_read (hst : l.stackTraces = false) (hsm : ss_sm st) (h : ss_MP V z a st th va) (t key : Int32) (hq : ∀ z' va' w, ss_MP V z' a st (nI (cd_read st t key)) va' → ss_fr (ss_mc a) z z' → (∀ q v, ss_lx st t = some q → ss_key key → ss_rd st.2.2.2.1 q.2 key = some v → w = v) → Qr (some (.long w)) z') : ss_C V l (d + 2) mM_read 0 0 [.ref a, .int t, .int key] z Qr Qx := by
  have hW := cM_wrong (d := d) hst hsm h t key
  obtain ⟨fo, fK, fT, fW, fE, fY, fN, fS, fC, fA, fB, fD, h1, h2, h3⟩ := h
  refine ss_C.of hst rfl (by decide) (Nat.le_of_ble_eq_true rfl) ?_
  unfold cd_read at hq
  refine sg_aload_n kM_read_0 rfl ?_
  refine sg_aload_n kM_read_1 rfl ?_
  refine sg_iload_n kM_read_2 rfl ?_
  refine sg_iload_n kM_read_3 rfl ?_
  refine sg_fV (As := [.int t, .int key]) (rest := [.ref a]) hW vl_M_88 kM_read_4 h1.go rfl (Nat.le_of_ble_eq_true rfl) ⟨Nat.le_refl _, by show 8 + (3 + 11) + (30 * (d + 1) + 60) ≤ 30 * (d + 2) + 60; omega⟩ ⟨Nat.le_refl _, Nat.le_refl _⟩ ?_
  cases hlt : ss_lt st t with
  | none =>
    have hw : ss_wr st t key = 1 := if_pos hlt
    rw [hw]
    have hlx := ss_lx_none hlt
    rw [hlx] at hq
    refine sg_put fl_M_45 kM_read_7 h1.go rfl rfl rfl (Nat.le_of_ble_eq_true rfl) (fun z1 u1 => ?_)
    have h1 := h1.obj u1
    refine sg_aload_n kM_read_10 rfl ?_
    refine sg_get fl_M_45 kM_read_11 h1.go rfl ?_
    refine sg_if_eq 19 kM_read_14 (by decide) (fun hb => ?_) (fun hb => ?_)
    · exact absurd hb (by decide)
    · refine sg_lconst (v := 0) kM_read_17 (by decide) ?_
      exact sg_lret kM_read_18 rfl (hq z1 _ _ ⟨_, _, _, _, _, _, _, _, _, _, _, _, h1, h2, h3⟩ (u1.fr ⟨by omega, by omega⟩) (fun q v hq => by cases hq)) (Nat.le_refl _) (Nat.le_refl _)
  | some i =>
    obtain ⟨hi6, x, hx1, hx2⟩ := ss_lx_some hlt
    have hw := ss_wr_some (key := key) hlt
    rw [hx2] at hq
    dsimp only at hq
    by_cases hk : ss_key key
    · rw [if_pos hk] at hq
      rw [hw, if_pos hk]
      refine sg_put fl_M_45 kM_read_7 h1.go rfl rfl rfl (Nat.le_of_ble_eq_true rfl) (fun z1 u1 => ?_)
      have h1 := h1.obj u1
      have hM : ss_MP V z1 a st 0 va := ⟨_, _, _, _, _, _, _, _, _, _, _, _, h1, h2, h3⟩
      have hP := cM_place (d := d + 1) hst hsm hM t
      rw [hlt] at hP
      refine sg_aload_n kM_read_10 rfl ?_
      refine sg_get fl_M_45 kM_read_11 h1.go rfl ?_
      refine sg_if_eq 19 kM_read_14 (by decide) (fun hb => ?_) (fun hb => ?_)
      · refine sg_aload_n kM_read_19 rfl ?_
        refine sg_aload_n kM_read_20 rfl ?_
        refine sg_aload_n kM_read_21 rfl ?_
        refine sg_iload_n kM_read_22 rfl ?_
        refine sg_fV (As := [.int t]) (rest := [.ref a, .ref a]) hP vl_M_49 kM_read_23 h1.go rfl (Nat.le_of_ble_eq_true rfl) ⟨Nat.le_refl _, by show 8 + (3 + 11) + (30 * (d + 1) + 60) ≤ 30 * (d + 2) + 60; omega⟩ ⟨Nat.le_refl _, Nat.le_refl _⟩ ?_
        refine sg_iload_n kM_read_26 rfl ?_
        refine sg_callV (As := [.int (nI i), .int key]) (rest := [.ref a]) (cM_find (d := d) hst hsm hM hi6 hx1 key (Qr := fun w z' => w = some (.int (ss_b (decide (¬ ss_rd st.2.2.2.1 x key = none)))) ∧ ∃ va', ss_MP V z' a st 0 va' ∧ ss_fr (ss_mc a) z1 z' ∧ ∀ v, ss_rd st.2.2.2.1 x key = some v → va' = v) (Qx := fun _ _ => False) (fun z' va' q1 q2 q3 => ⟨rfl, va', q1, q2, q3⟩)) vl_M_91 kM_read_27 h1.go rfl (Nat.le_of_ble_eq_true rfl) ⟨Nat.le_refl _, by show 8 + (5 + 11) + (30 * (d + 1) + 60) ≤ 30 * (d + 2) + 60; omega⟩ ⟨Nat.le_refl _, Nat.le_refl _⟩ (fun _ _ q => q.elim) (fun w z2 hq2 => ?_)
        obtain ⟨rfl, va', ⟨fo, fK, fT, fW, fE, fY, fN, fS, fC, fA, fB, fD, h1, h2, h3⟩, q2, q3⟩ := hq2
        refine sg_if_eq 37 kM_read_30 (by decide) (fun hc => ?_) (fun hc => ?_)
        · rw [ss_b0] at hc
          have hc := Decidable.not_not.mp (of_decide_eq_false hc)
          rw [if_pos hc] at hq
          refine sg_iconst (v := 3) kM_read_37 (by decide) ?_
          refine sg_put fl_M_45 kM_read_38 h1.go rfl rfl rfl (Nat.le_of_ble_eq_true rfl) (fun z3 u3 => ?_)
          have h1 := h1.obj u3
          refine sg_aload_n kM_read_41 rfl ?_
          refine sg_get fl_M_45 kM_read_42 h1.go rfl ?_
          refine sg_if_ne 55 kM_read_45 (by decide) (fun he => ?_) (fun he => ?_)
          · refine sg_lconst (v := 0) kM_read_55 (by decide) ?_
            refine sg_lret kM_read_56 rfl (hq z3 _ _ ⟨_, _, _, _, _, _, _, _, _, _, _, _, h1, h2, h3⟩ (((u1.fr ⟨by omega, by omega⟩ : ss_fr (ss_mc a) z z1).tr q2).tr (u3.fr ⟨by omega, by omega⟩)) (fun q v hq _ hv => ?_)) (Nat.le_refl _) (Nat.le_refl _)
            cases hq
            rw [hc] at hv
            cases hv
          · exact absurd he (by decide)
        · rw [ss_b1] at hc
          have hc := of_decide_eq_true hc
          rw [if_neg hc] at hq
          refine sg_iconst (v := 0) kM_read_33 (by decide) ?_
          refine sg_goto 38 kM_read_34 (by decide) ?_
          refine sg_put fl_M_45 kM_read_38 h1.go rfl rfl rfl (Nat.le_of_ble_eq_true rfl) (fun z3 u3 => ?_)
          have h1 := h1.obj u3
          refine sg_aload_n kM_read_41 rfl ?_
          refine sg_get fl_M_45 kM_read_42 h1.go rfl ?_
          refine sg_if_ne 55 kM_read_45 (by decide) (fun he => ?_) (fun he => ?_)
          · exact absurd rfl he
          · refine sg_aload_n kM_read_48 rfl ?_
            refine sg_get fl_M_84 kM_read_49 h1.go rfl ?_
            refine sg_goto 56 kM_read_52 (by decide) ?_
            refine sg_lret kM_read_56 rfl (hq z3 _ _ ⟨_, _, _, _, _, _, _, _, _, _, _, _, h1, h2, h3⟩ (((u1.fr ⟨by omega, by omega⟩ : ss_fr (ss_mc a) z z1).tr q2).tr (u3.fr ⟨by omega, by omega⟩)) (fun q v hq _ hv => ?_)) (Nat.le_refl _) (Nat.le_refl _)
            cases hq
            exact q3 v hv
      · exact absurd rfl hb
    · rw [if_neg hk] at hq
      rw [hw, if_neg hk]
      refine sg_put fl_M_45 kM_read_7 h1.go rfl rfl rfl (Nat.le_of_ble_eq_true rfl) (fun z1 u1 => ?_)
      have h1 := h1.obj u1
      refine sg_aload_n kM_read_10 rfl ?_
      refine sg_get fl_M_45 kM_read_11 h1.go rfl ?_
      refine sg_if_eq 19 kM_read_14 (by decide) (fun hb => ?_) (fun hb => ?_)
      · exact absurd hb (by decide)
      · refine sg_lconst (v := 0) kM_read_17 (by decide) ?_
        exact sg_lret kM_read_18 rfl (hq z1 _ _ ⟨_, _, _, _, _, _, _, _, _, _, _, _, h1, h2, h3⟩ (u1.fr ⟨by omega, by omega⟩) (fun q v _ hk9 => absurd hk9 hk)) (Nat.le_refl _) (Nat.le_refl _)
set_option maxRecDepth 100000 in
theorem cM_next (hst : l.stackTraces = false) (hsm : ss_sm st) (h : ss_MP V z a st th va) (t key : Int32) (hq : ∀ z' va' w, ss_MP V z' a st (nI (cd_next st t key)) va' → ss_fr (ss_mc a) z z' → (∀ q, ss_lx st t = some q → ss_key key → w = ss_ix (ss_nx st q.2 key)) → Qr (some (.int w)) z') : ss_C V l (d + 2) mM_next 0 0 [.ref a, .int t, .int key] z Qr Qx := by
  have hW := cM_wrong (d := d) hst hsm h t key
  obtain ⟨fo, fK, fT, fW, fE, fY, fN, fS, fC, fA, fB, fD, h1, h2, h3⟩ := h
  refine ss_C.of hst rfl (by decide) (Nat.le_of_ble_eq_true rfl) ?_
  unfold cd_next at hq
  refine sg_aload_n kM_next_0 rfl ?_
  refine sg_aload_n kM_next_1 rfl ?_
  refine sg_iload_n kM_next_2 rfl ?_
  refine sg_iload_n kM_next_3 rfl ?_
  refine sg_fV (As := [.int t, .int key]) (rest := [.ref a]) hW vl_M_88 kM_next_4 h1.go rfl (Nat.le_of_ble_eq_true rfl) ⟨Nat.le_refl _, by show 8 + (3 + 11) + (30 * (d + 1) + 60) ≤ 30 * (d + 2) + 60; omega⟩ ⟨Nat.le_refl _, Nat.le_refl _⟩ ?_
  cases hlt : ss_lt st t with
  | none =>
    have hw : ss_wr st t key = 1 := if_pos hlt
    rw [hw]
    have hlx := ss_lx_none hlt
    rw [hlx] at hq
    refine sg_put fl_M_45 kM_next_7 h1.go rfl rfl rfl (Nat.le_of_ble_eq_true rfl) (fun z1 u1 => ?_)
    have h1 := h1.obj u1
    refine sg_aload_n kM_next_10 rfl ?_
    refine sg_get fl_M_45 kM_next_11 h1.go rfl ?_
    refine sg_if_eq 19 kM_next_14 (by decide) (fun hb => ?_) (fun hb => ?_)
    · exact absurd hb (by decide)
    · refine sg_iconst (v := 0) kM_next_17 (by decide) ?_
      exact sg_iret kM_next_18 rfl rfl (hq z1 _ _ ⟨_, _, _, _, _, _, _, _, _, _, _, _, h1, h2, h3⟩ (u1.fr ⟨by omega, by omega⟩) (fun q hq => by cases hq)) (Nat.le_refl _) (Nat.le_refl _)
  | some i =>
    obtain ⟨hi6, x, hx1, hx2⟩ := ss_lx_some hlt
    have hw := ss_wr_some (key := key) hlt
    rw [hx2] at hq
    dsimp only at hq
    by_cases hk : ss_key key
    · rw [if_pos hk] at hq
      rw [hw, if_pos hk]
      obtain ⟨j0, hj0, rfl⟩ := ss_key_nI hk
      refine sg_put fl_M_45 kM_next_7 h1.go rfl rfl rfl (Nat.le_of_ble_eq_true rfl) (fun z1 u1 => ?_)
      have h1 := h1.obj u1
      have loop : ∀ m c z1 va, c + m = 16 → ss_first (ss_fnd st x) j0 (16 - j0) = ss_first (ss_fnd st x) c m → ss_MP V z1 a st 0 va → ss_fr (ss_mc a) z z1 → ss_G V l mM_next (ss_rm (d + 2) 0 0) (ss_Q V Qr Qx 0 0) 21 [(3, .int (nI c)), (0, .ref a), (1, .int t)] [] z1 0 0 := by
        intro m
        induction m with
        | zero =>
          intro c z1 va hc hf hM hF
          have hc : c = 16 := by omega
          subst hc
          refine sg_iload_n kM_next_21 rfl ?_
          refine sg_bipush (v := 16) kM_next_22 (by decide) ?_
          refine sg_icmp_ge 48 kM_next_24 (by decide) (fun hb => ?_) (fun hb => ?_)
          · refine sg_iconst (v := (-1)) kM_next_48 (by decide) ?_
            refine sg_iret kM_next_49 rfl rfl (hq z1 _ _ hM hF (fun q hq _ => ?_)) (Nat.le_refl _) (Nat.le_refl _)
            cases hq
            show _ = ss_ix (ss_nx st x _)
            unfold ss_nx
            rw [nI_clamp (by omega), hf]
            rfl
          · exact absurd (by decide) hb
        | succ m ih =>
          intro c z1 va hc hf hM hF
          have hP := cM_place (d := d + 1) hst hsm hM t
          rw [hlt] at hP
          have hf2 : ss_first (ss_fnd st x) j0 (16 - j0) = if ss_fnd st x c = true then some c else ss_first (ss_fnd st x) (c + 1) m := hf
          have ho := hM.choose_spec.choose_spec.choose_spec.choose_spec.choose_spec.choose_spec.choose_spec.choose_spec.choose_spec.choose_spec.choose_spec.choose_spec.1.go
          refine sg_iload_n kM_next_21 rfl ?_
          refine sg_bipush (v := 16) kM_next_22 (by decide) ?_
          refine sg_icmp_ge 48 kM_next_24 (by decide) (fun hb => ?_) (fun hb => ?_)
          · exact absurd hb (nI_ge (b := 16) (by omega) (by decide))
          · refine sg_aload_n kM_next_27 rfl ?_
            refine sg_aload_n kM_next_28 rfl ?_
            refine sg_iload_n kM_next_29 rfl ?_
            refine sg_fV (As := [.int t]) (rest := [.ref a]) hP vl_M_49 kM_next_30 ho rfl (Nat.le_of_ble_eq_true rfl) ⟨Nat.le_refl _, by show 8 + (3 + 11) + (30 * (d + 1) + 60) ≤ 30 * (d + 2) + 60; omega⟩ ⟨Nat.le_refl _, Nat.le_refl _⟩ ?_
            refine sg_iload_n kM_next_33 rfl ?_
            refine sg_callV (As := [.int (nI i), .int (nI c)]) (rest := []) (cM_find (d := d) hst hsm hM hi6 hx1 (nI c) (Qr := fun w z' => w = some (.int (ss_b (decide (¬ ss_rd st.2.2.2.1 x (nI c) = none)))) ∧ ∃ va', ss_MP V z' a st 0 va' ∧ ss_fr (ss_mc a) z1 z') (Qx := fun _ _ => False) (fun z' va' q1 q2 q3 => ⟨rfl, va', q1, q2⟩)) vl_M_91 kM_next_34 ho rfl (Nat.le_of_ble_eq_true rfl) ⟨Nat.le_refl _, by show 8 + (5 + 11) + (30 * (d + 1) + 60) ≤ 30 * (d + 2) + 60; omega⟩ ⟨Nat.le_refl _, Nat.le_refl _⟩ (fun _ _ q => q.elim) (fun w z2 hq2 => ?_)
            obtain ⟨rfl, va', q1, q2⟩ := hq2
            refine sg_if_eq 42 kM_next_37 (by decide) (fun he => ?_) (fun he => ?_)
            · rw [ss_b0] at he
              refine sg_iinc kM_next_42 rfl (ss_inc _) (by decide) ?_
              refine sg_goto 21 kM_next_45 (by decide) ?_
              refine sg_lw (ih (c + 1) z2 va' (by omega) ?_ q1 (hF.tr q2)) ⟨rfl, rfl, rfl, trivial⟩
              rw [hf2, if_neg (by unfold ss_fnd; rw [he]; decide)]
            · rw [ss_b1] at he
              refine sg_iload_n kM_next_40 rfl ?_
              refine sg_iret kM_next_41 rfl rfl (hq z2 _ _ q1 (hF.tr q2) (fun q hq _ => ?_)) (Nat.le_refl _) (Nat.le_refl _)
              cases hq
              show _ = ss_ix (ss_nx st x _)
              unfold ss_nx
              rw [nI_clamp (by omega), hf2, if_pos (by unfold ss_fnd; exact he)]
              rfl
      refine sg_aload_n kM_next_10 rfl ?_
      refine sg_get fl_M_45 kM_next_11 h1.go rfl ?_
      refine sg_if_eq 19 kM_next_14 (by decide) (fun hb => ?_) (fun hb => ?_)
      · refine sg_iload_n kM_next_19 rfl ?_
        refine sg_istore_n kM_next_20 (by decide) ?_
        exact sg_lw (loop (16 - j0) j0 z1 va (by omega) rfl ⟨_, _, _, _, _, _, _, _, _, _, _, _, h1, h2, h3⟩ (u1.fr ⟨by omega, by omega⟩)) ⟨rfl, rfl, rfl, trivial⟩
      · exact absurd rfl hb
    · rw [if_neg hk] at hq
      rw [hw, if_neg hk]
      refine sg_put fl_M_45 kM_next_7 h1.go rfl rfl rfl (Nat.le_of_ble_eq_true rfl) (fun z1 u1 => ?_)
      have h1 := h1.obj u1
      refine sg_aload_n kM_next_10 rfl ?_
      refine sg_get fl_M_45 kM_next_11 h1.go rfl ?_
      refine sg_if_eq 19 kM_next_14 (by decide) (fun hb => ?_) (fun hb => ?_)
      · exact absurd hb (by decide)
      · refine sg_iconst (v := 0) kM_next_17 (by decide) ?_
        exact sg_iret kM_next_18 rfl rfl (hq z1 _ _ ⟨_, _, _, _, _, _, _, _, _, _, _, _, h1, h2, h3⟩ (u1.fr ⟨by omega, by omega⟩) (fun q _ hk9 => absurd hk9 hk)) (Nat.le_refl _) (Nat.le_refl _)
end SSU
