/-! Row: append, takeAway, fromNewest. -/
section SSR2
variable {V : ss_V} {l : Launch} {z : ss_Z} {d r cap : Nat} {es : List ss_Ent}
set_option maxRecDepth 100000 in
theorem cR_append_full (hst : l.stackTraces = false) (hcap : cap < 1000) (h : ss_row V z r cap es) (hf : es.length = cap) (key t : Int32) (v : Int64) (er : Bool) : ss_F V l d mR_append [.ref r, .int key, .int t, .long v, .int (ss_b er)] z (.int 0) := by
  intro Qr Qx hq
  obtain ⟨fk, ft, fv, fe, ⟨h0, h1, h2, h3, h4, h5⟩, he⟩ := h
  refine ss_C.of hst rfl (by decide) (Nat.le_of_ble_eq_true rfl) ?_
  refine sg_aload_n kR_append_0 rfl ?_
  refine sg_get fl_R_9 kR_append_1 h0 rfl ?_
  refine sg_aload_n kR_append_4 rfl ?_
  refine sg_get fl_R_15 kR_append_5 h0 rfl ?_
  refine sg_alenI kR_append_8 h1 ?_
  refine sg_icmp_lt 14 kR_append_9 (by decide) (fun hb => ?_) (fun hb => ?_)
  · rw [hf] at hb
    exact absurd hb (nI_nlt (Nat.le_refl _) (by omega))
  · refine sg_iconst (v := 0) kR_append_12 (by decide) ?_
    exact sg_iret kR_append_13 rfl rfl hq (Nat.le_refl _) (Nat.le_refl _)
theorem ss_row_snoc {fk ft : Nat → Int32} {fv : Nat → Int64} {fe : Nat → Int32} (key t : Int32) (v : Int64) (er : Bool) (he : ∀ j e, es[j]? = some e → fk j = e.1 ∧ ft j = e.2.1 ∧ fv j = e.2.2.1 ∧ fe j = ss_b e.2.2.2) : ∀ j e, (es ++ [(key, t, v, er)])[j]? = some e → upd fk es.length key j = e.1 ∧ upd ft es.length t j = e.2.1 ∧ vp_updL fv es.length v j = e.2.2.1 ∧ upd fe es.length (ss_b er) j = ss_b e.2.2.2 := by
  intro j e h
  by_cases hj : j < es.length
  · rw [List.getElem?_append_left hj] at h
    rw [pk_un (by omega), pk_un (by omega), pk_uLn (by omega), pk_un (by omega)]
    exact he j e h
  · have hl := (List.getElem?_eq_some_iff.mp h).1
    rw [List.length_append] at hl
    have : j = es.length := by simp at hl; omega
    subst this
    rw [List.getElem?_append_right (Nat.le_refl _), Nat.sub_self] at h
    cases h
    rw [pk_us, pk_us, pk_uLs, pk_us]
    exact ⟨rfl, rfl, rfl, rfl⟩
set_option maxRecDepth 100000 in
theorem cR_append {Qr : Option Value → ss_Z → Prop} {Qx : String → ss_Z → Prop} (hst : l.stackTraces = false) (hcap : cap < 1000) (h : ss_row V z r cap es) (hf : es.length < cap) (key t : Int32) (v : Int64) (er : Bool) (hq : ∀ z', ss_row V z' r cap (es ++ [(key, t, v, er)]) → ss_fr (ss_rcell r) z z' → Qr (some (.int 1)) z') : ss_C V l d mR_append 0 0 [.ref r, .int key, .int t, .long v, .int (ss_b er)] z Qr Qx := by
  obtain ⟨fk, ft, fv, fe, ⟨h0, h1, h2, h3, h4, h5⟩, he⟩ := h
  refine ss_C.of hst rfl (by decide) (Nat.le_of_ble_eq_true rfl) ?_
  refine sg_aload_n kR_append_0 rfl ?_
  refine sg_get fl_R_9 kR_append_1 h0 rfl ?_
  refine sg_aload_n kR_append_4 rfl ?_
  refine sg_get fl_R_15 kR_append_5 h0 rfl ?_
  refine sg_alenI kR_append_8 h1 ?_
  refine sg_icmp_lt 14 kR_append_9 (by decide) (fun hb => ?_) (fun hb => ?_)
  · refine sg_aload_n kR_append_14 rfl ?_
    refine sg_get fl_R_15 kR_append_15 h0 rfl ?_
    refine sg_aload_n kR_append_18 rfl ?_
    refine sg_get fl_R_9 kR_append_19 h0 rfl ?_
    refine sg_iload_n kR_append_22 rfl ?_
    refine sg_iast kR_append_23 h1 hf (by omega) (fun z1 u1 => ?_)
    have h1 := u1.at h1
    have h0 := u1.ne h0 (by omega)
    have h2 := u1.ne h2 (by omega)
    have h3 := u1.ne h3 (by omega)
    have h4 := u1.ne h4 (by omega)
    refine sg_aload_n kR_append_24 rfl ?_
    refine sg_get fl_R_19 kR_append_25 h0 rfl ?_
    refine sg_aload_n kR_append_28 rfl ?_
    refine sg_get fl_R_9 kR_append_29 h0 rfl ?_
    refine sg_iload_n kR_append_32 rfl ?_
    refine sg_iast kR_append_33 h2 hf (by omega) (fun z2 u2 => ?_)
    have h2 := u2.at h2
    have h0 := u2.ne h0 (by omega)
    have h1 := u2.ne h1 (by omega)
    have h3 := u2.ne h3 (by omega)
    have h4 := u2.ne h4 (by omega)
    refine sg_aload_n kR_append_34 rfl ?_
    refine sg_get fl_R_22 kR_append_35 h0 rfl ?_
    refine sg_aload_n kR_append_38 rfl ?_
    refine sg_get fl_R_9 kR_append_39 h0 rfl ?_
    refine sg_lload_n kR_append_42 rfl ?_
    refine sg_last kR_append_43 h3 hf (by omega) (fun z3 u3 => ?_)
    have h3 := u3.at h3
    have h0 := u3.ne h0 (by omega)
    have h1 := u3.ne h1 (by omega)
    have h2 := u3.ne h2 (by omega)
    have h4 := u3.ne h4 (by omega)
    refine sg_aload_n kR_append_44 rfl ?_
    refine sg_get fl_R_26 kR_append_45 h0 rfl ?_
    refine sg_aload_n kR_append_48 rfl ?_
    refine sg_get fl_R_9 kR_append_49 h0 rfl ?_
    refine sg_iload kR_append_52 rfl ?_
    refine sg_zast kR_append_54 h4 hf (by omega) (ss_bn er) (fun z4 u4 => ?_)
    have h4 := u4.at h4
    have h0 := u4.ne h0 (by omega)
    have h1 := u4.ne h1 (by omega)
    have h2 := u4.ne h2 (by omega)
    have h3 := u4.ne h3 (by omega)
    refine sg_aload_n kR_append_55 rfl ?_
    refine sg_dup kR_append_56 rfl ?_
    refine sg_get fl_R_9 kR_append_57 h0 rfl ?_
    refine sg_iconst (v := 1) kR_append_60 (by decide) ?_
    refine sg_iadd kR_append_61 ?_
    refine sg_i (nI_1 es.length) ?_
    refine sg_put fl_R_9 kR_append_62 h0 rfl rfl rfl (Nat.le_of_ble_eq_true rfl) (fun z5 u5 => ?_)
    have h0 := u5.at h0
    have h1 := u5.ne h1 (by omega)
    have h2 := u5.ne h2 (by omega)
    have h3 := u5.ne h3 (by omega)
    have h4 := u5.ne h4 (by omega)
    refine sg_iconst (v := 1) kR_append_65 (by decide) ?_
    refine sg_iret kR_append_66 rfl rfl (hq z5 ⟨_, _, _, _, ⟨?_, h1, h2, h3, h4, ?_⟩, ss_row_snoc key t v er he⟩ ?_) (Nat.le_refl _) (Nat.le_refl _)
    · rw [List.length_append]
      exact h0
    · rw [List.length_append]
      exact hf
    · exact (((((u1.fr ⟨by omega, by omega⟩ : ss_fr (ss_rcell r) z z1).tr (u2.fr ⟨by omega, by omega⟩)).tr (u3.fr ⟨by omega, by omega⟩)).tr (u4.fr ⟨by omega, by omega⟩)).tr (u5.fr ⟨by omega, by omega⟩))
  · exact absurd (nI_lt hf (by omega)) hb
/-- contents shifted down by one from a place on, as far as i -/
def ss_sh {α : Type} (f : Nat → α) (a i : Nat) : Nat → α := fun j => if a ≤ j ∧ j + 1 < i then f (j + 1) else f j
theorem ss_sh0 {α : Type} (f : Nat → α) (a : Nat) : ss_sh f a (a + 1) = f := by
  funext j
  unfold ss_sh
  rw [if_neg (by omega)]
theorem ss_sh_at {α : Type} (f : Nat → α) (a i : Nat) : ss_sh f a i i = f i := by
  unfold ss_sh
  rw [if_neg (by omega)]
theorem ss_shI (f : Nat → Int32) {a i : Nat} (h : a ≤ i) : upd (ss_sh f a (i + 1)) i (f (i + 1)) = ss_sh f a (i + 2) := by
  funext j
  unfold upd ss_sh
  by_cases hj : j = i
  · subst hj
    rw [if_pos rfl, if_pos (by omega)]
  · rw [if_neg hj]
    by_cases h2 : a ≤ j ∧ j + 1 < i + 1
    · rw [if_pos h2, if_pos (by omega)]
    · rw [if_neg h2, if_neg (by omega)]
theorem ss_shL (f : Nat → Int64) {a i : Nat} (h : a ≤ i) : vp_updL (ss_sh f a (i + 1)) i (f (i + 1)) = ss_sh f a (i + 2) := by
  funext j
  unfold vp_updL ss_sh
  by_cases hj : j = i
  · subst hj
    rw [if_pos rfl, if_pos (by omega)]
  · rw [if_neg hj]
    by_cases h2 : a ≤ j ∧ j + 1 < i + 1
    · rw [if_pos h2, if_pos (by omega)]
    · rw [if_neg h2, if_neg (by omega)]
set_option maxRecDepth 100000 in
theorem cR_takeAway {Qr : Option Value → ss_Z → Prop} {Qx : String → ss_Z → Prop} (hst : l.stackTraces = false) (hcap : cap < 1000) (h : ss_row V z r cap es) {a : Nat} (ha : a < es.length) (hq : ∀ z', ss_row V z' r cap (es.eraseIdx a) → ss_fr (ss_rcell r) z z' → Qr none z') : ss_C V l d mR_takeAway 0 0 [.ref r, .int (nI a)] z Qr Qx := by
  obtain ⟨fk, ft, fv, fe, ⟨h0, h1, h2, h3, h4, h5⟩, he⟩ := h
  refine ss_C.of hst rfl (by decide) (Nat.le_of_ble_eq_true rfl) ?_
  have loop : ∀ m i z0, i + m = es.length → a + 1 ≤ i → ss_fr (ss_rcell r) z z0 → ss_rowf V z0 r cap es.length (ss_sh fk a i) (ss_sh ft a i) (ss_sh fv a i) (ss_sh fe a i) → ss_G V l mR_takeAway (ss_rm d 0 0) (ss_Q V Qr Qx 0 0) 4 [(2, .int (nI i)), (0, .ref r), (1, .int (nI a))] [] z0 0 0 := by
    intro m
    induction m with
    | zero =>
      intro i z0 hi hai hz ⟨h0, h1, h2, h3, h4, h5⟩
      have hi : i = es.length := by omega
      subst hi
      refine sg_iload_n kR_takeAway_4 rfl ?_
      refine sg_aload_n kR_takeAway_5 rfl ?_
      refine sg_get fl_R_9 kR_takeAway_6 h0 rfl ?_
      refine sg_icmp_ge 74 kR_takeAway_9 (by decide) (fun hb => ?_) (fun hb => ?_)
      · refine sg_aload_n kR_takeAway_74 rfl ?_
        refine sg_dup kR_takeAway_75 rfl ?_
        refine sg_get fl_R_9 kR_takeAway_76 h0 rfl ?_
        refine sg_iconst (v := 1) kR_takeAway_79 (by decide) ?_
        refine sg_isub kR_takeAway_80 ?_
        refine sg_i (y := nI (es.length - 1)) (by rw [show es.length = es.length - 1 + 1 by omega]; exact nI_pred _) ?_
        refine sg_put fl_R_9 kR_takeAway_81 h0 rfl rfl rfl (Nat.le_of_ble_eq_true rfl) (fun z1 u1 => ?_)
        have h0 := u1.at h0
        have h1 := u1.ne h1 (by omega)
        have h2 := u1.ne h2 (by omega)
        have h3 := u1.ne h3 (by omega)
        have h4 := u1.ne h4 (by omega)
        have hlen : (es.eraseIdx a).length = es.length - 1 := by rw [List.length_eraseIdx_of_lt ha]
        refine sg_vret kR_takeAway_84 rfl (hq z1 ⟨_, _, _, _, ⟨?_, h1, h2, h3, h4, by omega⟩, ?_⟩ (hz.tr (u1.fr ⟨by omega, by omega⟩))) (Nat.le_refl _) (Nat.le_refl _)
        · rw [hlen]
          exact h0
        · intro j e hj
          have hjl := (List.getElem?_eq_some_iff.mp hj).1
          rw [hlen] at hjl
          rw [List.getElem?_eraseIdx] at hj
          unfold ss_sh
          by_cases hja : j < a
          · rw [if_pos hja] at hj
            rw [if_neg (by omega), if_neg (by omega), if_neg (by omega), if_neg (by omega)]
            exact he j e hj
          · rw [if_neg hja] at hj
            rw [if_pos (by omega), if_pos (by omega), if_pos (by omega), if_pos (by omega)]
            exact he (j + 1) e hj
      · exact absurd (nI_le (Nat.le_refl _) (by omega)) hb
    | succ m ih =>
      intro i z0 hi hai hz ⟨h0, h1, h2, h3, h4, h5⟩
      obtain ⟨i, rfl⟩ : ∃ q, i = q + 1 := ⟨i - 1, by omega⟩
      refine sg_iload_n kR_takeAway_4 rfl ?_
      refine sg_aload_n kR_takeAway_5 rfl ?_
      refine sg_get fl_R_9 kR_takeAway_6 h0 rfl ?_
      refine sg_icmp_ge 74 kR_takeAway_9 (by decide) (fun hb => ?_) (fun hb => ?_)
      · exact absurd hb (nI_ge (by omega) (by omega))
      · refine sg_aload_n kR_takeAway_12 rfl ?_
        refine sg_get fl_R_15 kR_takeAway_13 h0 rfl ?_
        refine sg_iload_n kR_takeAway_16 rfl ?_
        refine sg_iconst (v := 1) kR_takeAway_17 (by decide) ?_
        refine sg_isub kR_takeAway_18 ?_
        refine sg_i (nI_pred i) ?_
        refine sg_aload_n kR_takeAway_19 rfl ?_
        refine sg_get fl_R_15 kR_takeAway_20 h0 rfl ?_
        refine sg_iload_n kR_takeAway_23 rfl ?_
        refine sg_iald kR_takeAway_24 h1 (by omega) (by omega) ?_
        rw [ss_sh_at]
        refine sg_iast kR_takeAway_25 h1 (by omega) (by omega) (fun z1 u1 => ?_)
        rw [ss_shI fk (by omega)] at u1
        have h1 := u1.at h1
        have h0 := u1.ne h0 (by omega)
        have h2 := u1.ne h2 (by omega)
        have h3 := u1.ne h3 (by omega)
        have h4 := u1.ne h4 (by omega)
        refine sg_aload_n kR_takeAway_26 rfl ?_
        refine sg_get fl_R_19 kR_takeAway_27 h0 rfl ?_
        refine sg_iload_n kR_takeAway_30 rfl ?_
        refine sg_iconst (v := 1) kR_takeAway_31 (by decide) ?_
        refine sg_isub kR_takeAway_32 ?_
        refine sg_i (nI_pred i) ?_
        refine sg_aload_n kR_takeAway_33 rfl ?_
        refine sg_get fl_R_19 kR_takeAway_34 h0 rfl ?_
        refine sg_iload_n kR_takeAway_37 rfl ?_
        refine sg_iald kR_takeAway_38 h2 (by omega) (by omega) ?_
        rw [ss_sh_at]
        refine sg_iast kR_takeAway_39 h2 (by omega) (by omega) (fun z2 u2 => ?_)
        rw [ss_shI ft (by omega)] at u2
        have h2 := u2.at h2
        have h0 := u2.ne h0 (by omega)
        have h1 := u2.ne h1 (by omega)
        have h3 := u2.ne h3 (by omega)
        have h4 := u2.ne h4 (by omega)
        refine sg_aload_n kR_takeAway_40 rfl ?_
        refine sg_get fl_R_22 kR_takeAway_41 h0 rfl ?_
        refine sg_iload_n kR_takeAway_44 rfl ?_
        refine sg_iconst (v := 1) kR_takeAway_45 (by decide) ?_
        refine sg_isub kR_takeAway_46 ?_
        refine sg_i (nI_pred i) ?_
        refine sg_aload_n kR_takeAway_47 rfl ?_
        refine sg_get fl_R_22 kR_takeAway_48 h0 rfl ?_
        refine sg_iload_n kR_takeAway_51 rfl ?_
        refine sg_lald kR_takeAway_52 h3 (by omega) (by omega) ?_
        rw [ss_sh_at]
        refine sg_last kR_takeAway_53 h3 (by omega) (by omega) (fun z3 u3 => ?_)
        rw [ss_shL fv (by omega)] at u3
        have h3 := u3.at h3
        have h0 := u3.ne h0 (by omega)
        have h1 := u3.ne h1 (by omega)
        have h2 := u3.ne h2 (by omega)
        have h4 := u3.ne h4 (by omega)
        refine sg_aload_n kR_takeAway_54 rfl ?_
        refine sg_get fl_R_26 kR_takeAway_55 h0 rfl ?_
        refine sg_iload_n kR_takeAway_58 rfl ?_
        refine sg_iconst (v := 1) kR_takeAway_59 (by decide) ?_
        refine sg_isub kR_takeAway_60 ?_
        refine sg_i (nI_pred i) ?_
        refine sg_aload_n kR_takeAway_61 rfl ?_
        refine sg_get fl_R_26 kR_takeAway_62 h0 rfl ?_
        refine sg_iload_n kR_takeAway_65 rfl ?_
        refine sg_zald kR_takeAway_66 h4 (by omega) (by omega) ?_
        rw [ss_sh_at]
        have hbn : vp_nar .boolean (fe (i + 1)) = fe (i + 1) := by
          rw [(he (i + 1) es[i + 1] (List.getElem?_eq_getElem (by omega))).2.2.2]
          exact ss_bn _
        refine sg_zast kR_takeAway_67 h4 (by omega) (by omega) hbn (fun z4 u4 => ?_)
        rw [ss_shI fe (by omega)] at u4
        have h4 := u4.at h4
        have h0 := u4.ne h0 (by omega)
        have h1 := u4.ne h1 (by omega)
        have h2 := u4.ne h2 (by omega)
        have h3 := u4.ne h3 (by omega)
        refine sg_iinc kR_takeAway_68 rfl (ss_inc _) (by decide) ?_
        refine sg_goto 4 kR_takeAway_71 (by decide) ?_
        exact ih (i + 2) z4 (by omega) (by omega) ((((hz.tr (u1.fr ⟨by omega, by omega⟩)).tr (u2.fr ⟨by omega, by omega⟩)).tr (u3.fr ⟨by omega, by omega⟩)).tr (u4.fr ⟨by omega, by omega⟩)) ⟨h0, h1, h2, h3, h4, h5⟩
  refine sg_iload_n kR_takeAway_0 rfl ?_
  refine sg_iconst (v := 1) kR_takeAway_1 (by decide) ?_
  refine sg_iadd kR_takeAway_2 ?_
  refine sg_i (nI_1 a) ?_
  refine sg_istore_n kR_takeAway_3 (by decide) ?_
  refine loop (es.length - (a + 1)) (a + 1) z (by omega) (Nat.le_refl _) ss_fr.rf ?_
  rw [ss_sh0, ss_sh0, ss_sh0, ss_sh0]
  exact ⟨h0, h1, h2, h3, h4, h5⟩
def ss_pe (key : Int32) (e : ss_Ent) : Bool := decide (e.1 = key)
/-- place of entry number k of those with p, counted from the last; c have been passed -/
def ss_nt (p : Nat → Bool) (k : Int32) : Nat → Int32 → Option Nat
  | 0, _ => none
  | n + 1, c => if p n = true then (if c = k then some n else ss_nt p k n (c + 1)) else ss_nt p k n c
theorem ss_nt_lt {p : Nat → Bool} {k : Int32} : ∀ {n : Nat} {c : Int32} {j : Nat}, ss_nt p k n c = some j → j < n := by
  intro n
  induction n with
  | zero => intro c j h; cases h
  | succ n ih =>
    intro c j h
    unfold ss_nt at h
    by_cases h1 : p n = true
    · rw [if_pos h1] at h
      by_cases h2 : c = k
      · rw [if_pos h2] at h
        cases h
        exact Nat.lt_succ_self _
      · rw [if_neg h2] at h
        exact Nat.lt_succ_of_lt (ih h)
    · rw [if_neg h1] at h
      exact Nat.lt_succ_of_lt (ih h)
set_option maxRecDepth 100000 in
theorem cR_fromNewest (hst : l.stackTraces = false) (hcap : cap < 1000) (h : ss_row V z r cap es) (key kk : Int32) : ss_F V l d mR_fromNewest [.ref r, .int key, .int kk] z (.int (ss_ix (ss_nt (ss_hit (ss_pe key) es) kk es.length 0))) := by
  intro Qr Qx hq
  obtain ⟨fk, ft, fv, fe, ⟨h0, h1, h2, h3, h4, h5⟩, he⟩ := h
  refine ss_C.of hst rfl (by decide) (Nat.le_of_ble_eq_true rfl) ?_
  have loop : ∀ p c, p ≤ es.length → Qr (some (.int (ss_ix (ss_nt (ss_hit (ss_pe key) es) kk p c)))) z → ss_G V l mR_fromNewest (ss_rm d 0 0) (ss_Q V Qr Qx 0 0) 10 [(4, .int (nI p - 1)), (3, .int c), (0, .ref r), (1, .int key), (2, .int kk)] [] z 0 0 := by
    intro p
    induction p with
    | zero =>
      intro c _ hp
      refine sg_iload kR_fromNewest_10 rfl ?_
      refine sg_if_lt 43 kR_fromNewest_12 (by decide) (fun hb => ?_) (fun hb => ?_)
      · refine sg_iconst (v := (-1)) kR_fromNewest_43 (by decide) ?_
        exact sg_iret kR_fromNewest_44 rfl rfl hp (Nat.le_refl _) (Nat.le_refl _)
      · exact absurd (by decide) hb
    | succ q ih =>
      intro c hle hp
      rw [nI_pred]
      have hq1 : q < es.length := by omega
      obtain ⟨e1, -, -, -⟩ := he q es[q] (List.getElem?_eq_getElem hq1)
      have hh : ss_hit (ss_pe key) es q = ss_pe key es[q] := ss_hit_some (List.getElem?_eq_getElem hq1)
      have hp2 : Qr (some (.int (ss_ix (if ss_pe key es[q] = true then (if c = kk then some q else ss_nt (ss_hit (ss_pe key) es) kk q (c + 1)) else ss_nt (ss_hit (ss_pe key) es) kk q c)))) z := by
        rw [← hh]
        exact hp
      refine sg_iload kR_fromNewest_10 rfl ?_
      refine sg_if_lt 43 kR_fromNewest_12 (by decide) (fun hb => ?_) (fun hb => ?_)
      · exact absurd hb (nI_pos (by omega))
      · refine sg_aload_n kR_fromNewest_15 rfl ?_
        refine sg_get fl_R_15 kR_fromNewest_16 h0 rfl ?_
        refine sg_iload kR_fromNewest_19 rfl ?_
        refine sg_iald kR_fromNewest_21 h1 (by omega) (by omega) ?_
        refine sg_iload_n kR_fromNewest_22 rfl ?_
        refine sg_icmp_ne 37 kR_fromNewest_23 (by decide) (fun hb => ?_) (fun hb => ?_)
        · rw [e1] at hb
          rw [if_neg (by unfold ss_pe; rw [decide_eq_false hb]; decide)] at hp2
          refine sg_iinc kR_fromNewest_37 rfl (ss_dec _) (by decide) ?_
          refine sg_goto 10 kR_fromNewest_40 (by decide) ?_
          refine sg_lw (ih c (by omega) hp2) ⟨rfl, rfl, rfl, rfl, rfl, trivial⟩
        · rw [e1] at hb
          rw [if_pos (by unfold ss_pe; rw [decide_eq_true hb])] at hp2
          refine sg_iload_n kR_fromNewest_26 rfl ?_
          refine sg_iload_n kR_fromNewest_27 rfl ?_
          refine sg_icmp_ne 34 kR_fromNewest_28 (by decide) (fun hc => ?_) (fun hc => ?_)
          · rw [if_neg hc] at hp2
            refine sg_iinc kR_fromNewest_34 rfl rfl (by decide) ?_
            refine sg_iinc kR_fromNewest_37 rfl (ss_dec _) (by decide) ?_
            refine sg_goto 10 kR_fromNewest_40 (by decide) ?_
            refine sg_lw (ih (c + 1) (by omega) hp2) ⟨rfl, rfl, rfl, rfl, rfl, trivial⟩
          · rw [if_pos hc] at hp2
            refine sg_iload kR_fromNewest_31 rfl ?_
            exact sg_iret kR_fromNewest_33 rfl rfl hp2 (Nat.le_refl _) (Nat.le_refl _)
  refine sg_iconst (v := 0) kR_fromNewest_0 (by decide) ?_
  refine sg_istore_n kR_fromNewest_1 (by decide) ?_
  refine sg_aload_n kR_fromNewest_2 rfl ?_
  refine sg_get fl_R_9 kR_fromNewest_3 h0 rfl ?_
  refine sg_iconst (v := 1) kR_fromNewest_6 (by decide) ?_
  refine sg_isub kR_fromNewest_7 ?_
  refine sg_istore kR_fromNewest_8 (by decide) ?_
  refine sg_lw (loop es.length 0 (Nat.le_refl _) hq) ⟨rfl, rfl, rfl, rfl, rfl, trivial⟩
end SSR2
