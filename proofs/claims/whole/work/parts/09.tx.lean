/-! Transaction: its methods. -/
section SST
variable {V : ss_V} {l : Launch} {z : ss_Z} {d a cap : Nat} {es : List ss_Ent}
/-- a transaction's object at a, its row behind it -/
def ss_txo (z : ss_Z) (a : Nat) (live : Bool) (num start : Int32) : Prop := ss_at z a (.inr (1, [.ref (a + 1), .int (ss_b live), .int num, .int start]))
def ss_tcell (a : Nat) : Nat → Prop := fun q => a ≤ q ∧ q < a + 6
theorem ss_ix_eq {o : Option Nat} {p : Nat} (h : ∀ j, o = some j → j < 2 ^ 31) (hp : p < 2 ^ 31) : ss_ix o = nI p ↔ o = some p := by
  cases o with
  | none =>
    constructor
    · intro q
      exact absurd (show nI p = -1 from q.symm) (ss_nI_neg hp)
    · intro q; cases q
  | some j =>
    constructor
    · intro q
      rw [(nI_eq (h j rfl) hp).mp q]
    · intro q
      cases q
      rfl
set_option maxRecDepth 100000 in
theorem cT_reopen {Qr : Option Value → ss_Z → Prop} {Qx : String → ss_Z → Prop} {live : Bool} {num0 start0 : Int32} (hst : l.stackTraces = false) (hcap : cap < 1000) (ht : ss_txo z a live num0 start0) (h : ss_row V z (a + 1) cap es) (num start : Int32) (hq : ∀ z', ss_txo z' a true num start → ss_row V z' (a + 1) cap [] → ss_fr (ss_tcell a) z z' → Qr none z') : ss_C V l d mT_reopen 0 0 [.ref a, .int num, .int start] z Qr Qx := by
  obtain ⟨fk, ft, fv, fe, ⟨h0, h1, h2, h3, h4, h5⟩, he⟩ := h
  have ht : ss_at z a (.inr (1, [.ref (a + 1), .int (ss_b live), .int num0, .int start0])) := ht
  refine ss_C.of hst rfl (by decide) (Nat.le_of_ble_eq_true rfl) ?_
  refine sg_aload_n kT_reopen_0 rfl ?_
  refine sg_iconst (v := 1) kT_reopen_1 (by decide) ?_
  refine sg_put fl_T_20 kT_reopen_2 ht rfl rfl rfl (Nat.le_of_ble_eq_true rfl) (fun z1 u1 => ?_)
  have ht := u1.at ht
  have h0 := u1.ne h0 (by omega)
  have h1 := u1.ne h1 (by omega)
  have h2 := u1.ne h2 (by omega)
  have h3 := u1.ne h3 (by omega)
  have h4 := u1.ne h4 (by omega)
  refine sg_aload_n kT_reopen_5 rfl ?_
  refine sg_iload_n kT_reopen_6 rfl ?_
  refine sg_put fl_T_24 kT_reopen_7 ht rfl rfl rfl (Nat.le_of_ble_eq_true rfl) (fun z2 u2 => ?_)
  have ht := u2.at ht
  have h0 := u2.ne h0 (by omega)
  have h1 := u2.ne h1 (by omega)
  have h2 := u2.ne h2 (by omega)
  have h3 := u2.ne h3 (by omega)
  have h4 := u2.ne h4 (by omega)
  refine sg_aload_n kT_reopen_10 rfl ?_
  refine sg_iload_n kT_reopen_11 rfl ?_
  refine sg_put fl_T_28 kT_reopen_12 ht rfl rfl rfl (Nat.le_of_ble_eq_true rfl) (fun z3 u3 => ?_)
  have ht := u3.at ht
  have h0 := u3.ne h0 (by omega)
  have h1 := u3.ne h1 (by omega)
  have h2 := u3.ne h2 (by omega)
  have h3 := u3.ne h3 (by omega)
  have h4 := u3.ne h4 (by omega)
  refine sg_aload_n kT_reopen_15 rfl ?_
  refine sg_get fl_T_14 kT_reopen_16 ht rfl ?_
  refine sg_iconst (v := 0) kT_reopen_19 (by decide) ?_
  refine sg_put fl_T_31 kT_reopen_20 h0 rfl rfl rfl (Nat.le_of_ble_eq_true rfl) (fun z4 u4 => ?_)
  have h0 := u4.at h0
  have ht := u4.ne ht (by omega)
  have h1 := u4.ne h1 (by omega)
  have h2 := u4.ne h2 (by omega)
  have h3 := u4.ne h3 (by omega)
  have h4 := u4.ne h4 (by omega)
  refine sg_vret kT_reopen_23 rfl (hq z4 ht ⟨fk, ft, fv, fe, ⟨h0, h1, h2, h3, h4, Nat.zero_le _⟩, fun j e hj => by cases hj⟩ ?_) (Nat.le_refl _) (Nat.le_refl _)
  exact ((((u1.fr ⟨by omega, by omega⟩ : ss_fr (ss_tcell a) z z1).tr (u2.fr ⟨by omega, by omega⟩)).tr (u3.fr ⟨by omega, by omega⟩)).tr (u4.fr ⟨by omega, by omega⟩))
set_option maxRecDepth 100000 in
theorem cT_isLast {live : Bool} {num start : Int32} (hst : l.stackTraces = false) (hcap : cap < 1000) (ht : ss_txo z a live num start) (h : ss_row V z (a + 1) cap es) {p : Nat} {e : ss_Ent} (hp : es[p]? = some e) : ss_F V l (d + 1) mT_isLastOfItsKey [.ref a, .int (nI p)] z (.int (ss_b (decide (ss_li (ss_pm e.1 start) es = some p)))) := by
  intro Qr Qx hq
  have hL := cR_latest (d := d) hst hcap h e.1 start
  obtain ⟨fk, ft, fv, fe, ⟨h0, h1, h2, h3, h4, h5⟩, he⟩ := h
  have ht : ss_at z a (.inr (1, [.ref (a + 1), .int (ss_b live), .int num, .int start])) := ht
  have hpl := (List.getElem?_eq_some_iff.mp hp).1
  refine ss_C.of hst rfl (by decide) (Nat.le_of_ble_eq_true rfl) ?_
  refine sg_aload_n kT_isLastOfItsKey_0 rfl ?_
  refine sg_get fl_T_14 kT_isLastOfItsKey_1 ht rfl ?_
  refine sg_aload_n kT_isLastOfItsKey_4 rfl ?_
  refine sg_get fl_T_14 kT_isLastOfItsKey_5 ht rfl ?_
  refine sg_get fl_T_34 kT_isLastOfItsKey_8 h0 rfl ?_
  refine sg_iload_n kT_isLastOfItsKey_11 rfl ?_
  refine sg_iald kT_isLastOfItsKey_12 h1 (by omega) (by omega) ?_
  rw [(he p e hp).1]
  refine sg_aload_n kT_isLastOfItsKey_13 rfl ?_
  refine sg_get fl_T_28 kT_isLastOfItsKey_14 ht rfl ?_
  refine sg_fV (As := [.int e.1, .int start]) (rest := []) hL vl_T_38 kT_isLastOfItsKey_17 h0 rfl (by decide) ⟨Nat.le_refl _, by show 8 + (4 + 11) + (30 * d + 60) ≤ 30 * (d + 1) + 60; omega⟩ ⟨Nat.le_refl _, Nat.le_refl _⟩ ?_
  have hx := ss_ix_eq (o := ss_li (ss_pm e.1 start) es) (p := p) (fun j hj => by have := ss_li_lt hj; omega) (by omega)
  refine sg_iload_n kT_isLastOfItsKey_20 rfl ?_
  refine sg_icmp_ne 28 kT_isLastOfItsKey_21 (by decide) (fun hb => ?_) (fun hb => ?_)
  · rw [hx] at hb
    rw [decide_eq_false hb] at hq
    refine sg_iconst (v := 0) kT_isLastOfItsKey_28 (by decide) ?_
    exact sg_iret kT_isLastOfItsKey_29 rfl rfl hq (Nat.le_refl _) (Nat.le_refl _)
  · rw [hx] at hb
    rw [decide_eq_true hb] at hq
    refine sg_iconst (v := 1) kT_isLastOfItsKey_24 (by decide) ?_
    refine sg_goto 29 kT_isLastOfItsKey_25 (by decide) ?_
    exact sg_iret kT_isLastOfItsKey_29 rfl rfl hq (Nat.le_refl _) (Nat.le_refl _)
end SST
