/-! Row: its methods. -/
/-- what a row holds: at r the object, behind it its four arrays of cap places -/
def ss_rowf (V : ss_V) (z : ss_Z) (r cap n : Nat) (fk ft : Nat → Int32) (fv : Nat → Int64) (fe : Nat → Int32) : Prop :=
  ss_at z r (.inr (0, [.ref (r + 1), .ref (r + 2), .ref (r + 3), .ref (r + 4), .int (nI n)])) ∧ ss_at z (r + 1) (.inl (sv_I V, cap, .inl fk)) ∧ ss_at z (r + 2) (.inl (sv_I V, cap, .inl ft)) ∧ ss_at z (r + 3) (.inl (sv_J V, cap, .inr (.inl fv))) ∧ ss_at z (r + 4) (.inl (sv_Z V, cap, .inl fe)) ∧ n ≤ cap
def ss_row (V : ss_V) (z : ss_Z) (r cap : Nat) (es : List ss_Ent) : Prop :=
  ∃ fk ft fv fe, ss_rowf V z r cap es.length fk ft fv fe ∧ ∀ j e, es[j]? = some e → fk j = e.1 ∧ ft j = e.2.1 ∧ fv j = e.2.2.1 ∧ fe j = ss_b e.2.2.2
/-- a row's cells -/
def ss_rcell (r : Nat) : Nat → Prop := fun a => r ≤ a ∧ a < r + 5
theorem ss_row.fr {V : ss_V} {z z' : ss_Z} {r cap : Nat} {es : List ss_Ent} {P : Nat → Prop} (h : ss_row V z r cap es) (f : ss_fr P z z') (hp : ∀ a, P a → ¬ ss_rcell r a) : ss_row V z' r cap es := by
  obtain ⟨fk, ft, fv, fe, ⟨h0, h1, h2, h3, h4, h5⟩, he⟩ := h
  refine ⟨fk, ft, fv, fe, ⟨f.at h0 (fun q => hp _ q ⟨by omega, by omega⟩), f.at h1 (fun q => hp _ q ⟨by omega, by omega⟩), f.at h2 (fun q => hp _ q ⟨by omega, by omega⟩), f.at h3 (fun q => hp _ q ⟨by omega, by omega⟩), f.at h4 (fun q => hp _ q ⟨by omega, by omega⟩), h5⟩, he⟩
/-- a method that changes nothing and gives w -/
def ss_F (V : ss_V) (l : Launch) (d : Nat) (M : ss_M) (av : List Value) (z : ss_Z) (w : Value) : Prop := ∀ Qr Qx, Qr (some w) z → ss_C V l d M 0 0 av z Qr Qx
section SSROW
variable {V : ss_V} {l : Launch} {M : ss_M} {R : Room} {Q : List Frame → Array Value → State → State → Prop} {pc : Nat} {lo : List (Nat × Value)} {st rest : List Value} {z : ss_Z} {k n : Nat}
theorem sg_fV {M2 : ss_M} {d idx ci b : Nat} {As fs : List Value} {w : Value} (hM : ss_F V l d M2 (.ref b :: As) z w) (vl : ss_VL M.1.cls idx M2 ci As.length) (hd : decode M.2.1 pc = .ok (.invokevirtual idx, 3)) (ha : ss_at z b (.inr (ci, fs)))
    (hst : st = As.reverse ++ .ref b :: rest) (h8 : (rest.map fun v => v.category).sum ≤ 8) (hR : d + 1 ≤ R.frames ∧ 8 + (M2.2.2.1 + 11) + (30 * d + 60) ≤ R.locals) (hf : k ≤ R.cells ∧ n ≤ R.slots)
    (kk : ss_G V l M R Q (pc + 3) lo (w :: rest) z k n) : ss_G V l M R Q pc lo st z k n :=
  sg_callV (hM (fun v z' => v = some w ∧ z' = z) (fun _ _ => False) ⟨rfl, rfl⟩) vl hd ha hst h8 hR hf (fun _ _ h => h.elim) (fun v z' h => by
    obtain ⟨rfl, rfl⟩ := h
    exact kk)
theorem sg_fS {M2 : ss_M} {d idx : Nat} {As : List Value} {w : Value} (hM : ss_F V l d M2 As z w) (vl : ss_SL M.1.cls idx M2 As.length) (hd : decode M.2.1 pc = .ok (.invokestatic idx, 3))
    (hst : st = As.reverse ++ rest) (h8 : (rest.map fun v => v.category).sum ≤ 8) (hR : d + 1 ≤ R.frames ∧ 8 + (M2.2.2.1 + 11) + (30 * d + 60) ≤ R.locals) (hf : k ≤ R.cells ∧ n ≤ R.slots)
    (kk : ss_G V l M R Q (pc + 3) lo (w :: rest) z k n) : ss_G V l M R Q pc lo st z k n :=
  sg_callS (hM (fun v z' => v = some w ∧ z' = z) (fun _ _ => False) ⟨rfl, rfl⟩) vl hd hst h8 hR hf (fun _ _ h => h.elim) (fun v z' h => by
    obtain ⟨rfl, rfl⟩ := h
    exact kk)
end SSROW
section SSR1
variable {V : ss_V} {l : Launch} {z : ss_Z} {d r cap : Nat} {es : List ss_Ent}
set_option maxRecDepth 100000 in
theorem cR_latest (hst : l.stackTraces = false) (hcap : cap < 1000) (h : ss_row V z r cap es) (key t : Int32) : ss_F V l d mR_latest [.ref r, .int key, .int t] z (.int (ss_ix (ss_li (ss_pm key t) es))) := by
  intro Qr Qx hq
  obtain ⟨fk, ft, fv, fe, ⟨h0, h1, h2, h3, h4, h5⟩, he⟩ := h
  refine ss_C.of hst rfl (by decide) (Nat.le_of_ble_eq_true rfl) ?_
  have loop : ∀ p, p ≤ es.length → ss_li (ss_pm key t) es = ss_last (ss_hit (ss_pm key t) es) p → ss_G V l mR_latest (ss_rm d 0 0) (ss_Q V Qr Qx 0 0) 7 [(3, .int (nI p - 1)), (0, .ref r), (1, .int key), (2, .int t)] [] z 0 0 := by
    intro p
    induction p with
    | zero =>
      intro _ hp
      rw [hp] at hq
      refine sg_iload_n kR_latest_7 rfl ?_
      refine sg_if_lt 39 kR_latest_8 (by decide) (fun hb => ?_) (fun hb => ?_)
      · refine sg_iconst (v := (-1)) kR_latest_39 (by decide) ?_
        exact sg_iret kR_latest_40 rfl rfl hq (Nat.le_refl _) (Nat.le_refl _)
      · exact absurd (by decide) hb
    | succ q ih =>
      intro hle hp
      rw [nI_pred]
      have hq1 : q < es.length := by omega
      obtain ⟨e1, e2, -, -⟩ := he q es[q] (List.getElem?_eq_getElem hq1)
      have hh : ss_hit (ss_pm key t) es q = ss_pm key t es[q] := ss_hit_some (List.getElem?_eq_getElem hq1)
      have next : ss_pm key t es[q] = false → ss_G V l mR_latest (ss_rm d 0 0) (ss_Q V Qr Qx 0 0) 33 [(3, .int (nI q)), (0, .ref r), (1, .int key), (2, .int t)] [] z 0 0 := by
        intro hf
        refine sg_iinc kR_latest_33 rfl (ss_dec _) (by decide) ?_
        refine sg_goto 7 kR_latest_36 (by decide) ?_
        refine ih (by omega) ?_
        rw [hp]
        show (if _ then _ else _) = _
        rw [hh, hf]
        rfl
      refine sg_iload_n kR_latest_7 rfl ?_
      refine sg_if_lt 39 kR_latest_8 (by decide) (fun hb => ?_) (fun hb => ?_)
      · exact absurd hb (nI_pos (by omega))
      · refine sg_aload_n kR_latest_11 rfl ?_
        refine sg_get fl_R_15 kR_latest_12 h0 rfl ?_
        refine sg_iload_n kR_latest_15 rfl ?_
        refine sg_iald kR_latest_16 h1 (by omega) (by omega) ?_
        refine sg_iload_n kR_latest_17 rfl ?_
        refine sg_icmp_ne 33 kR_latest_18 (by decide) (fun hb => ?_) (fun hb => ?_)
        · refine next ?_
          unfold ss_pm
          rw [e1] at hb
          rw [decide_eq_false hb]
          rfl
        · refine sg_aload_n kR_latest_21 rfl ?_
          refine sg_get fl_R_19 kR_latest_22 h0 rfl ?_
          refine sg_iload_n kR_latest_25 rfl ?_
          refine sg_iald kR_latest_26 h2 (by omega) (by omega) ?_
          refine sg_iload_n kR_latest_27 rfl ?_
          refine sg_icmp_gt 33 kR_latest_28 (by decide) (fun hc => ?_) (fun hc => ?_)
          · refine next ?_
            unfold ss_pm
            rw [e2] at hc
            rw [decide_eq_false (show ¬ es[q].2.1 ≤ t from Int32.not_le.mpr hc), Bool.and_false]
          · refine sg_iload_n kR_latest_31 rfl ?_
            refine sg_iret kR_latest_32 rfl rfl ?_ (Nat.le_refl _) (Nat.le_refl _)
            have : ss_li (ss_pm key t) es = some q := by
              rw [hp]
              show (if _ then _ else _) = _
              rw [hh, if_pos]
              unfold ss_pm
              rw [e1] at hb
              rw [e2] at hc
              rw [decide_eq_true hb, decide_eq_true (show es[q].2.1 ≤ t from Int32.not_lt.mp hc)]
              rfl
            rw [this] at hq
            exact hq
  refine sg_aload_n kR_latest_0 rfl ?_
  refine sg_get fl_R_9 kR_latest_1 h0 rfl ?_
  refine sg_iconst (v := 1) kR_latest_4 (by decide) ?_
  refine sg_isub kR_latest_5 ?_
  refine sg_istore_n kR_latest_6 (by decide) ?_
  exact loop es.length (Nat.le_refl _) rfl
set_option maxRecDepth 100000 in
theorem cR_something (hst : l.stackTraces = false) (hcap : cap < 1000) (h : ss_row V z r cap es) (key t : Int32) : ss_F V l (d + 1) mR_something [.ref r, .int key, .int t] z (.int (ss_ix ((ss_li (ss_pm key t) es).bind (fun j => (es[j]?).bind (fun e => if e.2.2.2 = true then none else some j))))) := by
  intro Qr Qx hq
  have hL := cR_latest (d := d) hst hcap h key t
  obtain ⟨fk, ft, fv, fe, ⟨h0, h1, h2, h3, h4, h5⟩, he⟩ := h
  refine ss_C.of hst rfl (by decide) (Nat.le_of_ble_eq_true rfl) ?_
  refine sg_aload_n kR_something_0 rfl ?_
  refine sg_iload_n kR_something_1 rfl ?_
  refine sg_iload_n kR_something_2 rfl ?_
  refine sg_fV (As := [.int key, .int t]) (rest := []) hL vl_R_30 kR_something_3 h0 rfl (by decide) ⟨Nat.le_refl _, by show 8 + (4 + 11) + (30 * d + 60) ≤ 30 * (d + 1) + 60; omega⟩ ⟨Nat.le_refl _, Nat.le_refl _⟩ ?_
  refine sg_istore_n kR_something_6 (by decide) ?_
  refine sg_iload_n kR_something_7 rfl ?_
  refine sg_iconst (v := (-1)) kR_something_8 (by decide) ?_
  cases hr : ss_li (ss_pm key t) es with
  | none =>
    rw [hr] at hq
    refine sg_icmp_eq 25 kR_something_9 (by decide) (fun hb => ?_) (fun hb => ?_)
    · refine sg_iload_n kR_something_25 rfl ?_
      exact sg_iret kR_something_26 rfl rfl hq (Nat.le_refl _) (Nat.le_refl _)
    · exact absurd rfl hb
  | some j =>
    rw [hr] at hq
    have hj : j < es.length := ss_li_lt hr
    have hg := List.getElem?_eq_getElem hj
    obtain ⟨-, -, -, e4⟩ := he j es[j] hg
    have hq2 : Qr (some (.int (ss_ix (if es[j].2.2.2 = true then none else some j)))) z := by
      have hq3 : Qr (some (.int (ss_ix ((es[j]?).bind (fun e => if e.2.2.2 = true then none else some j))))) z := hq
      rw [hg] at hq3
      exact hq3
    refine sg_icmp_eq 25 kR_something_9 (by decide) (fun hb => ?_) (fun hb => ?_)
    · exact absurd hb (ss_nI_neg (by omega))
    · refine sg_aload_n kR_something_12 rfl ?_
      refine sg_get fl_R_26 kR_something_13 h0 rfl ?_
      refine sg_iload_n kR_something_16 rfl ?_
      refine sg_zald kR_something_17 h4 (by omega) (by omega) ?_
      refine sg_if_eq 25 kR_something_18 (by decide) (fun hc => ?_) (fun hc => ?_)
      · refine sg_iload_n kR_something_25 rfl ?_
        rw [e4, ss_b0] at hc
        rw [hc] at hq2
        exact sg_iret kR_something_26 rfl rfl hq2 (Nat.le_refl _) (Nat.le_refl _)
      · refine sg_iconst (v := (-1)) kR_something_21 (by decide) ?_
        refine sg_goto 26 kR_something_22 (by decide) ?_
        rw [e4, ss_b1] at hc
        rw [hc] at hq2
        exact sg_iret kR_something_26 rfl rfl hq2 (Nat.le_refl _) (Nat.le_refl _)
end SSR1
