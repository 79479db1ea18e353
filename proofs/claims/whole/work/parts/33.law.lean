/-! The law: one case of its switch after the other. Printed by wip/gen/law.py. -/
section SSL
variable {V : ss_V} {l : Launch} {z : ss_Z} {b c k n : Nat} {Q : List Frame → Array Value → State → State → Prop}
/-- the numbers of a state, after c calls -/
def ss_sc (st : ss_St) (c : Nat) : Prop := st.2.2.1 ≤ c ∧ st.2.2.2.1.length ≤ 48 ∧ ∀ i x, st.2.2.2.2 i = some x → x.1 < st.2.2.1
/-- what holds between two calls: class and reference are in one state -/
def ss_inv (V : ss_V) (b c : Nat) (z : ss_Z) : Prop := ∃ (st : ss_St) (th : Int32) (va : Int64) (g : Nat → Int64), ss_XP V z b st ∧ ss_MP V z (b + 43) st th va ∧ ss_at z (b + 55) (.inl (sv_J V, 1, .inr (.inl g))) ∧ ss_sc st c
theorem ss_sc.sm {st : ss_St} (h : ss_sc st c) (hc : c < 1000000) : ss_sm st := ⟨Nat.lt_of_le_of_lt h.1 hc, h.2.1, h.2.2⟩
theorem ss_sc.up {st : ss_St} (h : ss_sc st c) : ss_sc st (c + 1) := ⟨Nat.le_succ_of_le h.1, h.2.1, h.2.2⟩
theorem ss_sc.stx {st : ss_St} (h : ss_sc st c) (i : Nat) {o : Option ss_Tx} (ho : ∀ x, o = some x → x.1 < st.2.2.1) : ss_sc (ss_stx st i o) (c + 1) := by
  refine ⟨Nat.le_succ_of_le h.1, h.2.1, fun j x hx => ?_⟩
  have hx : va_up st.2.2.2.2 i o j = some x := hx
  by_cases hj : j = i
  · subst hj
    rw [va_up_self] at hx
    exact ho x hx
  · rw [va_up_ne _ _ hj] at hx
    exact h.2.2 j x hx
theorem sc_begin {st : ss_St} (h : ss_sc st c) (t : Int32) (cd : Nat) : ss_sc (ss_af cd (nx_begin st t) st) (c + 1) := by
  unfold ss_af
  split
  · unfold nx_begin
    split
    · exact h.up
    · rename_i i hi
      refine ⟨Nat.succ_le_succ h.1, h.2.1, fun j x hx => ?_⟩
      have hx : va_up st.2.2.2.2 i (some (st.2.2.1, t, [])) j = some x := hx
      show x.1 < st.2.2.1 + 1
      by_cases hj : j = i
      · subst hj
        rw [va_up_self] at hx
        cases hx
        exact Nat.lt_succ_self _
      · rw [va_up_ne _ _ hj] at hx
        exact Nat.lt_succ_of_lt (h.2.2 j x hx)
  · exact h.up
theorem sc_lx {st : ss_St} (h : ss_sc st c) {t : Int32} {q : Nat × ss_Tx} (hq : ss_lx st t = some q) : q.2.1 < st.2.2.1 := h.2.2 q.1 q.2 (ss_lx_of (i := q.1) (x := q.2) hq).2.2
theorem sc_write {st : ss_St} (h : ss_sc st c) (t key : Int32) (v : Int64) (er : Bool) (cd : Nat) : ss_sc (ss_af cd (nx_write st t key v er) st) (c + 1) := by
  unfold ss_af
  split
  · unfold nx_write
    split
    · exact h.up
    · rename_i q hq
      exact h.stx q.1 (fun x hx => by cases hx; exact sc_lx h hq)
  · exact h.up
theorem sc_rollback {st : ss_St} (h : ss_sc st c) (t m : Int32) (cd : Nat) : ss_sc (ss_af cd (nx_rollback st t m) st) (c + 1) := by
  unfold ss_af
  split
  · unfold nx_rollback
    split
    · exact h.up
    · rename_i q hq
      exact h.stx q.1 (fun x hx => by cases hx; exact sc_lx h hq)
  · exact h.up
theorem sc_end {st : ss_St} (h : ss_sc st c) (t : Int32) (cd : Nat) : ss_sc (ss_af cd (nx_end st t) st) (c + 1) := by
  unfold ss_af
  split
  · unfold nx_end
    split
    · exact h.up
    · exact h.stx _ (fun x hx => by cases hx)
  · exact h.up
theorem sc_commit {st : ss_St} (h : ss_sc st c) (t : Int32) : ss_sc (ss_af (cd_commit st t) (nx_commit st t).2 st) (c + 1) := by
  by_cases h0 : cd_commit st t = 0
  · rw [h0]
    show ss_sc (nx_commit st t).2 (c + 1)
    unfold cd_commit at h0
    unfold nx_commit
    cases hl : ss_lx st t with
    | none => exact h.up
    | some q =>
      rw [hl] at h0
      dsimp only at h0 ⊢
      by_cases h1 : q.2.2.2.length = 0
      · rw [if_pos h1]
        exact h.stx _ (fun x hx => by cases hx)
      · rw [if_neg h1] at h0 ⊢
        by_cases h2 : ss_ou st.2.2.2.1 q.2 = true
        · rw [if_pos h2]
          exact h.stx _ (fun x hx => by cases hx)
        · rw [if_neg h2] at h0 ⊢
          by_cases h3 : 48 < st.2.2.2.1.length + ss_cnt (ss_isl q.2.2.2) q.2.2.2.length
          · rw [if_pos h3] at h0
            cases h0
          · refine ⟨Nat.le_succ_of_le h.1, ?_, (h.stx q.1 (o := none) (fun x hx => by cases hx)).2.2⟩
            show (st.2.2.2.1 ++ ss_nw (st.1 + 1) q.2.2.2 q.2.2.2.length).length ≤ 48
            rw [List.length_append, ss_nw_len]
            omega
  · unfold ss_af
    rw [if_neg h0]
    exact h.up
theorem ss_vac_len (TT : List Int32) : ∀ p (L : List ss_Ent), (ss_vac TT p L).length ≤ L.length := by
  intro p
  induction p with
  | zero => intro L; exact Nat.le_refl _
  | succ p ih =>
    intro L
    show (ss_vac TT p (if ss_need TT L p = true then L else L.eraseIdx p)).length ≤ L.length
    refine Nat.le_trans (ih _) ?_
    split
    · exact Nat.le_refl _
    · exact List.length_eraseIdx_le _ _
theorem sc_vacuum {st : ss_St} (h : ss_sc st c) : ss_sc (nx_vacuum st) (c + 1) := ⟨Nat.le_succ_of_le h.1, Nat.le_trans (ss_vac_len _ _ _) h.2.1, h.2.2⟩
theorem lg_cmp_self (x : Int64) : lg_cmp x x = 0 := by simp [lg_cmp]
/-! codes are small; what code 0 means -/
theorem cb_begin {st : ss_St} : cd_begin st < 5 := by unfold cd_begin; repeat' split
                                                      all_goals decide
theorem cb_beginAt {st : ss_St} {t : Int32} : cd_beginAt st t < 5 := by unfold cd_beginAt; repeat' split
                                                                        all_goals decide
theorem cb_tx {st : ss_St} {t : Int32} : cd_tx st t < 5 := by unfold cd_tx; repeat' split
                                                              all_goals decide
theorem cb_read {st : ss_St} {t key : Int32} : cd_read st t key < 5 := by unfold cd_read; repeat' split
                                                                          all_goals decide
theorem cb_next {st : ss_St} {t key : Int32} : cd_next st t key < 5 := by unfold cd_next; repeat' split
                                                                          all_goals decide
theorem cb_commit {st : ss_St} {t : Int32} : cd_commit st t < 5 := by unfold cd_commit; repeat' split
                                                                      all_goals decide
theorem cb_key {key : Int32} : cd_key key < 5 := by unfold cd_key; repeat' split
                                                    all_goals decide
theorem cb_timeOf {st : ss_St} {key kk : Int32} : cd_timeOf st key kk < 5 := by unfold cd_timeOf; repeat' split
                                                                                all_goals decide
theorem cb_valueOf {st : ss_St} {key kk : Int32} : cd_valueOf st key kk < 5 := by unfold cd_valueOf; repeat' split
                                                                                  all_goals decide
theorem ce_tx {st : ss_St} {t : Int32} (h : cd_tx st t = 0) : ∃ q, ss_lx st t = some q := by
  unfold cd_tx at h
  cases hl : ss_lx st t with
  | none => rw [hl] at h; cases h
  | some q => exact ⟨q, rfl⟩
theorem ce_read {st : ss_St} {t key : Int32} (h : cd_read st t key = 0) : ∃ q v, ss_lx st t = some q ∧ ss_key key ∧ ss_rd st.2.2.2.1 q.2 key = some v := by
  unfold cd_read at h
  cases hl : ss_lx st t with
  | none => rw [hl] at h; cases h
  | some q =>
    rw [hl] at h
    dsimp only at h
    by_cases hk : ss_key key
    · rw [if_pos hk] at h
      cases hr : ss_rd st.2.2.2.1 q.2 key with
      | none => rw [if_pos hr] at h; cases h
      | some v => exact ⟨q, v, rfl, hk, hr⟩
    · rw [if_neg hk] at h
      cases h
theorem ce_next {st : ss_St} {t key : Int32} (h : cd_next st t key = 0) : ∃ q, ss_lx st t = some q ∧ ss_key key := by
  unfold cd_next at h
  cases hl : ss_lx st t with
  | none => rw [hl] at h; cases h
  | some q =>
    rw [hl] at h
    dsimp only at h
    by_cases hk : ss_key key
    · exact ⟨q, rfl, hk⟩
    · rw [if_neg hk] at h
      cases h
theorem ce_key {key : Int32} (h : cd_key key = 0) : ss_key key := by
  unfold cd_key at h
  by_cases hk : ss_key key
  · exact hk
  · rw [if_neg hk] at h
    cases h
theorem ce_timeOf {st : ss_St} {key kk : Int32} (h : cd_timeOf st key kk = 0) : ∃ e, ss_key key ∧ ss_vs st key kk = some e := by
  unfold cd_timeOf at h
  by_cases hk : ss_key key
  · rw [if_pos hk] at h
    cases hn : ss_nt (ss_hit (ss_pe key) st.2.2.2.1) kk st.2.2.2.1.length 0 with
    | none => rw [if_pos hn] at h; cases h
    | some j =>
      refine ⟨st.2.2.2.1[j]'(ss_nt_lt hn), hk, ?_⟩
      unfold ss_vs
      rw [hn]
      exact List.getElem?_eq_getElem (ss_nt_lt hn)
  · rw [if_neg hk] at h
    cases h
theorem ce_valueOf {st : ss_St} {key kk : Int32} (h : cd_valueOf st key kk = 0) : ∃ e, ss_key key ∧ ss_vs st key kk = some e ∧ e.2.2.2 = false := by
  unfold cd_valueOf at h
  by_cases hk : ss_key key
  · rw [if_pos hk] at h
    cases hv : ss_vs st key kk with
    | none => rw [hv] at h; cases h
    | some e =>
      rw [hv] at h
      dsimp only at h
      by_cases he : e.2.2.2 = true
      · rw [if_pos he] at h
        cases h
      · exact ⟨e, hk, rfl, by simpa using he⟩
  · rw [if_neg hk] at h
    cases h
theorem ss_xo_mc {b : Nat} : ∀ q, ss_xo b (b + 55) q → ¬ ss_mc (b + 43) q := by
  intro q h1 h2
  have h3 := h2.1
  have h4 := h2.2
  rcases h1 with h1 | h1
  · have := h1.2
    omega
  · omega
theorem ss_xc_mc {b : Nat} : ∀ q, ss_xc b q → ¬ ss_mc (b + 43) q := fun q h => ss_xo_mc q (Or.inl h)
theorem ss_mc_xc {b : Nat} : ∀ q, ss_mc (b + 43) q → ¬ ss_xc b q := fun q h1 h2 => ss_xc_mc q h2 h1
theorem ss_oa_xc {b : Nat} : ¬ ss_xc b (b + 55) := fun h => by
  have := h.2
  omega
theorem ss_MP_o {V : ss_V} {z : ss_Z} {a : Nat} {st : ss_St} {th : Int32} {va : Int64} (h : ss_MP V z a st th va) : ∃ fs, ss_at z a (.inr (3, fs)) := by
  obtain ⟨fo, fK, fT, fW, fE, fY, fN, fS, fC, fA, fB, fD, h1, h2, h3⟩ := h
  exact ⟨_, h1.go⟩
theorem ss_oa_mc {b : Nat} : ¬ ss_mc (b + 43) (b + 55) := fun h => by
  have := h.2
  omega
set_option maxRecDepth 100000 in
theorem cK_begin (hst : l.stackTraces = false) (hc : c < 1000000) (hL : 5 * c + 4 < V.2.2.2.2.1) (hL2 : V.2.2.2.2.1 < 2 ^ 31) (hk : k + 4 ≤ 617291) (hn : n + 24 ≤ 7244230) (h : ss_inv V b c z) (next : ∀ z', ss_inv V b (c + 1) z' → ss_G V l mL_law room_1 Q 977 [(4, .int (nI (5 * c))), (3, .ref (b + 55)), (2, .ref (b + 43)), (1, .ref b), (0, .ref V.2.2.2.1)] [] z' (k + 4) (n + 24)) : ss_G V l mL_law room_1 Q 120 [(4, .int (nI (5 * c))), (3, .ref (b + 55)), (2, .ref (b + 43)), (1, .ref b), (0, .ref V.2.2.2.1)] [] z k n := by
  obtain ⟨st, th, va, g0, hX, hM, hO, hsc⟩ := h
  have hsm := hsc.sm hc
  refine sg_aload_n kL_law_120 rfl ?_
  refine sg_aload_n kL_law_121 rfl ?_
  refine sg_callH (As := [.ref b, .ref (b + 55)]) (rest := []) (cL_begin hst hX hO ss_oa_xc  (Qr := fun w z' => w = some (.int (nI (cd_begin st))) ∧ ∃ g, ss_fr (ss_xo b (b + 55)) z z' ∧ ss_XP V z' b (ss_af (cd_begin st) (nx_begin st st.1) st) ∧ ss_at z' (b + 55) (.inl (sv_J V, 1, .inr (.inl g))) ∧ (cd_begin st = 0 → g 0 = (nI st.2.2.1).toInt64)) (Qx := fun _ _ => False) (fun z' g h1 h2 h3 h4 => ⟨rfl, g, h1, h2, h3, h4⟩)) hl_L_70 kL_law_122 rfl (Nat.le_of_ble_eq_true rfl) ⟨by decide, by decide⟩ ⟨hk, hn⟩ (fun _ _ q => q.elim) (fun w z1 hq => ?_)
  obtain ⟨rfl, g, hF1, hX1, hO1, hA1⟩ := hq
  have hM1 := hM.fr hF1 ss_xo_mc
  refine sg_istore kL_law_125 (by decide) ?_
  refine sg_aload_n kL_law_127 rfl ?_
  refine sg_callV (As := []) (rest := []) (cM_begin (d := 9) hst hsm hM1  (Qr := fun w z' => ∃ r, w = some (.int r) ∧ ∃ va', ss_MP V z' (b + 43) (ss_af (cd_begin st) (nx_begin st st.1) st) (nI (cd_begin st)) va' ∧ ss_fr (ss_mc (b + 43)) z1 z' ∧ (cd_begin st = 0 → r = nI st.2.2.1)) (Qx := fun _ _ => False) (fun z' va' r h1 h2 h3 => ⟨r, rfl, va', h1, h2, h3⟩)) vl_L_75 kL_law_128 (ss_MP_o hM1).choose_spec rfl (Nat.le_of_ble_eq_true rfl) ⟨by decide, by decide⟩ ⟨(show k + 4 + 0 ≤ 617291 by omega), (show n + 24 + 0 ≤ 7244230 by omega)⟩ (fun _ _ q => q.elim) (fun w z2 hq => ?_)
  obtain ⟨r, rfl, va', hM2, hF2, hA2⟩ := hq
  have hX2 := hX1.fr hF2 ss_mc_xc
  have hO2 := hF2.at hO1 ss_oa_mc
  have nx : ∀ lo, ss_le [(4, .int (nI (5 * c))), (3, .ref (b + 55)), (2, .ref (b + 43)), (1, .ref b), (0, .ref V.2.2.2.1)] lo → ss_G V l mL_law room_1 Q 977 lo [] z2 (k + 4) (n + 24) := fun lo hlo => sg_lw (next z2 ⟨_, _, _, _, hX2, hM2, hO2, sc_begin hsc st.1 _⟩) hlo
  refine sg_istore kL_law_131 (by decide) ?_
  refine sg_aload_n kL_law_133 rfl ?_
  refine sg_fV (As := []) (rest := []) (cM_thrown (d := 10) hst hM2) vl_L_76 kL_law_134 (ss_MP_o hM2).choose_spec rfl (Nat.le_of_ble_eq_true rfl) ⟨by decide, by decide⟩ ⟨hk, hn⟩ ?_
  refine sg_iload kL_law_137 rfl ?_
  refine sg_icmp_eq 144 kL_law_139 (by decide) (fun hb => ?_) (fun hb => ?_)
  · refine sg_iload kL_law_144 rfl ?_
    refine sg_if_ne 161 kL_law_146 (by decide) (fun hz => ?_) (fun hz => ?_)
    · refine sg_goto 977 kL_law_161 (by decide) ?_
      exact nx _ ⟨rfl, rfl, rfl, rfl, rfl, trivial⟩
    · have h0 : cd_begin st = 0 := (nI_eq (Nat.lt_of_lt_of_le cb_begin (by decide)) (by decide)).mp (show nI _ = nI 0 from hz)
      refine sg_aload_n kL_law_149 rfl ?_
      refine sg_iconst (v := 0) kL_law_150 (by decide) ?_
      refine sg_lald (j := 0) kL_law_151 hO2 (by decide) (by decide) ?_
      refine sg_iload kL_law_152 rfl ?_
      refine sg_i2l kL_law_154 ?_
      rw [hA1 h0, hA2 h0]
      refine sg_lcmp kL_law_155 ?_
      refine sg_i (lg_cmp_self _) ?_
      refine sg_if_eq 161 kL_law_156 (by decide) (fun hy => ?_) (fun hy => ?_)
      · refine sg_goto 977 kL_law_161 (by decide) ?_
        exact nx _ ⟨rfl, rfl, rfl, rfl, rfl, trivial⟩
      · exact absurd rfl hy
  · exact absurd rfl hb
set_option maxRecDepth 100000 in
theorem cK_beginAt (hst : l.stackTraces = false) (hc : c < 1000000) (hL : 5 * c + 4 < V.2.2.2.2.1) (hL2 : V.2.2.2.2.1 < 2 ^ 31) (hk : k + 4 ≤ 617291) (hn : n + 24 ≤ 7244230) (h : ss_inv V b c z) (next : ∀ z', ss_inv V b (c + 1) z' → ss_G V l mL_law room_1 Q 977 [(4, .int (nI (5 * c))), (3, .ref (b + 55)), (2, .ref (b + 43)), (1, .ref b), (0, .ref V.2.2.2.1)] [] z' (k + 4) (n + 24)) : ss_G V l mL_law room_1 Q 164 [(4, .int (nI (5 * c))), (3, .ref (b + 55)), (2, .ref (b + 43)), (1, .ref b), (0, .ref V.2.2.2.1)] [] z k n := by
  obtain ⟨st, th, va, g0, hX, hM, hO, hsc⟩ := h
  have hsm := hsc.sm hc
  refine sg_aload_n kL_law_164 rfl ?_
  refine sg_aload_n kL_law_165 rfl ?_
  refine sg_iload kL_law_166 rfl ?_
  refine sg_iconst (v := 1) kL_law_168 (by decide) ?_
  refine sg_iadd kL_law_169 ?_
  refine sg_i (nI_add (5 * c) 1) ?_
  refine sg_sld kL_law_170 (by omega) hL2 ?_
  refine sg_aload_n kL_law_171 rfl ?_
  refine sg_callH (As := [.ref b, .int (V.2.2.2.2.2 (5 * c + 1)), .ref (b + 55)]) (rest := []) (cL_beginAt hst hX hO ss_oa_xc (V.2.2.2.2.2 (5 * c + 1)) (Qr := fun w z' => w = some (.int (nI (cd_beginAt st (V.2.2.2.2.2 (5 * c + 1))))) ∧ ∃ g, ss_fr (ss_xo b (b + 55)) z z' ∧ ss_XP V z' b (ss_af (cd_beginAt st (V.2.2.2.2.2 (5 * c + 1))) (nx_begin st (V.2.2.2.2.2 (5 * c + 1))) st) ∧ ss_at z' (b + 55) (.inl (sv_J V, 1, .inr (.inl g))) ∧ (cd_beginAt st (V.2.2.2.2.2 (5 * c + 1)) = 0 → g 0 = (nI st.2.2.1).toInt64)) (Qx := fun _ _ => False) (fun z' g h1 h2 h3 h4 => ⟨rfl, g, h1, h2, h3, h4⟩)) hl_L_79 kL_law_172 rfl (Nat.le_of_ble_eq_true rfl) ⟨by decide, by decide⟩ ⟨hk, hn⟩ (fun _ _ q => q.elim) (fun w z1 hq => ?_)
  obtain ⟨rfl, g, hF1, hX1, hO1, hA1⟩ := hq
  have hM1 := hM.fr hF1 ss_xo_mc
  refine sg_istore kL_law_175 (by decide) ?_
  refine sg_aload_n kL_law_177 rfl ?_
  refine sg_aload_n kL_law_178 rfl ?_
  refine sg_iload kL_law_179 rfl ?_
  refine sg_iconst (v := 1) kL_law_181 (by decide) ?_
  refine sg_iadd kL_law_182 ?_
  refine sg_i (nI_add (5 * c) 1) ?_
  refine sg_sld kL_law_183 (by omega) hL2 ?_
  refine sg_callV (As := [.int (V.2.2.2.2.2 (5 * c + 1))]) (rest := []) (cM_beginAt (d := 9) hst hsm hM1 (V.2.2.2.2.2 (5 * c + 1)) (Qr := fun w z' => ∃ r, w = some (.int r) ∧ ∃ va', ss_MP V z' (b + 43) (ss_af (cd_beginAt st (V.2.2.2.2.2 (5 * c + 1))) (nx_begin st (V.2.2.2.2.2 (5 * c + 1))) st) (nI (cd_beginAt st (V.2.2.2.2.2 (5 * c + 1)))) va' ∧ ss_fr (ss_mc (b + 43)) z1 z' ∧ (cd_beginAt st (V.2.2.2.2.2 (5 * c + 1)) = 0 → r = nI st.2.2.1)) (Qx := fun _ _ => False) (fun z' va' r h1 h2 h3 => ⟨r, rfl, va', h1, h2, h3⟩)) vl_L_82 kL_law_184 (ss_MP_o hM1).choose_spec rfl (Nat.le_of_ble_eq_true rfl) ⟨by decide, by decide⟩ ⟨(show k + 4 + 0 ≤ 617291 by omega), (show n + 24 + 0 ≤ 7244230 by omega)⟩ (fun _ _ q => q.elim) (fun w z2 hq => ?_)
  obtain ⟨r, rfl, va', hM2, hF2, hA2⟩ := hq
  have hX2 := hX1.fr hF2 ss_mc_xc
  have hO2 := hF2.at hO1 ss_oa_mc
  have nx : ∀ lo, ss_le [(4, .int (nI (5 * c))), (3, .ref (b + 55)), (2, .ref (b + 43)), (1, .ref b), (0, .ref V.2.2.2.1)] lo → ss_G V l mL_law room_1 Q 977 lo [] z2 (k + 4) (n + 24) := fun lo hlo => sg_lw (next z2 ⟨_, _, _, _, hX2, hM2, hO2, sc_begin hsc (V.2.2.2.2.2 (5 * c + 1)) _⟩) hlo
  refine sg_istore kL_law_187 (by decide) ?_
  refine sg_aload_n kL_law_189 rfl ?_
  refine sg_fV (As := []) (rest := []) (cM_thrown (d := 10) hst hM2) vl_L_76 kL_law_190 (ss_MP_o hM2).choose_spec rfl (Nat.le_of_ble_eq_true rfl) ⟨by decide, by decide⟩ ⟨hk, hn⟩ ?_
  refine sg_iload kL_law_193 rfl ?_
  refine sg_icmp_eq 200 kL_law_195 (by decide) (fun hb => ?_) (fun hb => ?_)
  · refine sg_iload kL_law_200 rfl ?_
    refine sg_if_ne 217 kL_law_202 (by decide) (fun hz => ?_) (fun hz => ?_)
    · refine sg_goto 977 kL_law_217 (by decide) ?_
      exact nx _ ⟨rfl, rfl, rfl, rfl, rfl, trivial⟩
    · have h0 : cd_beginAt st (V.2.2.2.2.2 (5 * c + 1)) = 0 := (nI_eq (Nat.lt_of_lt_of_le cb_beginAt (by decide)) (by decide)).mp (show nI _ = nI 0 from hz)
      refine sg_aload_n kL_law_205 rfl ?_
      refine sg_iconst (v := 0) kL_law_206 (by decide) ?_
      refine sg_lald (j := 0) kL_law_207 hO2 (by decide) (by decide) ?_
      refine sg_iload kL_law_208 rfl ?_
      refine sg_i2l kL_law_210 ?_
      rw [hA1 h0, hA2 h0]
      refine sg_lcmp kL_law_211 ?_
      refine sg_i (lg_cmp_self _) ?_
      refine sg_if_eq 217 kL_law_212 (by decide) (fun hy => ?_) (fun hy => ?_)
      · refine sg_goto 977 kL_law_217 (by decide) ?_
        exact nx _ ⟨rfl, rfl, rfl, rfl, rfl, trivial⟩
      · exact absurd rfl hy
  · exact absurd rfl hb
set_option maxRecDepth 100000 in
theorem cK_read (hst : l.stackTraces = false) (hc : c < 1000000) (hL : 5 * c + 4 < V.2.2.2.2.1) (hL2 : V.2.2.2.2.1 < 2 ^ 31) (hk : k + 4 ≤ 617291) (hn : n + 24 ≤ 7244230) (h : ss_inv V b c z) (next : ∀ z', ss_inv V b (c + 1) z' → ss_G V l mL_law room_1 Q 977 [(4, .int (nI (5 * c))), (3, .ref (b + 55)), (2, .ref (b + 43)), (1, .ref b), (0, .ref V.2.2.2.1)] [] z' (k + 4) (n + 24)) : ss_G V l mL_law room_1 Q 220 [(4, .int (nI (5 * c))), (3, .ref (b + 55)), (2, .ref (b + 43)), (1, .ref b), (0, .ref V.2.2.2.1)] [] z k n := by
  obtain ⟨st, th, va, g0, hX, hM, hO, hsc⟩ := h
  have hsm := hsc.sm hc
  refine sg_aload_n kL_law_220 rfl ?_
  refine sg_aload_n kL_law_221 rfl ?_
  refine sg_iload kL_law_222 rfl ?_
  refine sg_iconst (v := 1) kL_law_224 (by decide) ?_
  refine sg_iadd kL_law_225 ?_
  refine sg_i (nI_add (5 * c) 1) ?_
  refine sg_sld kL_law_226 (by omega) hL2 ?_
  refine sg_aload_n kL_law_227 rfl ?_
  refine sg_iload kL_law_228 rfl ?_
  refine sg_iconst (v := 2) kL_law_230 (by decide) ?_
  refine sg_iadd kL_law_231 ?_
  refine sg_i (nI_add (5 * c) 2) ?_
  refine sg_sld kL_law_232 (by omega) hL2 ?_
  refine sg_aload_n kL_law_233 rfl ?_
  refine sg_callH (As := [.ref b, .int (V.2.2.2.2.2 (5 * c + 1)), .int (V.2.2.2.2.2 (5 * c + 2)), .ref (b + 55)]) (rest := []) (cL_read hst hX hO ss_oa_xc (V.2.2.2.2.2 (5 * c + 1)) (V.2.2.2.2.2 (5 * c + 2)) (Qr := fun w z' => w = some (.int (nI (cd_read st (V.2.2.2.2.2 (5 * c + 1)) (V.2.2.2.2.2 (5 * c + 2))))) ∧ ∃ g, ss_fr (ss_xo b (b + 55)) z z' ∧ ss_XP V z' b st ∧ ss_at z' (b + 55) (.inl (sv_J V, 1, .inr (.inl g))) ∧ (cd_read st (V.2.2.2.2.2 (5 * c + 1)) (V.2.2.2.2.2 (5 * c + 2)) = 0 → ∀ q v, ss_lx st (V.2.2.2.2.2 (5 * c + 1)) = some q → ss_key (V.2.2.2.2.2 (5 * c + 2)) → ss_rd st.2.2.2.1 q.2 (V.2.2.2.2.2 (5 * c + 2)) = some v → g 0 = (v))) (Qx := fun _ _ => False) (fun z' g h1 h2 h3 h4 => ⟨rfl, g, h1, h2, h3, h4⟩)) hl_L_83 kL_law_234 rfl (Nat.le_of_ble_eq_true rfl) ⟨by decide, by decide⟩ ⟨hk, hn⟩ (fun _ _ q => q.elim) (fun w z1 hq => ?_)
  obtain ⟨rfl, g, hF1, hX1, hO1, hA1⟩ := hq
  have hM1 := hM.fr hF1 ss_xo_mc
  refine sg_istore kL_law_237 (by decide) ?_
  refine sg_aload_n kL_law_239 rfl ?_
  refine sg_aload_n kL_law_240 rfl ?_
  refine sg_iload kL_law_241 rfl ?_
  refine sg_iconst (v := 1) kL_law_243 (by decide) ?_
  refine sg_iadd kL_law_244 ?_
  refine sg_i (nI_add (5 * c) 1) ?_
  refine sg_sld kL_law_245 (by omega) hL2 ?_
  refine sg_aload_n kL_law_246 rfl ?_
  refine sg_iload kL_law_247 rfl ?_
  refine sg_iconst (v := 2) kL_law_249 (by decide) ?_
  refine sg_iadd kL_law_250 ?_
  refine sg_i (nI_add (5 * c) 2) ?_
  refine sg_sld kL_law_251 (by omega) hL2 ?_
  refine sg_callV (As := [.int (V.2.2.2.2.2 (5 * c + 1)), .int (V.2.2.2.2.2 (5 * c + 2))]) (rest := []) (cM_read (d := 8) hst hsm hM1 (V.2.2.2.2.2 (5 * c + 1)) (V.2.2.2.2.2 (5 * c + 2)) (Qr := fun w z' => ∃ r, w = some (.long r) ∧ ∃ va', ss_MP V z' (b + 43) st (nI (cd_read st (V.2.2.2.2.2 (5 * c + 1)) (V.2.2.2.2.2 (5 * c + 2)))) va' ∧ ss_fr (ss_mc (b + 43)) z1 z' ∧ (∀ q v, ss_lx st (V.2.2.2.2.2 (5 * c + 1)) = some q → ss_key (V.2.2.2.2.2 (5 * c + 2)) → ss_rd st.2.2.2.1 q.2 (V.2.2.2.2.2 (5 * c + 2)) = some v → r = v)) (Qx := fun _ _ => False) (fun z' va' r h1 h2 h3 => ⟨r, rfl, va', h1, h2, h3⟩)) vl_L_86 kL_law_252 (ss_MP_o hM1).choose_spec rfl (Nat.le_of_ble_eq_true rfl) ⟨by decide, by decide⟩ ⟨(show k + 4 + 0 ≤ 617291 by omega), (show n + 24 + 0 ≤ 7244230 by omega)⟩ (fun _ _ q => q.elim) (fun w z2 hq => ?_)
  obtain ⟨r, rfl, va', hM2, hF2, hA2⟩ := hq
  have hX2 := hX1.fr hF2 ss_mc_xc
  have hO2 := hF2.at hO1 ss_oa_mc
  have nx : ∀ lo, ss_le [(4, .int (nI (5 * c))), (3, .ref (b + 55)), (2, .ref (b + 43)), (1, .ref b), (0, .ref V.2.2.2.1)] lo → ss_G V l mL_law room_1 Q 977 lo [] z2 (k + 4) (n + 24) := fun lo hlo => sg_lw (next z2 ⟨_, _, _, _, hX2, hM2, hO2, hsc.up⟩) hlo
  refine sg_lstore kL_law_255 (by decide) ?_
  refine sg_aload_n kL_law_257 rfl ?_
  refine sg_fV (As := []) (rest := []) (cM_thrown (d := 10) hst hM2) vl_L_76 kL_law_258 (ss_MP_o hM2).choose_spec rfl (Nat.le_of_ble_eq_true rfl) ⟨by decide, by decide⟩ ⟨hk, hn⟩ ?_
  refine sg_iload kL_law_261 rfl ?_
  refine sg_icmp_eq 268 kL_law_263 (by decide) (fun hb => ?_) (fun hb => ?_)
  · refine sg_iload kL_law_268 rfl ?_
    refine sg_if_ne 284 kL_law_270 (by decide) (fun hz => ?_) (fun hz => ?_)
    · refine sg_goto 977 kL_law_284 (by decide) ?_
      exact nx _ ⟨rfl, rfl, rfl, rfl, rfl, trivial⟩
    · have h0 : cd_read st (V.2.2.2.2.2 (5 * c + 1)) (V.2.2.2.2.2 (5 * c + 2)) = 0 := (nI_eq (Nat.lt_of_lt_of_le cb_read (by decide)) (by decide)).mp (show nI _ = nI 0 from hz)
      refine sg_aload_n kL_law_273 rfl ?_
      refine sg_iconst (v := 0) kL_law_274 (by decide) ?_
      refine sg_lald (j := 0) kL_law_275 hO2 (by decide) (by decide) ?_
      refine sg_lload kL_law_276 rfl ?_
      obtain ⟨q, v, e1, e2, e3⟩ := ce_read h0
      rw [hA1 h0 q v e1 e2 e3, hA2 q v e1 e2 e3]
      refine sg_lcmp kL_law_278 ?_
      refine sg_i (lg_cmp_self _) ?_
      refine sg_if_eq 284 kL_law_279 (by decide) (fun hy => ?_) (fun hy => ?_)
      · refine sg_goto 977 kL_law_284 (by decide) ?_
        exact nx _ ⟨rfl, rfl, rfl, rfl, rfl, trivial⟩
      · exact absurd rfl hy
  · exact absurd rfl hb
set_option maxRecDepth 100000 in
theorem cK_write (hst : l.stackTraces = false) (hc : c < 1000000) (hL : 5 * c + 4 < V.2.2.2.2.1) (hL2 : V.2.2.2.2.1 < 2 ^ 31) (hk : k + 4 ≤ 617291) (hn : n + 24 ≤ 7244230) (h : ss_inv V b c z) (next : ∀ z', ss_inv V b (c + 1) z' → ss_G V l mL_law room_1 Q 977 [(4, .int (nI (5 * c))), (3, .ref (b + 55)), (2, .ref (b + 43)), (1, .ref b), (0, .ref V.2.2.2.1)] [] z' (k + 4) (n + 24)) : ss_G V l mL_law room_1 Q 287 [(4, .int (nI (5 * c))), (3, .ref (b + 55)), (2, .ref (b + 43)), (1, .ref b), (0, .ref V.2.2.2.1)] [] z k n := by
  obtain ⟨st, th, va, g0, hX, hM, hO, hsc⟩ := h
  have hsm := hsc.sm hc
  refine sg_aload_n kL_law_287 rfl ?_
  refine sg_aload_n kL_law_288 rfl ?_
  refine sg_iload kL_law_289 rfl ?_
  refine sg_iconst (v := 1) kL_law_291 (by decide) ?_
  refine sg_iadd kL_law_292 ?_
  refine sg_i (nI_add (5 * c) 1) ?_
  refine sg_sld kL_law_293 (by omega) hL2 ?_
  refine sg_aload_n kL_law_294 rfl ?_
  refine sg_iload kL_law_295 rfl ?_
  refine sg_iconst (v := 2) kL_law_297 (by decide) ?_
  refine sg_iadd kL_law_298 ?_
  refine sg_i (nI_add (5 * c) 2) ?_
  refine sg_sld kL_law_299 (by omega) hL2 ?_
  refine sg_aload_n kL_law_300 rfl ?_
  refine sg_iload kL_law_301 rfl ?_
  refine sg_iconst (v := 3) kL_law_303 (by decide) ?_
  refine sg_iadd kL_law_304 ?_
  refine sg_i (nI_add (5 * c) 3) ?_
  refine sg_sld kL_law_305 (by omega) hL2 ?_
  refine sg_i2l kL_law_306 ?_
  refine sg_bipush (v := 32) kL_law_307 (by decide) ?_
  refine sg_lshl kL_law_309 ?_
  refine sg_aload_n kL_law_310 rfl ?_
  refine sg_iload kL_law_311 rfl ?_
  refine sg_iconst (v := 4) kL_law_313 (by decide) ?_
  refine sg_iadd kL_law_314 ?_
  refine sg_i (nI_add (5 * c) 4) ?_
  refine sg_sld kL_law_315 (by omega) hL2 ?_
  refine sg_i2l kL_law_316 ?_
  refine sg_ldc2 lc_L_87 kL_law_317 ?_
  refine sg_land kL_law_320 ?_
  refine sg_lor kL_law_321 ?_
  refine sg_callH (As := [.ref b, .int (V.2.2.2.2.2 (5 * c + 1)), .int (V.2.2.2.2.2 (5 * c + 2)), .long ((V.2.2.2.2.2 (5 * c + 3)).toInt64 <<< ((32 : Int32).toInt64 &&& 63) ||| (V.2.2.2.2.2 (5 * c + 4)).toInt64 &&& 4294967295)]) (rest := []) (cL_write hst hX (V.2.2.2.2.2 (5 * c + 1)) (V.2.2.2.2.2 (5 * c + 2)) ((V.2.2.2.2.2 (5 * c + 3)).toInt64 <<< ((32 : Int32).toInt64 &&& 63) ||| (V.2.2.2.2.2 (5 * c + 4)).toInt64 &&& 4294967295) (Qr := fun w z' => w = some (.int (nI (cd_write st (V.2.2.2.2.2 (5 * c + 1)) (V.2.2.2.2.2 (5 * c + 2))))) ∧ ss_fr (ss_xc b) z z' ∧ ss_XP V z' b (ss_af (cd_write st (V.2.2.2.2.2 (5 * c + 1)) (V.2.2.2.2.2 (5 * c + 2))) (nx_write st (V.2.2.2.2.2 (5 * c + 1)) (V.2.2.2.2.2 (5 * c + 2)) ((V.2.2.2.2.2 (5 * c + 3)).toInt64 <<< ((32 : Int32).toInt64 &&& 63) ||| (V.2.2.2.2.2 (5 * c + 4)).toInt64 &&& 4294967295) false) st)) (Qx := fun _ _ => False) (fun z' h1 h2 => ⟨rfl, h1, h2⟩)) hl_L_89 kL_law_322 rfl (Nat.le_of_ble_eq_true rfl) ⟨by decide, by decide⟩ ⟨hk, hn⟩ (fun _ _ q => q.elim) (fun w z1 hq => ?_)
  obtain ⟨rfl, hF1, hX1⟩ := hq
  have hM1 := hM.fr hF1 ss_xc_mc
  have hO1 := hF1.at hO ss_oa_xc
  refine sg_istore kL_law_325 (by decide) ?_
  refine sg_aload_n kL_law_327 rfl ?_
  refine sg_aload_n kL_law_328 rfl ?_
  refine sg_iload kL_law_329 rfl ?_
  refine sg_iconst (v := 1) kL_law_331 (by decide) ?_
  refine sg_iadd kL_law_332 ?_
  refine sg_i (nI_add (5 * c) 1) ?_
  refine sg_sld kL_law_333 (by omega) hL2 ?_
  refine sg_aload_n kL_law_334 rfl ?_
  refine sg_iload kL_law_335 rfl ?_
  refine sg_iconst (v := 2) kL_law_337 (by decide) ?_
  refine sg_iadd kL_law_338 ?_
  refine sg_i (nI_add (5 * c) 2) ?_
  refine sg_sld kL_law_339 (by omega) hL2 ?_
  refine sg_aload_n kL_law_340 rfl ?_
  refine sg_iload kL_law_341 rfl ?_
  refine sg_iconst (v := 3) kL_law_343 (by decide) ?_
  refine sg_iadd kL_law_344 ?_
  refine sg_i (nI_add (5 * c) 3) ?_
  refine sg_sld kL_law_345 (by omega) hL2 ?_
  refine sg_i2l kL_law_346 ?_
  refine sg_bipush (v := 32) kL_law_347 (by decide) ?_
  refine sg_lshl kL_law_349 ?_
  refine sg_aload_n kL_law_350 rfl ?_
  refine sg_iload kL_law_351 rfl ?_
  refine sg_iconst (v := 4) kL_law_353 (by decide) ?_
  refine sg_iadd kL_law_354 ?_
  refine sg_i (nI_add (5 * c) 4) ?_
  refine sg_sld kL_law_355 (by omega) hL2 ?_
  refine sg_i2l kL_law_356 ?_
  refine sg_ldc2 lc_L_87 kL_law_357 ?_
  refine sg_land kL_law_360 ?_
  refine sg_lor kL_law_361 ?_
  refine sg_callV (As := [.int (V.2.2.2.2.2 (5 * c + 1)), .int (V.2.2.2.2.2 (5 * c + 2)), .long ((V.2.2.2.2.2 (5 * c + 3)).toInt64 <<< ((32 : Int32).toInt64 &&& 63) ||| (V.2.2.2.2.2 (5 * c + 4)).toInt64 &&& 4294967295)]) (rest := []) (cM_write (d := 8) hst hsm hM1 (V.2.2.2.2.2 (5 * c + 1)) (V.2.2.2.2.2 (5 * c + 2)) ((V.2.2.2.2.2 (5 * c + 3)).toInt64 <<< ((32 : Int32).toInt64 &&& 63) ||| (V.2.2.2.2.2 (5 * c + 4)).toInt64 &&& 4294967295) (Qr := fun w z' => w = none ∧ ss_MP V z' (b + 43) (ss_af (cd_write st (V.2.2.2.2.2 (5 * c + 1)) (V.2.2.2.2.2 (5 * c + 2))) (nx_write st (V.2.2.2.2.2 (5 * c + 1)) (V.2.2.2.2.2 (5 * c + 2)) ((V.2.2.2.2.2 (5 * c + 3)).toInt64 <<< ((32 : Int32).toInt64 &&& 63) ||| (V.2.2.2.2.2 (5 * c + 4)).toInt64 &&& 4294967295) false) st) (nI (cd_write st (V.2.2.2.2.2 (5 * c + 1)) (V.2.2.2.2.2 (5 * c + 2)))) va ∧ ss_fr (ss_mc (b + 43)) z1 z') (Qx := fun _ _ => False) (fun z' h1 h2 => ⟨rfl, h1, h2⟩)) vl_L_92 kL_law_362 (ss_MP_o hM1).choose_spec rfl (Nat.le_of_ble_eq_true rfl) ⟨by decide, by decide⟩ ⟨(show k + 4 + 0 ≤ 617291 by omega), (show n + 24 + 0 ≤ 7244230 by omega)⟩ (fun _ _ q => q.elim) (fun w z2 hq => ?_)
  obtain ⟨rfl, hM2, hF2⟩ := hq
  have hX2 := hX1.fr hF2 ss_mc_xc
  have hO2 := hF2.at hO1 ss_oa_mc
  have nx : ∀ lo, ss_le [(4, .int (nI (5 * c))), (3, .ref (b + 55)), (2, .ref (b + 43)), (1, .ref b), (0, .ref V.2.2.2.1)] lo → ss_G V l mL_law room_1 Q 977 lo [] z2 (k + 4) (n + 24) := fun lo hlo => sg_lw (next z2 ⟨_, _, _, _, hX2, hM2, hO2, sc_write hsc (V.2.2.2.2.2 (5 * c + 1)) (V.2.2.2.2.2 (5 * c + 2)) ((V.2.2.2.2.2 (5 * c + 3)).toInt64 <<< ((32 : Int32).toInt64 &&& 63) ||| (V.2.2.2.2.2 (5 * c + 4)).toInt64 &&& 4294967295) false _⟩) hlo
  refine sg_aload_n kL_law_365 rfl ?_
  refine sg_fV (As := []) (rest := []) (cM_thrown (d := 10) hst hM2) vl_L_76 kL_law_366 (ss_MP_o hM2).choose_spec rfl (Nat.le_of_ble_eq_true rfl) ⟨by decide, by decide⟩ ⟨hk, hn⟩ ?_
  refine sg_iload kL_law_369 rfl ?_
  refine sg_icmp_eq 376 kL_law_371 (by decide) (fun hb => ?_) (fun hb => ?_)
  · refine sg_goto 977 kL_law_376 (by decide) ?_
    exact nx _ ⟨rfl, rfl, rfl, rfl, rfl, trivial⟩
  · exact absurd rfl hb
set_option maxRecDepth 100000 in
theorem cK_erase (hst : l.stackTraces = false) (hc : c < 1000000) (hL : 5 * c + 4 < V.2.2.2.2.1) (hL2 : V.2.2.2.2.1 < 2 ^ 31) (hk : k + 4 ≤ 617291) (hn : n + 24 ≤ 7244230) (h : ss_inv V b c z) (next : ∀ z', ss_inv V b (c + 1) z' → ss_G V l mL_law room_1 Q 977 [(4, .int (nI (5 * c))), (3, .ref (b + 55)), (2, .ref (b + 43)), (1, .ref b), (0, .ref V.2.2.2.1)] [] z' (k + 4) (n + 24)) : ss_G V l mL_law room_1 Q 379 [(4, .int (nI (5 * c))), (3, .ref (b + 55)), (2, .ref (b + 43)), (1, .ref b), (0, .ref V.2.2.2.1)] [] z k n := by
  obtain ⟨st, th, va, g0, hX, hM, hO, hsc⟩ := h
  have hsm := hsc.sm hc
  refine sg_aload_n kL_law_379 rfl ?_
  refine sg_aload_n kL_law_380 rfl ?_
  refine sg_iload kL_law_381 rfl ?_
  refine sg_iconst (v := 1) kL_law_383 (by decide) ?_
  refine sg_iadd kL_law_384 ?_
  refine sg_i (nI_add (5 * c) 1) ?_
  refine sg_sld kL_law_385 (by omega) hL2 ?_
  refine sg_aload_n kL_law_386 rfl ?_
  refine sg_iload kL_law_387 rfl ?_
  refine sg_iconst (v := 2) kL_law_389 (by decide) ?_
  refine sg_iadd kL_law_390 ?_
  refine sg_i (nI_add (5 * c) 2) ?_
  refine sg_sld kL_law_391 (by omega) hL2 ?_
  refine sg_callH (As := [.ref b, .int (V.2.2.2.2.2 (5 * c + 1)), .int (V.2.2.2.2.2 (5 * c + 2))]) (rest := []) (cL_erase hst hX (V.2.2.2.2.2 (5 * c + 1)) (V.2.2.2.2.2 (5 * c + 2)) (Qr := fun w z' => w = some (.int (nI (cd_erase st (V.2.2.2.2.2 (5 * c + 1)) (V.2.2.2.2.2 (5 * c + 2))))) ∧ ss_fr (ss_xc b) z z' ∧ ss_XP V z' b (ss_af (cd_erase st (V.2.2.2.2.2 (5 * c + 1)) (V.2.2.2.2.2 (5 * c + 2))) (nx_write st (V.2.2.2.2.2 (5 * c + 1)) (V.2.2.2.2.2 (5 * c + 2)) 0 true) st)) (Qx := fun _ _ => False) (fun z' h1 h2 => ⟨rfl, h1, h2⟩)) hl_L_93 kL_law_392 rfl (Nat.le_of_ble_eq_true rfl) ⟨by decide, by decide⟩ ⟨hk, hn⟩ (fun _ _ q => q.elim) (fun w z1 hq => ?_)
  obtain ⟨rfl, hF1, hX1⟩ := hq
  have hM1 := hM.fr hF1 ss_xc_mc
  have hO1 := hF1.at hO ss_oa_xc
  refine sg_istore kL_law_395 (by decide) ?_
  refine sg_aload_n kL_law_397 rfl ?_
  refine sg_aload_n kL_law_398 rfl ?_
  refine sg_iload kL_law_399 rfl ?_
  refine sg_iconst (v := 1) kL_law_401 (by decide) ?_
  refine sg_iadd kL_law_402 ?_
  refine sg_i (nI_add (5 * c) 1) ?_
  refine sg_sld kL_law_403 (by omega) hL2 ?_
  refine sg_aload_n kL_law_404 rfl ?_
  refine sg_iload kL_law_405 rfl ?_
  refine sg_iconst (v := 2) kL_law_407 (by decide) ?_
  refine sg_iadd kL_law_408 ?_
  refine sg_i (nI_add (5 * c) 2) ?_
  refine sg_sld kL_law_409 (by omega) hL2 ?_
  refine sg_callV (As := [.int (V.2.2.2.2.2 (5 * c + 1)), .int (V.2.2.2.2.2 (5 * c + 2))]) (rest := []) (cM_erase (d := 8) hst hsm hM1 (V.2.2.2.2.2 (5 * c + 1)) (V.2.2.2.2.2 (5 * c + 2)) (Qr := fun w z' => w = none ∧ ∃ va', ss_MP V z' (b + 43) (ss_af (cd_erase st (V.2.2.2.2.2 (5 * c + 1)) (V.2.2.2.2.2 (5 * c + 2))) (nx_write st (V.2.2.2.2.2 (5 * c + 1)) (V.2.2.2.2.2 (5 * c + 2)) 0 true) st) (nI (cd_erase st (V.2.2.2.2.2 (5 * c + 1)) (V.2.2.2.2.2 (5 * c + 2)))) va' ∧ ss_fr (ss_mc (b + 43)) z1 z') (Qx := fun _ _ => False) (fun z' va' h1 h2 => ⟨rfl, va', h1, h2⟩)) vl_L_96 kL_law_410 (ss_MP_o hM1).choose_spec rfl (Nat.le_of_ble_eq_true rfl) ⟨by decide, by decide⟩ ⟨(show k + 4 + 0 ≤ 617291 by omega), (show n + 24 + 0 ≤ 7244230 by omega)⟩ (fun _ _ q => q.elim) (fun w z2 hq => ?_)
  obtain ⟨rfl, va', hM2, hF2⟩ := hq
  have hX2 := hX1.fr hF2 ss_mc_xc
  have hO2 := hF2.at hO1 ss_oa_mc
  have nx : ∀ lo, ss_le [(4, .int (nI (5 * c))), (3, .ref (b + 55)), (2, .ref (b + 43)), (1, .ref b), (0, .ref V.2.2.2.1)] lo → ss_G V l mL_law room_1 Q 977 lo [] z2 (k + 4) (n + 24) := fun lo hlo => sg_lw (next z2 ⟨_, _, _, _, hX2, hM2, hO2, sc_write hsc (V.2.2.2.2.2 (5 * c + 1)) (V.2.2.2.2.2 (5 * c + 2)) 0 true _⟩) hlo
  refine sg_aload_n kL_law_413 rfl ?_
  refine sg_fV (As := []) (rest := []) (cM_thrown (d := 10) hst hM2) vl_L_76 kL_law_414 (ss_MP_o hM2).choose_spec rfl (Nat.le_of_ble_eq_true rfl) ⟨by decide, by decide⟩ ⟨hk, hn⟩ ?_
  refine sg_iload kL_law_417 rfl ?_
  refine sg_icmp_eq 424 kL_law_419 (by decide) (fun hb => ?_) (fun hb => ?_)
  · refine sg_goto 977 kL_law_424 (by decide) ?_
    exact nx _ ⟨rfl, rfl, rfl, rfl, rfl, trivial⟩
  · exact absurd rfl hb
set_option maxRecDepth 100000 in
theorem cK_mark (hst : l.stackTraces = false) (hc : c < 1000000) (hL : 5 * c + 4 < V.2.2.2.2.1) (hL2 : V.2.2.2.2.1 < 2 ^ 31) (hk : k + 4 ≤ 617291) (hn : n + 24 ≤ 7244230) (h : ss_inv V b c z) (next : ∀ z', ss_inv V b (c + 1) z' → ss_G V l mL_law room_1 Q 977 [(4, .int (nI (5 * c))), (3, .ref (b + 55)), (2, .ref (b + 43)), (1, .ref b), (0, .ref V.2.2.2.1)] [] z' (k + 4) (n + 24)) : ss_G V l mL_law room_1 Q 427 [(4, .int (nI (5 * c))), (3, .ref (b + 55)), (2, .ref (b + 43)), (1, .ref b), (0, .ref V.2.2.2.1)] [] z k n := by
  obtain ⟨st, th, va, g0, hX, hM, hO, hsc⟩ := h
  have hsm := hsc.sm hc
  refine sg_aload_n kL_law_427 rfl ?_
  refine sg_aload_n kL_law_428 rfl ?_
  refine sg_iload kL_law_429 rfl ?_
  refine sg_iconst (v := 1) kL_law_431 (by decide) ?_
  refine sg_iadd kL_law_432 ?_
  refine sg_i (nI_add (5 * c) 1) ?_
  refine sg_sld kL_law_433 (by omega) hL2 ?_
  refine sg_aload_n kL_law_434 rfl ?_
  refine sg_callH (As := [.ref b, .int (V.2.2.2.2.2 (5 * c + 1)), .ref (b + 55)]) (rest := []) (cL_mark hst hX hO ss_oa_xc (V.2.2.2.2.2 (5 * c + 1)) (Qr := fun w z' => w = some (.int (nI (cd_tx st (V.2.2.2.2.2 (5 * c + 1))))) ∧ ∃ g, ss_fr (ss_xo b (b + 55)) z z' ∧ ss_XP V z' b st ∧ ss_at z' (b + 55) (.inl (sv_J V, 1, .inr (.inl g))) ∧ (cd_tx st (V.2.2.2.2.2 (5 * c + 1)) = 0 → ∀ q, ss_lx st (V.2.2.2.2.2 (5 * c + 1)) = some q → g 0 = (nI q.2.2.2.length).toInt64)) (Qx := fun _ _ => False) (fun z' g h1 h2 h3 h4 => ⟨rfl, g, h1, h2, h3, h4⟩)) hl_L_97 kL_law_435 rfl (Nat.le_of_ble_eq_true rfl) ⟨by decide, by decide⟩ ⟨hk, hn⟩ (fun _ _ q => q.elim) (fun w z1 hq => ?_)
  obtain ⟨rfl, g, hF1, hX1, hO1, hA1⟩ := hq
  have hM1 := hM.fr hF1 ss_xo_mc
  refine sg_istore kL_law_438 (by decide) ?_
  refine sg_aload_n kL_law_440 rfl ?_
  refine sg_aload_n kL_law_441 rfl ?_
  refine sg_iload kL_law_442 rfl ?_
  refine sg_iconst (v := 1) kL_law_444 (by decide) ?_
  refine sg_iadd kL_law_445 ?_
  refine sg_i (nI_add (5 * c) 1) ?_
  refine sg_sld kL_law_446 (by omega) hL2 ?_
  refine sg_callV (As := [.int (V.2.2.2.2.2 (5 * c + 1))]) (rest := []) (cM_mark (d := 9) hst hsm hM1 (V.2.2.2.2.2 (5 * c + 1)) (Qr := fun w z' => ∃ r, w = some (.int r) ∧ ss_MP V z' (b + 43) st (nI (cd_tx st (V.2.2.2.2.2 (5 * c + 1)))) va ∧ ss_fr (ss_mc (b + 43)) z1 z' ∧ (∀ q, ss_lx st (V.2.2.2.2.2 (5 * c + 1)) = some q → r = nI q.2.2.2.length)) (Qx := fun _ _ => False) (fun z' r h1 h2 h3 => ⟨r, rfl, h1, h2, h3⟩)) vl_L_99 kL_law_447 (ss_MP_o hM1).choose_spec rfl (Nat.le_of_ble_eq_true rfl) ⟨by decide, by decide⟩ ⟨(show k + 4 + 0 ≤ 617291 by omega), (show n + 24 + 0 ≤ 7244230 by omega)⟩ (fun _ _ q => q.elim) (fun w z2 hq => ?_)
  obtain ⟨r, rfl, hM2, hF2, hA2⟩ := hq
  have hX2 := hX1.fr hF2 ss_mc_xc
  have hO2 := hF2.at hO1 ss_oa_mc
  have nx : ∀ lo, ss_le [(4, .int (nI (5 * c))), (3, .ref (b + 55)), (2, .ref (b + 43)), (1, .ref b), (0, .ref V.2.2.2.1)] lo → ss_G V l mL_law room_1 Q 977 lo [] z2 (k + 4) (n + 24) := fun lo hlo => sg_lw (next z2 ⟨_, _, _, _, hX2, hM2, hO2, hsc.up⟩) hlo
  refine sg_istore kL_law_450 (by decide) ?_
  refine sg_aload_n kL_law_452 rfl ?_
  refine sg_fV (As := []) (rest := []) (cM_thrown (d := 10) hst hM2) vl_L_76 kL_law_453 (ss_MP_o hM2).choose_spec rfl (Nat.le_of_ble_eq_true rfl) ⟨by decide, by decide⟩ ⟨hk, hn⟩ ?_
  refine sg_iload kL_law_456 rfl ?_
  refine sg_icmp_eq 463 kL_law_458 (by decide) (fun hb => ?_) (fun hb => ?_)
  · refine sg_iload kL_law_463 rfl ?_
    refine sg_if_ne 480 kL_law_465 (by decide) (fun hz => ?_) (fun hz => ?_)
    · refine sg_goto 977 kL_law_480 (by decide) ?_
      exact nx _ ⟨rfl, rfl, rfl, rfl, rfl, trivial⟩
    · have h0 : cd_tx st (V.2.2.2.2.2 (5 * c + 1)) = 0 := (nI_eq (Nat.lt_of_lt_of_le cb_tx (by decide)) (by decide)).mp (show nI _ = nI 0 from hz)
      refine sg_aload_n kL_law_468 rfl ?_
      refine sg_iconst (v := 0) kL_law_469 (by decide) ?_
      refine sg_lald (j := 0) kL_law_470 hO2 (by decide) (by decide) ?_
      refine sg_iload kL_law_471 rfl ?_
      refine sg_i2l kL_law_473 ?_
      obtain ⟨q, e1⟩ := ce_tx h0
      rw [hA1 h0 q e1, hA2 q e1]
      refine sg_lcmp kL_law_474 ?_
      refine sg_i (lg_cmp_self _) ?_
      refine sg_if_eq 480 kL_law_475 (by decide) (fun hy => ?_) (fun hy => ?_)
      · refine sg_goto 977 kL_law_480 (by decide) ?_
        exact nx _ ⟨rfl, rfl, rfl, rfl, rfl, trivial⟩
      · exact absurd rfl hy
  · exact absurd rfl hb
set_option maxRecDepth 100000 in
theorem cK_rollback (hst : l.stackTraces = false) (hc : c < 1000000) (hL : 5 * c + 4 < V.2.2.2.2.1) (hL2 : V.2.2.2.2.1 < 2 ^ 31) (hk : k + 4 ≤ 617291) (hn : n + 24 ≤ 7244230) (h : ss_inv V b c z) (next : ∀ z', ss_inv V b (c + 1) z' → ss_G V l mL_law room_1 Q 977 [(4, .int (nI (5 * c))), (3, .ref (b + 55)), (2, .ref (b + 43)), (1, .ref b), (0, .ref V.2.2.2.1)] [] z' (k + 4) (n + 24)) : ss_G V l mL_law room_1 Q 483 [(4, .int (nI (5 * c))), (3, .ref (b + 55)), (2, .ref (b + 43)), (1, .ref b), (0, .ref V.2.2.2.1)] [] z k n := by
  obtain ⟨st, th, va, g0, hX, hM, hO, hsc⟩ := h
  have hsm := hsc.sm hc
  refine sg_aload_n kL_law_483 rfl ?_
  refine sg_aload_n kL_law_484 rfl ?_
  refine sg_iload kL_law_485 rfl ?_
  refine sg_iconst (v := 1) kL_law_487 (by decide) ?_
  refine sg_iadd kL_law_488 ?_
  refine sg_i (nI_add (5 * c) 1) ?_
  refine sg_sld kL_law_489 (by omega) hL2 ?_
  refine sg_aload_n kL_law_490 rfl ?_
  refine sg_iload kL_law_491 rfl ?_
  refine sg_iconst (v := 2) kL_law_493 (by decide) ?_
  refine sg_iadd kL_law_494 ?_
  refine sg_i (nI_add (5 * c) 2) ?_
  refine sg_sld kL_law_495 (by omega) hL2 ?_
  refine sg_callH (As := [.ref b, .int (V.2.2.2.2.2 (5 * c + 1)), .int (V.2.2.2.2.2 (5 * c + 2))]) (rest := []) (cL_rollback hst hX (V.2.2.2.2.2 (5 * c + 1)) (V.2.2.2.2.2 (5 * c + 2)) (Qr := fun w z' => w = some (.int (nI (cd_rollback st (V.2.2.2.2.2 (5 * c + 1)) (V.2.2.2.2.2 (5 * c + 2))))) ∧ ss_fr (ss_xc b) z z' ∧ ss_XP V z' b (ss_af (cd_rollback st (V.2.2.2.2.2 (5 * c + 1)) (V.2.2.2.2.2 (5 * c + 2))) (nx_rollback st (V.2.2.2.2.2 (5 * c + 1)) (V.2.2.2.2.2 (5 * c + 2))) st)) (Qx := fun _ _ => False) (fun z' h1 h2 => ⟨rfl, h1, h2⟩)) hl_L_100 kL_law_496 rfl (Nat.le_of_ble_eq_true rfl) ⟨by decide, by decide⟩ ⟨hk, hn⟩ (fun _ _ q => q.elim) (fun w z1 hq => ?_)
  obtain ⟨rfl, hF1, hX1⟩ := hq
  have hM1 := hM.fr hF1 ss_xc_mc
  have hO1 := hF1.at hO ss_oa_xc
  refine sg_istore kL_law_499 (by decide) ?_
  refine sg_aload_n kL_law_501 rfl ?_
  refine sg_aload_n kL_law_502 rfl ?_
  refine sg_iload kL_law_503 rfl ?_
  refine sg_iconst (v := 1) kL_law_505 (by decide) ?_
  refine sg_iadd kL_law_506 ?_
  refine sg_i (nI_add (5 * c) 1) ?_
  refine sg_sld kL_law_507 (by omega) hL2 ?_
  refine sg_aload_n kL_law_508 rfl ?_
  refine sg_iload kL_law_509 rfl ?_
  refine sg_iconst (v := 2) kL_law_511 (by decide) ?_
  refine sg_iadd kL_law_512 ?_
  refine sg_i (nI_add (5 * c) 2) ?_
  refine sg_sld kL_law_513 (by omega) hL2 ?_
  refine sg_callV (As := [.int (V.2.2.2.2.2 (5 * c + 1)), .int (V.2.2.2.2.2 (5 * c + 2))]) (rest := []) (cM_rollback (d := 9) hst hsm hM1 (V.2.2.2.2.2 (5 * c + 1)) (V.2.2.2.2.2 (5 * c + 2)) (Qr := fun w z' => w = none ∧ ss_MP V z' (b + 43) (ss_af (cd_rollback st (V.2.2.2.2.2 (5 * c + 1)) (V.2.2.2.2.2 (5 * c + 2))) (nx_rollback st (V.2.2.2.2.2 (5 * c + 1)) (V.2.2.2.2.2 (5 * c + 2))) st) (nI (cd_rollback st (V.2.2.2.2.2 (5 * c + 1)) (V.2.2.2.2.2 (5 * c + 2)))) va ∧ ss_fr (ss_mc (b + 43)) z1 z') (Qx := fun _ _ => False) (fun z' h1 h2 => ⟨rfl, h1, h2⟩)) vl_L_102 kL_law_514 (ss_MP_o hM1).choose_spec rfl (Nat.le_of_ble_eq_true rfl) ⟨by decide, by decide⟩ ⟨(show k + 4 + 0 ≤ 617291 by omega), (show n + 24 + 0 ≤ 7244230 by omega)⟩ (fun _ _ q => q.elim) (fun w z2 hq => ?_)
  obtain ⟨rfl, hM2, hF2⟩ := hq
  have hX2 := hX1.fr hF2 ss_mc_xc
  have hO2 := hF2.at hO1 ss_oa_mc
  have nx : ∀ lo, ss_le [(4, .int (nI (5 * c))), (3, .ref (b + 55)), (2, .ref (b + 43)), (1, .ref b), (0, .ref V.2.2.2.1)] lo → ss_G V l mL_law room_1 Q 977 lo [] z2 (k + 4) (n + 24) := fun lo hlo => sg_lw (next z2 ⟨_, _, _, _, hX2, hM2, hO2, sc_rollback hsc (V.2.2.2.2.2 (5 * c + 1)) (V.2.2.2.2.2 (5 * c + 2)) _⟩) hlo
  refine sg_aload_n kL_law_517 rfl ?_
  refine sg_fV (As := []) (rest := []) (cM_thrown (d := 10) hst hM2) vl_L_76 kL_law_518 (ss_MP_o hM2).choose_spec rfl (Nat.le_of_ble_eq_true rfl) ⟨by decide, by decide⟩ ⟨hk, hn⟩ ?_
  refine sg_iload kL_law_521 rfl ?_
  refine sg_icmp_eq 528 kL_law_523 (by decide) (fun hb => ?_) (fun hb => ?_)
  · refine sg_goto 977 kL_law_528 (by decide) ?_
    exact nx _ ⟨rfl, rfl, rfl, rfl, rfl, trivial⟩
  · exact absurd rfl hb
set_option maxRecDepth 100000 in
theorem cK_next (hst : l.stackTraces = false) (hc : c < 1000000) (hL : 5 * c + 4 < V.2.2.2.2.1) (hL2 : V.2.2.2.2.1 < 2 ^ 31) (hk : k + 4 ≤ 617291) (hn : n + 24 ≤ 7244230) (h : ss_inv V b c z) (next : ∀ z', ss_inv V b (c + 1) z' → ss_G V l mL_law room_1 Q 977 [(4, .int (nI (5 * c))), (3, .ref (b + 55)), (2, .ref (b + 43)), (1, .ref b), (0, .ref V.2.2.2.1)] [] z' (k + 4) (n + 24)) : ss_G V l mL_law room_1 Q 531 [(4, .int (nI (5 * c))), (3, .ref (b + 55)), (2, .ref (b + 43)), (1, .ref b), (0, .ref V.2.2.2.1)] [] z k n := by
  obtain ⟨st, th, va, g0, hX, hM, hO, hsc⟩ := h
  have hsm := hsc.sm hc
  refine sg_aload_n kL_law_531 rfl ?_
  refine sg_aload_n kL_law_532 rfl ?_
  refine sg_iload kL_law_533 rfl ?_
  refine sg_iconst (v := 1) kL_law_535 (by decide) ?_
  refine sg_iadd kL_law_536 ?_
  refine sg_i (nI_add (5 * c) 1) ?_
  refine sg_sld kL_law_537 (by omega) hL2 ?_
  refine sg_aload_n kL_law_538 rfl ?_
  refine sg_iload kL_law_539 rfl ?_
  refine sg_iconst (v := 2) kL_law_541 (by decide) ?_
  refine sg_iadd kL_law_542 ?_
  refine sg_i (nI_add (5 * c) 2) ?_
  refine sg_sld kL_law_543 (by omega) hL2 ?_
  refine sg_aload_n kL_law_544 rfl ?_
  refine sg_callH (As := [.ref b, .int (V.2.2.2.2.2 (5 * c + 1)), .int (V.2.2.2.2.2 (5 * c + 2)), .ref (b + 55)]) (rest := []) (cL_next hst hX hO ss_oa_xc (V.2.2.2.2.2 (5 * c + 1)) (V.2.2.2.2.2 (5 * c + 2)) (Qr := fun w z' => w = some (.int (nI (cd_next st (V.2.2.2.2.2 (5 * c + 1)) (V.2.2.2.2.2 (5 * c + 2))))) ∧ ∃ g, ss_fr (ss_xo b (b + 55)) z z' ∧ ss_XP V z' b st ∧ ss_at z' (b + 55) (.inl (sv_J V, 1, .inr (.inl g))) ∧ (cd_next st (V.2.2.2.2.2 (5 * c + 1)) (V.2.2.2.2.2 (5 * c + 2)) = 0 → ∀ q, ss_lx st (V.2.2.2.2.2 (5 * c + 1)) = some q → ss_key (V.2.2.2.2.2 (5 * c + 2)) → g 0 = (ss_ix (ss_nx st q.2 (V.2.2.2.2.2 (5 * c + 2)))).toInt64)) (Qx := fun _ _ => False) (fun z' g h1 h2 h3 h4 => ⟨rfl, g, h1, h2, h3, h4⟩)) hl_L_103 kL_law_545 rfl (Nat.le_of_ble_eq_true rfl) ⟨by decide, by decide⟩ ⟨hk, hn⟩ (fun _ _ q => q.elim) (fun w z1 hq => ?_)
  obtain ⟨rfl, g, hF1, hX1, hO1, hA1⟩ := hq
  have hM1 := hM.fr hF1 ss_xo_mc
  refine sg_istore kL_law_548 (by decide) ?_
  refine sg_aload_n kL_law_550 rfl ?_
  refine sg_aload_n kL_law_551 rfl ?_
  refine sg_iload kL_law_552 rfl ?_
  refine sg_iconst (v := 1) kL_law_554 (by decide) ?_
  refine sg_iadd kL_law_555 ?_
  refine sg_i (nI_add (5 * c) 1) ?_
  refine sg_sld kL_law_556 (by omega) hL2 ?_
  refine sg_aload_n kL_law_557 rfl ?_
  refine sg_iload kL_law_558 rfl ?_
  refine sg_iconst (v := 2) kL_law_560 (by decide) ?_
  refine sg_iadd kL_law_561 ?_
  refine sg_i (nI_add (5 * c) 2) ?_
  refine sg_sld kL_law_562 (by omega) hL2 ?_
  refine sg_callV (As := [.int (V.2.2.2.2.2 (5 * c + 1)), .int (V.2.2.2.2.2 (5 * c + 2))]) (rest := []) (cM_next (d := 8) hst hsm hM1 (V.2.2.2.2.2 (5 * c + 1)) (V.2.2.2.2.2 (5 * c + 2)) (Qr := fun w z' => ∃ r, w = some (.int r) ∧ ∃ va', ss_MP V z' (b + 43) st (nI (cd_next st (V.2.2.2.2.2 (5 * c + 1)) (V.2.2.2.2.2 (5 * c + 2)))) va' ∧ ss_fr (ss_mc (b + 43)) z1 z' ∧ (∀ q, ss_lx st (V.2.2.2.2.2 (5 * c + 1)) = some q → ss_key (V.2.2.2.2.2 (5 * c + 2)) → r = ss_ix (ss_nx st q.2 (V.2.2.2.2.2 (5 * c + 2))))) (Qx := fun _ _ => False) (fun z' va' r h1 h2 h3 => ⟨r, rfl, va', h1, h2, h3⟩)) vl_L_105 kL_law_563 (ss_MP_o hM1).choose_spec rfl (Nat.le_of_ble_eq_true rfl) ⟨by decide, by decide⟩ ⟨(show k + 4 + 0 ≤ 617291 by omega), (show n + 24 + 0 ≤ 7244230 by omega)⟩ (fun _ _ q => q.elim) (fun w z2 hq => ?_)
  obtain ⟨r, rfl, va', hM2, hF2, hA2⟩ := hq
  have hX2 := hX1.fr hF2 ss_mc_xc
  have hO2 := hF2.at hO1 ss_oa_mc
  have nx : ∀ lo, ss_le [(4, .int (nI (5 * c))), (3, .ref (b + 55)), (2, .ref (b + 43)), (1, .ref b), (0, .ref V.2.2.2.1)] lo → ss_G V l mL_law room_1 Q 977 lo [] z2 (k + 4) (n + 24) := fun lo hlo => sg_lw (next z2 ⟨_, _, _, _, hX2, hM2, hO2, hsc.up⟩) hlo
  refine sg_istore kL_law_566 (by decide) ?_
  refine sg_aload_n kL_law_568 rfl ?_
  refine sg_fV (As := []) (rest := []) (cM_thrown (d := 10) hst hM2) vl_L_76 kL_law_569 (ss_MP_o hM2).choose_spec rfl (Nat.le_of_ble_eq_true rfl) ⟨by decide, by decide⟩ ⟨hk, hn⟩ ?_
  refine sg_iload kL_law_572 rfl ?_
  refine sg_icmp_eq 579 kL_law_574 (by decide) (fun hb => ?_) (fun hb => ?_)
  · refine sg_iload kL_law_579 rfl ?_
    refine sg_if_ne 596 kL_law_581 (by decide) (fun hz => ?_) (fun hz => ?_)
    · refine sg_goto 977 kL_law_596 (by decide) ?_
      exact nx _ ⟨rfl, rfl, rfl, rfl, rfl, trivial⟩
    · have h0 : cd_next st (V.2.2.2.2.2 (5 * c + 1)) (V.2.2.2.2.2 (5 * c + 2)) = 0 := (nI_eq (Nat.lt_of_lt_of_le cb_next (by decide)) (by decide)).mp (show nI _ = nI 0 from hz)
      refine sg_aload_n kL_law_584 rfl ?_
      refine sg_iconst (v := 0) kL_law_585 (by decide) ?_
      refine sg_lald (j := 0) kL_law_586 hO2 (by decide) (by decide) ?_
      refine sg_iload kL_law_587 rfl ?_
      refine sg_i2l kL_law_589 ?_
      obtain ⟨q, e1, e2⟩ := ce_next h0
      rw [hA1 h0 q e1 e2, hA2 q e1 e2]
      refine sg_lcmp kL_law_590 ?_
      refine sg_i (lg_cmp_self _) ?_
      refine sg_if_eq 596 kL_law_591 (by decide) (fun hy => ?_) (fun hy => ?_)
      · refine sg_goto 977 kL_law_596 (by decide) ?_
        exact nx _ ⟨rfl, rfl, rfl, rfl, rfl, trivial⟩
      · exact absurd rfl hy
  · exact absurd rfl hb
set_option maxRecDepth 100000 in
theorem cK_commit (hst : l.stackTraces = false) (hc : c < 1000000) (hL : 5 * c + 4 < V.2.2.2.2.1) (hL2 : V.2.2.2.2.1 < 2 ^ 31) (hk : k + 4 ≤ 617291) (hn : n + 24 ≤ 7244230) (h : ss_inv V b c z) (next : ∀ z', ss_inv V b (c + 1) z' → ss_G V l mL_law room_1 Q 977 [(4, .int (nI (5 * c))), (3, .ref (b + 55)), (2, .ref (b + 43)), (1, .ref b), (0, .ref V.2.2.2.1)] [] z' (k + 4) (n + 24)) : ss_G V l mL_law room_1 Q 599 [(4, .int (nI (5 * c))), (3, .ref (b + 55)), (2, .ref (b + 43)), (1, .ref b), (0, .ref V.2.2.2.1)] [] z k n := by
  obtain ⟨st, th, va, g0, hX, hM, hO, hsc⟩ := h
  have hsm := hsc.sm hc
  refine sg_aload_n kL_law_599 rfl ?_
  refine sg_aload_n kL_law_600 rfl ?_
  refine sg_iload kL_law_601 rfl ?_
  refine sg_iconst (v := 1) kL_law_603 (by decide) ?_
  refine sg_iadd kL_law_604 ?_
  refine sg_i (nI_add (5 * c) 1) ?_
  refine sg_sld kL_law_605 (by omega) hL2 ?_
  refine sg_aload_n kL_law_606 rfl ?_
  refine sg_callH (As := [.ref b, .int (V.2.2.2.2.2 (5 * c + 1)), .ref (b + 55)]) (rest := []) (cL_commit hst hX hO ss_oa_xc (V.2.2.2.2.2 (5 * c + 1)) (Qr := fun w z' => w = some (.int (nI (cd_commit st (V.2.2.2.2.2 (5 * c + 1))))) ∧ ∃ g, ss_fr (ss_xo b (b + 55)) z z' ∧ ss_XP V z' b (ss_af (cd_commit st (V.2.2.2.2.2 (5 * c + 1))) ((nx_commit st (V.2.2.2.2.2 (5 * c + 1))).2) st) ∧ ss_at z' (b + 55) (.inl (sv_J V, 1, .inr (.inl g))) ∧ (cd_commit st (V.2.2.2.2.2 (5 * c + 1)) = 0 → g 0 = ((nx_commit st (V.2.2.2.2.2 (5 * c + 1))).1).toInt64)) (Qx := fun _ _ => False) (fun z' g h1 h2 h3 h4 => ⟨rfl, g, h1, h2, h3, h4⟩)) hl_L_106 kL_law_607 rfl (Nat.le_of_ble_eq_true rfl) ⟨by decide, by decide⟩ ⟨hk, hn⟩ (fun _ _ q => q.elim) (fun w z1 hq => ?_)
  obtain ⟨rfl, g, hF1, hX1, hO1, hA1⟩ := hq
  have hM1 := hM.fr hF1 ss_xo_mc
  refine sg_istore kL_law_610 (by decide) ?_
  refine sg_aload_n kL_law_612 rfl ?_
  refine sg_aload_n kL_law_613 rfl ?_
  refine sg_iload kL_law_614 rfl ?_
  refine sg_iconst (v := 1) kL_law_616 (by decide) ?_
  refine sg_iadd kL_law_617 ?_
  refine sg_i (nI_add (5 * c) 1) ?_
  refine sg_sld kL_law_618 (by omega) hL2 ?_
  refine sg_callV (As := [.int (V.2.2.2.2.2 (5 * c + 1))]) (rest := []) (cM_commit (d := 9) hst hsm hM1 (V.2.2.2.2.2 (5 * c + 1)) (Qr := fun w z' => ∃ r, w = some (.int r) ∧ ss_MP V z' (b + 43) (ss_af (cd_commit st (V.2.2.2.2.2 (5 * c + 1))) ((nx_commit st (V.2.2.2.2.2 (5 * c + 1))).2) st) (nI (cd_commit st (V.2.2.2.2.2 (5 * c + 1)))) va ∧ ss_fr (ss_mc (b + 43)) z1 z' ∧ (cd_commit st (V.2.2.2.2.2 (5 * c + 1)) = 0 → r = (nx_commit st (V.2.2.2.2.2 (5 * c + 1))).1)) (Qx := fun _ _ => False) (fun z' r h1 h2 h3 => ⟨r, rfl, h1, h2, h3⟩)) vl_L_108 kL_law_619 (ss_MP_o hM1).choose_spec rfl (Nat.le_of_ble_eq_true rfl) ⟨by decide, by decide⟩ ⟨(show k + 4 + 0 ≤ 617291 by omega), (show n + 24 + 0 ≤ 7244230 by omega)⟩ (fun _ _ q => q.elim) (fun w z2 hq => ?_)
  obtain ⟨r, rfl, hM2, hF2, hA2⟩ := hq
  have hX2 := hX1.fr hF2 ss_mc_xc
  have hO2 := hF2.at hO1 ss_oa_mc
  have nx : ∀ lo, ss_le [(4, .int (nI (5 * c))), (3, .ref (b + 55)), (2, .ref (b + 43)), (1, .ref b), (0, .ref V.2.2.2.1)] lo → ss_G V l mL_law room_1 Q 977 lo [] z2 (k + 4) (n + 24) := fun lo hlo => sg_lw (next z2 ⟨_, _, _, _, hX2, hM2, hO2, sc_commit hsc (V.2.2.2.2.2 (5 * c + 1))⟩) hlo
  refine sg_istore kL_law_622 (by decide) ?_
  refine sg_aload_n kL_law_624 rfl ?_
  refine sg_fV (As := []) (rest := []) (cM_thrown (d := 10) hst hM2) vl_L_76 kL_law_625 (ss_MP_o hM2).choose_spec rfl (Nat.le_of_ble_eq_true rfl) ⟨by decide, by decide⟩ ⟨hk, hn⟩ ?_
  refine sg_iload kL_law_628 rfl ?_
  refine sg_icmp_eq 635 kL_law_630 (by decide) (fun hb => ?_) (fun hb => ?_)
  · refine sg_iload kL_law_635 rfl ?_
    refine sg_if_ne 652 kL_law_637 (by decide) (fun hz => ?_) (fun hz => ?_)
    · refine sg_goto 977 kL_law_652 (by decide) ?_
      exact nx _ ⟨rfl, rfl, rfl, rfl, rfl, trivial⟩
    · have h0 : cd_commit st (V.2.2.2.2.2 (5 * c + 1)) = 0 := (nI_eq (Nat.lt_of_lt_of_le cb_commit (by decide)) (by decide)).mp (show nI _ = nI 0 from hz)
      refine sg_aload_n kL_law_640 rfl ?_
      refine sg_iconst (v := 0) kL_law_641 (by decide) ?_
      refine sg_lald (j := 0) kL_law_642 hO2 (by decide) (by decide) ?_
      refine sg_iload kL_law_643 rfl ?_
      refine sg_i2l kL_law_645 ?_
      rw [hA1 h0, hA2 h0]
      refine sg_lcmp kL_law_646 ?_
      refine sg_i (lg_cmp_self _) ?_
      refine sg_if_eq 652 kL_law_647 (by decide) (fun hy => ?_) (fun hy => ?_)
      · refine sg_goto 977 kL_law_652 (by decide) ?_
        exact nx _ ⟨rfl, rfl, rfl, rfl, rfl, trivial⟩
      · exact absurd rfl hy
  · exact absurd rfl hb
set_option maxRecDepth 100000 in
theorem cK_abort (hst : l.stackTraces = false) (hc : c < 1000000) (hL : 5 * c + 4 < V.2.2.2.2.1) (hL2 : V.2.2.2.2.1 < 2 ^ 31) (hk : k + 4 ≤ 617291) (hn : n + 24 ≤ 7244230) (h : ss_inv V b c z) (next : ∀ z', ss_inv V b (c + 1) z' → ss_G V l mL_law room_1 Q 977 [(4, .int (nI (5 * c))), (3, .ref (b + 55)), (2, .ref (b + 43)), (1, .ref b), (0, .ref V.2.2.2.1)] [] z' (k + 4) (n + 24)) : ss_G V l mL_law room_1 Q 655 [(4, .int (nI (5 * c))), (3, .ref (b + 55)), (2, .ref (b + 43)), (1, .ref b), (0, .ref V.2.2.2.1)] [] z k n := by
  obtain ⟨st, th, va, g0, hX, hM, hO, hsc⟩ := h
  have hsm := hsc.sm hc
  refine sg_aload_n kL_law_655 rfl ?_
  refine sg_aload_n kL_law_656 rfl ?_
  refine sg_iload kL_law_657 rfl ?_
  refine sg_iconst (v := 1) kL_law_659 (by decide) ?_
  refine sg_iadd kL_law_660 ?_
  refine sg_i (nI_add (5 * c) 1) ?_
  refine sg_sld kL_law_661 (by omega) hL2 ?_
  refine sg_callH (As := [.ref b, .int (V.2.2.2.2.2 (5 * c + 1))]) (rest := []) (cL_abort hst hX (V.2.2.2.2.2 (5 * c + 1)) (Qr := fun w z' => w = some (.int (nI (cd_tx st (V.2.2.2.2.2 (5 * c + 1))))) ∧ ss_fr (ss_xc b) z z' ∧ ss_XP V z' b (ss_af (cd_tx st (V.2.2.2.2.2 (5 * c + 1))) (nx_end st (V.2.2.2.2.2 (5 * c + 1))) st)) (Qx := fun _ _ => False) (fun z' h1 h2 => ⟨rfl, h1, h2⟩)) hl_L_109 kL_law_662 rfl (Nat.le_of_ble_eq_true rfl) ⟨by decide, by decide⟩ ⟨hk, hn⟩ (fun _ _ q => q.elim) (fun w z1 hq => ?_)
  obtain ⟨rfl, hF1, hX1⟩ := hq
  have hM1 := hM.fr hF1 ss_xc_mc
  have hO1 := hF1.at hO ss_oa_xc
  refine sg_istore kL_law_665 (by decide) ?_
  refine sg_aload_n kL_law_667 rfl ?_
  refine sg_aload_n kL_law_668 rfl ?_
  refine sg_iload kL_law_669 rfl ?_
  refine sg_iconst (v := 1) kL_law_671 (by decide) ?_
  refine sg_iadd kL_law_672 ?_
  refine sg_i (nI_add (5 * c) 1) ?_
  refine sg_sld kL_law_673 (by omega) hL2 ?_
  refine sg_callV (As := [.int (V.2.2.2.2.2 (5 * c + 1))]) (rest := []) (cM_abort (d := 9) hst hsm hM1 (V.2.2.2.2.2 (5 * c + 1)) (Qr := fun w z' => w = none ∧ ss_MP V z' (b + 43) (ss_af (cd_tx st (V.2.2.2.2.2 (5 * c + 1))) (nx_end st (V.2.2.2.2.2 (5 * c + 1))) st) (nI (cd_tx st (V.2.2.2.2.2 (5 * c + 1)))) va ∧ ss_fr (ss_mc (b + 43)) z1 z') (Qx := fun _ _ => False) (fun z' h1 h2 => ⟨rfl, h1, h2⟩)) vl_L_112 kL_law_674 (ss_MP_o hM1).choose_spec rfl (Nat.le_of_ble_eq_true rfl) ⟨by decide, by decide⟩ ⟨(show k + 4 + 0 ≤ 617291 by omega), (show n + 24 + 0 ≤ 7244230 by omega)⟩ (fun _ _ q => q.elim) (fun w z2 hq => ?_)
  obtain ⟨rfl, hM2, hF2⟩ := hq
  have hX2 := hX1.fr hF2 ss_mc_xc
  have hO2 := hF2.at hO1 ss_oa_mc
  have nx : ∀ lo, ss_le [(4, .int (nI (5 * c))), (3, .ref (b + 55)), (2, .ref (b + 43)), (1, .ref b), (0, .ref V.2.2.2.1)] lo → ss_G V l mL_law room_1 Q 977 lo [] z2 (k + 4) (n + 24) := fun lo hlo => sg_lw (next z2 ⟨_, _, _, _, hX2, hM2, hO2, sc_end hsc (V.2.2.2.2.2 (5 * c + 1)) _⟩) hlo
  refine sg_aload_n kL_law_677 rfl ?_
  refine sg_fV (As := []) (rest := []) (cM_thrown (d := 10) hst hM2) vl_L_76 kL_law_678 (ss_MP_o hM2).choose_spec rfl (Nat.le_of_ble_eq_true rfl) ⟨by decide, by decide⟩ ⟨hk, hn⟩ ?_
  refine sg_iload kL_law_681 rfl ?_
  refine sg_icmp_eq 688 kL_law_683 (by decide) (fun hb => ?_) (fun hb => ?_)
  · refine sg_goto 977 kL_law_688 (by decide) ?_
    exact nx _ ⟨rfl, rfl, rfl, rfl, rfl, trivial⟩
  · exact absurd rfl hb
set_option maxRecDepth 100000 in
theorem cK_vacuum (hst : l.stackTraces = false) (hc : c < 1000000) (hL : 5 * c + 4 < V.2.2.2.2.1) (hL2 : V.2.2.2.2.1 < 2 ^ 31) (hk : k + 4 ≤ 617291) (hn : n + 24 ≤ 7244230) (h : ss_inv V b c z) (next : ∀ z', ss_inv V b (c + 1) z' → ss_G V l mL_law room_1 Q 977 [(4, .int (nI (5 * c))), (3, .ref (b + 55)), (2, .ref (b + 43)), (1, .ref b), (0, .ref V.2.2.2.1)] [] z' (k + 4) (n + 24)) : ss_G V l mL_law room_1 Q 691 [(4, .int (nI (5 * c))), (3, .ref (b + 55)), (2, .ref (b + 43)), (1, .ref b), (0, .ref V.2.2.2.1)] [] z k n := by
  obtain ⟨st, th, va, g0, hX, hM, hO, hsc⟩ := h
  have hsm := hsc.sm hc
  refine sg_aload_n kL_law_691 rfl ?_
  refine sg_callV (As := []) (rest := []) (cS_vacuum (d := 8) hst hX (Qr := fun w z' => w = some (.int (an_vacuum st)) ∧ ss_XP V z' b (nx_vacuum st) ∧ ss_fr (ss_xc b) z z') (Qx := fun _ _ => False) (fun z' h1 h2 => ⟨rfl, h1, h2⟩)) vl_L_113 kL_law_692 hX.1 rfl (Nat.le_of_ble_eq_true rfl) ⟨by decide, by decide⟩ ⟨(show k + 0 ≤ 617291 by omega), (show n + 0 ≤ 7244230 by omega)⟩ (fun _ _ q => q.elim) (fun w z1 hq => ?_)
  obtain ⟨rfl, hX1, hF1⟩ := hq
  have hM1 := hM.fr hF1 ss_xc_mc
  refine sg_aload_n kL_law_695 rfl ?_
  refine sg_callV (As := []) (rest := [.int (an_vacuum st)]) (cM_vacuum (d := 8) hst hsm hM1 (Qr := fun w z' => w = some (.int (an_vacuum st)) ∧ ss_MP V z' (b + 43) (nx_vacuum st) 0 va ∧ ss_fr (ss_mc (b + 43)) z1 z') (Qx := fun _ _ => False) (fun z' h1 h2 => ⟨rfl, h1, h2⟩)) vl_L_116 kL_law_696 (ss_MP_o hM1).choose_spec rfl (Nat.le_of_ble_eq_true rfl) ⟨by decide, by decide⟩ ⟨(show k + 0 + 0 ≤ 617291 by omega), (show n + 0 + 0 ≤ 7244230 by omega)⟩ (fun _ _ q => q.elim) (fun w z2 hq => ?_)
  obtain ⟨rfl, hM2, hF2⟩ := hq
  refine sg_icmp_eq 977 kL_law_699 (by decide) (fun hb => ?_) (fun hb => ?_)
  · exact sg_kn (show k + 0 + 0 ≤ k + 4 by omega) (show n + 0 + 0 ≤ n + 24 by omega) (next z2 ⟨_, _, _, _, hX1.fr hF2 ss_mc_xc, hM2, hF2.at (hF1.at hO ss_oa_xc) ss_oa_mc, sc_vacuum hsc⟩)
  · exact absurd rfl hb
set_option maxRecDepth 100000 in
theorem cK_time (hst : l.stackTraces = false) (hc : c < 1000000) (hL : 5 * c + 4 < V.2.2.2.2.1) (hL2 : V.2.2.2.2.1 < 2 ^ 31) (hk : k + 4 ≤ 617291) (hn : n + 24 ≤ 7244230) (h : ss_inv V b c z) (next : ∀ z', ss_inv V b (c + 1) z' → ss_G V l mL_law room_1 Q 977 [(4, .int (nI (5 * c))), (3, .ref (b + 55)), (2, .ref (b + 43)), (1, .ref b), (0, .ref V.2.2.2.1)] [] z' (k + 4) (n + 24)) : ss_G V l mL_law room_1 Q 704 [(4, .int (nI (5 * c))), (3, .ref (b + 55)), (2, .ref (b + 43)), (1, .ref b), (0, .ref V.2.2.2.1)] [] z k n := by
  obtain ⟨st, th, va, g0, hX, hM, hO, hsc⟩ := h
  have hsm := hsc.sm hc
  refine sg_aload_n kL_law_704 rfl ?_
  refine sg_fV (As := []) (rest := []) (cS_time (d := 10) hst hX) vl_L_117 kL_law_705 hX.1 rfl (Nat.le_of_ble_eq_true rfl) ⟨by decide, by decide⟩ ⟨(show k ≤ 617291 by omega), (show n ≤ 7244230 by omega)⟩ ?_
  refine sg_aload_n kL_law_708 rfl ?_
  refine sg_callV (As := []) (rest := [.int (st.1)]) (cM_time (d := 10) hst hM (Qr := fun w z' => w = some (.int (st.1)) ∧ ss_MP V z' (b + 43) st 0 va ∧ ss_fr (ss_mc (b + 43)) z z') (Qx := fun _ _ => False) (fun z' h1 h2 => ⟨rfl, h1, h2⟩)) vl_L_120 kL_law_709 (ss_MP_o hM).choose_spec rfl (Nat.le_of_ble_eq_true rfl) ⟨by decide, by decide⟩ ⟨(show k + 0 ≤ 617291 by omega), (show n + 0 ≤ 7244230 by omega)⟩ (fun _ _ q => q.elim) (fun w z2 hq => ?_)
  obtain ⟨rfl, hM2, hF2⟩ := hq
  refine sg_icmp_eq 977 kL_law_712 (by decide) (fun hb => ?_) (fun hb => ?_)
  · exact sg_kn (show k + 0 ≤ k + 4 by omega) (show n + 0 ≤ n + 24 by omega) (next z2 ⟨_, _, _, _, hX.fr hF2 ss_mc_xc, hM2, hF2.at hO ss_oa_mc, hsc.up⟩)
  · exact absurd rfl hb
set_option maxRecDepth 100000 in
theorem cK_live (hst : l.stackTraces = false) (hc : c < 1000000) (hL : 5 * c + 4 < V.2.2.2.2.1) (hL2 : V.2.2.2.2.1 < 2 ^ 31) (hk : k + 4 ≤ 617291) (hn : n + 24 ≤ 7244230) (h : ss_inv V b c z) (next : ∀ z', ss_inv V b (c + 1) z' → ss_G V l mL_law room_1 Q 977 [(4, .int (nI (5 * c))), (3, .ref (b + 55)), (2, .ref (b + 43)), (1, .ref b), (0, .ref V.2.2.2.1)] [] z' (k + 4) (n + 24)) : ss_G V l mL_law room_1 Q 717 [(4, .int (nI (5 * c))), (3, .ref (b + 55)), (2, .ref (b + 43)), (1, .ref b), (0, .ref V.2.2.2.1)] [] z k n := by
  obtain ⟨st, th, va, g0, hX, hM, hO, hsc⟩ := h
  have hsm := hsc.sm hc
  refine sg_aload_n kL_law_717 rfl ?_
  refine sg_fV (As := []) (rest := []) (cS_live (d := 10) hst hX) vl_L_121 kL_law_718 hX.1 rfl (Nat.le_of_ble_eq_true rfl) ⟨by decide, by decide⟩ ⟨(show k ≤ 617291 by omega), (show n ≤ 7244230 by omega)⟩ ?_
  refine sg_aload_n kL_law_721 rfl ?_
  refine sg_callV (As := []) (rest := [.int (nI (ss_cnt (ss_lv st) 6))]) (cM_live (d := 9) hst hsm hM (Qr := fun w z' => w = some (.int (nI (ss_cnt (ss_lv st) 6))) ∧ ss_MP V z' (b + 43) st 0 va ∧ ss_fr (ss_mc (b + 43)) z z') (Qx := fun _ _ => False) (fun z' h1 h2 => ⟨rfl, h1, h2⟩)) vl_L_124 kL_law_722 (ss_MP_o hM).choose_spec rfl (Nat.le_of_ble_eq_true rfl) ⟨by decide, by decide⟩ ⟨(show k + 0 ≤ 617291 by omega), (show n + 0 ≤ 7244230 by omega)⟩ (fun _ _ q => q.elim) (fun w z2 hq => ?_)
  obtain ⟨rfl, hM2, hF2⟩ := hq
  refine sg_icmp_eq 977 kL_law_725 (by decide) (fun hb => ?_) (fun hb => ?_)
  · exact sg_kn (show k + 0 ≤ k + 4 by omega) (show n + 0 ≤ n + 24 by omega) (next z2 ⟨_, _, _, _, hX.fr hF2 ss_mc_xc, hM2, hF2.at hO ss_oa_mc, hsc.up⟩)
  · exact absurd rfl hb
set_option maxRecDepth 100000 in
theorem cK_start (hst : l.stackTraces = false) (hc : c < 1000000) (hL : 5 * c + 4 < V.2.2.2.2.1) (hL2 : V.2.2.2.2.1 < 2 ^ 31) (hk : k + 4 ≤ 617291) (hn : n + 24 ≤ 7244230) (h : ss_inv V b c z) (next : ∀ z', ss_inv V b (c + 1) z' → ss_G V l mL_law room_1 Q 977 [(4, .int (nI (5 * c))), (3, .ref (b + 55)), (2, .ref (b + 43)), (1, .ref b), (0, .ref V.2.2.2.1)] [] z' (k + 4) (n + 24)) : ss_G V l mL_law room_1 Q 730 [(4, .int (nI (5 * c))), (3, .ref (b + 55)), (2, .ref (b + 43)), (1, .ref b), (0, .ref V.2.2.2.1)] [] z k n := by
  obtain ⟨st, th, va, g0, hX, hM, hO, hsc⟩ := h
  have hsm := hsc.sm hc
  refine sg_aload_n kL_law_730 rfl ?_
  refine sg_aload_n kL_law_731 rfl ?_
  refine sg_iload kL_law_732 rfl ?_
  refine sg_iconst (v := 1) kL_law_734 (by decide) ?_
  refine sg_iadd kL_law_735 ?_
  refine sg_i (nI_add (5 * c) 1) ?_
  refine sg_sld kL_law_736 (by omega) hL2 ?_
  refine sg_aload_n kL_law_737 rfl ?_
  refine sg_callH (As := [.ref b, .int (V.2.2.2.2.2 (5 * c + 1)), .ref (b + 55)]) (rest := []) (cL_start hst hX hO ss_oa_xc (V.2.2.2.2.2 (5 * c + 1)) (Qr := fun w z' => w = some (.int (nI (cd_tx st (V.2.2.2.2.2 (5 * c + 1))))) ∧ ∃ g, ss_fr (ss_xo b (b + 55)) z z' ∧ ss_XP V z' b st ∧ ss_at z' (b + 55) (.inl (sv_J V, 1, .inr (.inl g))) ∧ (cd_tx st (V.2.2.2.2.2 (5 * c + 1)) = 0 → ∀ q, ss_lx st (V.2.2.2.2.2 (5 * c + 1)) = some q → g 0 = (q.2.2.1).toInt64)) (Qx := fun _ _ => False) (fun z' g h1 h2 h3 h4 => ⟨rfl, g, h1, h2, h3, h4⟩)) hl_L_125 kL_law_738 rfl (Nat.le_of_ble_eq_true rfl) ⟨by decide, by decide⟩ ⟨hk, hn⟩ (fun _ _ q => q.elim) (fun w z1 hq => ?_)
  obtain ⟨rfl, g, hF1, hX1, hO1, hA1⟩ := hq
  have hM1 := hM.fr hF1 ss_xo_mc
  refine sg_istore kL_law_741 (by decide) ?_
  refine sg_aload_n kL_law_743 rfl ?_
  refine sg_aload_n kL_law_744 rfl ?_
  refine sg_iload kL_law_745 rfl ?_
  refine sg_iconst (v := 1) kL_law_747 (by decide) ?_
  refine sg_iadd kL_law_748 ?_
  refine sg_i (nI_add (5 * c) 1) ?_
  refine sg_sld kL_law_749 (by omega) hL2 ?_
  refine sg_callV (As := [.int (V.2.2.2.2.2 (5 * c + 1))]) (rest := []) (cM_start (d := 9) hst hsm hM1 (V.2.2.2.2.2 (5 * c + 1)) (Qr := fun w z' => ∃ r, w = some (.int r) ∧ ss_MP V z' (b + 43) st (nI (cd_tx st (V.2.2.2.2.2 (5 * c + 1)))) va ∧ ss_fr (ss_mc (b + 43)) z1 z' ∧ (∀ q, ss_lx st (V.2.2.2.2.2 (5 * c + 1)) = some q → r = q.2.2.1)) (Qx := fun _ _ => False) (fun z' r h1 h2 h3 => ⟨r, rfl, h1, h2, h3⟩)) vl_L_127 kL_law_750 (ss_MP_o hM1).choose_spec rfl (Nat.le_of_ble_eq_true rfl) ⟨by decide, by decide⟩ ⟨(show k + 4 + 0 ≤ 617291 by omega), (show n + 24 + 0 ≤ 7244230 by omega)⟩ (fun _ _ q => q.elim) (fun w z2 hq => ?_)
  obtain ⟨r, rfl, hM2, hF2, hA2⟩ := hq
  have hX2 := hX1.fr hF2 ss_mc_xc
  have hO2 := hF2.at hO1 ss_oa_mc
  have nx : ∀ lo, ss_le [(4, .int (nI (5 * c))), (3, .ref (b + 55)), (2, .ref (b + 43)), (1, .ref b), (0, .ref V.2.2.2.1)] lo → ss_G V l mL_law room_1 Q 977 lo [] z2 (k + 4) (n + 24) := fun lo hlo => sg_lw (next z2 ⟨_, _, _, _, hX2, hM2, hO2, hsc.up⟩) hlo
  refine sg_istore kL_law_753 (by decide) ?_
  refine sg_aload_n kL_law_755 rfl ?_
  refine sg_fV (As := []) (rest := []) (cM_thrown (d := 10) hst hM2) vl_L_76 kL_law_756 (ss_MP_o hM2).choose_spec rfl (Nat.le_of_ble_eq_true rfl) ⟨by decide, by decide⟩ ⟨hk, hn⟩ ?_
  refine sg_iload kL_law_759 rfl ?_
  refine sg_icmp_eq 766 kL_law_761 (by decide) (fun hb => ?_) (fun hb => ?_)
  · refine sg_iload kL_law_766 rfl ?_
    refine sg_if_ne 783 kL_law_768 (by decide) (fun hz => ?_) (fun hz => ?_)
    · refine sg_goto 977 kL_law_783 (by decide) ?_
      exact nx _ ⟨rfl, rfl, rfl, rfl, rfl, trivial⟩
    · have h0 : cd_tx st (V.2.2.2.2.2 (5 * c + 1)) = 0 := (nI_eq (Nat.lt_of_lt_of_le cb_tx (by decide)) (by decide)).mp (show nI _ = nI 0 from hz)
      refine sg_aload_n kL_law_771 rfl ?_
      refine sg_iconst (v := 0) kL_law_772 (by decide) ?_
      refine sg_lald (j := 0) kL_law_773 hO2 (by decide) (by decide) ?_
      refine sg_iload kL_law_774 rfl ?_
      refine sg_i2l kL_law_776 ?_
      obtain ⟨q, e1⟩ := ce_tx h0
      rw [hA1 h0 q e1, hA2 q e1]
      refine sg_lcmp kL_law_777 ?_
      refine sg_i (lg_cmp_self _) ?_
      refine sg_if_eq 783 kL_law_778 (by decide) (fun hy => ?_) (fun hy => ?_)
      · refine sg_goto 977 kL_law_783 (by decide) ?_
        exact nx _ ⟨rfl, rfl, rfl, rfl, rfl, trivial⟩
      · exact absurd rfl hy
  · exact absurd rfl hb
set_option maxRecDepth 100000 in
theorem cK_versions (hst : l.stackTraces = false) (hc : c < 1000000) (hL : 5 * c + 4 < V.2.2.2.2.1) (hL2 : V.2.2.2.2.1 < 2 ^ 31) (hk : k + 4 ≤ 617291) (hn : n + 24 ≤ 7244230) (h : ss_inv V b c z) (next : ∀ z', ss_inv V b (c + 1) z' → ss_G V l mL_law room_1 Q 977 [(4, .int (nI (5 * c))), (3, .ref (b + 55)), (2, .ref (b + 43)), (1, .ref b), (0, .ref V.2.2.2.1)] [] z' (k + 4) (n + 24)) : ss_G V l mL_law room_1 Q 786 [(4, .int (nI (5 * c))), (3, .ref (b + 55)), (2, .ref (b + 43)), (1, .ref b), (0, .ref V.2.2.2.1)] [] z k n := by
  obtain ⟨st, th, va, g0, hX, hM, hO, hsc⟩ := h
  have hsm := hsc.sm hc
  refine sg_aload_n kL_law_786 rfl ?_
  refine sg_aload_n kL_law_787 rfl ?_
  refine sg_iload kL_law_788 rfl ?_
  refine sg_iconst (v := 1) kL_law_790 (by decide) ?_
  refine sg_iadd kL_law_791 ?_
  refine sg_i (nI_add (5 * c) 1) ?_
  refine sg_sld kL_law_792 (by omega) hL2 ?_
  refine sg_aload_n kL_law_793 rfl ?_
  refine sg_callH (As := [.ref b, .int (V.2.2.2.2.2 (5 * c + 1)), .ref (b + 55)]) (rest := []) (cL_versions hst hX hO ss_oa_xc (V.2.2.2.2.2 (5 * c + 1)) (Qr := fun w z' => w = some (.int (nI (cd_key (V.2.2.2.2.2 (5 * c + 1))))) ∧ ∃ g, ss_fr (ss_xo b (b + 55)) z z' ∧ ss_XP V z' b st ∧ ss_at z' (b + 55) (.inl (sv_J V, 1, .inr (.inl g))) ∧ (cd_key (V.2.2.2.2.2 (5 * c + 1)) = 0 → ss_key (V.2.2.2.2.2 (5 * c + 1)) → g 0 = (nI (ss_cnt (ss_hit (ss_pe (V.2.2.2.2.2 (5 * c + 1))) st.2.2.2.1) st.2.2.2.1.length)).toInt64)) (Qx := fun _ _ => False) (fun z' g h1 h2 h3 h4 => ⟨rfl, g, h1, h2, h3, h4⟩)) hl_L_128 kL_law_794 rfl (Nat.le_of_ble_eq_true rfl) ⟨by decide, by decide⟩ ⟨hk, hn⟩ (fun _ _ q => q.elim) (fun w z1 hq => ?_)
  obtain ⟨rfl, g, hF1, hX1, hO1, hA1⟩ := hq
  have hM1 := hM.fr hF1 ss_xo_mc
  refine sg_istore kL_law_797 (by decide) ?_
  refine sg_aload_n kL_law_799 rfl ?_
  refine sg_aload_n kL_law_800 rfl ?_
  refine sg_iload kL_law_801 rfl ?_
  refine sg_iconst (v := 1) kL_law_803 (by decide) ?_
  refine sg_iadd kL_law_804 ?_
  refine sg_i (nI_add (5 * c) 1) ?_
  refine sg_sld kL_law_805 (by omega) hL2 ?_
  refine sg_callV (As := [.int (V.2.2.2.2.2 (5 * c + 1))]) (rest := []) (cM_versions (d := 9) hst hsm hM1 (V.2.2.2.2.2 (5 * c + 1)) (Qr := fun w z' => ∃ r, w = some (.int r) ∧ ss_MP V z' (b + 43) st (nI (cd_key (V.2.2.2.2.2 (5 * c + 1)))) va ∧ ss_fr (ss_mc (b + 43)) z1 z' ∧ (cd_key (V.2.2.2.2.2 (5 * c + 1)) = 0 → r = nI (ss_cnt (ss_hit (ss_pe (V.2.2.2.2.2 (5 * c + 1))) st.2.2.2.1) st.2.2.2.1.length))) (Qx := fun _ _ => False) (fun z' r h1 h2 h3 => ⟨r, rfl, h1, h2, h3⟩)) vl_L_130 kL_law_806 (ss_MP_o hM1).choose_spec rfl (Nat.le_of_ble_eq_true rfl) ⟨by decide, by decide⟩ ⟨(show k + 4 + 0 ≤ 617291 by omega), (show n + 24 + 0 ≤ 7244230 by omega)⟩ (fun _ _ q => q.elim) (fun w z2 hq => ?_)
  obtain ⟨r, rfl, hM2, hF2, hA2⟩ := hq
  have hX2 := hX1.fr hF2 ss_mc_xc
  have hO2 := hF2.at hO1 ss_oa_mc
  have nx : ∀ lo, ss_le [(4, .int (nI (5 * c))), (3, .ref (b + 55)), (2, .ref (b + 43)), (1, .ref b), (0, .ref V.2.2.2.1)] lo → ss_G V l mL_law room_1 Q 977 lo [] z2 (k + 4) (n + 24) := fun lo hlo => sg_lw (next z2 ⟨_, _, _, _, hX2, hM2, hO2, hsc.up⟩) hlo
  refine sg_istore kL_law_809 (by decide) ?_
  refine sg_aload_n kL_law_811 rfl ?_
  refine sg_fV (As := []) (rest := []) (cM_thrown (d := 10) hst hM2) vl_L_76 kL_law_812 (ss_MP_o hM2).choose_spec rfl (Nat.le_of_ble_eq_true rfl) ⟨by decide, by decide⟩ ⟨hk, hn⟩ ?_
  refine sg_iload kL_law_815 rfl ?_
  refine sg_icmp_eq 822 kL_law_817 (by decide) (fun hb => ?_) (fun hb => ?_)
  · refine sg_iload kL_law_822 rfl ?_
    refine sg_if_ne 839 kL_law_824 (by decide) (fun hz => ?_) (fun hz => ?_)
    · refine sg_goto 977 kL_law_839 (by decide) ?_
      exact nx _ ⟨rfl, rfl, rfl, rfl, rfl, trivial⟩
    · have h0 : cd_key (V.2.2.2.2.2 (5 * c + 1)) = 0 := (nI_eq (Nat.lt_of_lt_of_le cb_key (by decide)) (by decide)).mp (show nI _ = nI 0 from hz)
      refine sg_aload_n kL_law_827 rfl ?_
      refine sg_iconst (v := 0) kL_law_828 (by decide) ?_
      refine sg_lald (j := 0) kL_law_829 hO2 (by decide) (by decide) ?_
      refine sg_iload kL_law_830 rfl ?_
      refine sg_i2l kL_law_832 ?_
      have e1 := ce_key h0
      rw [hA1 h0 e1, hA2 h0]
      refine sg_lcmp kL_law_833 ?_
      refine sg_i (lg_cmp_self _) ?_
      refine sg_if_eq 839 kL_law_834 (by decide) (fun hy => ?_) (fun hy => ?_)
      · refine sg_goto 977 kL_law_839 (by decide) ?_
        exact nx _ ⟨rfl, rfl, rfl, rfl, rfl, trivial⟩
      · exact absurd rfl hy
  · exact absurd rfl hb
set_option maxRecDepth 100000 in
theorem cK_timeOf (hst : l.stackTraces = false) (hc : c < 1000000) (hL : 5 * c + 4 < V.2.2.2.2.1) (hL2 : V.2.2.2.2.1 < 2 ^ 31) (hk : k + 4 ≤ 617291) (hn : n + 24 ≤ 7244230) (h : ss_inv V b c z) (next : ∀ z', ss_inv V b (c + 1) z' → ss_G V l mL_law room_1 Q 977 [(4, .int (nI (5 * c))), (3, .ref (b + 55)), (2, .ref (b + 43)), (1, .ref b), (0, .ref V.2.2.2.1)] [] z' (k + 4) (n + 24)) : ss_G V l mL_law room_1 Q 842 [(4, .int (nI (5 * c))), (3, .ref (b + 55)), (2, .ref (b + 43)), (1, .ref b), (0, .ref V.2.2.2.1)] [] z k n := by
  obtain ⟨st, th, va, g0, hX, hM, hO, hsc⟩ := h
  have hsm := hsc.sm hc
  refine sg_aload_n kL_law_842 rfl ?_
  refine sg_aload_n kL_law_843 rfl ?_
  refine sg_iload kL_law_844 rfl ?_
  refine sg_iconst (v := 1) kL_law_846 (by decide) ?_
  refine sg_iadd kL_law_847 ?_
  refine sg_i (nI_add (5 * c) 1) ?_
  refine sg_sld kL_law_848 (by omega) hL2 ?_
  refine sg_aload_n kL_law_849 rfl ?_
  refine sg_iload kL_law_850 rfl ?_
  refine sg_iconst (v := 2) kL_law_852 (by decide) ?_
  refine sg_iadd kL_law_853 ?_
  refine sg_i (nI_add (5 * c) 2) ?_
  refine sg_sld kL_law_854 (by omega) hL2 ?_
  refine sg_aload_n kL_law_855 rfl ?_
  refine sg_callH (As := [.ref b, .int (V.2.2.2.2.2 (5 * c + 1)), .int (V.2.2.2.2.2 (5 * c + 2)), .ref (b + 55)]) (rest := []) (cL_timeOf hst hX hO ss_oa_xc (V.2.2.2.2.2 (5 * c + 1)) (V.2.2.2.2.2 (5 * c + 2)) (Qr := fun w z' => w = some (.int (nI (cd_timeOf st (V.2.2.2.2.2 (5 * c + 1)) (V.2.2.2.2.2 (5 * c + 2))))) ∧ ∃ g, ss_fr (ss_xo b (b + 55)) z z' ∧ ss_XP V z' b st ∧ ss_at z' (b + 55) (.inl (sv_J V, 1, .inr (.inl g))) ∧ (cd_timeOf st (V.2.2.2.2.2 (5 * c + 1)) (V.2.2.2.2.2 (5 * c + 2)) = 0 → ∀ e, ss_key (V.2.2.2.2.2 (5 * c + 1)) → ss_vs st (V.2.2.2.2.2 (5 * c + 1)) (V.2.2.2.2.2 (5 * c + 2)) = some e → g 0 = (e.2.1).toInt64)) (Qx := fun _ _ => False) (fun z' g h1 h2 h3 h4 => ⟨rfl, g, h1, h2, h3, h4⟩)) hl_L_131 kL_law_856 rfl (Nat.le_of_ble_eq_true rfl) ⟨by decide, by decide⟩ ⟨hk, hn⟩ (fun _ _ q => q.elim) (fun w z1 hq => ?_)
  obtain ⟨rfl, g, hF1, hX1, hO1, hA1⟩ := hq
  have hM1 := hM.fr hF1 ss_xo_mc
  refine sg_istore kL_law_859 (by decide) ?_
  refine sg_aload_n kL_law_861 rfl ?_
  refine sg_aload_n kL_law_862 rfl ?_
  refine sg_iload kL_law_863 rfl ?_
  refine sg_iconst (v := 1) kL_law_865 (by decide) ?_
  refine sg_iadd kL_law_866 ?_
  refine sg_i (nI_add (5 * c) 1) ?_
  refine sg_sld kL_law_867 (by omega) hL2 ?_
  refine sg_aload_n kL_law_868 rfl ?_
  refine sg_iload kL_law_869 rfl ?_
  refine sg_iconst (v := 2) kL_law_871 (by decide) ?_
  refine sg_iadd kL_law_872 ?_
  refine sg_i (nI_add (5 * c) 2) ?_
  refine sg_sld kL_law_873 (by omega) hL2 ?_
  refine sg_callV (As := [.int (V.2.2.2.2.2 (5 * c + 1)), .int (V.2.2.2.2.2 (5 * c + 2))]) (rest := []) (cM_timeOf (d := 9) hst hsm hM1 (V.2.2.2.2.2 (5 * c + 1)) (V.2.2.2.2.2 (5 * c + 2)) (Qr := fun w z' => ∃ r, w = some (.int r) ∧ ss_MP V z' (b + 43) st (nI (cd_timeOf st (V.2.2.2.2.2 (5 * c + 1)) (V.2.2.2.2.2 (5 * c + 2)))) va ∧ ss_fr (ss_mc (b + 43)) z1 z' ∧ (∀ e, ss_key (V.2.2.2.2.2 (5 * c + 1)) → ss_vs st (V.2.2.2.2.2 (5 * c + 1)) (V.2.2.2.2.2 (5 * c + 2)) = some e → r = e.2.1)) (Qx := fun _ _ => False) (fun z' r h1 h2 h3 => ⟨r, rfl, h1, h2, h3⟩)) vl_L_133 kL_law_874 (ss_MP_o hM1).choose_spec rfl (Nat.le_of_ble_eq_true rfl) ⟨by decide, by decide⟩ ⟨(show k + 4 + 0 ≤ 617291 by omega), (show n + 24 + 0 ≤ 7244230 by omega)⟩ (fun _ _ q => q.elim) (fun w z2 hq => ?_)
  obtain ⟨r, rfl, hM2, hF2, hA2⟩ := hq
  have hX2 := hX1.fr hF2 ss_mc_xc
  have hO2 := hF2.at hO1 ss_oa_mc
  have nx : ∀ lo, ss_le [(4, .int (nI (5 * c))), (3, .ref (b + 55)), (2, .ref (b + 43)), (1, .ref b), (0, .ref V.2.2.2.1)] lo → ss_G V l mL_law room_1 Q 977 lo [] z2 (k + 4) (n + 24) := fun lo hlo => sg_lw (next z2 ⟨_, _, _, _, hX2, hM2, hO2, hsc.up⟩) hlo
  refine sg_istore kL_law_877 (by decide) ?_
  refine sg_aload_n kL_law_879 rfl ?_
  refine sg_fV (As := []) (rest := []) (cM_thrown (d := 10) hst hM2) vl_L_76 kL_law_880 (ss_MP_o hM2).choose_spec rfl (Nat.le_of_ble_eq_true rfl) ⟨by decide, by decide⟩ ⟨hk, hn⟩ ?_
  refine sg_iload kL_law_883 rfl ?_
  refine sg_icmp_eq 890 kL_law_885 (by decide) (fun hb => ?_) (fun hb => ?_)
  · refine sg_iload kL_law_890 rfl ?_
    refine sg_if_ne 907 kL_law_892 (by decide) (fun hz => ?_) (fun hz => ?_)
    · refine sg_goto 977 kL_law_907 (by decide) ?_
      exact nx _ ⟨rfl, rfl, rfl, rfl, rfl, trivial⟩
    · have h0 : cd_timeOf st (V.2.2.2.2.2 (5 * c + 1)) (V.2.2.2.2.2 (5 * c + 2)) = 0 := (nI_eq (Nat.lt_of_lt_of_le cb_timeOf (by decide)) (by decide)).mp (show nI _ = nI 0 from hz)
      refine sg_aload_n kL_law_895 rfl ?_
      refine sg_iconst (v := 0) kL_law_896 (by decide) ?_
      refine sg_lald (j := 0) kL_law_897 hO2 (by decide) (by decide) ?_
      refine sg_iload kL_law_898 rfl ?_
      refine sg_i2l kL_law_900 ?_
      obtain ⟨e, e1, e2⟩ := ce_timeOf h0
      rw [hA1 h0 e e1 e2, hA2 e e1 e2]
      refine sg_lcmp kL_law_901 ?_
      refine sg_i (lg_cmp_self _) ?_
      refine sg_if_eq 907 kL_law_902 (by decide) (fun hy => ?_) (fun hy => ?_)
      · refine sg_goto 977 kL_law_907 (by decide) ?_
        exact nx _ ⟨rfl, rfl, rfl, rfl, rfl, trivial⟩
      · exact absurd rfl hy
  · exact absurd rfl hb
set_option maxRecDepth 100000 in
theorem cK_valueOf (hst : l.stackTraces = false) (hc : c < 1000000) (hL : 5 * c + 4 < V.2.2.2.2.1) (hL2 : V.2.2.2.2.1 < 2 ^ 31) (hk : k + 4 ≤ 617291) (hn : n + 24 ≤ 7244230) (h : ss_inv V b c z) (next : ∀ z', ss_inv V b (c + 1) z' → ss_G V l mL_law room_1 Q 977 [(4, .int (nI (5 * c))), (3, .ref (b + 55)), (2, .ref (b + 43)), (1, .ref b), (0, .ref V.2.2.2.1)] [] z' (k + 4) (n + 24)) : ss_G V l mL_law room_1 Q 910 [(4, .int (nI (5 * c))), (3, .ref (b + 55)), (2, .ref (b + 43)), (1, .ref b), (0, .ref V.2.2.2.1)] [] z k n := by
  obtain ⟨st, th, va, g0, hX, hM, hO, hsc⟩ := h
  have hsm := hsc.sm hc
  refine sg_aload_n kL_law_910 rfl ?_
  refine sg_aload_n kL_law_911 rfl ?_
  refine sg_iload kL_law_912 rfl ?_
  refine sg_iconst (v := 1) kL_law_914 (by decide) ?_
  refine sg_iadd kL_law_915 ?_
  refine sg_i (nI_add (5 * c) 1) ?_
  refine sg_sld kL_law_916 (by omega) hL2 ?_
  refine sg_aload_n kL_law_917 rfl ?_
  refine sg_iload kL_law_918 rfl ?_
  refine sg_iconst (v := 2) kL_law_920 (by decide) ?_
  refine sg_iadd kL_law_921 ?_
  refine sg_i (nI_add (5 * c) 2) ?_
  refine sg_sld kL_law_922 (by omega) hL2 ?_
  refine sg_aload_n kL_law_923 rfl ?_
  refine sg_callH (As := [.ref b, .int (V.2.2.2.2.2 (5 * c + 1)), .int (V.2.2.2.2.2 (5 * c + 2)), .ref (b + 55)]) (rest := []) (cL_valueOf hst hX hO ss_oa_xc (V.2.2.2.2.2 (5 * c + 1)) (V.2.2.2.2.2 (5 * c + 2)) (Qr := fun w z' => w = some (.int (nI (cd_valueOf st (V.2.2.2.2.2 (5 * c + 1)) (V.2.2.2.2.2 (5 * c + 2))))) ∧ ∃ g, ss_fr (ss_xo b (b + 55)) z z' ∧ ss_XP V z' b st ∧ ss_at z' (b + 55) (.inl (sv_J V, 1, .inr (.inl g))) ∧ (cd_valueOf st (V.2.2.2.2.2 (5 * c + 1)) (V.2.2.2.2.2 (5 * c + 2)) = 0 → ∀ e, ss_key (V.2.2.2.2.2 (5 * c + 1)) → ss_vs st (V.2.2.2.2.2 (5 * c + 1)) (V.2.2.2.2.2 (5 * c + 2)) = some e → e.2.2.2 = false → g 0 = (e.2.2.1))) (Qx := fun _ _ => False) (fun z' g h1 h2 h3 h4 => ⟨rfl, g, h1, h2, h3, h4⟩)) hl_L_134 kL_law_924 rfl (Nat.le_of_ble_eq_true rfl) ⟨by decide, by decide⟩ ⟨hk, hn⟩ (fun _ _ q => q.elim) (fun w z1 hq => ?_)
  obtain ⟨rfl, g, hF1, hX1, hO1, hA1⟩ := hq
  have hM1 := hM.fr hF1 ss_xo_mc
  refine sg_istore kL_law_927 (by decide) ?_
  refine sg_aload_n kL_law_929 rfl ?_
  refine sg_aload_n kL_law_930 rfl ?_
  refine sg_iload kL_law_931 rfl ?_
  refine sg_iconst (v := 1) kL_law_933 (by decide) ?_
  refine sg_iadd kL_law_934 ?_
  refine sg_i (nI_add (5 * c) 1) ?_
  refine sg_sld kL_law_935 (by omega) hL2 ?_
  refine sg_aload_n kL_law_936 rfl ?_
  refine sg_iload kL_law_937 rfl ?_
  refine sg_iconst (v := 2) kL_law_939 (by decide) ?_
  refine sg_iadd kL_law_940 ?_
  refine sg_i (nI_add (5 * c) 2) ?_
  refine sg_sld kL_law_941 (by omega) hL2 ?_
  refine sg_callV (As := [.int (V.2.2.2.2.2 (5 * c + 1)), .int (V.2.2.2.2.2 (5 * c + 2))]) (rest := []) (cM_valueOf (d := 9) hst hsm hM1 (V.2.2.2.2.2 (5 * c + 1)) (V.2.2.2.2.2 (5 * c + 2)) (Qr := fun w z' => ∃ r, w = some (.long r) ∧ ss_MP V z' (b + 43) st (nI (cd_valueOf st (V.2.2.2.2.2 (5 * c + 1)) (V.2.2.2.2.2 (5 * c + 2)))) va ∧ ss_fr (ss_mc (b + 43)) z1 z' ∧ (∀ e, ss_key (V.2.2.2.2.2 (5 * c + 1)) → ss_vs st (V.2.2.2.2.2 (5 * c + 1)) (V.2.2.2.2.2 (5 * c + 2)) = some e → e.2.2.2 = false → r = e.2.2.1)) (Qx := fun _ _ => False) (fun z' r h1 h2 h3 => ⟨r, rfl, h1, h2, h3⟩)) vl_L_136 kL_law_942 (ss_MP_o hM1).choose_spec rfl (Nat.le_of_ble_eq_true rfl) ⟨by decide, by decide⟩ ⟨(show k + 4 + 0 ≤ 617291 by omega), (show n + 24 + 0 ≤ 7244230 by omega)⟩ (fun _ _ q => q.elim) (fun w z2 hq => ?_)
  obtain ⟨r, rfl, hM2, hF2, hA2⟩ := hq
  have hX2 := hX1.fr hF2 ss_mc_xc
  have hO2 := hF2.at hO1 ss_oa_mc
  have nx : ∀ lo, ss_le [(4, .int (nI (5 * c))), (3, .ref (b + 55)), (2, .ref (b + 43)), (1, .ref b), (0, .ref V.2.2.2.1)] lo → ss_G V l mL_law room_1 Q 977 lo [] z2 (k + 4) (n + 24) := fun lo hlo => sg_lw (next z2 ⟨_, _, _, _, hX2, hM2, hO2, hsc.up⟩) hlo
  refine sg_lstore kL_law_945 (by decide) ?_
  refine sg_aload_n kL_law_947 rfl ?_
  refine sg_fV (As := []) (rest := []) (cM_thrown (d := 10) hst hM2) vl_L_76 kL_law_948 (ss_MP_o hM2).choose_spec rfl (Nat.le_of_ble_eq_true rfl) ⟨by decide, by decide⟩ ⟨hk, hn⟩ ?_
  refine sg_iload kL_law_951 rfl ?_
  refine sg_icmp_eq 958 kL_law_953 (by decide) (fun hb => ?_) (fun hb => ?_)
  · refine sg_iload kL_law_958 rfl ?_
    refine sg_if_ne 974 kL_law_960 (by decide) (fun hz => ?_) (fun hz => ?_)
    · refine sg_goto 977 kL_law_974 (by decide) ?_
      exact nx _ ⟨rfl, rfl, rfl, rfl, rfl, trivial⟩
    · have h0 : cd_valueOf st (V.2.2.2.2.2 (5 * c + 1)) (V.2.2.2.2.2 (5 * c + 2)) = 0 := (nI_eq (Nat.lt_of_lt_of_le cb_valueOf (by decide)) (by decide)).mp (show nI _ = nI 0 from hz)
      refine sg_aload_n kL_law_963 rfl ?_
      refine sg_iconst (v := 0) kL_law_964 (by decide) ?_
      refine sg_lald (j := 0) kL_law_965 hO2 (by decide) (by decide) ?_
      refine sg_lload kL_law_966 rfl ?_
      obtain ⟨e, e1, e2, e3⟩ := ce_valueOf h0
      rw [hA1 h0 e e1 e2 e3, hA2 e e1 e2 e3]
      refine sg_lcmp kL_law_968 ?_
      refine sg_i (lg_cmp_self _) ?_
      refine sg_if_eq 974 kL_law_969 (by decide) (fun hy => ?_) (fun hy => ?_)
      · refine sg_goto 977 kL_law_974 (by decide) ?_
        exact nx _ ⟨rfl, rfl, rfl, rfl, rfl, trivial⟩
      · exact absurd rfl hy
  · exact absurd rfl hb
end SSL
