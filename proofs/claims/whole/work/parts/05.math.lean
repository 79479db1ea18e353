/-! What a state is, and what each call does to it: pure rows, nothing of the machine. -/
/-- the last place below n at which p holds -/
def ss_last (p : Nat → Bool) : Nat → Option Nat
  | 0 => none
  | n + 1 => if p n = true then some n else ss_last p n
theorem ss_last_some {p : Nat → Bool} : ∀ {n j : Nat}, ss_last p n = some j → j < n ∧ p j = true ∧ ∀ i, j < i → i < n → p i = false := by
  intro n
  induction n with
  | zero => intro j h; cases h
  | succ n ih =>
    intro j h
    unfold ss_last at h
    by_cases hp : p n = true
    · rw [if_pos hp] at h
      cases h
      exact ⟨Nat.lt_succ_self _, hp, fun i h1 h2 => by omega⟩
    · rw [if_neg hp] at h
      obtain ⟨h1, h2, h3⟩ := ih h
      refine ⟨by omega, h2, fun i h4 h5 => ?_⟩
      by_cases hi : i = n
      · subst hi; simpa using hp
      · exact h3 i h4 (by omega)
theorem ss_last_none {p : Nat → Bool} : ∀ {n : Nat}, ss_last p n = none → ∀ i, i < n → p i = false := by
  intro n
  induction n with
  | zero => intro _ i h; omega
  | succ n ih =>
    intro h i hi
    unfold ss_last at h
    by_cases hp : p n = true
    · rw [if_pos hp] at h; cases h
    · rw [if_neg hp] at h
      by_cases hn : i = n
      · subst hn; simpa using hp
      · exact ih h i (by omega)
theorem ss_last_of {p : Nat → Bool} : ∀ {n j : Nat}, j < n → p j = true → (∀ i, j < i → i < n → p i = false) → ss_last p n = some j := by
  intro n
  induction n with
  | zero => intro j h; omega
  | succ n ih =>
    intro j hj hp h
    unfold ss_last
    by_cases hn : j = n
    · subst hn; rw [if_pos hp]
    · rw [if_neg (by rw [h n (by omega) (by omega)]; decide)]
      exact ih (by omega) hp (fun i h1 h2 => h i h1 (by omega))
theorem ss_last_non {p : Nat → Bool} : ∀ {n : Nat}, (∀ i, i < n → p i = false) → ss_last p n = none := by
  intro n
  induction n with
  | zero => intro _; rfl
  | succ n ih =>
    intro h
    unfold ss_last
    rw [if_neg (by rw [h n (by omega)]; decide)]
    exact ih (fun i hi => h i (by omega))
theorem ss_last_congr {p q : Nat → Bool} {n : Nat} (h : ∀ i, i < n → p i = q i) : ss_last p n = ss_last q n := by
  induction n with
  | zero => rfl
  | succ n ih =>
    unfold ss_last
    rw [h n (by omega), ih (fun i hi => h i (by omega))]
/-- what p says of the entry at a place, false where there is none -/
def ss_hit {α : Type} (p : α → Bool) (L : List α) (j : Nat) : Bool := match L[j]? with
  | some e => p e
  | none => false
/-- the last place of a list whose entry has p -/
def ss_li {α : Type} (p : α → Bool) (L : List α) : Option Nat := ss_last (ss_hit p L) L.length
theorem ss_hit_some {α : Type} {p : α → Bool} {L : List α} {j : Nat} {e : α} (h : L[j]? = some e) : ss_hit p L j = p e := by
  unfold ss_hit; rw [h]
theorem ss_hit_true {α : Type} {p : α → Bool} {L : List α} {j : Nat} (h : ss_hit p L j = true) : ∃ e, L[j]? = some e ∧ p e = true := by
  unfold ss_hit at h
  cases hj : L[j]? with
  | none => rw [hj] at h; cases h
  | some e => rw [hj] at h; exact ⟨e, rfl, h⟩
theorem ss_li_some {α : Type} {p : α → Bool} {L : List α} {j : Nat} (h : ss_li p L = some j) : ∃ e, L[j]? = some e ∧ p e = true ∧ ∀ i x, j < i → L[i]? = some x → p x = false := by
  obtain ⟨h1, h2, h3⟩ := ss_last_some h
  obtain ⟨e, h4, h5⟩ := ss_hit_true h2
  refine ⟨e, h4, h5, fun i x hi hx => ?_⟩
  have hl := (List.getElem?_eq_some_iff.mp hx).1
  rw [← ss_hit_some (p := p) hx]
  exact h3 i hi hl
theorem ss_li_none {α : Type} {p : α → Bool} {L : List α} (h : ss_li p L = none) : ∀ (i : Nat) (x : α), L[i]? = some x → p x = false := by
  intro i x hx
  have hl := (List.getElem?_eq_some_iff.mp hx).1
  rw [← ss_hit_some (p := p) hx]
  exact ss_last_none h i hl
theorem ss_li_of {α : Type} {p : α → Bool} {L : List α} {j : Nat} {e : α} (hj : L[j]? = some e) (hp : p e = true) (h : ∀ i x, j < i → L[i]? = some x → p x = false) : ss_li p L = some j := by
  refine ss_last_of (List.getElem?_eq_some_iff.mp hj).1 (by rw [ss_hit_some hj]; exact hp) (fun i h1 h2 => ?_)
  have hx := List.getElem?_eq_getElem h2
  rw [ss_hit_some hx]
  exact h i _ h1 hx
theorem ss_li_iff {α : Type} {p : α → Bool} {L : List α} {j : Nat} {e : α} (hj : L[j]? = some e) : ss_li p L = some j ↔ p e = true ∧ ∀ i x, j < i → L[i]? = some x → p x = false := by
  constructor
  · intro h
    obtain ⟨e', h1, h2, h3⟩ := ss_li_some h
    cases hj.symm.trans h1
    exact ⟨h2, h3⟩
  · intro h
    exact ss_li_of hj h.1 h.2
/-- with an entry that has p there is a last one, not ahead of it -/
theorem ss_li_ex {α : Type} {p : α → Bool} {L : List α} {i : Nat} {x : α} (hx : L[i]? = some x) (hp : p x = true) : ∃ q, ss_li p L = some q ∧ i ≤ q := by
  cases h : ss_li p L with
  | none => rw [ss_li_none h i x hx] at hp; cases hp
  | some q =>
    refine ⟨q, rfl, ?_⟩
    obtain ⟨e, h1, h2, h3⟩ := ss_li_some h
    by_cases hq : i ≤ q
    · exact hq
    · rw [h3 i x (by omega) hx] at hp; cases hp
/-! entries, writes, transactions, states -/
/-- key, time, value, erased -/
abbrev ss_Ent : Type := Int32 × Int32 × Int64 × Bool
/-- key, value, erased -/
abbrev ss_Wr : Type := Int32 × Int64 × Bool
/-- number, start, writes -/
abbrev ss_Tx : Type := Nat × Int32 × List ss_Wr
def ss_pm (key t : Int32) (e : ss_Ent) : Bool := decide (e.1 = key) && decide (e.2.1 ≤ t)
def ss_pk (key : Int32) (w : ss_Wr) : Bool := decide (w.1 = key)
/-- vacuum: is the version at place i found by somebody who reads at one of the times? -/
def ss_need (TT : List Int32) (L : List ss_Ent) (i : Nat) : Bool := match L[i]? with
  | some e => TT.any (fun t => decide (ss_li (ss_pm e.1 t) L = some i))
  | none => false
/-- as the program sweeps: from the last place down, each place looked at in what is left -/
def ss_vac (TT : List Int32) : Nat → List ss_Ent → List ss_Ent
  | 0, L => L
  | p + 1, L => ss_vac TT p (if ss_need TT L p = true then L else L.eraseIdx p)
/-- the entries from place p on that are needed in L -/
def ss_keep (TT : List Int32) (L : List ss_Ent) (p : Nat) : List ss_Ent := ((List.range' p (L.length - p)).filter (ss_need TT L)).filterMap (fun i => L[i]?)
theorem ss_keep_in {TT : List Int32} {L : List ss_Ent} {p : Nat} {x : ss_Ent} : x ∈ ss_keep TT L p ↔ ∃ i, p ≤ i ∧ L[i]? = some x ∧ ss_need TT L i = true := by
  unfold ss_keep
  rw [List.mem_filterMap]
  constructor
  · rintro ⟨i, h1, h2⟩
    rw [List.mem_filter, List.mem_range'_1] at h1
    exact ⟨i, h1.1.1, h2, h1.2⟩
  · rintro ⟨i, h1, h2, h3⟩
    have hl := (List.getElem?_eq_some_iff.mp h2).1
    exact ⟨i, by rw [List.mem_filter, List.mem_range'_1]; exact ⟨⟨h1, by omega⟩, h3⟩, h2⟩
theorem ss_keep_step {TT : List Int32} {L : List ss_Ent} {p : Nat} {e : ss_Ent} (he : L[p]? = some e) : ss_keep TT L p = if ss_need TT L p = true then e :: ss_keep TT L (p + 1) else ss_keep TT L (p + 1) := by
  have hl := (List.getElem?_eq_some_iff.mp he).1
  unfold ss_keep
  rw [show L.length - p = (L.length - (p + 1)) + 1 by omega, List.range'_succ]
  by_cases hn : ss_need TT L p = true
  · rw [if_pos hn, List.filter_cons_of_pos hn, List.filterMap_cons_some he]
  · rw [if_neg hn, List.filter_cons_of_neg hn]
theorem ss_keep_end {TT : List Int32} {L : List ss_Ent} : ss_keep TT L L.length = [] := by
  unfold ss_keep; rw [Nat.sub_self]; rfl
/-- what the sweep has left at place p decides as the whole row did -/
theorem ss_need_cur {TT : List Int32} {L : List ss_Ent} {p : Nat} {e : ss_Ent} (he : L[p]? = some e) : ss_need TT (L.take p ++ e :: ss_keep TT L (p + 1)) p = ss_need TT L p := by
  have hl := (List.getElem?_eq_some_iff.mp he).1
  have hlen : (L.take p).length = p := by rw [List.length_take]; omega
  have hc : (L.take p ++ e :: ss_keep TT L (p + 1))[p]? = some e := by
    rw [List.getElem?_append_right (by omega), hlen, Nat.sub_self]; rfl
  have key : ∀ t, t ∈ TT → (ss_li (ss_pm e.1 t) (L.take p ++ e :: ss_keep TT L (p + 1)) = some p ↔ ss_li (ss_pm e.1 t) L = some p) := by
    intro t ht
    rw [ss_li_iff hc, ss_li_iff he]
    constructor
    · rintro ⟨hp, h⟩
      refine ⟨hp, fun i x hi hx => ?_⟩
      cases hpx : ss_pm e.1 t x with
      | false => rfl
      | true =>
        exfalso
        obtain ⟨q, hq, hiq⟩ := ss_li_ex hx hpx
        obtain ⟨e', h1, h2, h3⟩ := ss_li_some hq
        have hk : e'.1 = e.1 := by
          unfold ss_pm at h2
          rw [Bool.and_eq_true, decide_eq_true_eq] at h2
          exact h2.1
        have hn : ss_need TT L q = true := by
          unfold ss_need
          rw [h1]
          show TT.any _ = true
          rw [List.any_eq_true]
          exact ⟨t, ht, by rw [decide_eq_true_eq, hk]; exact hq⟩
        obtain ⟨k, hk2⟩ := List.getElem?_of_mem (ss_keep_in.mpr ⟨q, by omega, h1, hn⟩ : e' ∈ ss_keep TT L (p + 1))
        have h4 := h (p + 1 + k) e' (by omega) (by
          rw [List.getElem?_append_right (by omega), hlen, show p + 1 + k - p = k + 1 by omega, List.getElem?_cons_succ]
          exact hk2)
        rw [h2] at h4
        cases h4
    · rintro ⟨hp, h⟩
      refine ⟨hp, fun i x hi hx => ?_⟩
      obtain ⟨k, rfl⟩ : ∃ k, i = p + 1 + k := ⟨i - (p + 1), by omega⟩
      rw [List.getElem?_append_right (by omega), hlen, show p + 1 + k - p = k + 1 by omega, List.getElem?_cons_succ] at hx
      obtain ⟨q, h1, h2, -⟩ := ss_keep_in.mp (List.mem_of_getElem? hx)
      exact h q x (by omega) h2
  unfold ss_need
  rw [hc, he]
  show TT.any _ = TT.any _
  rw [Bool.eq_iff_iff, List.any_eq_true, List.any_eq_true]
  constructor
  · rintro ⟨t, ht, h⟩
    exact ⟨t, ht, by rw [decide_eq_true_eq] at h ⊢; exact (key t ht).mp h⟩
  · rintro ⟨t, ht, h⟩
    exact ⟨t, ht, by rw [decide_eq_true_eq] at h ⊢; exact (key t ht).mpr h⟩
theorem ss_take_step {α : Type} {L : List α} {p : Nat} {e : α} (he : L[p]? = some e) : L.take (p + 1) = L.take p ++ [e] := by
  rw [List.take_succ, he]; rfl
theorem ss_vac_keep {TT : List Int32} {L : List ss_Ent} : ∀ p, p ≤ L.length → ss_vac TT p (L.take p ++ ss_keep TT L p) = ss_keep TT L 0 := by
  intro p
  induction p with
  | zero => intro _; show L.take 0 ++ ss_keep TT L 0 = _; rw [List.take_zero, List.nil_append]
  | succ p ih =>
    intro hp
    have he : L[p]? = some L[p] := List.getElem?_eq_getElem (by omega)
    have hlen : (L.take p).length = p := by rw [List.length_take]; omega
    rw [ss_take_step he, List.append_assoc]
    show ss_vac TT p (if ss_need TT (L.take p ++ L[p] :: ss_keep TT L (p + 1)) p = true then L.take p ++ L[p] :: ss_keep TT L (p + 1) else (L.take p ++ L[p] :: ss_keep TT L (p + 1)).eraseIdx p) = _
    rw [ss_need_cur he]
    have h0 := ih (by omega)
    rw [ss_keep_step he] at h0
    by_cases hn : ss_need TT L p = true
    · rw [if_pos hn]; rw [if_pos hn] at h0; exact h0
    · rw [if_neg hn]; rw [if_neg hn] at h0
      rw [List.eraseIdx_append_of_length_le (by omega), hlen, Nat.sub_self]
      exact h0
theorem ss_vac_all {TT : List Int32} {L : List ss_Ent} : ss_vac TT L.length L = ss_keep TT L 0 := by
  have h := ss_vac_keep (TT := TT) (L := L) L.length (Nat.le_refl _)
  rw [ss_keep_end, List.take_length, List.append_nil] at h
  exact h
/-! the calls -/
def ss_isl (ws : List ss_Wr) (i : Nat) : Bool := match ws[i]? with
  | some w => decide (ss_li (ss_pk w.1) ws = some i)
  | none => false
/-- the versions that a commit at this time lays -/
def ss_new (now : Int32) (ws : List ss_Wr) (n : Nat) : List ss_Ent := ((List.range n).filter (ss_isl ws)).filterMap (fun i => (ws[i]?).map (fun w => (w.1, now, w.2.1, w.2.2)))
def ss_conf (S : List ss_Ent) (start : Int32) (ws : List ss_Wr) : Bool := S.any (fun e => decide (start < e.2.1) && ws.any (ss_pk e.1))
def ss_val (b : Bool) (v : Int64) : Option Int64 := if b = true then none else some v
/-- what a transaction finds -/
def ss_find (S : List ss_Ent) (t : ss_Tx) (key : Int32) : Option Int64 := match ss_li (ss_pk key) t.2.2 with
  | some j => (t.2.2[j]?).bind (fun w => ss_val w.2.2 w.2.1)
  | none => (ss_li (ss_pm key t.2.1) S).bind (fun j => (S[j]?).bind (fun e => ss_val e.2.2.2 e.2.2.1))
/-- the first place from i on, of m, at which p holds -/
def ss_first (p : Nat → Bool) : Nat → Nat → Option Nat
  | _, 0 => none
  | i, m + 1 => if p i = true then some i else ss_first p (i + 1) m
def ss_cnt (p : Nat → Bool) : Nat → Nat
  | 0 => 0
  | n + 1 => ss_cnt p n + (if p n = true then 1 else 0)
/-- entry k of a key, counted from the newest: c of them have been passed -/
def ss_nth (K : Nat → Int32) (key k : Int32) : Nat → Int32 → Option Nat
  | 0, _ => none
  | n + 1, c => if K n = key then (if c = k then some n else ss_nth K key k n (c + 1)) else ss_nth K key k n c
/-! numbers -/
def ss_b (b : Bool) : Int32 := if b = true then 1 else 0
/-- a place, -1 where there is none -/
def ss_ix : Option Nat → Int32
  | none => -1
  | some j => nI j
theorem ss_dec (x : Int32) : x + Int32.ofInt (-1) = x - 1 := by rw [Int32.sub_eq_add_neg]; rfl
theorem ss_inc (j : Nat) : nI j + Int32.ofInt 1 = nI (j + 1) := nI_1 j
theorem ss_b0 {b : Bool} : ss_b b = 0 ↔ b = false := by cases b <;> decide
theorem ss_b1 {b : Bool} : ¬ ss_b b = 0 ↔ b = true := by cases b <;> decide
theorem ss_bn (b : Bool) : vp_nar .boolean (ss_b b) = ss_b b := by cases b <;> decide
theorem ss_ix_neg {o : Option Nat} (h : ∀ j, o = some j → j < 2 ^ 31) : ss_ix o = -1 ↔ o = none := by
  cases o with
  | none => exact ⟨fun _ => rfl, fun _ => rfl⟩
  | some j =>
    constructor
    · intro q
      exact absurd (show nI j < 0 by rw [show nI j = -1 from q]; decide) (nI_pos (h j rfl))
    · intro q; cases q
theorem ss_nI_neg {j : Nat} (h : j < 2 ^ 31) : ¬ nI j = -1 := fun q => absurd (show nI j < 0 by rw [q]; decide) (nI_pos h)
theorem ss_last_lt {p : Nat → Bool} {n j : Nat} (h : ss_last p n = some j) : j < n := (ss_last_some h).1
theorem ss_li_lt {α : Type} {p : α → Bool} {L : List α} {j : Nat} (h : ss_li p L = some j) : j < L.length := ss_last_lt h
