/-! The state of the class, in mathematical words, and where it lies. -/
/-- now, the time of the last sweep, how many have begun, versions, live transactions by their slots -/
abbrev ss_St : Type := Int32 × Int32 × Nat × List ss_Ent × (Nat → Option ss_Tx)
def ss_es (t : ss_Tx) : List ss_Ent := t.2.2.map (fun w => (w.1, t.2.1, w.2.1, w.2.2))
def ss_is (o : Option ss_Tx) (live : Bool) (num start : Int32) (es : List ss_Ent) : Prop := match o with
  | some t => live = true ∧ num = nI t.1 ∧ start = t.2.1 ∧ es = ss_es t
  | none => live = false
def ss_slot (V : ss_V) (z : ss_Z) (a : Nat) (o : Option ss_Tx) : Prop := ∃ live num start es, ss_txo z a live num start ∧ ss_row V z (a + 1) 12 es ∧ ss_is o live num start es
/-- where slot i lies -/
def ss_ad (b i : Nat) : Nat := b + 7 + 6 * i
def ss_XP (V : ss_V) (z : ss_Z) (b : Nat) (st : ss_St) : Prop :=
  ss_at z b (.inr (2, [.ref (b + 1), .ref (b + 6), .int st.1, .int st.2.1, .int (nI st.2.2.1)])) ∧ ss_row V z (b + 1) 48 st.2.2.2.1 ∧ (∃ g, ss_at z (b + 6) (.inl (sv_T V, 6, .inr (.inr (.inr (.inr g))))) ∧ ∀ i, i < 6 → g i = some (ss_ad b i)) ∧ ∀ i, i < 6 → ss_slot V z (ss_ad b i) (st.2.2.2.2 i)
/-- the cells of the class's object -/
def ss_xc (b : Nat) : Nat → Prop := fun a => b ≤ a ∧ a < b + 43
theorem ss_slot.fr {V : ss_V} {z z' : ss_Z} {a : Nat} {o : Option ss_Tx} {P : Nat → Prop} (h : ss_slot V z a o) (f : ss_fr P z z') (hp : ∀ q, P q → ¬ ss_tcell a q) : ss_slot V z' a o := by
  obtain ⟨live, num, start, es, h1, h2, h3⟩ := h
  exact ⟨live, num, start, es, f.at h1 (fun q => hp _ q ⟨by omega, by omega⟩), h2.fr f (fun q hq hr => hp q hq ⟨by have := hr.1; omega, by have := hr.2; omega⟩), h3⟩
theorem ss_XP.fr {V : ss_V} {z z' : ss_Z} {b : Nat} {st : ss_St} {P : Nat → Prop} (h : ss_XP V z b st) (f : ss_fr P z z') (hp : ∀ q, P q → ¬ ss_xc b q) : ss_XP V z' b st := by
  obtain ⟨h1, h2, ⟨g, h3, h4⟩, h5⟩ := h
  refine ⟨f.at h1 (fun q => hp _ q ⟨by omega, by omega⟩), h2.fr f (fun q hq hr => hp q hq ⟨by have := hr.1; omega, by have := hr.2; omega⟩), ⟨g, f.at h3 (fun q => hp _ q ⟨by omega, by omega⟩), h4⟩, fun i hi => (h5 i hi).fr f (fun q hq hr => hp q hq ⟨?_, ?_⟩)⟩
  · have := hr.1; unfold ss_ad at this; omega
  · have := hr.2; unfold ss_ad at this; omega
/-- is the transaction in slot i live with this number? -/
def ss_lvt (st : ss_St) (t : Int32) (i : Nat) : Bool := match st.2.2.2.2 i with
  | some x => decide (nI x.1 = t)
  | none => false
def ss_lt (st : ss_St) (t : Int32) : Option Nat := ss_first (ss_lvt st t) 0 6
def ss_lv (st : ss_St) (i : Nat) : Bool := (st.2.2.2.2 i).isSome
theorem ss_first_some {p : Nat → Bool} : ∀ {m i j : Nat}, ss_first p i m = some j → i ≤ j ∧ j < i + m ∧ p j = true := by
  intro m
  induction m with
  | zero => intro i j h; cases h
  | succ m ih =>
    intro i j h
    unfold ss_first at h
    by_cases hp : p i = true
    · rw [if_pos hp] at h
      cases h
      exact ⟨Nat.le_refl _, by omega, hp⟩
    · rw [if_neg hp] at h
      obtain ⟨h1, h2, h3⟩ := ih h
      exact ⟨by omega, by omega, h3⟩
/-- the live transaction of this number, with its slot -/
def ss_lx (st : ss_St) (t : Int32) : Option (Nat × ss_Tx) := (ss_lt st t).bind (fun i => (st.2.2.2.2 i).map (fun x => (i, x)))
theorem ss_lt_some {st : ss_St} {t : Int32} {i : Nat} (h : ss_lt st t = some i) : i < 6 ∧ ∃ x, st.2.2.2.2 i = some x ∧ nI x.1 = t := by
  obtain ⟨-, h2, h3⟩ := ss_first_some h
  refine ⟨by omega, ?_⟩
  unfold ss_lvt at h3
  cases hx : st.2.2.2.2 i with
  | none => rw [hx] at h3; cases h3
  | some x =>
    rw [hx] at h3
    exact ⟨x, rfl, of_decide_eq_true h3⟩
abbrev ss_key (key : Int32) : Prop := ¬ key < 0 ∧ key < 16
/-- what 'something' finds in a row -/
def ss_pl (L : List ss_Ent) (key t : Int32) : Option Nat := (ss_li (ss_pm key t) L).bind (fun j => (L[j]?).bind (fun e => if e.2.2.2 = true then none else some j))
/-- the row that a transaction reads -/
def ss_rr (S : List ss_Ent) (x : ss_Tx) (key : Int32) : List ss_Ent := if ss_li (ss_pk key) x.2.2 = none then S else ss_es x
def ss_rd (S : List ss_Ent) (x : ss_Tx) (key : Int32) : Option Int64 := (ss_pl (ss_rr S x key) key x.2.1).bind (fun j => ((ss_rr S x key)[j]?).map (fun e => e.2.2.1))
theorem ss_es_at (x : ss_Tx) (j : Nat) : (ss_es x)[j]? = (x.2.2[j]?).map (fun w => (w.1, x.2.1, w.2.1, w.2.2)) := by
  unfold ss_es
  rw [List.getElem?_map]
theorem ss_es_len (x : ss_Tx) : (ss_es x).length = x.2.2.length := by
  unfold ss_es
  rw [List.length_map]
theorem ss_es_li (x : ss_Tx) (key : Int32) : ss_li (ss_pm key x.2.1) (ss_es x) = ss_li (ss_pk key) x.2.2 := by
  unfold ss_li
  rw [ss_es_len]
  refine ss_last_congr (fun i hi => ?_)
  have h1 := List.getElem?_eq_getElem hi
  rw [ss_hit_some h1, ss_hit_some (show (ss_es x)[i]? = some _ by rw [ss_es_at, h1]; rfl)]
  unfold ss_pm ss_pk
  show (decide (x.2.2[i].1 = key) && decide (x.2.1 ≤ x.2.1)) = _
  rw [decide_eq_true (Int32.le_refl _), Bool.and_true]
theorem ss_pl_some {L : List ss_Ent} {key t : Int32} {j : Nat} (h : ss_pl L key t = some j) : j < L.length := by
  unfold ss_pl at h
  cases hl : ss_li (ss_pm key t) L with
  | none => rw [hl] at h; cases h
  | some i =>
    have hi := ss_li_lt hl
    rw [hl] at h
    have h2 : (L[i]?).bind (fun e => if e.2.2.2 = true then none else some i) = some j := h
    rw [List.getElem?_eq_getElem hi] at h2
    have h3 : (if L[i].2.2.2 = true then none else some i) = some j := h2
    by_cases he : L[i].2.2.2 = true
    · rw [if_pos he] at h3; cases h3
    · rw [if_neg he] at h3
      cases h3
      exact hi
theorem ss_rd_none {S : List ss_Ent} {x : ss_Tx} {key : Int32} : ss_rd S x key = none ↔ ss_pl (ss_rr S x key) key x.2.1 = none := by
  unfold ss_rd
  cases h : ss_pl (ss_rr S x key) key x.2.1 with
  | none => exact ⟨fun _ => rfl, fun _ => rfl⟩
  | some j =>
    have hj := ss_pl_some h
    constructor
    · intro q
      have q2 : ((ss_rr S x key)[j]?).map (fun e => e.2.2.1) = none := q
      rw [List.getElem?_eq_getElem hj] at q2
      cases q2
    · intro q; cases q
theorem ss_lx_some {st : ss_St} {t : Int32} {i : Nat} (h : ss_lt st t = some i) : i < 6 ∧ ∃ x, st.2.2.2.2 i = some x ∧ ss_lx st t = some (i, x) := by
  obtain ⟨hi, x, hx, -⟩ := ss_lt_some h
  refine ⟨hi, x, hx, ?_⟩
  unfold ss_lx
  rw [h]
  show (st.2.2.2.2 i).map _ = _
  rw [hx]
  rfl
theorem ss_lx_none {st : ss_St} {t : Int32} (h : ss_lt st t = none) : ss_lx st t = none := by
  unfold ss_lx
  rw [h]
  rfl
theorem ss_lx_of {st : ss_St} {t : Int32} {i : Nat} {x : ss_Tx} (h : ss_lx st t = some (i, x)) : ss_lt st t = some i ∧ i < 6 ∧ st.2.2.2.2 i = some x := by
  cases ht : ss_lt st t with
  | none => rw [ss_lx_none ht] at h; cases h
  | some j =>
    obtain ⟨hj, y, hy, he⟩ := ss_lx_some ht
    rw [he] at h
    cases h
    exact ⟨rfl, hj, hy⟩
def ss_stx (st : ss_St) (i : Nat) (o : Option ss_Tx) : ss_St := (st.1, st.2.1, st.2.2.1, st.2.2.2.1, va_up st.2.2.2.2 i o)
theorem ss_XP.slot {V : ss_V} {z : ss_Z} {b : Nat} {st : ss_St} (h : ss_XP V z b st) {i : Nat} (hi : i < 6) {x : ss_Tx} (ho : st.2.2.2.2 i = some x) : ss_at z (ss_ad b i) (.inr (1, [.ref (ss_ad b i + 1), .int (ss_b true), .int (nI x.1), .int x.2.1])) ∧ ss_row V z (ss_ad b i + 1) 12 (ss_es x) := by
  obtain ⟨live, num, start, es, g1, g2, g3⟩ := h.2.2.2 i hi
  rw [ho] at g3
  obtain ⟨rfl, rfl, rfl, rfl⟩ := g3
  exact ⟨g1, g2⟩
/-- one slot changes -/
theorem ss_XP.setTx {V : ss_V} {z z' : ss_Z} {b : Nat} {st : ss_St} (h : ss_XP V z b st) {i : Nat} (hi : i < 6) {o : Option ss_Tx} (f : ss_fr (ss_tcell (ss_ad b i)) z z') (hs : ss_slot V z' (ss_ad b i) o) : ss_XP V z' b (ss_stx st i o) := by
  obtain ⟨h1, h2, ⟨g, h3, h4⟩, h5⟩ := h
  unfold ss_ad at f
  refine ⟨f.at h1 (fun q => by have := q.1; omega), h2.fr f (fun q hq hr => by have := hq.1; have := hr.2; omega), ⟨g, f.at h3 (fun q => by have := q.1; omega), h4⟩, fun j hj => ?_⟩
  by_cases hij : j = i
  · subst hij
    show ss_slot V z' (ss_ad b j) (va_up st.2.2.2.2 j o j)
    rw [va_up_self]
    exact hs
  · show ss_slot V z' (ss_ad b j) (va_up st.2.2.2.2 i o j)
    rw [va_up_ne _ _ hij]
    refine (h5 j hj).fr f (fun q hq hr => ?_)
    have h6 := hq.1
    have h7 := hq.2
    have h8 := hr.1
    have h9 := hr.2
    unfold ss_ad at h8 h9
    omega
theorem ss_tc_xc {b i : Nat} (hi : i < 6) : ∀ q, ss_tcell (ss_ad b i) q → ss_xc b q := by
  intro q h
  have h1 := h.1
  have h2 := h.2
  unfold ss_ad at h1 h2
  exact ⟨by omega, by omega⟩
/-! the calls: what comes out (0: an answer; else which exception), the answer, the next state -/
def cd_tx (st : ss_St) (t : Int32) : Nat := match ss_lx st t with
  | none => 1
  | some _ => 0
def cd_rollback (st : ss_St) (t n : Int32) : Nat := match ss_lx st t with
  | none => 1
  | some q => if n < 0 ∨ nI q.2.2.2.length < n then 2 else 0
def nx_rollback (st : ss_St) (t n : Int32) : ss_St := match ss_lx st t with
  | none => st
  | some q => ss_stx st q.1 (some (q.2.1, q.2.2.1, q.2.2.2.take n.toNatClampNeg))
def nx_end (st : ss_St) (t : Int32) : ss_St := match ss_lx st t with
  | none => st
  | some q => ss_stx st q.1 none
def cd_read (st : ss_St) (t key : Int32) : Nat := match ss_lx st t with
  | none => 1
  | some q => if ss_key key then (if ss_rd st.2.2.2.1 q.2 key = none then 3 else 0) else 2
def cd_write (st : ss_St) (t key : Int32) : Nat := match ss_lx st t with
  | none => 1
  | some q => if ss_key key then (if q.2.2.2.length < 12 then 0 else 3) else 2
def cd_erase (st : ss_St) (t key : Int32) : Nat := match ss_lx st t with
  | none => 1
  | some q => if ss_key key then (if ss_rd st.2.2.2.1 q.2 key = none then 3 else if q.2.2.2.length < 12 then 0 else 4) else 2
def nx_write (st : ss_St) (t key : Int32) (v : Int64) (er : Bool) : ss_St := match ss_lx st t with
  | none => st
  | some q => ss_stx st q.1 (some (q.2.1, q.2.2.1, q.2.2.2 ++ [(key, v, er)]))
def cd_next (st : ss_St) (t key : Int32) : Nat := match ss_lx st t with
  | none => 1
  | some _ => if ss_key key then 0 else 2
def ss_fnd (st : ss_St) (x : ss_Tx) (j : Nat) : Bool := decide (¬ ss_rd st.2.2.2.1 x (nI j) = none)
/-- the first key from this one on at which the transaction finds something -/
def ss_nx (st : ss_St) (x : ss_Tx) (key : Int32) : Option Nat := ss_first (ss_fnd st x) key.toNatClampNeg (16 - key.toNatClampNeg)
def cd_key (key : Int32) : Nat := if ss_key key then 0 else 1
def cd_timeOf (st : ss_St) (key k : Int32) : Nat := if ss_key key then (if ss_nt (ss_hit (ss_pe key) st.2.2.2.1) k st.2.2.2.1.length 0 = none then 2 else 0) else 1
/-- the version number k of a key, counted from the newest -/
def ss_vs (st : ss_St) (key k : Int32) : Option ss_Ent := (ss_nt (ss_hit (ss_pe key) st.2.2.2.1) k st.2.2.2.1.length 0).bind (fun j => st.2.2.2.1[j]?)
def cd_valueOf (st : ss_St) (key k : Int32) : Nat := if ss_key key then (match ss_vs st key k with
  | none => 2
  | some e => if e.2.2.2 = true then 2 else 0) else 1
def ss_free (st : ss_St) : Option Nat := ss_first (fun i => !(ss_lv st i)) 0 6
def cd_begin (st : ss_St) : Nat := if ss_free st = none then 1 else 0
def cd_beginAt (st : ss_St) (t : Int32) : Nat := if t < st.2.1 ∨ st.1 < t then 1 else if ss_free st = none then 2 else 0
def nx_begin (st : ss_St) (t : Int32) : ss_St := match ss_free st with
  | none => st
  | some i => (st.1, st.2.1, st.2.2.1 + 1, st.2.2.2.1, va_up st.2.2.2.2 i (some (st.2.2.1, t, [])))
theorem ss_key_nI {key : Int32} (h : ss_key key) : ∃ j : Nat, j < 16 ∧ key = nI j := by
  obtain ⟨j, hj, rfl⟩ := nI_of h.1
  exact ⟨j, (nI_ltI hj (by decide)).mp (show nI j < nI 16 from h.2), rfl⟩
