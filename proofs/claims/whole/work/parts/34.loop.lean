/-! The law's loop. -/
section SSLL
variable {V : ss_V} {l : Launch} {M : ss_M} {R : Room} {Q : List Frame → Array Value → State → State → Prop} {pc : Nat} {lo : List (Nat × Value)} {st : List Value} {z : ss_Z} {k n b : Nat}
theorem sg_tsIn {dflt l0 hi : Int} {offs : Array Int} {len : Nat} {x : Int32} {off : Int} (tgt : Nat) (hd : decode M.2.1 pc = .ok (.tableswitch dflt l0 hi offs, len)) (h1 : ¬ x.toInt < l0) (h2 : ¬ hi < x.toInt) (ho : offs[(x.toInt - l0).toNat]? = some off) (ht : (pc : Int) + off = (tgt : Int)) (kk : ss_G V l M R Q tgt lo st z k n) : ss_G V l M R Q pc lo (.int x :: st) z k n := by
  intro p e s m args below meth c H locs ls C hl hw hS
  exact lv_tableIn C.1 C.2.1 hd h1 h2 ho ht (kk p e s m args below meth c H locs ls C hl hw hS)
theorem sg_tsOut {dflt l0 hi : Int} {offs : Array Int} {len : Nat} {x : Int32} (tgt : Nat) (hd : decode M.2.1 pc = .ok (.tableswitch dflt l0 hi offs, len)) (h : x.toInt < l0 ∨ hi < x.toInt) (ht : (pc : Int) + dflt = (tgt : Int)) (kk : ss_G V l M R Q tgt lo st z k n) : ss_G V l M R Q pc lo (.int x :: st) z k n := by
  intro p e s m args below meth c H locs ls C hl hw hS
  exact lv_tableOut C.1 C.2.1 hd h ht (kk p e s m args below meth c H locs ls C hl hw hS)
theorem ss_inc5 (c : Nat) : nI (5 * c) + Int32.ofInt 5 = nI (5 * (c + 1)) := nI_add (5 * c) 5
theorem ss_exit {L c : Nat} (hL : L ≤ 2560) (hc : c ≤ 100000) : nI L - 5 < nI (5 * c) ↔ L < 5 * c + 5 := by
  rw [Int32.lt_iff_toInt_lt, nI_toInt (by omega)]
  have h1 : (nI L - nI 5).toInt = (L : Int) - (5 : Nat) := pk_sub_toInt (by omega) (by decide)
  have h2 : (nI L - 5).toInt = (L : Int) - (5 : Nat) := h1
  rw [h2]
  omega
set_option maxRecDepth 100000 in
theorem cW_loop (hst : l.stackTraces = false) (hL : V.2.2.2.2.1 ≤ 2560) (fin : ∀ (z : ss_Z) (k n : Nat) (lo : List (Nat × Value)), k ≤ 617291 → n ≤ 7244230 → ss_G V l mL_law room_1 Q 983 lo [] z k n) : ∀ (m c : Nat) (z : ss_Z) (k n : Nat), V.2.2.2.2.1 < 5 * (c + m) + 5 → c + m ≤ 1000 → k + 4 * m ≤ 617291 → n + 24 * m ≤ 7244230 → ss_inv V b c z → ss_G V l mL_law room_1 Q 23 [(4, .int (nI (5 * c))), (3, .ref (b + 55)), (2, .ref (b + 43)), (1, .ref b), (0, .ref V.2.2.2.1)] [] z k n := by
  intro m
  induction m with
  | zero =>
    intro c z k n h1 h2 h3 h4 hI
    refine sg_iload kL_law_23 rfl ?_
    refine sg_aload_n kL_law_25 rfl ?_
    refine sg_slen kL_law_26 ?_
    refine sg_iconst (v := 5) kL_law_27 (by decide) ?_
    refine sg_isub kL_law_28 ?_
    refine sg_icmp_gt 983 kL_law_29 (by decide) (fun hb => ?_) (fun hb => ?_)
    · exact fin z k n _ (by omega) (by omega)
    · exact absurd ((ss_exit hL (by omega)).mpr (by omega)) hb
  | succ m ih =>
    intro c z k n h1 h2 h3 h4 hI
    have next : ∀ z', ss_inv V b (c + 1) z' → ss_G V l mL_law room_1 Q 977 [(4, .int (nI (5 * c))), (3, .ref (b + 55)), (2, .ref (b + 43)), (1, .ref b), (0, .ref V.2.2.2.1)] [] z' (k + 4) (n + 24) := by
      intro z' hI'
      refine sg_iinc kL_law_977 rfl (ss_inc5 c) (by decide) ?_
      refine sg_goto 23 kL_law_980 (by decide) ?_
      exact sg_lw (ih (c + 1) z' (k + 4) (n + 24) (by omega) (by omega) (by omega) (by omega) hI') ⟨rfl, rfl, rfl, rfl, rfl, trivial⟩
    refine sg_iload kL_law_23 rfl ?_
    refine sg_aload_n kL_law_25 rfl ?_
    refine sg_slen kL_law_26 ?_
    refine sg_iconst (v := 5) kL_law_27 (by decide) ?_
    refine sg_isub kL_law_28 ?_
    refine sg_icmp_gt 983 kL_law_29 (by decide) (fun hb => ?_) (fun hb => ?_)
    · exact fin z k n _ (by omega) (by omega)
    · rw [ss_exit hL (by omega)] at hb
      have hL4 : 5 * c + 4 < V.2.2.2.2.1 := by omega
      have hc : c < 1000000 := by omega
      have hL2 : V.2.2.2.2.1 < 2 ^ 31 := by omega
      have hk : k + 4 ≤ 617291 := by omega
      have hn : n + 24 ≤ 7244230 := by omega
      refine sg_aload_n kL_law_32 rfl ?_
      refine sg_iload kL_law_33 rfl ?_
      refine sg_sld (j := 5 * c) kL_law_35 (by omega) hL2 ?_
      refine sg_bipush (v := 31) kL_law_36 (by decide) ?_
      refine sg_iand kL_law_38 ?_
      obtain ⟨j, hj, e⟩ := pk_andE (V.2.2.2.2.2 (5 * c)) (m := 31) 5 (by decide)
      refine sg_i e ?_
      by_cases h16 : j ≤ 16
      · rcases (show j = 0 ∨ j = 1 ∨ j = 2 ∨ j = 3 ∨ j = 4 ∨ j = 5 ∨ j = 6 ∨ j = 7 ∨ j = 8 ∨ j = 9 ∨ j = 10 ∨ j = 11 ∨ j = 12 ∨ j = 13 ∨ j = 14 ∨ j = 15 ∨ j = 16 by omega) with rfl | rfl | rfl | rfl | rfl | rfl | rfl | rfl | rfl | rfl | rfl | rfl | rfl | rfl | rfl | rfl | rfl
        · exact sg_tsIn (off := 81) 120 kL_law_39 (by decide) (by decide) (by decide) (by decide) (cK_begin hst hc hL4 hL2 hk hn hI next)
        · exact sg_tsIn (off := 125) 164 kL_law_39 (by decide) (by decide) (by decide) (by decide) (cK_beginAt hst hc hL4 hL2 hk hn hI next)
        · exact sg_tsIn (off := 181) 220 kL_law_39 (by decide) (by decide) (by decide) (by decide) (cK_read hst hc hL4 hL2 hk hn hI next)
        · exact sg_tsIn (off := 248) 287 kL_law_39 (by decide) (by decide) (by decide) (by decide) (cK_write hst hc hL4 hL2 hk hn hI next)
        · exact sg_tsIn (off := 340) 379 kL_law_39 (by decide) (by decide) (by decide) (by decide) (cK_erase hst hc hL4 hL2 hk hn hI next)
        · exact sg_tsIn (off := 388) 427 kL_law_39 (by decide) (by decide) (by decide) (by decide) (cK_mark hst hc hL4 hL2 hk hn hI next)
        · exact sg_tsIn (off := 444) 483 kL_law_39 (by decide) (by decide) (by decide) (by decide) (cK_rollback hst hc hL4 hL2 hk hn hI next)
        · exact sg_tsIn (off := 492) 531 kL_law_39 (by decide) (by decide) (by decide) (by decide) (cK_next hst hc hL4 hL2 hk hn hI next)
        · exact sg_tsIn (off := 560) 599 kL_law_39 (by decide) (by decide) (by decide) (by decide) (cK_commit hst hc hL4 hL2 hk hn hI next)
        · exact sg_tsIn (off := 616) 655 kL_law_39 (by decide) (by decide) (by decide) (by decide) (cK_abort hst hc hL4 hL2 hk hn hI next)
        · exact sg_tsIn (off := 652) 691 kL_law_39 (by decide) (by decide) (by decide) (by decide) (cK_vacuum hst hc hL4 hL2 hk hn hI next)
        · exact sg_tsIn (off := 665) 704 kL_law_39 (by decide) (by decide) (by decide) (by decide) (cK_time hst hc hL4 hL2 hk hn hI next)
        · exact sg_tsIn (off := 678) 717 kL_law_39 (by decide) (by decide) (by decide) (by decide) (cK_live hst hc hL4 hL2 hk hn hI next)
        · exact sg_tsIn (off := 691) 730 kL_law_39 (by decide) (by decide) (by decide) (by decide) (cK_start hst hc hL4 hL2 hk hn hI next)
        · exact sg_tsIn (off := 747) 786 kL_law_39 (by decide) (by decide) (by decide) (by decide) (cK_versions hst hc hL4 hL2 hk hn hI next)
        · exact sg_tsIn (off := 803) 842 kL_law_39 (by decide) (by decide) (by decide) (by decide) (cK_timeOf hst hc hL4 hL2 hk hn hI next)
        · exact sg_tsIn (off := 871) 910 kL_law_39 (by decide) (by decide) (by decide) (by decide) (cK_valueOf hst hc hL4 hL2 hk hn hI next)
      · refine sg_tsOut 977 kL_law_39 (Or.inr ?_) (by decide) ?_
        · rw [nI_toInt (by omega)]
          omega
        · obtain ⟨st, th, va, g, i1, i2, i3, i4⟩ := hI
          exact sg_kn (show k ≤ k + 4 by omega) (show n ≤ n + 24 by omega) (next z ⟨st, th, va, g, i1, i2, i3, i4.up⟩)
end SSLL
