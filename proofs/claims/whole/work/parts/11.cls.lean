/-! SnapshotShelves: what only reads. -/
section SSX
variable {V : ss_V} {l : Launch} {z : ss_Z} {d b : Nat} {st : ss_St}
theorem cS_time (hst : l.stackTraces = false) (h : ss_XP V z b st) : ss_F V l d mS_time [.ref b] z (.int st.1) := by
  intro Qr Qx hq
  obtain ⟨h0, -⟩ := h
  refine ss_C.of hst rfl (by decide) (Nat.le_of_ble_eq_true rfl) ?_
  refine sg_aload_n kS_time_0 rfl ?_
  refine sg_get fl_S_24 kS_time_1 h0 rfl ?_
  exact sg_iret kS_time_4 rfl rfl hq (Nat.le_refl _) (Nat.le_refl _)
theorem ss_is_live {o : Option ss_Tx} {live : Bool} {num start : Int32} {es : List ss_Ent} (h : ss_is o live num start es) : live = o.isSome := by
  cases o with
  | none => exact h
  | some x => exact h.1
set_option maxRecDepth 100000 in
theorem cS_live (hst : l.stackTraces = false) (h : ss_XP V z b st) : ss_F V l d mS_live [.ref b] z (.int (nI (ss_cnt (ss_lv st) 6))) := by
  intro Qr Qx hq
  obtain ⟨h0, -, ⟨g, h3, h4⟩, h5⟩ := h
  refine ss_C.of hst rfl (by decide) (Nat.le_of_ble_eq_true rfl) ?_
  have loop : ∀ m i, i + m = 6 → ss_G V l mS_live (ss_rm d 0 0) (ss_Q V Qr Qx 0 0) 4 [(2, .int (nI i)), (1, .int (nI (ss_cnt (ss_lv st) i))), (0, .ref b)] [] z 0 0 := by
    intro m
    induction m with
    | zero =>
      intro i hi
      have hi : i = 6 := by omega
      subst hi
      refine sg_iload_n kS_live_4 rfl ?_
      refine sg_aload_n kS_live_5 rfl ?_
      refine sg_get fl_S_20 kS_live_6 h0 rfl ?_
      refine sg_alenT kS_live_9 h3 ?_
      refine sg_icmp_ge 34 kS_live_10 (by decide) (fun hb => ?_) (fun hb => ?_)
      · refine sg_iload_n kS_live_34 rfl ?_
        exact sg_iret kS_live_35 rfl rfl hq (Nat.le_refl _) (Nat.le_refl _)
      · exact absurd (by decide) hb
    | succ m ih =>
      intro i hi
      obtain ⟨live, num, start, es, g1, -, g3⟩ := h5 i (by omega)
      have g1 : ss_at z (ss_ad b i) (.inr (1, [.ref (ss_ad b i + 1), .int (ss_b live), .int num, .int start])) := g1
      have hlv : live = ss_lv st i := ss_is_live g3
      have hs : ss_cnt (ss_lv st) (i + 1) = ss_cnt (ss_lv st) i + (if ss_lv st i = true then 1 else 0) := rfl
      refine sg_iload_n kS_live_4 rfl ?_
      refine sg_aload_n kS_live_5 rfl ?_
      refine sg_get fl_S_20 kS_live_6 h0 rfl ?_
      refine sg_alenT kS_live_9 h3 ?_
      refine sg_icmp_ge 34 kS_live_10 (by decide) (fun hb => ?_) (fun hb => ?_)
      · exact absurd hb (nI_ge (by omega) (by omega))
      · refine sg_aload_n kS_live_13 rfl ?_
        refine sg_get fl_S_20 kS_live_14 h0 rfl ?_
        refine sg_iload_n kS_live_17 rfl ?_
        refine sg_aald kS_live_18 h3 (by omega) (by omega) (h4 i (by omega)) ?_
        refine sg_get fl_S_89 kS_live_19 g1 rfl ?_
        refine sg_if_eq 28 kS_live_22 (by decide) (fun hc => ?_) (fun hc => ?_)
        · rw [ss_b0, hlv] at hc
          refine sg_iinc kS_live_28 rfl (ss_inc _) (by decide) ?_
          refine sg_goto 4 kS_live_31 (by decide) ?_
          rw [hc] at hs
          refine sg_lw (ih (i + 1) (by omega)) ⟨rfl, ?_, rfl, trivial⟩
          rw [hs]
          rfl
        · rw [ss_b1, hlv] at hc
          refine sg_iinc kS_live_25 rfl (ss_inc _) (by decide) ?_
          refine sg_iinc kS_live_28 rfl (ss_inc _) (by decide) ?_
          refine sg_goto 4 kS_live_31 (by decide) ?_
          rw [hc] at hs
          refine sg_lw (ih (i + 1) (by omega)) ⟨rfl, ?_, rfl, trivial⟩
          rw [hs]
          rfl
  refine sg_iconst (v := 0) kS_live_0 (by decide) ?_
  refine sg_istore_n kS_live_1 (by decide) ?_
  refine sg_iconst (v := 0) kS_live_2 (by decide) ?_
  refine sg_istore_n kS_live_3 (by decide) ?_
  exact sg_lw (loop 6 0 rfl) ⟨rfl, rfl, rfl, trivial⟩
theorem cS_checkKey {Qr : Option Value → ss_Z → Prop} {Qx : String → ss_Z → Prop} (hst : l.stackTraces = false) (hd : 5 < d) (key : Int32) (hr : ss_key key → Qr none z) (hx : ¬ ss_key key → Qx sx_A z) : ss_C V l d mS_checkKey 1 6 [.int key] z Qr Qx := by
  refine ss_C.of hst rfl (by decide) (Nat.le_of_ble_eq_true rfl) ?_
  have bad : ¬ ss_key key → ss_G V l mS_checkKey (ss_rm d 1 6) (ss_Q V Qr Qx 1 6) 10 (lv_args 0 [.int key]) [] z 0 0 := fun h => sg_throw tl_149 rfl kS_checkKey_10 kS_checkKey_13 kS_checkKey_14 kS_checkKey_16 kS_checkKey_19 hd (by decide) (hx h) (by decide) (by decide)
  refine sg_iload_n kS_checkKey_0 rfl ?_
  refine sg_if_lt 10 kS_checkKey_1 (by decide) (fun hb => ?_) (fun hb => ?_)
  · exact bad (fun q => q.1 hb)
  · refine sg_iload_n kS_checkKey_4 rfl ?_
    refine sg_bipush (v := 16) kS_checkKey_5 (by decide) ?_
    refine sg_icmp_lt 20 kS_checkKey_7 (by decide) (fun hc => ?_) (fun hc => ?_)
    · exact sg_vret kS_checkKey_20 rfl (hr ⟨hb, hc⟩) (by decide) (by decide)
    · exact bad (fun q => hc q.2)
set_option maxRecDepth 100000 in
theorem cS_liveTx {Qr : Option Value → ss_Z → Prop} {Qx : String → ss_Z → Prop} (hst : l.stackTraces = false) (hd : 5 < d) (h : ss_XP V z b st) (t : Int32) (hr : ∀ i, ss_lt st t = some i → Qr (some (.ref (ss_ad b i))) z) (hx : ss_lt st t = none → Qx sx_S z) : ss_C V l d mS_liveTransaction 1 6 [.ref b, .int t] z Qr Qx := by
  obtain ⟨h0, -, ⟨g, h3, h4⟩, h5⟩ := h
  refine ss_C.of hst rfl (by decide) (Nat.le_of_ble_eq_true rfl) ?_
  have loop : ∀ m i, i + m = 6 → ss_lt st t = ss_first (ss_lvt st t) i m → ss_G V l mS_liveTransaction (ss_rm d 1 6) (ss_Q V Qr Qx 1 6) 2 [(2, .int (nI i)), (0, .ref b), (1, .int t)] [] z 0 0 := by
    intro m
    induction m with
    | zero =>
      intro i hi hf
      have hi : i = 6 := by omega
      subst hi
      refine sg_iload_n kS_liveTransaction_2 rfl ?_
      refine sg_aload_n kS_liveTransaction_3 rfl ?_
      refine sg_get fl_S_20 kS_liveTransaction_4 h0 rfl ?_
      refine sg_alenT kS_liveTransaction_7 h3 ?_
      refine sg_icmp_ge 49 kS_liveTransaction_8 (by decide) (fun hb => ?_) (fun hb => ?_)
      · exact sg_throw tl_146 rfl kS_liveTransaction_49 kS_liveTransaction_52 kS_liveTransaction_53 kS_liveTransaction_55 kS_liveTransaction_58 hd (by decide) (hx hf) (by decide) (by decide)
      · exact absurd (by decide) hb
    | succ m ih =>
      intro i hi hf
      obtain ⟨live, num, start, es, g1, -, g3⟩ := h5 i (by omega)
      have g1 : ss_at z (ss_ad b i) (.inr (1, [.ref (ss_ad b i + 1), .int (ss_b live), .int num, .int start])) := g1
      have hf2 : ss_lt st t = if ss_lvt st t i = true then some i else ss_first (ss_lvt st t) (i + 1) m := hf
      have next : ss_lvt st t i = false → ss_G V l mS_liveTransaction (ss_rm d 1 6) (ss_Q V Qr Qx 1 6) 43 [(2, .int (nI i)), (0, .ref b), (1, .int t)] [] z 0 0 := by
        intro hn
        refine sg_iinc kS_liveTransaction_43 rfl (ss_inc _) (by decide) ?_
        refine sg_goto 2 kS_liveTransaction_46 (by decide) ?_
        refine ih (i + 1) (by omega) ?_
        rw [hf2, hn]
        rfl
      refine sg_iload_n kS_liveTransaction_2 rfl ?_
      refine sg_aload_n kS_liveTransaction_3 rfl ?_
      refine sg_get fl_S_20 kS_liveTransaction_4 h0 rfl ?_
      refine sg_alenT kS_liveTransaction_7 h3 ?_
      refine sg_icmp_ge 49 kS_liveTransaction_8 (by decide) (fun hb => ?_) (fun hb => ?_)
      · exact absurd hb (nI_ge (by omega) (by omega))
      · refine sg_aload_n kS_liveTransaction_11 rfl ?_
        refine sg_get fl_S_20 kS_liveTransaction_12 h0 rfl ?_
        refine sg_iload_n kS_liveTransaction_15 rfl ?_
        refine sg_aald kS_liveTransaction_16 h3 (by omega) (by omega) (h4 i (by omega)) ?_
        refine sg_get fl_S_89 kS_liveTransaction_17 g1 rfl ?_
        unfold ss_lvt at hf2 next
        cases ho : st.2.2.2.2 i with
        | none =>
          rw [ho] at g3 next
          have g3 : live = false := g3
          subst g3
          refine sg_if_eq 43 kS_liveTransaction_20 (by decide) (fun hc => ?_) (fun hc => ?_)
          · exact next rfl
          · exact absurd rfl hc
        | some x =>
          rw [ho] at g3 next hf2
          obtain ⟨rfl, rfl, -, -⟩ := g3
          refine sg_if_eq 43 kS_liveTransaction_20 (by decide) (fun hc => ?_) (fun hc => ?_)
          · exact absurd hc (by decide)
          · refine sg_aload_n kS_liveTransaction_23 rfl ?_
            refine sg_get fl_S_20 kS_liveTransaction_24 h0 rfl ?_
            refine sg_iload_n kS_liveTransaction_27 rfl ?_
            refine sg_aald kS_liveTransaction_28 h3 (by omega) (by omega) (h4 i (by omega)) ?_
            refine sg_get fl_S_139 kS_liveTransaction_29 g1 rfl ?_
            refine sg_iload_n kS_liveTransaction_32 rfl ?_
            refine sg_icmp_ne 43 kS_liveTransaction_33 (by decide) (fun he => ?_) (fun he => ?_)
            · exact next (decide_eq_false he)
            · refine sg_aload_n kS_liveTransaction_36 rfl ?_
              refine sg_get fl_S_20 kS_liveTransaction_37 h0 rfl ?_
              refine sg_iload_n kS_liveTransaction_40 rfl ?_
              refine sg_aald kS_liveTransaction_41 h3 (by omega) (by omega) (h4 i (by omega)) ?_
              refine sg_aret kS_liveTransaction_42 rfl (hr i ?_) (by decide) (by decide)
              rw [hf2]
              show (if decide _ = true then _ else _) = _
              rw [decide_eq_true he]
              rfl
  refine sg_iconst (v := 0) kS_liveTransaction_0 (by decide) ?_
  refine sg_istore_n kS_liveTransaction_1 (by decide) ?_
  exact sg_lw (loop 6 0 rfl rfl) ⟨rfl, rfl, rfl, trivial⟩
end SSX
