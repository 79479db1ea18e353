/-! The reference: commit and vacuum, the whole of them. -/
section SSDD
variable {V : ss_V} {l : Launch} {z : ss_Z} {d a : Nat} {st : ss_St} {th : Int32} {va : Int64} {Qr : Option Value → ss_Z → Prop} {Qx : String → ss_Z → Prop}
set_option maxRecDepth 100000 in
/-- commit of a transaction that nobody has outrun, from the loop that counts on -/
theorem cM_commit1 {x : ss_Tx} {i : Nat} {t : Int32} {fo : Int32} {fK fT : Nat → Int32} {fW : Nat → Int64} {fE fY fN fS fC fA : Nat → Int32} {fB : Nat → Int64} {fD : Nat → Int32} {z1 : ss_Z} (hst : l.stackTraces = false) (hsm : ss_sm st) (hi : i < 6) (hx1 : st.2.2.2.2 i = some x) (hF : ss_fr (ss_mc a) z z1)
    (h1 : ss_mo V z1 a 0 st.1 st.2.1 (nI st.2.2.1) (nI st.2.2.2.1.length) fo va fK fT fW fE fY fN fS fC fA fB fD) (h2 : ss_me st.2.2.2.1 fK fT fW fE) (h3 : ∀ i, i < 6 → ss_ms (st.2.2.2.2 i) i fN fS fC fA fB fD)
    (hbig : 48 < st.2.2.2.1.length + ss_cnt (ss_isl x.2.2) x.2.2.length → ∀ z' w, ss_MP V z' a st 2 va → ss_fr (ss_mc a) z z' → Qr (some (.int w)) z')
    (hok : ∀ now : Int32, ¬ 48 < st.2.2.2.1.length + ss_cnt (ss_isl x.2.2) x.2.2.length → (now = if 0 < x.2.2.length then st.1 + 1 else st.1) → ∀ z', ss_MP V z' a (now, st.2.1, st.2.2.1, st.2.2.2.1 ++ ss_nw now x.2.2 x.2.2.length, va_up st.2.2.2.2 i none) 0 va → ss_fr (ss_mc a) z z' → Qr (some (.int now)) z') :
    ss_G V l mM_commit (ss_rm (d + 1) 0 0) (ss_Q V Qr Qx 0 0) 45 [(2, .int (nI i)), (0, .ref a), (1, .int t)] [] z1 0 0 := by
  have hlen := hsm.2.1
  have hm := h3 i hi
  rw [hx1] at hm
  obtain ⟨m1, m2, m3, m4, m5⟩ := hm
  have hmul : (12 : Int32) * nI i = nI (12 * i) := pk_mul 12 i
  have hM1 : ss_MP V z1 a st 0 va := ⟨_, _, _, _, _, _, _, _, _, _, _, _, h1, h2, h3⟩
  have hcle := ss_cnt_le (ss_isl x.2.2) x.2.2.length
  -- the shelving
  have shelve : ∀ now : Int32, ¬ 48 < st.2.2.2.1.length + ss_cnt (ss_isl x.2.2) x.2.2.length → (now = if 0 < x.2.2.length then st.1 + 1 else st.1) → ∀ m j z2 (gK gT : Nat → Int32) (gW : Nat → Int64) (gE : Nat → Int32) (w3 : Int32), j + m = x.2.2.length → ss_fr (ss_mc a) z z2 → ss_mo V z2 a 0 now st.2.1 (nI st.2.2.1) (nI (st.2.2.2.1 ++ ss_nw now x.2.2 j).length) fo va gK gT gW gE fY fN fS fC fA fB fD → ss_me (st.2.2.2.1 ++ ss_nw now x.2.2 j) gK gT gW gE → ss_G V l mM_commit (ss_rm (d + 1) 0 0) (ss_Q V Qr Qx 0 0) 138 [(4, .int (nI (12 * i + j))), (3, .int w3), (2, .int (nI i)), (0, .ref a)] [] z2 0 0 := by
    intro now hroom hnow m
    induction m with
    | zero =>
      intro j z2 gK gT gW gE w3 hj hF2 h1 h2
      have hj : j = x.2.2.length := by omega
      subst hj
      refine sg_iload kM_commit_138 rfl ?_
      refine sg_bipush (v := 12) kM_commit_140 (by decide) ?_
      refine sg_iload_n kM_commit_142 rfl ?_
      refine sg_imul kM_commit_143 ?_
      refine sg_i hmul ?_
      refine sg_aload_n kM_commit_144 rfl ?_
      refine sg_get fl_M_33 kM_commit_145 h1.go rfl ?_
      refine sg_iload_n kM_commit_148 rfl ?_
      refine sg_iald kM_commit_149 h1.gC (by omega) (by omega) ?_
      rw [m3]
      refine sg_iadd kM_commit_150 ?_
      refine sg_i (nI_add _ _) ?_
      refine sg_icmp_ge 241 kM_commit_151 (by decide) (fun hb => ?_) (fun hb => ?_)
      · refine sg_aload_n kM_commit_241 rfl ?_
        refine sg_get fl_M_27 kM_commit_242 h1.go rfl ?_
        refine sg_iload_n kM_commit_245 rfl ?_
        refine sg_iconst (v := 0) kM_commit_246 (by decide) ?_
        refine sg_iast kM_commit_247 h1.gN (by omega) (by omega) (fun z3 u3 => ?_)
        have h1 := h1.upN u3
        refine sg_aload_n kM_commit_248 rfl ?_
        refine sg_get fl_M_64 kM_commit_249 h1.go rfl ?_
        refine sg_iret kM_commit_252 rfl rfl (hok now hroom hnow z3 ⟨_, _, _, _, _, _, _, _, _, _, _, _, h1, h2, fun q hq => ?_⟩ (hF2.tr (u3.fr ⟨by omega, by omega⟩))) (Nat.le_refl _) (Nat.le_refl _)
        by_cases hqi : q = i
        · subst hqi
          show ss_ms (va_up st.2.2.2.2 q none q) q _ _ _ _ _ _
          rw [va_up_self]
          exact pk_us
        · show ss_ms (va_up st.2.2.2.2 i none q) q _ _ _ _ _ _
          rw [va_up_ne _ _ hqi]
          exact (h3 q hq).congr (pk_un hqi) rfl rfl (fun _ _ => rfl) (fun _ _ => rfl) (fun _ _ => rfl)
      · exact absurd (nI_le (Nat.le_refl _) (by omega)) hb
    | succ m ih =>
      intro j z2 gK gT gW gE w3 hj hF2 h1 h2
      have hj2 : j < x.2.2.length := by omega
      have hg := List.getElem?_eq_getElem hj2
      obtain ⟨k1, k2, k3⟩ := m5 j _ hg
      have hnw : ss_nw now x.2.2 (j + 1) = if ss_isl x.2.2 j = true then ss_nw now x.2.2 j ++ ((x.2.2[j]?).map (fun w => (w.1, now, w.2.1, w.2.2))).toList else ss_nw now x.2.2 j := rfl
      -- what 'latest' needs, of a state that differs in its versions alone
      have hM2 : ss_MP V z2 a (now, st.2.1, st.2.2.1, st.2.2.2.1 ++ ss_nw now x.2.2 j, st.2.2.2.2) 0 va := ⟨_, _, _, _, _, _, _, _, _, _, _, _, h1, h2, h3⟩
      have hLt := cM_latest (d := d) hst hM2 hi hx1 hj2
      refine sg_iload kM_commit_138 rfl ?_
      refine sg_bipush (v := 12) kM_commit_140 (by decide) ?_
      refine sg_iload_n kM_commit_142 rfl ?_
      refine sg_imul kM_commit_143 ?_
      refine sg_i hmul ?_
      refine sg_aload_n kM_commit_144 rfl ?_
      refine sg_get fl_M_33 kM_commit_145 h1.go rfl ?_
      refine sg_iload_n kM_commit_148 rfl ?_
      refine sg_iald kM_commit_149 h1.gC (by omega) (by omega) ?_
      rw [m3]
      refine sg_iadd kM_commit_150 ?_
      refine sg_i (nI_add _ _) ?_
      refine sg_icmp_ge 241 kM_commit_151 (by decide) (fun hb => ?_) (fun hb => ?_)
      · exact absurd hb (nI_ge (by omega) (by omega))
      · refine sg_aload_n kM_commit_154 rfl ?_
        refine sg_iload_n kM_commit_155 rfl ?_
        refine sg_iload kM_commit_156 rfl ?_
        refine sg_fV (As := [.int (nI i), .int (nI (12 * i + j))]) (rest := []) hLt vl_M_102 kM_commit_158 h1.go rfl (Nat.le_of_ble_eq_true rfl) ⟨Nat.le_refl _, by show 8 + (5 + 11) + (30 * d + 60) ≤ 30 * (d + 1) + 60; omega⟩ ⟨Nat.le_refl _, Nat.le_refl _⟩ ?_
        refine sg_if_eq 235 kM_commit_161 (by decide) (fun hc => ?_) (fun hc => ?_)
        · rw [ss_b0] at hc
          rw [if_neg (by rw [hc]; decide)] at hnw
          refine sg_iinc kM_commit_235 rfl (ss_inc _) (by decide) ?_
          refine sg_goto 138 kM_commit_238 (by decide) ?_
          refine sg_lw (ih (j + 1) z2 gK gT gW gE w3 (by omega) hF2 ?_ ?_) ⟨rfl, rfl, rfl, rfl, trivial⟩
          · rw [hnw]
            exact h1
          · rw [hnw]
            exact h2
        · rw [ss_b1] at hc
          rw [if_pos hc, hg] at hnw
          have hcj : ss_cnt (ss_isl x.2.2) (j + 1) = ss_cnt (ss_isl x.2.2) j + 1 := by
            show ss_cnt (ss_isl x.2.2) j + (if ss_isl x.2.2 j = true then 1 else 0) = _
            rw [if_pos hc]
          have hcm := ss_cnt_mono (ss_isl x.2.2) (show j + 1 ≤ x.2.2.length by omega)
          have hlt : (st.2.2.2.1 ++ ss_nw now x.2.2 j).length < 48 := by
            rw [List.length_append, ss_nw_len]
            omega
          obtain ⟨n0, hn0⟩ : ∃ n0, n0 = (st.2.2.2.1 ++ ss_nw now x.2.2 j).length := ⟨_, rfl⟩
          rw [← hn0] at h1 hlt
          refine sg_aload_n kM_commit_164 rfl ?_
          refine sg_get fl_M_7 kM_commit_165 h1.go rfl ?_
          refine sg_aload_n kM_commit_168 rfl ?_
          refine sg_get fl_M_73 kM_commit_169 h1.go rfl ?_
          refine sg_aload_n kM_commit_172 rfl ?_
          refine sg_get fl_M_36 kM_commit_173 h1.go rfl ?_
          refine sg_iload kM_commit_176 rfl ?_
          refine sg_iald kM_commit_178 h1.gA (by omega) (by omega) ?_
          rw [k1]
          refine sg_iast kM_commit_179 h1.gK hlt (by omega) (fun z3 u3 => ?_)
          have h1 := h1.upK u3
          refine sg_aload_n kM_commit_180 rfl ?_
          refine sg_get fl_M_13 kM_commit_181 h1.go rfl ?_
          refine sg_aload_n kM_commit_184 rfl ?_
          refine sg_get fl_M_73 kM_commit_185 h1.go rfl ?_
          refine sg_aload_n kM_commit_188 rfl ?_
          refine sg_get fl_M_64 kM_commit_189 h1.go rfl ?_
          refine sg_iast kM_commit_192 h1.gT hlt (by omega) (fun z4 u4 => ?_)
          have h1 := h1.upT u4
          refine sg_aload_n kM_commit_193 rfl ?_
          refine sg_get fl_M_16 kM_commit_194 h1.go rfl ?_
          refine sg_aload_n kM_commit_197 rfl ?_
          refine sg_get fl_M_73 kM_commit_198 h1.go rfl ?_
          refine sg_aload_n kM_commit_201 rfl ?_
          refine sg_get fl_M_39 kM_commit_202 h1.go rfl ?_
          refine sg_iload kM_commit_205 rfl ?_
          refine sg_lald kM_commit_207 h1.gB (by omega) (by omega) ?_
          rw [k2]
          refine sg_last kM_commit_208 h1.gW hlt (by omega) (fun z5 u5 => ?_)
          have h1 := h1.upW u5
          refine sg_aload_n kM_commit_209 rfl ?_
          refine sg_get fl_M_20 kM_commit_210 h1.go rfl ?_
          refine sg_aload_n kM_commit_213 rfl ?_
          refine sg_get fl_M_73 kM_commit_214 h1.go rfl ?_
          refine sg_aload_n kM_commit_217 rfl ?_
          refine sg_get fl_M_42 kM_commit_218 h1.go rfl ?_
          refine sg_iload kM_commit_221 rfl ?_
          refine sg_zald kM_commit_223 h1.gD (by omega) (by omega) ?_
          rw [k3]
          refine sg_zast kM_commit_224 h1.gE hlt (by omega) (ss_bn _) (fun z6 u6 => ?_)
          have h1 := h1.upE u6
          refine sg_aload_n kM_commit_225 rfl ?_
          refine sg_dup kM_commit_226 rfl ?_
          refine sg_get fl_M_73 kM_commit_227 h1.go rfl ?_
          refine sg_iconst (v := 1) kM_commit_230 (by decide) ?_
          refine sg_iadd kM_commit_231 ?_
          refine sg_i (nI_1 _) ?_
          refine sg_put fl_M_73 kM_commit_232 h1.go rfl rfl rfl (Nat.le_of_ble_eq_true rfl) (fun z7 u7 => ?_)
          have h1 := h1.obj u7
          have h2' := ss_row_snoc (es := st.2.2.2.1 ++ ss_nw now x.2.2 j) x.2.2[j].1 now x.2.2[j].2.1 x.2.2[j].2.2 h2
          rw [← hn0] at h2'
          have hnw2 : st.2.2.2.1 ++ ss_nw now x.2.2 (j + 1) = (st.2.2.2.1 ++ ss_nw now x.2.2 j) ++ [(x.2.2[j].1, now, x.2.2[j].2.1, x.2.2[j].2.2)] := by
            rw [hnw, ← List.append_assoc]
            rfl
          refine sg_iinc kM_commit_235 rfl (ss_inc _) (by decide) ?_
          refine sg_goto 138 kM_commit_238 (by decide) ?_
          refine sg_lw (ih (j + 1) z7 (upd gK n0 x.2.2[j].1) (upd gT n0 now) (vp_updL gW n0 x.2.2[j].2.1) (upd gE n0 (ss_b x.2.2[j].2.2)) w3 (by omega) (((((hF2.tr (u3.fr ⟨by omega, by omega⟩)).tr (u4.fr ⟨by omega, by omega⟩)).tr (u5.fr ⟨by omega, by omega⟩)).tr (u6.fr ⟨by omega, by omega⟩)).tr (u7.fr ⟨by omega, by omega⟩)) ?_ ?_) ⟨rfl, rfl, rfl, rfl, trivial⟩
          · rw [hnw2, List.length_append, ← hn0]
            exact h1
          · rw [hnw2]
            exact h2'
  -- the counting
  have count : ∀ m j, j + m = x.2.2.length → ss_G V l mM_commit (ss_rm (d + 1) 0 0) (ss_Q V Qr Qx 0 0) 53 [(4, .int (nI (12 * i + j))), (3, .int (nI (ss_cnt (ss_isl x.2.2) j))), (2, .int (nI i)), (0, .ref a)] [] z1 0 0 := by
    intro m
    induction m with
    | zero =>
      intro j hj
      have hj : j = x.2.2.length := by omega
      subst hj
      refine sg_iload kM_commit_53 rfl ?_
      refine sg_bipush (v := 12) kM_commit_55 (by decide) ?_
      refine sg_iload_n kM_commit_57 rfl ?_
      refine sg_imul kM_commit_58 ?_
      refine sg_i hmul ?_
      refine sg_aload_n kM_commit_59 rfl ?_
      refine sg_get fl_M_33 kM_commit_60 h1.go rfl ?_
      refine sg_iload_n kM_commit_63 rfl ?_
      refine sg_iald kM_commit_64 h1.gC (by omega) (by omega) ?_
      rw [m3]
      refine sg_iadd kM_commit_65 ?_
      refine sg_i (nI_add _ _) ?_
      refine sg_icmp_ge 93 kM_commit_66 (by decide) (fun hb => ?_) (fun hb => ?_)
      · refine sg_aload_n kM_commit_93 rfl ?_
        refine sg_get fl_M_73 kM_commit_94 h1.go rfl ?_
        refine sg_iload_n kM_commit_97 rfl ?_
        refine sg_iadd kM_commit_98 ?_
        refine sg_i (nI_add _ _) ?_
        refine sg_bipush (v := 48) kM_commit_99 (by decide) ?_
        refine sg_icmp_le 111 kM_commit_101 (by decide) (fun hc => ?_) (fun hc => ?_)
        · have hc : st.2.2.2.1.length + ss_cnt (ss_isl x.2.2) x.2.2.length ≤ 48 := (nI_leI (by omega) (by decide)).mp hc
          have hroom : ¬ 48 < st.2.2.2.1.length + ss_cnt (ss_isl x.2.2) x.2.2.length := by omega
          have go : ∀ now : Int32, (now = if 0 < x.2.2.length then st.1 + 1 else st.1) → ss_G V l mM_commit (ss_rm (d + 1) 0 0) (ss_Q V Qr Qx 0 0) 129 [(4, .int (nI (12 * i + x.2.2.length))), (3, .int (nI (ss_cnt (ss_isl x.2.2) x.2.2.length))), (2, .int (nI i)), (0, .ref a)] [.int now, .ref a] z1 0 0 := by
            intro now hnow
            refine sg_put fl_M_64 kM_commit_129 h1.go rfl rfl rfl (Nat.le_of_ble_eq_true rfl) (fun z2 u2 => ?_)
            have h1 := h1.obj u2
            refine sg_bipush (v := 12) kM_commit_132 (by decide) ?_
            refine sg_iload_n kM_commit_134 rfl ?_
            refine sg_imul kM_commit_135 ?_
            refine sg_i hmul ?_
            refine sg_istore kM_commit_136 (by decide) ?_
            refine sg_lw (shelve now hroom hnow x.2.2.length 0 z2 fK fT fW fE _ (by omega) (hF.tr (u2.fr ⟨by omega, by omega⟩)) ?_ ?_) ⟨rfl, rfl, rfl, rfl, trivial⟩
            · show ss_mo V z2 a 0 now st.2.1 (nI st.2.2.1) (nI (st.2.2.2.1 ++ []).length) fo va fK fT fW fE fY fN fS fC fA fB fD
              rw [List.append_nil]
              exact h1
            · show ss_me (st.2.2.2.1 ++ []) fK fT fW fE
              rw [List.append_nil]
              exact h2
          refine sg_aload_n kM_commit_111 rfl ?_
          refine sg_iload_n kM_commit_112 rfl ?_
          refine sg_if_le 125 kM_commit_113 (by decide) (fun he => ?_) (fun he => ?_)
          · have hz : ¬ 0 < x.2.2.length := fun q => absurd he (nI_nle (ss_isl_last q) (by omega))
            refine sg_aload_n kM_commit_125 rfl ?_
            refine sg_get fl_M_64 kM_commit_126 h1.go rfl ?_
            exact go _ (by rw [if_neg hz])
          · have hz : 0 < x.2.2.length := by
              by_cases hz : 0 < x.2.2.length
              · exact hz
              · exfalso
                apply he
                have : x.2.2.length = 0 := by omega
                rw [this]
                exact (by decide : nI 0 ≤ 0)
            refine sg_aload_n kM_commit_116 rfl ?_
            refine sg_get fl_M_64 kM_commit_117 h1.go rfl ?_
            refine sg_iconst (v := 1) kM_commit_120 (by decide) ?_
            refine sg_iadd kM_commit_121 ?_
            refine sg_goto 129 kM_commit_122 (by decide) ?_
            exact go _ (by rw [if_pos hz])
        · have hc : 48 < st.2.2.2.1.length + ss_cnt (ss_isl x.2.2) x.2.2.length := Nat.lt_of_not_le (fun q => hc (nI_le q (by decide)))
          refine sg_aload_n kM_commit_104 rfl ?_
          refine sg_iconst (v := 2) kM_commit_105 (by decide) ?_
          refine sg_put fl_M_45 kM_commit_106 h1.go rfl rfl rfl (Nat.le_of_ble_eq_true rfl) (fun z2 u2 => ?_)
          have h1 := h1.obj u2
          refine sg_iconst (v := 0) kM_commit_109 (by decide) ?_
          exact sg_iret kM_commit_110 rfl rfl (hbig hc z2 _ ⟨_, _, _, _, _, _, _, _, _, _, _, _, h1, h2, h3⟩ (hF.tr (u2.fr ⟨by omega, by omega⟩))) (Nat.le_refl _) (Nat.le_refl _)
      · exact absurd (nI_le (Nat.le_refl _) (by omega)) hb
    | succ m ih =>
      intro j hj
      have hj2 : j < x.2.2.length := by omega
      have hs : ss_cnt (ss_isl x.2.2) (j + 1) = ss_cnt (ss_isl x.2.2) j + (if ss_isl x.2.2 j = true then 1 else 0) := rfl
      have hLt := cM_latest (d := d) hst hM1 hi hx1 hj2
      refine sg_iload kM_commit_53 rfl ?_
      refine sg_bipush (v := 12) kM_commit_55 (by decide) ?_
      refine sg_iload_n kM_commit_57 rfl ?_
      refine sg_imul kM_commit_58 ?_
      refine sg_i hmul ?_
      refine sg_aload_n kM_commit_59 rfl ?_
      refine sg_get fl_M_33 kM_commit_60 h1.go rfl ?_
      refine sg_iload_n kM_commit_63 rfl ?_
      refine sg_iald kM_commit_64 h1.gC (by omega) (by omega) ?_
      rw [m3]
      refine sg_iadd kM_commit_65 ?_
      refine sg_i (nI_add _ _) ?_
      refine sg_icmp_ge 93 kM_commit_66 (by decide) (fun hb => ?_) (fun hb => ?_)
      · exact absurd hb (nI_ge (by omega) (by omega))
      · refine sg_iload_n kM_commit_69 rfl ?_
        refine sg_aload_n kM_commit_70 rfl ?_
        refine sg_iload_n kM_commit_71 rfl ?_
        refine sg_iload kM_commit_72 rfl ?_
        refine sg_fV (As := [.int (nI i), .int (nI (12 * i + j))]) (rest := [.int (nI (ss_cnt (ss_isl x.2.2) j))]) hLt vl_M_102 kM_commit_74 h1.go rfl (Nat.le_of_ble_eq_true rfl) ⟨Nat.le_refl _, by show 8 + (5 + 11) + (30 * d + 60) ≤ 30 * (d + 1) + 60; omega⟩ ⟨Nat.le_refl _, Nat.le_refl _⟩ ?_
        refine sg_if_eq 84 kM_commit_77 (by decide) (fun hc => ?_) (fun hc => ?_)
        · rw [ss_b0] at hc
          refine sg_iconst (v := 0) kM_commit_84 (by decide) ?_
          refine sg_iadd kM_commit_85 ?_
          refine sg_istore_n kM_commit_86 (by decide) ?_
          refine sg_iinc kM_commit_87 rfl (ss_inc _) (by decide) ?_
          refine sg_goto 53 kM_commit_90 (by decide) ?_
          rw [hc] at hs
          refine sg_lw (ih (j + 1) (by omega)) ⟨rfl, ?_, rfl, rfl, trivial⟩
          rw [hs]
          show some (Value.int (nI _ + 0)) = _
          rw [Int32.add_zero]
          rfl
        · rw [ss_b1] at hc
          refine sg_iconst (v := 1) kM_commit_80 (by decide) ?_
          refine sg_goto 85 kM_commit_81 (by decide) ?_
          refine sg_iadd kM_commit_85 ?_
          refine sg_istore_n kM_commit_86 (by decide) ?_
          refine sg_iinc kM_commit_87 rfl (ss_inc _) (by decide) ?_
          refine sg_goto 53 kM_commit_90 (by decide) ?_
          rw [if_pos hc] at hs
          refine sg_lw (ih (j + 1) (by omega)) ⟨rfl, ?_, rfl, rfl, trivial⟩
          rw [hs]
          show some (Value.int (nI _ + 1)) = _
          rw [nI_1]
  refine sg_iconst (v := 0) kM_commit_45 (by decide) ?_
  refine sg_istore_n kM_commit_46 (by decide) ?_
  refine sg_bipush (v := 12) kM_commit_47 (by decide) ?_
  refine sg_iload_n kM_commit_49 rfl ?_
  refine sg_imul kM_commit_50 ?_
  refine sg_i hmul ?_
  refine sg_istore kM_commit_51 (by decide) ?_
  exact sg_lw (count x.2.2.length 0 (by omega)) ⟨rfl, rfl, rfl, rfl, trivial⟩
set_option maxRecDepth 100000 in
theorem cM_commit (hst : l.stackTraces = false) (hsm : ss_sm st) (h : ss_MP V z a st th va) (t : Int32) (hq : ∀ z' w, ss_MP V z' a (ss_af (cd_commit st t) (nx_commit st t).2 st) (nI (cd_commit st t)) va → ss_fr (ss_mc a) z z' → (cd_commit st t = 0 → w = (nx_commit st t).1) → Qr (some (.int w)) z') : ss_C V l (d + 1) mM_commit 0 0 [.ref a, .int t] z Qr Qx := by
  have hP := cM_place (d := d) hst hsm h t
  obtain ⟨fo, fK, fT, fW, fE, fY, fN, fS, fC, fA, fB, fD, h1, h2, h3⟩ := h
  refine ss_C.of hst rfl (by decide) (Nat.le_of_ble_eq_true rfl) ?_
  unfold cd_commit nx_commit at hq
  refine sg_aload_n kM_commit_0 rfl ?_
  refine sg_iload_n kM_commit_1 rfl ?_
  refine sg_fV (As := [.int t]) (rest := []) hP vl_M_49 kM_commit_2 h1.go rfl (Nat.le_of_ble_eq_true rfl) ⟨Nat.le_refl _, by show 8 + (3 + 11) + (30 * d + 60) ≤ 30 * (d + 1) + 60; omega⟩ ⟨Nat.le_refl _, Nat.le_refl _⟩ ?_
  cases hlt : ss_lt st t with
  | none =>
    rw [ss_lx_none hlt] at hq
    refine sg_istore_n kM_commit_5 (by decide) ?_
    refine sg_aload_n kM_commit_6 rfl ?_
    refine sg_iload_n kM_commit_7 rfl ?_
    refine sg_if_ge 15 kM_commit_8 (by decide) (fun hb => ?_) (fun hb => ?_)
    · exact absurd hb (by decide)
    · refine sg_iconst (v := 1) kM_commit_11 (by decide) ?_
      refine sg_goto 16 kM_commit_12 (by decide) ?_
      refine sg_put fl_M_45 kM_commit_16 h1.go rfl rfl rfl (Nat.le_of_ble_eq_true rfl) (fun z1 u1 => ?_)
      have h1 := h1.obj u1
      refine sg_aload_n kM_commit_19 rfl ?_
      refine sg_get fl_M_45 kM_commit_20 h1.go rfl ?_
      refine sg_if_eq 28 kM_commit_23 (by decide) (fun hc => ?_) (fun hc => ?_)
      · exact absurd hc (by decide)
      · refine sg_iconst (v := 0) kM_commit_26 (by decide) ?_
        exact sg_iret kM_commit_27 rfl rfl (hq z1 _ ⟨_, _, _, _, _, _, _, _, _, _, _, _, h1, h2, h3⟩ (u1.fr ⟨by omega, by omega⟩) (fun q => by cases q)) (Nat.le_refl _) (Nat.le_refl _)
  | some i =>
    obtain ⟨hi6, x, hx1, hx2⟩ := ss_lx_some hlt
    rw [hx2] at hq
    dsimp only at hq
    refine sg_istore_n kM_commit_5 (by decide) ?_
    refine sg_aload_n kM_commit_6 rfl ?_
    refine sg_iload_n kM_commit_7 rfl ?_
    refine sg_if_ge 15 kM_commit_8 (by decide) (fun hb => ?_) (fun hb => ?_)
    · refine sg_iconst (v := 0) kM_commit_15 (by decide) ?_
      refine sg_put fl_M_45 kM_commit_16 h1.go rfl rfl rfl (Nat.le_of_ble_eq_true rfl) (fun z1 u1 => ?_)
      have h1 := h1.obj u1
      have hM1 : ss_MP V z1 a st 0 va := ⟨_, _, _, _, _, _, _, _, _, _, _, _, h1, h2, h3⟩
      have hF1 : ss_fr (ss_mc a) z z1 := u1.fr ⟨by omega, by omega⟩
      refine sg_aload_n kM_commit_19 rfl ?_
      refine sg_get fl_M_45 kM_commit_20 h1.go rfl ?_
      refine sg_if_eq 28 kM_commit_23 (by decide) (fun hc => ?_) (fun hc => ?_)
      · refine sg_aload_n kM_commit_28 rfl ?_
        refine sg_iload_n kM_commit_29 rfl ?_
        refine sg_fV (As := [.int (nI i)]) (rest := []) (cM_conflicts (d := d) hst hsm hM1 hi6 hx1) vl_M_99 kM_commit_30 h1.go rfl (Nat.le_of_ble_eq_true rfl) ⟨Nat.le_refl _, by show 8 + (5 + 11) + (30 * d + 60) ≤ 30 * (d + 1) + 60; omega⟩ ⟨Nat.le_refl _, Nat.le_refl _⟩ ?_
        refine sg_if_eq 45 kM_commit_33 (by decide) (fun he => ?_) (fun he => ?_)
        · rw [ss_b0] at he
          have he2 : ¬ ss_ou st.2.2.2.1 x = true := by rw [he]; decide
          rw [if_neg he2] at hq
          have hsl := hsm.2.1
          refine sg_lw (cM_commit1 (t := t) hst hsm hi6 hx1 hF1 h1 h2 h3 (fun hbig z' w hM hF => ?_) (fun now hroom hnow z' hM hF => ?_)) ⟨rfl, rfl, rfl, trivial⟩
          · have hn : ¬ x.2.2.length = 0 := fun q => by
              rw [q] at hbig
              have : ss_cnt (ss_isl x.2.2) 0 = 0 := rfl
              omega
            rw [if_neg hn, if_neg hn, if_pos hbig] at hq
            exact hq z' w hM hF (fun q => by cases q)
          · by_cases hn : x.2.2.length = 0
            · rw [if_pos hn, if_pos hn] at hq
              rw [if_neg (by omega)] at hnow
              subst hnow
              refine hq z' _ ?_ hF (fun _ => rfl)
              rw [hn] at hM
              have hM : ss_MP V z' a (st.1, st.2.1, st.2.2.1, st.2.2.2.1 ++ [], va_up st.2.2.2.2 i none) 0 va := hM
              rw [List.append_nil] at hM
              exact hM
            · rw [if_neg hn, if_neg hn, if_neg hroom] at hq
              rw [if_neg he2] at hq
              rw [if_pos (by omega)] at hnow
              subst hnow
              exact hq z' _ hM hF (fun _ => rfl)
        · rw [ss_b1] at he
          have hn : ¬ x.2.2.length = 0 := fun q => by
            rw [ss_ou_cw, q] at he
            cases he
          rw [if_neg hn, if_neg hn, if_pos he, if_pos he] at hq
          refine sg_aload_n kM_commit_36 rfl ?_
          refine sg_get fl_M_27 kM_commit_37 h1.go rfl ?_
          refine sg_iload_n kM_commit_40 rfl ?_
          refine sg_iconst (v := 0) kM_commit_41 (by decide) ?_
          refine sg_iast kM_commit_42 h1.gN (by omega) (by omega) (fun z2 u2 => ?_)
          have h1 := h1.upN u2
          refine sg_iconst (v := (-1)) kM_commit_43 (by decide) ?_
          refine sg_iret kM_commit_44 rfl rfl (hq z2 _ ⟨_, _, _, _, _, _, _, _, _, _, _, _, h1, h2, fun q hq => ?_⟩ (hF1.tr (u2.fr ⟨by omega, by omega⟩)) (fun _ => rfl)) (Nat.le_refl _) (Nat.le_refl _)
          by_cases hqi : q = i
          · subst hqi
            show ss_ms (va_up st.2.2.2.2 q none q) q _ _ _ _ _ _
            rw [va_up_self]
            exact pk_us
          · show ss_ms (va_up st.2.2.2.2 i none q) q _ _ _ _ _ _
            rw [va_up_ne _ _ hqi]
            exact (h3 q hq).congr (pk_un hqi) rfl rfl (fun _ _ => rfl) (fun _ _ => rfl) (fun _ _ => rfl)
      · exact absurd rfl hc
    · exact absurd (nI_pos' (by omega)) hb
set_option maxRecDepth 100000 in
theorem cM_needed (hst : l.stackTraces = false) (hsm : ss_sm st) (h : ss_MP V z a st th va) {p : Nat} (hp : p < st.2.2.2.1.length) : ss_F V l (d + 1) mM_needed [.ref a, .int (nI p)] z (.int (ss_b (ss_need (ss_tt st) st.2.2.2.1 p))) := by
  intro Qr Qx hq
  have hV := fun t => cM_version (d := d) hst hsm h st.2.2.2.1[p].1 t
  obtain ⟨fo, fK, fT, fW, fE, fY, fN, fS, fC, fA, fB, fD, h1, h2, h3⟩ := h
  have hlen := hsm.2.1
  have hg := List.getElem?_eq_getElem hp
  have kp := (h2 p _ hg).1
  obtain ⟨f, hf⟩ : ∃ f : Int32 → Bool, f = fun t => decide (ss_li (ss_pm st.2.2.2.1[p].1 t) st.2.2.2.1 = some p) := ⟨_, rfl⟩
  have hq : Qr (some (.int (ss_b (f st.1 || (ss_ts st 0 6).any f)))) z := by
    have e1 : ss_need (ss_tt st) st.2.2.2.1 p = (f st.1 || (ss_ts st 0 6).any f) := by
      unfold ss_need ss_tt
      rw [hg, hf]
      rfl
    rw [← e1]
    exact hq
  have hx := fun t => ss_ix_eq (o := ss_li (ss_pm st.2.2.2.1[p].1 t) st.2.2.2.1) (p := p) (fun j hj => by have := ss_li_lt hj; omega) (by omega)
  have hft : ∀ t, ss_ix (ss_li (ss_pm st.2.2.2.1[p].1 t) st.2.2.2.1) = nI p → f t = true := fun t q => by rw [hf]; exact decide_eq_true ((hx t).mp q)
  have hff : ∀ t, ¬ ss_ix (ss_li (ss_pm st.2.2.2.1[p].1 t) st.2.2.2.1) = nI p → f t = false := fun t q => by rw [hf]; exact decide_eq_false (fun w => q ((hx t).mpr w))
  refine ss_C.of hst rfl (by decide) (Nat.le_of_ble_eq_true rfl) ?_
  have loop : ∀ m i (b : Bool), i + m = 6 → Qr (some (.int (ss_b (b || (ss_ts st i m).any f)))) z → ss_G V l mM_needed (ss_rm (d + 1) 0 0) (ss_Q V Qr Qx 0 0) 26 [(3, .int (nI i)), (2, .int (ss_b b)), (0, .ref a), (1, .int (nI p))] [] z 0 0 := by
    intro m
    induction m with
    | zero =>
      intro i b hi hq
      have hi : i = 6 := by omega
      subst hi
      have hq : Qr (some (.int (ss_b (b || false)))) z := hq
      rw [Bool.or_false] at hq
      refine sg_iload_n kM_needed_26 rfl ?_
      refine sg_bipush (v := 6) kM_needed_27 (by decide) ?_
      refine sg_icmp_ge 77 kM_needed_29 (by decide) (fun hb => ?_) (fun hb => ?_)
      · refine sg_iload_n kM_needed_77 rfl ?_
        refine sg_iret kM_needed_78 rfl ?_ hq (Nat.le_refl _) (Nat.le_refl _)
        cases b <;> rfl
      · exact absurd (by decide) hb
    | succ m ih =>
      intro i b hi hq
      have hi6 : i < 6 := by omega
      have hm := h3 i hi6
      have hn := ss_ms_none hm hsm.lt
      have back : ∀ (w : Int32) (b2 : Bool), w = ss_b b2 → Qr (some (.int (ss_b (b2 || (ss_ts st (i + 1) m).any f)))) z → ss_G V l mM_needed (ss_rm (d + 1) 0 0) (ss_Q V Qr Qx 0 0) 70 [(3, .int (nI i)), (2, .int (ss_b b)), (0, .ref a), (1, .int (nI p))] [.int w] z 0 0 := by
        intro w b2 hw hq2
        refine sg_istore_n kM_needed_70 (by decide) ?_
        refine sg_iinc kM_needed_71 rfl (ss_inc _) (by decide) ?_
        refine sg_goto 26 kM_needed_74 (by decide) ?_
        refine sg_lw (ih (i + 1) b2 (by omega) hq2) ⟨rfl, ?_, rfl, rfl, trivial⟩
        rw [← hw]
        rfl
      unfold ss_ts at hq
      refine sg_iload_n kM_needed_26 rfl ?_
      refine sg_bipush (v := 6) kM_needed_27 (by decide) ?_
      refine sg_icmp_ge 77 kM_needed_29 (by decide) (fun hb => ?_) (fun hb => ?_)
      · exact absurd hb (nI_ge (b := 6) (by omega) (by decide))
      · refine sg_iload_n kM_needed_32 rfl ?_
        refine sg_if_ne 65 kM_needed_33 (by decide) (fun hc => ?_) (fun hc => ?_)
        · rw [ss_b1] at hc
          subst hc
          refine sg_iconst (v := 1) kM_needed_65 (by decide) ?_
          refine sg_goto 70 kM_needed_66 (by decide) ?_
          exact back 1 true rfl hq
        · rw [ss_b0] at hc
          subst hc
          refine sg_aload_n kM_needed_36 rfl ?_
          refine sg_get fl_M_27 kM_needed_37 h1.go rfl ?_
          refine sg_iload_n kM_needed_40 rfl ?_
          refine sg_iald kM_needed_41 h1.gN (by omega) (by omega) ?_
          refine sg_if_le 69 kM_needed_42 (by decide) (fun he => ?_) (fun he => ?_)
          · rw [hn] at he
            rw [he] at hq
            refine sg_iconst (v := 0) kM_needed_69 (by decide) ?_
            exact back 0 false rfl hq
          · rw [hn] at he
            cases ho : st.2.2.2.2 i with
            | none => exact absurd ho he
            | some x =>
              rw [ho] at hm hq
              have hq : Qr (some (.int (ss_b (false || (f x.2.1 || (ss_ts st (i + 1) m).any f))))) z := hq
              refine sg_aload_n kM_needed_45 rfl ?_
              refine sg_aload_n kM_needed_46 rfl ?_
              refine sg_get fl_M_7 kM_needed_47 h1.go rfl ?_
              refine sg_iload_n kM_needed_50 rfl ?_
              refine sg_iald kM_needed_51 h1.gK (by omega) (by omega) ?_
              refine sg_aload_n kM_needed_52 rfl ?_
              refine sg_get fl_M_30 kM_needed_53 h1.go rfl ?_
              refine sg_iload_n kM_needed_56 rfl ?_
              refine sg_iald kM_needed_57 h1.gS (by omega) (by omega) ?_
              rw [kp, hm.2.1]
              refine sg_fV (As := [.int st.2.2.2.1[p].1, .int x.2.1]) (rest := []) (hV x.2.1) vl_M_76 kM_needed_58 h1.go rfl (Nat.le_of_ble_eq_true rfl) ⟨Nat.le_refl _, by show 8 + (5 + 11) + (30 * d + 60) ≤ 30 * (d + 1) + 60; omega⟩ ⟨Nat.le_refl _, Nat.le_refl _⟩ ?_
              refine sg_iload_n kM_needed_61 rfl ?_
              refine sg_icmp_ne 69 kM_needed_62 (by decide) (fun hd9 => ?_) (fun hd9 => ?_)
              · rw [hff _ hd9] at hq
                refine sg_iconst (v := 0) kM_needed_69 (by decide) ?_
                exact back 0 false rfl hq
              · rw [hft _ hd9] at hq
                refine sg_iconst (v := 1) kM_needed_65 (by decide) ?_
                refine sg_goto 70 kM_needed_66 (by decide) ?_
                exact back 1 true rfl hq
  refine sg_aload_n kM_needed_0 rfl ?_
  refine sg_aload_n kM_needed_1 rfl ?_
  refine sg_get fl_M_7 kM_needed_2 h1.go rfl ?_
  refine sg_iload_n kM_needed_5 rfl ?_
  refine sg_iald kM_needed_6 h1.gK (by omega) (by omega) ?_
  refine sg_aload_n kM_needed_7 rfl ?_
  refine sg_get fl_M_64 kM_needed_8 h1.go rfl ?_
  rw [kp]
  refine sg_fV (As := [.int st.2.2.2.1[p].1, .int st.1]) (rest := []) (hV st.1) vl_M_76 kM_needed_11 h1.go rfl (Nat.le_of_ble_eq_true rfl) ⟨Nat.le_refl _, by show 8 + (5 + 11) + (30 * d + 60) ≤ 30 * (d + 1) + 60; omega⟩ ⟨Nat.le_refl _, Nat.le_refl _⟩ ?_
  refine sg_iload_n kM_needed_14 rfl ?_
  refine sg_icmp_ne 22 kM_needed_15 (by decide) (fun hb => ?_) (fun hb => ?_)
  · rw [hff _ hb] at hq
    refine sg_iconst (v := 0) kM_needed_22 (by decide) ?_
    refine sg_istore_n kM_needed_23 (by decide) ?_
    refine sg_iconst (v := 0) kM_needed_24 (by decide) ?_
    refine sg_istore_n kM_needed_25 (by decide) ?_
    exact sg_lw (loop 6 0 false rfl hq) ⟨rfl, rfl, rfl, rfl, trivial⟩
  · rw [hft _ hb] at hq
    refine sg_iconst (v := 1) kM_needed_18 (by decide) ?_
    refine sg_goto 23 kM_needed_19 (by decide) ?_
    refine sg_istore_n kM_needed_23 (by decide) ?_
    refine sg_iconst (v := 0) kM_needed_24 (by decide) ?_
    refine sg_istore_n kM_needed_25 (by decide) ?_
    exact sg_lw (loop 6 0 true rfl hq) ⟨rfl, rfl, rfl, rfl, trivial⟩
/-- the entries kept among the first i -/
def ss_kp (TT : List Int32) (S : List ss_Ent) : Nat → List ss_Ent
  | 0 => []
  | i + 1 => if ss_need TT S i = true then ss_kp TT S i ++ (S[i]?).toList else ss_kp TT S i
theorem ss_kp_len (TT : List Int32) (S : List ss_Ent) : ∀ i, (ss_kp TT S i).length ≤ i := by
  intro i
  induction i with
  | zero => exact Nat.le_refl _
  | succ i ih =>
    unfold ss_kp
    split
    · rw [List.length_append]
      cases S[i]? with
      | none => simp; omega
      | some e => simp; omega
    · omega
theorem ss_kp_keep (TT : List Int32) (S : List ss_Ent) : ∀ i, i ≤ S.length → ss_kp TT S i ++ ss_keep TT S i = ss_keep TT S 0 := by
  intro i
  induction i with
  | zero => intro _; rfl
  | succ i ih =>
    intro hi
    have hg : S[i]? = some S[i] := List.getElem?_eq_getElem (by omega)
    have hk : ss_kp TT S (i + 1) = if ss_need TT S i = true then ss_kp TT S i ++ (S[i]?).toList else ss_kp TT S i := rfl
    rw [← ih (by omega), ss_keep_step hg, hk]
    by_cases hn : ss_need TT S i = true
    · rw [if_pos hn, if_pos hn, hg, List.append_assoc]
      rfl
    · rw [if_neg hn, if_neg hn]
theorem ss_kp_vac (TT : List Int32) (S : List ss_Ent) : ss_kp TT S S.length = ss_vac TT S.length S := by
  have h := ss_kp_keep TT S S.length (Nat.le_refl _)
  rw [ss_keep_end, List.append_nil] at h
  rw [h, ss_vac_all]
set_option maxRecDepth 100000 in
theorem cM_vacuum (hst : l.stackTraces = false) (hsm : ss_sm st) (h : ss_MP V z a st th va) (hq : ∀ z', ss_MP V z' a (nx_vacuum st) 0 va → ss_fr (ss_mc a) z z' → Qr (some (.int (an_vacuum st))) z') : ss_C V l (d + 2) mM_vacuum 0 0 [.ref a] z Qr Qx := by
  obtain ⟨fo, fK, fT, fW, fE, fY, fN, fS, fC, fA, fB, fD, h1, h2, h3⟩ := h
  have hlen := hsm.2.1
  refine ss_C.of hst rfl (by decide) (Nat.le_of_ble_eq_true rfl) ?_
  unfold nx_vacuum an_vacuum at hq
  rw [← ss_kp_vac] at hq
  have pack : ∀ m i z2 (gK gT : Nat → Int32) (gW : Nat → Int64) (gE gY : Nat → Int32), i + m = st.2.2.2.1.length → ss_fr (ss_mc a) z z2 → (∀ j, j < st.2.2.2.1.length → gY j = ss_b (ss_need (ss_tt st) st.2.2.2.1 j)) → ss_mo V z2 a 0 st.1 st.2.1 (nI st.2.2.1) (nI st.2.2.2.1.length) fo va gK gT gW gE gY fN fS fC fA fB fD → ss_me (ss_kp (ss_tt st) st.2.2.2.1 i) gK gT gW gE → (∀ j e, i ≤ j → st.2.2.2.1[j]? = some e → gK j = e.1 ∧ gT j = e.2.1 ∧ gW j = e.2.2.1 ∧ gE j = ss_b e.2.2.2) → ss_G V l mM_vacuum (ss_rm (d + 2) 0 0) (ss_Q V Qr Qx 0 0) 38 [(3, .int (nI i)), (1, .int (nI (ss_kp (ss_tt st) st.2.2.2.1 i).length)), (2, .int (nI st.2.2.2.1.length)), (0, .ref a)] [] z2 0 0 := by
    intro m
    induction m with
    | zero =>
      intro i z2 gK gT gW gE gY hi hF hY h1 h2 h4
      have hi : i = st.2.2.2.1.length := by omega
      subst hi
      have hkl := ss_kp_len (ss_tt st) st.2.2.2.1 st.2.2.2.1.length
      refine sg_iload_n kM_vacuum_38 rfl ?_
      refine sg_iload_n kM_vacuum_39 rfl ?_
      refine sg_icmp_ge 109 kM_vacuum_40 (by decide) (fun hb => ?_) (fun hb => ?_)
      · refine sg_aload_n kM_vacuum_109 rfl ?_
        refine sg_iload_n kM_vacuum_110 rfl ?_
        refine sg_put fl_M_73 kM_vacuum_111 h1.go rfl rfl rfl (Nat.le_of_ble_eq_true rfl) (fun z3 u3 => ?_)
        have h1 := h1.obj u3
        refine sg_aload_n kM_vacuum_114 rfl ?_
        refine sg_aload_n kM_vacuum_115 rfl ?_
        refine sg_get fl_M_64 kM_vacuum_116 h1.go rfl ?_
        refine sg_put fl_M_70 kM_vacuum_119 h1.go rfl rfl rfl (Nat.le_of_ble_eq_true rfl) (fun z4 u4 => ?_)
        have h1 := h1.obj u4
        refine sg_iload_n kM_vacuum_122 rfl ?_
        refine sg_iload_n kM_vacuum_123 rfl ?_
        refine sg_isub kM_vacuum_124 ?_
        refine sg_i (pk_sub hkl) ?_
        exact sg_iret kM_vacuum_125 rfl rfl (hq z4 ⟨_, _, _, _, _, _, _, _, _, _, _, _, h1, h2, h3⟩ ((hF.tr (u3.fr ⟨by omega, by omega⟩)).tr (u4.fr ⟨by omega, by omega⟩))) (Nat.le_refl _) (Nat.le_refl _)
      · exact absurd (nI_le (Nat.le_refl _) (by omega)) hb
    | succ m ih =>
      intro i z2 gK gT gW gE gY hi hF hY h1 h2 h4
      have hi2 : i < st.2.2.2.1.length := by omega
      have hg := List.getElem?_eq_getElem hi2
      obtain ⟨e1, e2, e3, e4⟩ := h4 i _ (Nat.le_refl _) hg
      have hkl := ss_kp_len (ss_tt st) st.2.2.2.1 i
      have hkp : ss_kp (ss_tt st) st.2.2.2.1 (i + 1) = if ss_need (ss_tt st) st.2.2.2.1 i = true then ss_kp (ss_tt st) st.2.2.2.1 i ++ (st.2.2.2.1[i]?).toList else ss_kp (ss_tt st) st.2.2.2.1 i := rfl
      refine sg_iload_n kM_vacuum_38 rfl ?_
      refine sg_iload_n kM_vacuum_39 rfl ?_
      refine sg_icmp_ge 109 kM_vacuum_40 (by decide) (fun hb => ?_) (fun hb => ?_)
      · exact absurd hb (nI_ge (by omega) (by omega))
      · refine sg_aload_n kM_vacuum_43 rfl ?_
        refine sg_get fl_M_24 kM_vacuum_44 h1.go rfl ?_
        refine sg_iload_n kM_vacuum_47 rfl ?_
        refine sg_zald kM_vacuum_48 h1.gY (by omega) (by omega) ?_
        rw [hY i hi2]
        refine sg_if_eq 103 kM_vacuum_49 (by decide) (fun hc => ?_) (fun hc => ?_)
        · rw [ss_b0] at hc
          rw [if_neg (by rw [hc]; decide)] at hkp
          refine sg_iinc kM_vacuum_103 rfl (ss_inc _) (by decide) ?_
          refine sg_goto 38 kM_vacuum_106 (by decide) ?_
          refine sg_lw (ih (i + 1) z2 gK gT gW gE gY (by omega) hF hY h1 (by rw [hkp]; exact h2) (fun j e hj he => h4 j e (by omega) he)) ⟨rfl, ?_, rfl, rfl, trivial⟩
          rw [hkp]
          rfl
        · rw [ss_b1] at hc
          rw [if_pos hc, hg] at hkp
          obtain ⟨c, hc0⟩ : ∃ c, c = (ss_kp (ss_tt st) st.2.2.2.1 i).length := ⟨_, rfl⟩
          have h2' := ss_row_snoc (es := ss_kp (ss_tt st) st.2.2.2.1 i) st.2.2.2.1[i].1 st.2.2.2.1[i].2.1 st.2.2.2.1[i].2.2.1 st.2.2.2.1[i].2.2.2 h2
          rw [← hc0] at h2' hkl
          rw [← hc0]
          refine sg_aload_n kM_vacuum_52 rfl ?_
          refine sg_get fl_M_7 kM_vacuum_53 h1.go rfl ?_
          refine sg_iload_n kM_vacuum_56 rfl ?_
          refine sg_aload_n kM_vacuum_57 rfl ?_
          refine sg_get fl_M_7 kM_vacuum_58 h1.go rfl ?_
          refine sg_iload_n kM_vacuum_61 rfl ?_
          refine sg_iald kM_vacuum_62 h1.gK (by omega) (by omega) ?_
          rw [e1]
          refine sg_iast kM_vacuum_63 h1.gK (by omega) (by omega) (fun z3 u3 => ?_)
          have h1 := h1.upK u3
          refine sg_aload_n kM_vacuum_64 rfl ?_
          refine sg_get fl_M_13 kM_vacuum_65 h1.go rfl ?_
          refine sg_iload_n kM_vacuum_68 rfl ?_
          refine sg_aload_n kM_vacuum_69 rfl ?_
          refine sg_get fl_M_13 kM_vacuum_70 h1.go rfl ?_
          refine sg_iload_n kM_vacuum_73 rfl ?_
          refine sg_iald kM_vacuum_74 h1.gT (by omega) (by omega) ?_
          rw [e2]
          refine sg_iast kM_vacuum_75 h1.gT (by omega) (by omega) (fun z4 u4 => ?_)
          have h1 := h1.upT u4
          refine sg_aload_n kM_vacuum_76 rfl ?_
          refine sg_get fl_M_16 kM_vacuum_77 h1.go rfl ?_
          refine sg_iload_n kM_vacuum_80 rfl ?_
          refine sg_aload_n kM_vacuum_81 rfl ?_
          refine sg_get fl_M_16 kM_vacuum_82 h1.go rfl ?_
          refine sg_iload_n kM_vacuum_85 rfl ?_
          refine sg_lald kM_vacuum_86 h1.gW (by omega) (by omega) ?_
          rw [e3]
          refine sg_last kM_vacuum_87 h1.gW (by omega) (by omega) (fun z5 u5 => ?_)
          have h1 := h1.upW u5
          refine sg_aload_n kM_vacuum_88 rfl ?_
          refine sg_get fl_M_20 kM_vacuum_89 h1.go rfl ?_
          refine sg_iload_n kM_vacuum_92 rfl ?_
          refine sg_aload_n kM_vacuum_93 rfl ?_
          refine sg_get fl_M_20 kM_vacuum_94 h1.go rfl ?_
          refine sg_iload_n kM_vacuum_97 rfl ?_
          refine sg_zald kM_vacuum_98 h1.gE (by omega) (by omega) ?_
          rw [e4]
          refine sg_zast kM_vacuum_99 h1.gE (by omega) (by omega) (ss_bn _) (fun z6 u6 => ?_)
          have h1 := h1.upE u6
          refine sg_iinc kM_vacuum_100 rfl (ss_inc _) (by decide) ?_
          refine sg_iinc kM_vacuum_103 rfl (ss_inc _) (by decide) ?_
          refine sg_goto 38 kM_vacuum_106 (by decide) ?_
          refine sg_lw (ih (i + 1) z6 (upd gK c st.2.2.2.1[i].1) (upd gT c st.2.2.2.1[i].2.1) (vp_updL gW c st.2.2.2.1[i].2.2.1) (upd gE c (ss_b st.2.2.2.1[i].2.2.2)) gY (by omega) ((((hF.tr (u3.fr ⟨by omega, by omega⟩)).tr (u4.fr ⟨by omega, by omega⟩)).tr (u5.fr ⟨by omega, by omega⟩)).tr (u6.fr ⟨by omega, by omega⟩)) hY h1 ?_ (fun j e hj he => ?_)) ⟨rfl, ?_, rfl, rfl, trivial⟩
          · rw [hkp]
            exact h2'
          · rw [pk_un (by omega), pk_un (by omega), pk_uLn (by omega), pk_un (by omega)]
            exact h4 j e (by omega) he
          · rw [hkp, List.length_append, ← hc0]
            rfl
  have mark : ∀ m i z2 (gY : Nat → Int32), i + m = st.2.2.2.1.length → ss_fr (ss_mc a) z z2 → (∀ j, j < i → gY j = ss_b (ss_need (ss_tt st) st.2.2.2.1 j)) → ss_mo V z2 a 0 st.1 st.2.1 (nI st.2.2.1) (nI st.2.2.2.1.length) fo va fK fT fW fE gY fN fS fC fA fB fD → ss_G V l mM_vacuum (ss_rm (d + 2) 0 0) (ss_Q V Qr Qx 0 0) 14 [(3, .int (nI i)), (1, .int 0), (2, .int (nI st.2.2.2.1.length)), (0, .ref a)] [] z2 0 0 := by
    intro m
    induction m with
    | zero =>
      intro i z2 gY hi hF hY h1
      have hi : i = st.2.2.2.1.length := by omega
      subst hi
      refine sg_iload_n kM_vacuum_14 rfl ?_
      refine sg_iload_n kM_vacuum_15 rfl ?_
      refine sg_icmp_ge 36 kM_vacuum_16 (by decide) (fun hb => ?_) (fun hb => ?_)
      · refine sg_iconst (v := 0) kM_vacuum_36 (by decide) ?_
        refine sg_istore_n kM_vacuum_37 (by decide) ?_
        exact sg_lw (pack st.2.2.2.1.length 0 z2 fK fT fW fE gY (by omega) hF hY h1 (fun j e hj => by cases hj) (fun j e _ he => h2 j e he)) ⟨rfl, rfl, rfl, rfl, trivial⟩
      · exact absurd (nI_le (Nat.le_refl _) (by omega)) hb
    | succ m ih =>
      intro i z2 gY hi hF hY h1
      have hi2 : i < st.2.2.2.1.length := by omega
      have hM2 : ss_MP V z2 a st 0 va := ⟨_, _, _, _, _, _, _, _, _, _, _, _, h1, h2, h3⟩
      refine sg_iload_n kM_vacuum_14 rfl ?_
      refine sg_iload_n kM_vacuum_15 rfl ?_
      refine sg_icmp_ge 36 kM_vacuum_16 (by decide) (fun hb => ?_) (fun hb => ?_)
      · exact absurd hb (nI_ge (by omega) (by omega))
      · refine sg_aload_n kM_vacuum_19 rfl ?_
        refine sg_get fl_M_24 kM_vacuum_20 h1.go rfl ?_
        refine sg_iload_n kM_vacuum_23 rfl ?_
        refine sg_aload_n kM_vacuum_24 rfl ?_
        refine sg_iload_n kM_vacuum_25 rfl ?_
        refine sg_fV (As := [.int (nI i)]) (rest := [.int (nI i), .ref (a + 5)]) (cM_needed (d := d) hst hsm hM2 hi2) vl_M_105 kM_vacuum_26 h1.go rfl (Nat.le_of_ble_eq_true rfl) ⟨Nat.le_refl _, by show 8 + (4 + 11) + (30 * (d + 1) + 60) ≤ 30 * (d + 2) + 60; omega⟩ ⟨Nat.le_refl _, Nat.le_refl _⟩ ?_
        refine sg_zast kM_vacuum_29 h1.gY (by omega) (by omega) (ss_bn _) (fun z3 u3 => ?_)
        have h1 := h1.upY u3
        refine sg_iinc kM_vacuum_30 rfl (ss_inc _) (by decide) ?_
        refine sg_goto 14 kM_vacuum_33 (by decide) ?_
        refine sg_lw (ih (i + 1) z3 (upd gY i (ss_b (ss_need (ss_tt st) st.2.2.2.1 i))) (by omega) (hF.tr (u3.fr ⟨by omega, by omega⟩)) (fun j hj => ?_) h1) ⟨rfl, rfl, rfl, rfl, trivial⟩
        by_cases hji : j = i
        · subst hji
          exact pk_us
        · rw [pk_un hji]
          exact hY j (by omega)
  refine sg_aload_n kM_vacuum_0 rfl ?_
  refine sg_iconst (v := 0) kM_vacuum_1 (by decide) ?_
  refine sg_put fl_M_45 kM_vacuum_2 h1.go rfl rfl rfl (Nat.le_of_ble_eq_true rfl) (fun z1 u1 => ?_)
  have h1 := h1.obj u1
  refine sg_iconst (v := 0) kM_vacuum_5 (by decide) ?_
  refine sg_istore_n kM_vacuum_6 (by decide) ?_
  refine sg_aload_n kM_vacuum_7 rfl ?_
  refine sg_get fl_M_73 kM_vacuum_8 h1.go rfl ?_
  refine sg_istore_n kM_vacuum_11 (by decide) ?_
  refine sg_iconst (v := 0) kM_vacuum_12 (by decide) ?_
  refine sg_istore_n kM_vacuum_13 (by decide) ?_
  exact sg_lw (mark st.2.2.2.1.length 0 z1 fY (by omega) (u1.fr ⟨by omega, by omega⟩) (fun j hj => by omega) h1) ⟨rfl, rfl, rfl, rfl, trivial⟩
end SSDD
