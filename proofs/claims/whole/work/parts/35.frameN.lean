/-! Constructors: a judgement that knows the heap's size, so that a new object's address is known. Printed by wip/gen/frameN.py. -/
def ss_GN (X : State → Prop) (V : ss_V) (l : Launch) (M : ss_M) (R : Room) (Q : List Frame → Array Value → State → State → Prop) (sz pc : Nat) (lo : List (Nat × Value)) (st : List Value) (z : ss_Z) (k n : Nat) : Prop :=
  ∀ (p : Program) (e : Env) (s : State) (m : MethodId) (args : Array Value) (below : List Frame) (meth : Method) (c : Code) (H : Heap) (locs : List Loc) (ls : Array Slot), ss_cx V l M p s m args meth c → X s → lv_has ls M.2.2.1 lo → ss_ok V z H → va_S (sv_A V) s.heap H locs → s.heap.size = sz → sz + k ≤ H.size → W p l e R s m args below meth c H locs k n (Q below args s) (F0 m pc ls st)
def ss_QN (V : ss_V) (sz : Nat) (Qr : ss_Z → Prop) (mc : Nat) : Array Value → State → Outcome → State → Prop := fun _ st o t => (o = .returned none ∧ ∃ z' : ss_Z, Qr z' ∧ ss_ok V z' t.heap ∧ sz + mc ≤ t.heap.size) ∧ va_F (sv_A V) st t
def ss_CI (X : State → Prop) (V : ss_V) (l : Launch) (d : Nat) (M : ss_M) (mc ms : Nat) (av : List Value) (z : ss_Z) (sz : Nat) (Qr : ss_Z → Prop) : Prop :=
  Met l M.1 (ss_ws M) (ss_rm d mc ms) (fun a U => ss_Pc V av z a U ∧ U.heap.size = sz ∧ X U) (ss_QN V sz Qr mc) mc ms (sv_A V)
def ss_Q0 (V : ss_V) (sz : Nat) (Qr : ss_Z → Prop) (mc ms : Nat) : List Frame → Array Value → State → State → Prop := fun below args s => MQ below (ss_QN V sz Qr mc) args s mc ms (sv_A V)
/-- what a fact beside the heap survives -/
def ss_mv (X : State → Prop) : Prop := ∀ s U : State, s.WarmedH U.vm → X s → X U
theorem ss_Str {A : Nat → Prop} {H0 H H1 : Heap} {locs locs1 : List Loc} (h : va_S A H0 H locs) (h1 : va_S A H H1 locs1) : va_S A H0 H1 locs1 := ⟨Nat.le_trans h.1 h1.1, fun q a b => (h1.2.1 q (Nat.lt_of_lt_of_le a h.1) b).trans (h.2.1 q a b), h1.2.2⟩
theorem ss_Srf {A : Nat → Prop} {H0 H : Heap} {locs : List Loc} (h : va_S A H0 H locs) : va_S A H H locs := ⟨Nat.le_refl _, fun _ _ _ => rfl, h.2.2⟩
/-- a new thing -/
def ss_new2 (z : ss_Z) (a : Nat) (e : va_E) (z' : ss_Z) : Prop := z'.1 = z.1 ++ [a] ∧ z'.2 = va_up z.2 a e
theorem ss_new2.at {z z' : ss_Z} {a : Nat} {e : va_E} (u : ss_new2 z a e z') : ss_at z' a e := ⟨by rw [u.1]; exact List.mem_append_right _ (List.mem_singleton.mpr rfl), by rw [u.2]; exact va_up_self _ _ _⟩
theorem ss_new2.ne {z z' : ss_Z} {a b : Nat} {e e' : va_E} (u : ss_new2 z a e' z') (h : ss_at z b e) (hn : b ≠ a) : ss_at z' b e := ⟨by rw [u.1]; exact List.mem_append_left _ h.1, by rw [u.2, va_up_ne _ _ hn]; exact h.2⟩
/-- nothing is lost, and what P doesn't name is as it was -/
def ss_gr (P : Nat → Prop) (z z' : ss_Z) : Prop := (∀ a, a ∈ z.1 → a ∈ z'.1) ∧ ∀ a, ¬ P a → z'.2 a = z.2 a
theorem ss_gr.rf {P : Nat → Prop} {z : ss_Z} : ss_gr P z z := ⟨fun _ h => h, fun _ _ => rfl⟩
theorem ss_gr.tr {P : Nat → Prop} {z z1 z2 : ss_Z} (h1 : ss_gr P z z1) (h2 : ss_gr P z1 z2) : ss_gr P z z2 := ⟨fun a h => h2.1 a (h1.1 a h), fun b hb => (h2.2 b hb).trans (h1.2 b hb)⟩
theorem ss_gr.mono {P P' : Nat → Prop} {z z1 : ss_Z} (h1 : ss_gr P z z1) (h : ∀ a, P a → P' a) : ss_gr P' z z1 := ⟨h1.1, fun b hb => h1.2 b (fun q => hb (h b q))⟩
theorem ss_gr.at {P : Nat → Prop} {z z1 : ss_Z} (h1 : ss_gr P z z1) {a : Nat} {e : va_E} (h : ss_at z a e) (hp : ¬ P a) : ss_at z1 a e := ⟨h1.1 a h.1, by rw [h1.2 a hp]; exact h.2⟩
theorem ss_upd.gr {z z' : ss_Z} {a : Nat} {e' : va_E} (u : ss_upd z a e' z') {P : Nat → Prop} (hp : P a) : ss_gr P z z' := ⟨fun b h => by rw [u.1]; exact h, fun b hb => by rw [u.2, va_up_ne _ _ (fun q => hb (by rw [q]; exact hp))]⟩
theorem ss_new2.gr {z z' : ss_Z} {a : Nat} {e' : va_E} (u : ss_new2 z a e' z') {P : Nat → Prop} (hp : P a) : ss_gr P z z' := ⟨fun b h => by rw [u.1]; exact List.mem_append_left _ h, fun b hb => by rw [u.2, va_up_ne _ _ (fun q => hb (by rw [q]; exact hp))]⟩
theorem ss_wsz {p : Program} {l : Launch} {e : Env} {R : Room} {s : State} {m : MethodId} {args : Array Value} {below : List Frame} {meth : Method} {c : Code} {H : Heap} {locs : List Loc} {k n sz : Nat} {Q : State → Prop} {g : JFrame} (hz : s.heap.size = sz) (hk : sz + k ≤ H.size) (kk : H.size = sz + k → W p l e R s m args below meth c H locs k n Q g) : W p l e R s m args below meth c H locs k n Q g := by
  intro T hT X
  have h1 : T.heap.size ≤ s.heap.size + k := X.same.2.2.1
  rw [hT, hz] at h1
  exact kk (Nat.le_antisymm h1 hk) T hT X
/-- a pushed cell -/
theorem ss_push {V : ss_V} {z : ss_Z} {H H1 : Heap} {a : Nat} {e : va_E} (hw : ss_ok V z H) (ha : H.size = a) (hAa : sv_A V a) (o1 : ∀ q : Nat, q < a → H1[q]? = H[q]?) (h : va_at V.1 ss_cl (a, e) H1) : ss_ok V (z.1 ++ [a], va_up z.2 a e) H1 := by
  have hni : a ∉ z.1 := by
    intro hm
    obtain ⟨k, hk⟩ := ss_get (z := z) (a := a) (e := z.2 a) ⟨hm, rfl⟩
    have := (hw.1 k _ hk).lt
    have h9 : a < H.size := this
    omega
  have hp : va_pl (z.1 ++ [a]) (va_up z.2 a e) = va_pl z.1 z.2 ++ [(a, e)] := (va_pl_push hni).symm
  have hk : ∀ (k : Nat) (x : Nat × va_E), (va_pl z.1 z.2)[k]? = some x → H1[x.1]? = H[x.1]? := fun k x hx => o1 x.1 (by rw [← ha]; exact (hw.1 k x hx).lt)
  refine ⟨?_, ?_⟩
  · show va_P V.1 ss_cl (va_pl (z.1 ++ [a]) (va_up z.2 a e)) H1
    rw [hp]
    refine (hw.1.kept hk).app (fun k x hx => ?_)
    have hz : k < 1 := (List.getElem?_eq_some_iff.mp hx).1
    rw [show k = 0 by omega] at hx
    cases hx
    exact h
  · show va_D (sv_A V) (va_pl (z.1 ++ [a]) (va_up z.2 a e))
    rw [hp]
    exact hw.2.push hw.1 ha.symm hAa
section SSNN
variable {X : State → Prop} {V : ss_V} {l : Launch} {M : ss_M} {R : Room} {Q : List Frame → Array Value → State → State → Prop} {sz pc : Nat} {lo lo' : List (Nat × Value)} {st rest : List Value} {z : ss_Z} {k n : Nat}
theorem sn_of (kk : ss_G V l M R Q pc lo st z k n) : ss_GN X V l M R Q sz pc lo st z k n := by
  intro p e s m args below meth c H locs ls C hX hl hw hS hz hk
  exact kk p e s m args below meth c H locs ls C hl hw hS
theorem sn_lw (kk : ss_GN X V l M R Q sz pc lo' st z k n) (h : ss_le lo' lo) : ss_GN X V l M R Q sz pc lo st z k n := by
  intro p e s m args below meth c H locs ls C hX hl hw hS hz hk
  exact kk p e s m args below meth c H locs ls C hX (ss_le_has hl h) hw hS hz hk
theorem sn_st {st' : List Value} (h : st = st') (kk : ss_GN X V l M R Q sz pc lo st' z k n) : ss_GN X V l M R Q sz pc lo st z k n := h ▸ kk
theorem sn_iconst {i : Int} {v : Int32} (hd : decode M.2.1 pc = .ok (.iconst i, 1)) (hv : Int32.ofInt i = v) (kk : ss_GN X V l M R Q sz (pc + 1) lo (.int v :: st) z k n) : ss_GN X V l M R Q sz pc lo st z k n := by
  intro p e s m args below meth c H locs ls C hX hl hw hS hz hk
  exact lv_iconst C.1 C.2.1 hd hv (kk p e s m args below meth c H locs ls C hX hl hw hS hz hk)
theorem sn_bipush {i : Int} {v : Int32} (hd : decode M.2.1 pc = .ok (.bipush i, 2)) (hv : (Int8.ofInt i).toInt32 = v) (kk : ss_GN X V l M R Q sz (pc + 2) lo (.int v :: st) z k n) : ss_GN X V l M R Q sz pc lo st z k n := by
  intro p e s m args below meth c H locs ls C hX hl hw hS hz hk
  exact lv_bipush C.1 C.2.1 hd hv (kk p e s m args below meth c H locs ls C hX hl hw hS hz hk)
theorem sn_iload_n {j : Fin 4} {x : Int32} (hd : decode M.2.1 pc = .ok (.iload_n j, 1)) (hi : ss_lk lo j.val = some (.int x)) (kk : ss_GN X V l M R Q sz (pc + 1) lo (.int x :: st) z k n) : ss_GN X V l M R Q sz pc lo st z k n := by
  intro p e s m args below meth c H locs ls C hX hl hw hS hz hk
  exact lv_iload_n C.1 C.2.1 hd rfl (ss_lk_at hl hi) (kk p e s m args below meth c H locs ls C hX hl hw hS hz hk)
theorem sn_istore_n {j : Fin 4} {x : Int32} (hd : decode M.2.1 pc = .ok (.istore_n j, 1)) (hn : j.val < M.2.2.1) (kk : ss_GN X V l M R Q sz (pc + 1) (ss_s1 lo j.val (.int x)) st z k n) : ss_GN X V l M R Q sz pc lo (.int x :: st) z k n := by
  intro p e s m args below meth c H locs ls C hX hl hw hS hz hk
  exact lv_istore_n C.1 C.2.1 hd rfl hl hn rfl (fun ls2 hl2 => (kk p e s m args below meth c H locs ls2 C hX hl2 hw hS hz hk))
theorem sn_aload_n {j : Fin 4} {x : Nat} (hd : decode M.2.1 pc = .ok (.aload_n j, 1)) (hi : ss_lk lo j.val = some (.ref x)) (kk : ss_GN X V l M R Q sz (pc + 1) lo (.ref x :: st) z k n) : ss_GN X V l M R Q sz pc lo st z k n := by
  intro p e s m args below meth c H locs ls C hX hl hw hS hz hk
  exact lv_aload_n C.1 C.2.1 hd rfl (ss_lk_at hl hi) (kk p e s m args below meth c H locs ls C hX hl hw hS hz hk)
theorem sn_astore_n {j : Fin 4} {x : Nat} (hd : decode M.2.1 pc = .ok (.astore_n j, 1)) (hn : j.val < M.2.2.1) (kk : ss_GN X V l M R Q sz (pc + 1) (ss_s1 lo j.val (.ref x)) st z k n) : ss_GN X V l M R Q sz pc lo (.ref x :: st) z k n := by
  intro p e s m args below meth c H locs ls C hX hl hw hS hz hk
  exact lv_astore_n C.1 C.2.1 hd rfl hl hn rfl (fun ls2 hl2 => (kk p e s m args below meth c H locs ls2 C hX hl2 hw hS hz hk))
theorem sn_iinc {j : Nat} {i : Int} {x v : Int32} (hd : decode M.2.1 pc = .ok (.iinc j i, 3)) (hi : ss_lk lo j = some (.int x)) (hv : x + Int32.ofInt i = v) (hn : j < M.2.2.1) (kk : ss_GN X V l M R Q sz (pc + 3) (ss_s1 lo j (.int v)) st z k n) : ss_GN X V l M R Q sz pc lo st z k n := by
  intro p e s m args below meth c H locs ls C hX hl hw hS hz hk
  obtain ⟨q, hq⟩ := List.getElem?_of_mem (ss_lk_mem hi)
  exact lv_iinc C.1 C.2.1 hd hl hq hv hn rfl (fun ls2 hl2 => (kk p e s m args below meth c H locs ls2 C hX hl2 hw hS hz hk))
theorem sn_dup {va : Value} (hd : decode M.2.1 pc = .ok (.dup, 1)) (hc : va.category = 1) (kk : ss_GN X V l M R Q sz (pc + 1) lo (va :: va :: st) z k n) : ss_GN X V l M R Q sz pc lo (va :: st) z k n := by
  intro p e s m args below meth c H locs ls C hX hl hw hS hz hk
  exact lv_dup C.1 C.2.1 hd hc (kk p e s m args below meth c H locs ls C hX hl hw hS hz hk)
theorem sn_goto {off : Int} (tgt : Nat) (hd : decode M.2.1 pc = .ok (.goto off, 3)) (ht : (pc : Int) + off = (tgt : Int)) (kk : ss_GN X V l M R Q sz tgt lo st z k n) : ss_GN X V l M R Q sz pc lo st z k n := by
  intro p e s m args below meth c H locs ls C hX hl hw hS hz hk
  exact lv_goto C.1 C.2.1 hd ht (kk p e s m args below meth c H locs ls C hX hl hw hS hz hk)
theorem sn_icmp_ge {x y : Int32} {off : Int} (tgt : Nat) (hd : decode M.2.1 pc = .ok (.if_icmp .ge off, 3)) (ht : (pc : Int) + off = (tgt : Int)) (kt : y ≤ x → ss_GN X V l M R Q sz tgt lo st z k n) (kf : ¬ y ≤ x → ss_GN X V l M R Q sz (pc + 3) lo st z k n) : ss_GN X V l M R Q sz pc lo (.int y :: .int x :: st) z k n := by
  intro p e s m args below meth c H locs ls C hX hl hw hS hz hk
  exact lv_icmp_ge C.1 C.2.1 hd ht (fun h9 => kt h9 p e s m args below meth c H locs ls C hX hl hw hS hz hk) (fun h9 => kf h9 p e s m args below meth c H locs ls C hX hl hw hS hz hk)
theorem sn_get {idx ci j a : Nat} {fs : List Value} {v : Value} (fl : ss_FL M.1.cls idx ci j) (hd : decode M.2.1 pc = .ok (.getfield idx, 3)) (ha : ss_at z a (.inr (ci, fs))) (hv : fs[j]? = some v) (kk : ss_GN X V l M R Q sz (pc + 3) lo (v :: st) z k n) : ss_GN X V l M R Q sz pc lo (.ref a :: st) z k n := by
  intro p e s m args below meth c H locs ls C hX hl hw hS hz hk
  obtain ⟨q0, hq⟩ := ss_get ha
  exact va_get (D := V.1) (Ts := ss_good) C.1 C.2.1 C.2.2.2.2.2.1 (ss_ct_in fl.1) C.2.2.2.2.2.2.1 C.2.2.2.2.2.2.2.1.1 hw.1 q0 hq (ss_ct_at fl.1) j fl.2.1 (C.2.2.2.2.2.1 _ fl.2.2.1) (fun x h => by rw [fl.2.2.2] at h; exact h) hv hd (kk p e s m args below meth c H locs ls C hX hl hw hS hz hk)
theorem sn_alenT {a N : Nat} {f : Nat → Option Nat} (hd : decode M.2.1 pc = .ok (.arraylength, 1)) (ha : ss_at z a (.inl (sv_T V, N, .inr (.inr (.inr (.inr f)))))) (kk : ss_GN X V l M R Q sz (pc + 1) lo (.int (nI N) :: st) z k n) : ss_GN X V l M R Q sz pc lo (.ref a :: st) z k n := by
  intro p e s m args below meth c H locs ls C hX hl hw hS hz hk
  obtain ⟨q0, hq⟩ := ss_get ha
  exact va_alen (D := V.1) (cl := ss_cl) (tys := ss_tys V) (ty := .object RX1) C.1 C.2.1 C.2.2.2.2.2.2.2.1.1 hw.1 q0 3 hq rfl rfl hd (kk p e s m args below meth c H locs ls C hX hl hw hS hz hk)
theorem sn_put {idx ci j a : Nat} {fs : List Value} {v : Value} (fl : ss_FL M.1.cls idx ci j) (hd : decode M.2.1 pc = .ok (.putfield idx, 3)) (ha : ss_at z a (.inr (ci, fs))) (hfin : ((ss_ct ci).1.2.1 j).2.2.2 = false) (hn : narrow ((ss_ct ci).2 j) v = v) (hf : fits ((ss_ct ci).2 j) v = true) (hl9 : j < fs.length) (kk : ∀ z', ss_upd z a (.inr (ci, fs.set j v)) z' → ss_GN X V l M R Q sz (pc + 3) lo st z' k n) : ss_GN X V l M R Q sz pc lo (v :: .ref a :: st) z k n := by
  intro p e s m args below meth c H locs ls C hX hl hw hS hz hk
  obtain ⟨q0, hq⟩ := ss_get ha
  refine va_put (D := V.1) (Ts := ss_good) (H0 := H) (ty := (ss_ct ci).2 j) C.1 C.2.1 C.2.2.2.2.2.1 (ss_ct_in fl.1) (ss_ct ci).2 (ss_ct_ty fl.1) (ss_ct_nm fl.1) C.2.2.2.2.2.2.1 C.2.2.2.2.2.2.2.1.1 hw.1 hw.2 (ss_Srf hS) q0 hq (ss_ct_at fl.1) j fl.2.1 (C.2.2.2.2.2.1 _ fl.2.2.1) (fun x h => by rw [fl.2.2.2] at h; exact h) hfin (ss_ct_ty fl.1 j fl.2.1) hn hf hl9 hd (fun H1 locs1 hP1 hD1 hS1 => ?_)
  rw [ss_set ha hw.2 hq] at hP1 hD1
  exact kk (z.1, va_up z.2 a (.inr (ci, fs.set j v))) ⟨rfl, rfl⟩ p e s m args below meth c H1 locs1 ls C hX hl ⟨hP1, hD1⟩ (ss_Str hS hS1) hz (Nat.le_trans hk hS1.1)
theorem sn_putF {idx ci j a : Nat} {fs : List Value} {v : Value} (fl : ss_FL M.1.cls idx ci j) (hd : decode M.2.1 pc = .ok (.putfield idx, 3)) (ha : ss_at z a (.inr (ci, fs))) (hfin : ((ss_ct ci).1.2.1 j).2.2.2 = true) (hnm : M.1.name = "<init>") (hdc : ((ss_ct ci).1.2.1 j).1 = M.1.cls) (hn : narrow ((ss_ct ci).2 j) v = v) (hf : fits ((ss_ct ci).2 j) v = true) (hl9 : j < fs.length) (kk : ∀ z', ss_upd z a (.inr (ci, fs.set j v)) z' → ss_GN X V l M R Q sz (pc + 3) lo st z' k n) : ss_GN X V l M R Q sz pc lo (v :: .ref a :: st) z k n := by
  intro p e s m args below meth c H locs ls C hX hl hw hS hz hk
  obtain ⟨q0, hq⟩ := ss_get ha
  refine va_putF (D := V.1) (Ts := ss_good) (H0 := H) (ty := (ss_ct ci).2 j) C.1 C.2.1 C.2.2.2.2.2.1 (ss_ct_in fl.1) (ss_ct ci).2 (ss_ct_ty fl.1) (ss_ct_nm fl.1) C.2.2.2.2.2.2.1 C.2.2.2.2.2.2.2.1.1 hw.1 hw.2 (ss_Srf hS) q0 hq (ss_ct_at fl.1) j fl.2.1 (C.2.2.2.2.2.1 _ fl.2.2.1) (fun x h => by rw [fl.2.2.2] at h; exact h) hfin (C.2.2.2.2.2.2.2.2.2.2.1.trans hnm) hdc (ss_ct_ty fl.1 j fl.2.1) hn hf hl9 hd (fun H1 locs1 hP1 hD1 hS1 => ?_)
  rw [ss_set ha hw.2 hq] at hP1 hD1
  exact kk (z.1, va_up z.2 a (.inr (ci, fs.set j v))) ⟨rfl, rfl⟩ p e s m args below meth c H1 locs1 ls C hX hl ⟨hP1, hD1⟩ (ss_Str hS hS1) hz (Nat.le_trans hk hS1.1)
theorem sn_aast {a N j v : Nat} {f : Nat → Option Nat} {vs : List Value} (hd : decode M.2.1 pc = .ok (.aastore, 1)) (ha : ss_at z a (.inl (sv_T V, N, .inr (.inr (.inr (.inr f)))))) (hv : ss_at z v (.inr (1, vs))) (hj : j < N) (hN : N < 2 ^ 31) (kk : ∀ z', ss_upd z a (.inl (sv_T V, N, .inr (.inr (.inr (.inr (va_up f j (some v))))))) z' → ss_GN X V l M R Q sz (pc + 1) lo st z' k n) : ss_GN X V l M R Q sz pc lo (.ref v :: .int (nI j) :: .ref a :: st) z k n := by
  intro p e s m args below meth c H locs ls C hX hl hw hS hz hk
  obtain ⟨q0, hq⟩ := ss_get ha
  obtain ⟨q1, hq1⟩ := ss_get hv
  refine va_astq (D := V.1) (cl := ss_cl) (tys := ss_tys V) (H0 := H) (r := (RX1, TX1, 4)) C.1 C.2.1 C.2.2.2.2.2.2.2.1.1 hw.1 hw.2 (ss_Srf hS) q0 3 q1 1 hq rfl hq1 rfl (vp_in_nI hj hN) hd (fun H1 locs1 hP1 hD1 hS1 => ?_)
  rw [ss_set ha hw.2 hq, nI_clamp (Nat.lt_trans hj hN)] at hP1 hD1
  exact kk (z.1, va_up z.2 a (.inl (sv_T V, N, .inr (.inr (.inr (.inr (va_up f j (some v)))))))) ⟨rfl, rfl⟩ p e s m args below meth c H1 locs1 ls C hX hl ⟨hP1, hD1⟩ (ss_Str hS hS1) hz (Nat.le_trans hk hS1.1)
/-- a new object of class ci -/
def ss_NL (own : String) (idx ci : Nat) : Prop := ci < 4 ∧ Cond.classLink own idx (ss_ct ci).1.1 ∈ ss_good ∧ Cond.instantiable (ss_ct ci).1.1 (ss_ct ci).1.2.2 ∈ ss_good ∧ Cond.initialized (ss_ct ci).1.1 ∈ ss_good
theorem sn_new {idx ci : Nat} {fs : List Value} (nl : ss_NL M.1.cls idx ci) (hd : decode M.2.1 pc = .ok (.new idx, 3)) (hfs : ∀ j, j < (ss_ct ci).1.2.2 → defaultValue ((ss_ct ci).2 j) = vp_V fs j) (hc : k + 1 ≤ R.cells) (hs : n + (ss_ct ci).1.2.2 ≤ R.slots) (kk : ∀ z', ss_new2 z (sz + k) (.inr (ci, fs)) z' → ss_GN X V l M R Q sz (pc + 3) lo (.ref (sz + k) :: st) z' (k + 1) (n + (ss_ct ci).1.2.2)) : ss_GN X V l M R Q sz pc lo st z k n := by
  intro p e s m args below meth c H locs ls C hX hl hw hS hz hk
  refine ss_wsz hz hk (fun hsz => ?_)
  obtain ⟨n1, n2, n3, n4⟩ := nl
  have hts := C.2.2.2.2.2.1
  have hKn := C.2.2.2.2.2.2.2.1.1.1 ci _ (ss_ct_at n1)
  have hAa : sv_A V (sz + k) := C.2.2.2.2.2.2.2.2.1 _ (by omega)
  refine W.newcK C.1 C.2.1 C.2.2.2.2.2.2.1 (hts _ n2) (hts _ n3) (hts _ n4) rfl hd hc hs hKn.2.1 hsz fun H1 kC hkC e1 z1 o1 => ?_
  refine kk (z.1 ++ [sz + k], va_up z.2 (sz + k) (.inr (ci, fs))) ⟨rfl, rfl⟩ p e s m args below meth c H1 locs ls C hX hl (ss_push hw hsz hAa o1 ⟨_, ss_ct_at n1, (u_born (ss_ct ci).2 hts (ss_ct_in n1) hKn hkC e1 (ss_ct_ty n1)).to hfs⟩) ?_ hz (by omega)
  exact ⟨by have := hS.1; omega, fun q a b => (o1 q (by have := hS.1; omega)).trans (hS.2.1 q a b), hS.2.2⟩
theorem sn_newaI {N : Nat} (hw9 : Cond.arrayClass .int ∈ ss_good) (hd : decode M.2.1 pc = .ok (.newarray .int, 2)) (hN : N < 1000) (hc : k + 1 ≤ R.cells) (hs : n + N ≤ R.slots) (kk : ∀ z', ss_new2 z (sz + k) (.inl (sv_I V, N, .inl (fun _ => 0))) z' → ss_GN X V l M R Q sz (pc + 2) lo (.ref (sz + k) :: st) z' (k + 1) (n + N)) : ss_GN X V l M R Q sz pc lo (.int (nI N) :: st) z k n := by
  intro p e s m args below meth c H locs ls C hX hl hw hS hz hk
  refine ss_wsz hz hk (fun hsz => ?_)
  have hAa : sv_A V (sz + k) := C.2.2.2.2.2.2.2.2.1 _ (by omega)
  have hcl := nI_clamp (show N < 2 ^ 31 by omega)
  refine va_newaK (atype := .int) (N := N) C.1 C.2.1 (C.2.2.2.2.2.1 _ hw9) rfl hd rfl (nI_pos (by omega)) hcl (by show N * 4 ≤ 536870912; omega) hc hs hsz fun H1 cA e1 z1 o1 hAr hNm => ?_
  have hcA : cA = sv_I V := by
    have h9 := (C.2.2.2.2.2.2.2.1.1.2 0 (sv_I V, .int) rfl).2
    exact Option.some.inj (hNm.symm.trans h9)
  subst hcA
  refine kk (z.1 ++ [sz + k], va_up z.2 (sz + k) (.inl (sv_I V, N, .inl (fun _ => 0)))) ⟨rfl, rfl⟩ p e s m args below meth c H1 locs ls C hX hl (ss_push hw hsz hAa o1 ?_) ?_ hz (by omega)
  · show H1[sz + k]? = some (vp_cell _ _)
    rw [e1]
    rfl
  · exact ⟨by have := hS.1; omega, fun q a b => (o1 q (by have := hS.1; omega)).trans (hS.2.1 q a b), hS.2.2⟩
theorem sn_newaJ {N : Nat} (hw9 : Cond.arrayClass .long ∈ ss_good) (hd : decode M.2.1 pc = .ok (.newarray .long, 2)) (hN : N < 1000) (hc : k + 1 ≤ R.cells) (hs : n + N ≤ R.slots) (kk : ∀ z', ss_new2 z (sz + k) (.inl (sv_J V, N, .inr (.inl (fun _ => 0)))) z' → ss_GN X V l M R Q sz (pc + 2) lo (.ref (sz + k) :: st) z' (k + 1) (n + N)) : ss_GN X V l M R Q sz pc lo (.int (nI N) :: st) z k n := by
  intro p e s m args below meth c H locs ls C hX hl hw hS hz hk
  refine ss_wsz hz hk (fun hsz => ?_)
  have hAa : sv_A V (sz + k) := C.2.2.2.2.2.2.2.2.1 _ (by omega)
  have hcl := nI_clamp (show N < 2 ^ 31 by omega)
  refine va_newaK (atype := .long) (N := N) C.1 C.2.1 (C.2.2.2.2.2.1 _ hw9) rfl hd rfl (nI_pos (by omega)) hcl (by show N * 8 ≤ 536870912; omega) hc hs hsz fun H1 cA e1 z1 o1 hAr hNm => ?_
  have hcA : cA = sv_J V := by
    have h9 := (C.2.2.2.2.2.2.2.1.1.2 1 (sv_J V, .long) rfl).2
    exact Option.some.inj (hNm.symm.trans h9)
  subst hcA
  refine kk (z.1 ++ [sz + k], va_up z.2 (sz + k) (.inl (sv_J V, N, .inr (.inl (fun _ => 0))))) ⟨rfl, rfl⟩ p e s m args below meth c H1 locs ls C hX hl (ss_push hw hsz hAa o1 ?_) ?_ hz (by omega)
  · show H1[sz + k]? = some (vp_cell _ _)
    rw [e1]
    rfl
  · exact ⟨by have := hS.1; omega, fun q a b => (o1 q (by have := hS.1; omega)).trans (hS.2.1 q a b), hS.2.2⟩
theorem sn_newaZ {N : Nat} (hw9 : Cond.arrayClass .boolean ∈ ss_good) (hd : decode M.2.1 pc = .ok (.newarray .boolean, 2)) (hN : N < 1000) (hc : k + 1 ≤ R.cells) (hs : n + N ≤ R.slots) (kk : ∀ z', ss_new2 z (sz + k) (.inl (sv_Z V, N, .inl (fun _ => 0))) z' → ss_GN X V l M R Q sz (pc + 2) lo (.ref (sz + k) :: st) z' (k + 1) (n + N)) : ss_GN X V l M R Q sz pc lo (.int (nI N) :: st) z k n := by
  intro p e s m args below meth c H locs ls C hX hl hw hS hz hk
  refine ss_wsz hz hk (fun hsz => ?_)
  have hAa : sv_A V (sz + k) := C.2.2.2.2.2.2.2.2.1 _ (by omega)
  have hcl := nI_clamp (show N < 2 ^ 31 by omega)
  refine va_newaK (atype := .boolean) (N := N) C.1 C.2.1 (C.2.2.2.2.2.1 _ hw9) rfl hd rfl (nI_pos (by omega)) hcl (by show N * 1 ≤ 536870912; omega) hc hs hsz fun H1 cA e1 z1 o1 hAr hNm => ?_
  have hcA : cA = sv_Z V := by
    have h9 := (C.2.2.2.2.2.2.2.1.1.2 2 (sv_Z V, .boolean) rfl).2
    exact Option.some.inj (hNm.symm.trans h9)
  subst hcA
  refine kk (z.1 ++ [sz + k], va_up z.2 (sz + k) (.inl (sv_Z V, N, .inl (fun _ => 0)))) ⟨rfl, rfl⟩ p e s m args below meth c H1 locs ls C hX hl (ss_push hw hsz hAa o1 ?_) ?_ hz (by omega)
  · show H1[sz + k]? = some (vp_cell _ _)
    rw [e1]
    rfl
  · exact ⟨by have := hS.1; omega, fun q a b => (o1 q (by have := hS.1; omega)).trans (hS.2.1 q a b), hS.2.2⟩
theorem sn_newq {idx N : Nat} (hcl9 : Cond.classLink M.1.cls idx RX1 ∈ ss_good) (hov : ∀ s, X s → va_AO RX1 s) (hd : decode M.2.1 pc = .ok (.anewarray idx, 3)) (hN : N < 1000) (hc : k + 1 ≤ R.cells) (hs : n + N ≤ R.slots) (kk : ∀ z', ss_new2 z (sz + k) (.inl (sv_T V, N, .inr (.inr (.inr (.inr (fun _ => none)))))) z' → ss_GN X V l M R Q sz (pc + 3) lo (.ref (sz + k) :: st) z' (k + 1) (n + N)) : ss_GN X V l M R Q sz pc lo (.int (nI N) :: st) z k n := by
  intro p e s m args below meth c H locs ls C hX hl hw hS hz hk
  refine ss_wsz hz hk (fun hsz => ?_)
  have hAa : sv_A V (sz + k) := C.2.2.2.2.2.2.2.2.1 _ (by omega)
  have hcl := nI_clamp (show N < 2 ^ 31 by omega)
  refine W.anew C.1 C.2.1 C.2.2.2.2.2.2.1 (C.2.2.2.2.2.1 _ hcl9) (va_AO.use (hov s hX)) rfl hd rfl (nI_pos (by omega)) (by rw [hcl]; omega) hc (by rw [hcl]; exact hs) fun cA kA comp f1 f2 f3 f4 => ?_
  have hcA : cA = sv_T V := by
    obtain ⟨kA9, comp9, k1, k2, k3, k4⟩ := (C.2.2.2.2.2.2.2.1.1.2 3 (sv_T V, .object RX1) rfl).2
    exact Option.some.inj (f1.symm.trans k4)
  subst hcA
  rw [hcl, hsz]
  generalize hH1 : H.push ({ cls := sv_T V, slots := Array.replicate N .null, vm := .none } : Cell) = H1
  have z1 : H1.size = sz + k + 1 := by rw [← hH1, Array.size_push, hsz]
  have e1 : H1[sz + k]? = some (arrV (sv_T V) N (fun _ => .null)) := by rw [← hH1, ← hsz, Array.getElem?_push_size, ← arrV_new]
  have o1 : ∀ q : Nat, q < sz + k → H1[q]? = H[q]? := fun q hq => by rw [← hH1, Array.getElem?_push, if_neg (by rw [hsz]; exact Nat.ne_of_lt hq)]
  refine kk (z.1 ++ [sz + k], va_up z.2 (sz + k) (.inl (sv_T V, N, .inr (.inr (.inr (.inr (fun _ => none))))))) ⟨rfl, rfl⟩ p e s m args below meth c H1 locs ls C hX hl (ss_push hw hsz hAa o1 ?_) ?_ hz (by omega)
  · show H1[sz + k]? = some (vp_cell _ _)
    rw [vp_cell_q]
    exact e1
  · exact ⟨by have := hS.1; omega, fun q a b => (o1 q (by have := hS.1; omega)).trans (hS.2.1 q a b), hS.2.2⟩
/-- Object's constructor -/
def ss_OL (own : String) (idx : Nat) : Prop := Cond.methodLink own idx Lib.objectInit ∈ ss_good
theorem ss_ob1 : Cond.instanceMethod Lib.objectInit ∈ ss_good := ss_good_at 18 (by decide +kernel) (by decide +kernel)
theorem ss_ob2 : Cond.code Lib.objectInit ⟨#[0xb1]⟩ 1 none ∈ ss_good := ss_good_at 19 (by decide +kernel) (by decide +kernel)
theorem sn_obj {idx a : Nat} (ol : ss_OL M.1.cls idx) (hd : decode M.2.1 pc = .ok (.invokespecial idx, 3)) (hf : 1 ≤ R.frames) (hlo : (st.map fun v => v.category).sum + 12 ≤ R.locals) (kk : ss_GN X V l M R Q sz (pc + 3) lo st z k n) : ss_GN X V l M R Q sz pc lo (.ref a :: st) z k n := by
  intro p e s m args below meth c H locs ls C hX hl hw hS hz hk
  have hts := C.2.2.2.2.2.1
  refine W.objInit C.1 C.2.1 C.2.2.2.2.2.2.1 (hts _ ol) (hts _ ss_ob1) (hts _ ss_ob2) rfl (hl.1.trans C.2.2.1.symm) rfl hd hf ?_ (kk p e s m args below meth c H locs ls C hX hl hw hS hz hk)
  simpa [JFrame.monitorRoom] using hlo
theorem sn_vret {d mc ms : Nat} {Qr : ss_Z → Prop} (hd : decode M.2.1 pc = .ok (.return_, 1)) (hr : M.2.2.2.1 = none) (hq : Qr z) (hk9 : k = mc) (hn9 : n ≤ ms) : ss_GN X V l M (ss_rm d mc ms) (ss_Q0 V sz Qr mc ms) sz pc lo [] z k n := by
  intro p e s m args below meth c H locs ls C hX hl hw hS hz hk
  subst hk9
  refine W.widen (Nat.le_refl _) hn9 ?_
  exact W.vret C.1 C.2.1 (C.2.2.2.1.trans hr) (fun t ht hW => ⟨⟨rfl, z, hq, by rw [ht]; exact hw, by rw [ht]; exact hk⟩, hS.F ht⟩) hS.2.2 hd C.2.2.2.2.1
/-- behind a constructor's call -/
theorem ss_afterI {p : Program} {e : Env} {s : State} {m : MethodId} {args : Array Value} {below : List Frame} {meth : Method} {c : Code} {H : Heap} {locs : List Loc} {ls : Array Slot} {Q0 : State → Prop} {mc ms sz2 : Nat} {a : Array Value} {Qr : ss_Z → Prop}
    (hr : va_Run p l e R s m args below meth c H locs k n mc ms (F0 m pc ls st) rest (ss_QN V sz2 Qr mc a) (sv_A V)) (hS : va_S (sv_A V) s.heap H locs)
    (kk : ∀ (z' : ss_Z) (H1 : Heap) (locs1 : List Loc), Qr z' → ss_ok V z' H1 → va_S (sv_A V) s.heap H1 locs1 → sz2 + mc ≤ H1.size → W p l e R s m args below meth c H1 locs1 (k + mc) (n + ms) Q0 (F0 m (pc + 3) ls rest)) : W p l e R s m args below meth c H locs k n Q0 (F0 m pc ls st) := by
  intro T hT Y
  obtain ⟨v, st₀, t, T', L, h0, X', hL, e1, e2, ⟨⟨hv, z', hq, hok, hsz⟩, hF⟩, stp⟩ := hr T hT Y
  cases hv
  obtain ⟨k1, k2, k3⟩ := vx_keep h0 e1 hS (fun _ _ h => h) (fun _ h => h) hL hF
  obtain ⟨t2, a1, b1⟩ := kk z' T'.heap (locs ++ L) hq (by rw [e1]; exact hok) k3 (by rw [e1]; exact hsz) T' rfl X'
  exact ⟨t2, stp t2 a1, b1⟩
def ss_IL (M2 : ss_M) (na : Nat) : Prop := Cond.initialized M2.1.cls ∈ ss_good ∧ Cond.instanceMethod M2.1 ∈ ss_good ∧ Cond.code M2.1 M2.2.1 M2.2.2.1 none ∈ ss_good ∧ M2.2.2.2.1 = none ∧ M2.1.name = "<init>" ∧ (M2.1.cls ≠ "java/lang/invoke/MethodHandle" ∧ M2.1.cls ≠ "java/lang/invoke/VarHandle" ∧ (parseMethodDescriptor M2.1.desc).map (fun d => d.parameters.length) = some na)
theorem ss_blindI {X : State → Prop} (hmv : ss_mv X) {av : List Value} {sz : Nat} : FrameBlind (fun a U => ss_Pc V av z a U ∧ U.heap.size = sz ∧ X U) := by
  intro a U g mk h
  exact ⟨ss_blind a U g mk h.1, h.2.1, hmv U _ (State.WarmedH.refl U) h.2.2⟩
theorem sn_callI {X2 : State → Prop} {M2 : ss_M} {d mc ms idx b : Nat} {As : List Value} {Qr : ss_Z → Prop} (hX2 : ss_mv X2) (hXX : ∀ s, X s → X2 s) (hM : ss_CI X2 V l d M2 mc ms (.ref b :: As) z (sz + k) Qr) (il : ss_IL M2 As.length) (hlk : Cond.methodLink M.1.cls idx M2.1 ∈ ss_good) (hd : decode M.2.1 pc = .ok (.invokespecial idx, 3))
    (hst : st = As.reverse ++ .ref b :: rest) (h8 : (rest.map fun v => v.category).sum ≤ 8) (hR : d + 1 ≤ R.frames ∧ 8 + (M2.2.2.1 + 11) + (30 * d + 60) ≤ R.locals) (hf : k + mc ≤ R.cells ∧ n + ms ≤ R.slots)
    (kk : ∀ z' : ss_Z, Qr z' → ss_GN X V l M R Q sz (pc + 3) lo rest z' (k + mc) (n + ms)) : ss_GN X V l M R Q sz pc lo st z k n := by
  intro p e s m args below meth c H locs ls C hX hl hw hS hz hk
  refine ss_wsz hz hk (fun hsz => ?_)
  obtain ⟨i1, i2, i3, i4, i5, i6⟩ := il
  have hts := C.2.2.2.2.2.1
  have hw9 : ss_ws M2 = .code M2.1 M2.2.1 M2.2.2.1 none :: ss_good := by
    unfold ss_ws
    rw [i4]
  have hT : GoodIn ss_good (ss_ws M2) := ss_gi (fun w h => by
    rw [hw9] at h
    rcases List.mem_cons.mp h with rfl | h
    · exact i3
    · exact h)
  exact ss_afterI (va_runI (As := As) (b := b) (rest := rest) ⟨C.1, C.2.1, C.2.2.1, C.2.2.2.2.2.2.1, hts⟩ hM (cwI As.length hts hT hw9 rfl rfl (hts _ i1) (hts _ hlk) (hts _ i2) i5 i6 hR) ⟨ss_blindI hX2, fun U hU hW => ⟨ss_pre C hw hS U hU hW, by rw [hU]; exact hsz, hX2 s U hW (hXX s hX)⟩⟩ rfl rfl hl.1 hst (lv_room h8) hd hf) hS
    (fun z' H1 locs1 hq1 hw1 hS1 hz1 => kk z' hq1 p e s m args below meth c H1 locs1 ls C hX hl hw1 hS1 hz (by omega))
/-- .. of a nest mate's private constructor -/
theorem sn_callN {X2 : State → Prop} {M2 : ss_M} {d mc ms idx b : Nat} {host : String} {As : List Value} {Qr : ss_Z → Prop} (hX2 : ss_mv X2) (hXX : ∀ s, X s → X2 s) (hM : ss_CI X2 V l d M2 mc ms (.ref b :: As) z (sz + k) Qr) (il : ss_IL M2 As.length) (hlk : ∀ s, X s → va_Nw (.methodLinkNest M.1.cls idx M2.1 host) s) (hd : decode M.2.1 pc = .ok (.invokespecial idx, 3))
    (hst : st = As.reverse ++ .ref b :: rest) (h8 : (rest.map fun v => v.category).sum ≤ 8) (hR : d + 1 ≤ R.frames ∧ 8 + (M2.2.2.1 + 11) + (30 * d + 60) ≤ R.locals) (hf : k + mc ≤ R.cells ∧ n + ms ≤ R.slots)
    (kk : ∀ z' : ss_Z, Qr z' → ss_GN X V l M R Q sz (pc + 3) lo rest z' (k + mc) (n + ms)) : ss_GN X V l M R Q sz pc lo st z k n := by
  intro p e s m args below meth c H locs ls C hX hl hw hS hz hk
  refine ss_wsz hz hk (fun hsz => ?_)
  obtain ⟨i1, i2, i3, i4, i5, i6⟩ := il
  have hts := C.2.2.2.2.2.1
  have hw9 : ss_ws M2 = .code M2.1 M2.2.1 M2.2.2.1 none :: ss_good := by
    unfold ss_ws
    rw [i4]
  have hT : GoodIn ss_good (ss_ws M2) := ss_gi (fun w h => by
    rw [hw9] at h
    rcases List.mem_cons.mp h with rfl | h
    · exact i3
    · exact h)
  exact ss_afterI (va_runIN (As := As) (b := b) (rest := rest) ⟨C.1, C.2.1, C.2.2.1, C.2.2.2.2.2.2.1, hts⟩ hM ⟨va_cnB As.length hts hT hw9 rfl rfl (hlk s hX) (hts _ i1) i6 hR, i5, hts _ i2⟩ ⟨ss_blindI hX2, fun U hU hW => ⟨ss_pre C hw hS U hU hW, by rw [hU]; exact hsz, hX2 s U hW (hXX s hX)⟩⟩ rfl rfl hl.1 hst (lv_room h8) hd hf) hS
    (fun z' H1 locs1 hq1 hw1 hS1 hz1 => kk z' hq1 p e s m args below meth c H1 locs1 ls C hX hl hw1 hS1 hz (by omega))
theorem ss_CI.of {d mc ms : Nat} {av : List Value} {Qr : ss_Z → Prop} (hst : l.stackTraces = false) (hh : M.2.2.2.2 = []) (hy : plainName M.1.cls = true) (hlen : (lg_sl av).length ≤ M.2.2.1) (body : ss_GN X V l M (ss_rm d mc ms) (ss_Q0 V sz Qr mc ms) sz 0 (lv_args 0 av) [] z 0 0) : ss_CI X V l d M mc ms av z sz Qr := by
  refine Met.ofW (cc := M.2.1) (maxL := M.2.2.1) (ret := M.2.2.2.1) hy rfl ?_
  intro p e s m args below meth c s₁ B hml hv
  obtain ⟨⟨rfl, hK, hok, hA⟩, hsz, hX⟩ := hv
  have htab : c.exceptionTable.toList = tableOf M.2.2.2.2 := by
    obtain ⟨meth9, c9, h1, h2, -, -, -, -, h7, -⟩ := Cond.code_spec B.named (atoms_spec (ws := ss_ws M) B.pre _ List.mem_cons_self)
    cases Option.some.inj (h1.symm.trans B.method)
    cases Option.some.inj (h2.symm.trans (Stand.of_body B).code)
    rw [hh, Array.isEmpty_iff.mp h7]
    rfl
  rw [lg_entry_eq]
  exact body p e s m _ below meth c s.heap [] _ ⟨B.exec, B.bytes, hml, B.returns, B.notSynchronized, fun w hw => atoms_spec (ws := ss_ws M) B.pre w (List.mem_cons_of_mem _ hw), findClass_of_methodNamed B.named, hK, hA, htab, (name_of_methodNamed B.named B.method).1, hst⟩ hX (lv_entry av hlen) hok va_S.rf hsz (by omega)
end SSNN
