def prs (ns : List sNode) : Prop := 0 < ns.length ∧ (ns.getD 0 nd0).1 = -1 ∧ ∀ i, i < ns.length → (ns.getD i nd0).1 = -1 ∨ ∃ q, q < ns.length ∧ (ns.getD i nd0).1 = nI q
def mNd (I : cn_I) (i : Nat) (x : sNode) : Prop := I 156 i = x.1 ∧ I 157 i = nI (decide (¬ x.2.1 = -1)).toNat ∧ (¬ x.2.1 = -1 → I 158 i = x.2.1) ∧ I 159 i = nI x.2.2.length ∧ x.2.2.length ≤ 61 ∧ ∀ j, j < x.2.2.length → I 160 (64 * i + j) = x.2.2.getD j 0
def mN (I : cn_I) (ns : List sNode) : Prop := I 155 1 = nI ns.length ∧ ns.length ≤ 16 ∧ (∀ i, i < ns.length → mNd I i (ns.getD i nd0)) ∧ prs ns
def mnt (I : cn_I) (m : Nat) (t : sNt) : Prop := I 165 m = nI t.1.length ∧ t.1.length ≤ 61 ∧ I 166 m = t.2 ∧ t.2 &&& 255 = t.2 ∧ ∀ k, k < t.1.length → I 167 (64 * m + k) = t.1.getD k 0
def mq (I : cn_I) (i : Nat) (q : List sNt) : Prop := I 164 i = nI q.length ∧ q.length ≤ 4 ∧ ∀ j, j < q.length → mnt I (4 * i + j) (q.getD j ntd)
def mIt (I : cn_I) (i : Nat) (x : sItem) : Prop := I 161 i = nI x.1 ∧ x.1 < 16 ∧ I 162 i = nI x.2.1 ∧ I 163 i = nI x.2.2.1.toNat ∧ 1 ≤ x.2.1 ∧ x.2.1 ≤ 4 ∧ x.2.2.2.length ≤ x.2.1 ∧ mq I i x.2.2.2
def mI (I : cn_I) (xs : List sItem) : Prop := I 155 7 = nI xs.length ∧ xs.length ≤ 6 ∧ ∀ i, i < xs.length → mIt I i (xs.getD i it0)
def mPa (I : cn_I) (k : Nat) (x : sPar) : Prop := I 168 k = x.1 ∧ I 169 k = nI x.2.length ∧ x.2.length ≤ 194 ∧ ∀ j, j < x.2.length → I 170 (200 * k + j) = x.2.getD j 0
def mS (I : cn_I) (ps : List sPar) (pn : Int32) : Prop := I 155 15 = nI ps.length ∧ ps.length ≤ 3 ∧ I 155 16 = pn ∧ ∀ k, k < ps.length → mPa I k (ps.getD k pad)
/-- the parcels' numbers go up; so many were made at most -/
def pOK (ps : List sPar) (pn : Int32) (T : Nat) : Prop := ∃ c, c ≤ T ∧ pn = nI c ∧ (∀ i j, i < j → j < ps.length → (ps.getD i pad).1.toNatClampNeg < (ps.getD j pad).1.toNatClampNeg) ∧ ∀ i, i < ps.length → (ps.getD i pad).1.toNatClampNeg ≤ c
def mC (I : cn_I) (ch : sCh) : Prop := I 155 0 = nI (!ch.1).toNat ∧ I 155 20 = nI ch.2.1.toNat ∧ I 155 21 = ch.2.2.1 ∧ I 155 22 = nI ch.2.2.2.1.isSome.toNat ∧ ∀ q, ch.2.2.2.1 = some q → I 155 24 = q.1 ∧ I 155 23 = nI q.2 ∧ q.2 ≤ 12 ∧ I 155 25 = nI ch.2.2.2.2.length ∧ ch.2.2.2.2.length ≤ 64 ∧ (∀ j, j < ch.2.2.2.2.length → I 171 j = ch.2.2.2.2.getD j 0) ∧ ∀ j, ch.2.2.2.2.getD j 0 &&& 255 = ch.2.2.2.2.getD j 0
def mA (I : cn_I) (rr : Int32 × List Int32) : Prop := (I 155 33 = nI 1 ∧ I 155 34 = rr.1 ∧ mo I rr.2) ∨ (I 155 33 = nI 0 ∧ rr.1 = -1 ∧ rr.2 = [])
def RM (S : cn_S) (I : cn_I) (P : cn_P) (T : Nat) (s : sSt) : Prop := wM S P ∧ mN I s.1 ∧ mI I s.2.1 ∧ mS I s.2.2.1.1 s.2.2.1.2 ∧ pOK s.2.2.1.1 s.2.2.1.2 T ∧ mC I s.2.2.2.1 ∧ mA I s.2.2.2.2
def frM (I I' : cn_I) : Prop := ∀ a, a < 155 ∨ 174 < a → I' a = I a
theorem frM.rf {I : cn_I} : frM I I := fun _ _ => rfl
theorem frM.tr {I I1 I2 : cn_I} (h1 : frM I I1) (h2 : frM I1 I2) : frM I I2 := fun a h => (h2 a h).trans (h1 a h)
theorem mNd.congr {I I' : cn_I} {i : Nat} {x : sNode} (h : mNd I i x) (hf : ∀ a, 156 ≤ a → a ≤ 159 → I' a i = I a i) (hb : ∀ j, j < x.2.2.length → I' 160 (64 * i + j) = I 160 (64 * i + j)) : mNd I' i x :=
  ⟨(hf _ (by omega) (by omega)).trans h.1, (hf _ (by omega) (by omega)).trans h.2.1, fun e => (hf _ (by omega) (by omega)).trans (h.2.2.1 e), (hf _ (by omega) (by omega)).trans h.2.2.2.1, h.2.2.2.2.1, fun j hj => (hb j hj).trans (h.2.2.2.2.2 j hj)⟩
theorem mN.congr {I I' : cn_I} {ns : List sNode} (h : mN I ns) (hf : ∀ a k, (a = 155 ∧ k = 1) ∨ (156 ≤ a ∧ a ≤ 160) → I' a k = I a k) : mN I' ns :=
  ⟨(hf _ _ (by omega)).trans h.1, h.2.1, fun i hi => (h.2.2.1 i hi).congr (fun a x y => hf _ _ (by omega)) (fun j _ => hf _ _ (by omega)), h.2.2.2⟩
theorem mnt.congr {I I' : cn_I} {m : Nat} {t : sNt} (h : mnt I m t) (e1 : I' 165 m = I 165 m) (e2 : I' 166 m = I 166 m) (e3 : ∀ k, k < t.1.length → I' 167 (64 * m + k) = I 167 (64 * m + k)) : mnt I' m t :=
  ⟨e1.trans h.1, h.2.1, e2.trans h.2.2.1, h.2.2.2.1, fun k hk => (e3 k hk).trans (h.2.2.2.2 k hk)⟩
theorem mq.congr {I I' : cn_I} {i : Nat} {q : List sNt} (h : mq I i q) (e0 : I' 164 i = I 164 i) (e1 : ∀ j, j < q.length → I' 165 (4 * i + j) = I 165 (4 * i + j)) (e2 : ∀ j, j < q.length → I' 166 (4 * i + j) = I 166 (4 * i + j)) (e3 : ∀ j k, j < q.length → k < 64 → I' 167 (64 * (4 * i + j) + k) = I 167 (64 * (4 * i + j) + k)) : mq I' i q :=
  ⟨e0.trans h.1, h.2.1, fun j hj => (h.2.2 j hj).congr (e1 j hj) (e2 j hj) (fun k hk => e3 j k hj (by have := (h.2.2 j hj).2.1; omega))⟩
theorem mIt.congr {I I' : cn_I} {i : Nat} {x : sItem} (h : mIt I i x) (hf : ∀ a, 161 ≤ a → a ≤ 164 → I' a i = I a i) (e1 : ∀ j, j < 4 → I' 165 (4 * i + j) = I 165 (4 * i + j)) (e2 : ∀ j, j < 4 → I' 166 (4 * i + j) = I 166 (4 * i + j)) (e3 : ∀ j k, j < 4 → k < 64 → I' 167 (64 * (4 * i + j) + k) = I 167 (64 * (4 * i + j) + k)) : mIt I' i x := by
  obtain ⟨a1, a2, a3, a4, a5, a6, a7, a8⟩ := h
  exact ⟨(hf _ (by omega) (by omega)).trans a1, a2, (hf _ (by omega) (by omega)).trans a3, (hf _ (by omega) (by omega)).trans a4, a5, a6, a7, a8.congr (hf _ (by omega) (by omega)) (fun j hj => e1 j (by omega)) (fun j hj => e2 j (by omega)) (fun j k hj => e3 j k (by omega))⟩
theorem mI.congr {I I' : cn_I} {xs : List sItem} (h : mI I xs) (hf : ∀ a k, (a = 155 ∧ k = 7) ∨ (161 ≤ a ∧ a ≤ 167) → I' a k = I a k) : mI I' xs :=
  ⟨(hf _ _ (by omega)).trans h.1, h.2.1, fun i hi => (h.2.2 i hi).congr (fun a x y => hf _ _ (by omega)) (fun j _ => hf _ _ (by omega)) (fun j _ => hf _ _ (by omega)) (fun j k _ _ => hf _ _ (by omega))⟩
theorem mPa.congr {I I' : cn_I} {k : Nat} {x : sPar} (h : mPa I k x) (e1 : I' 168 k = I 168 k) (e2 : I' 169 k = I 169 k) (e3 : ∀ j, j < x.2.length → I' 170 (200 * k + j) = I 170 (200 * k + j)) : mPa I' k x := ⟨e1.trans h.1, e2.trans h.2.1, h.2.2.1, fun j hj => (e3 j hj).trans (h.2.2.2 j hj)⟩
theorem mS.congr {I I' : cn_I} {ps : List sPar} {pn : Int32} (h : mS I ps pn) (hf : ∀ a k, (a = 155 ∧ (k = 15 ∨ k = 16)) ∨ (168 ≤ a ∧ a ≤ 170) → I' a k = I a k) : mS I' ps pn :=
  ⟨(hf _ _ (by omega)).trans h.1, h.2.1, (hf _ _ (by omega)).trans h.2.2.1, fun k hk => (h.2.2.2 k hk).congr (hf _ _ (by omega)) (hf _ _ (by omega)) (fun j _ => hf _ _ (by omega))⟩
theorem mC.congr {I I' : cn_I} {ch : sCh} (h : mC I ch) (hf : ∀ a k, (a = 155 ∧ (k = 0 ∨ (20 ≤ k ∧ k ≤ 25))) ∨ a = 171 → I' a k = I a k) : mC I' ch := by
  refine ⟨(hf _ _ (by omega)).trans h.1, (hf _ _ (by omega)).trans h.2.1, (hf _ _ (by omega)).trans h.2.2.1, (hf _ _ (by omega)).trans h.2.2.2.1, fun q hq => ?_⟩
  obtain ⟨b1, b2, b3, b4, b5, b6, b7⟩ := h.2.2.2.2 q hq
  exact ⟨(hf _ _ (by omega)).trans b1, (hf _ _ (by omega)).trans b2, b3, (hf _ _ (by omega)).trans b4, b5, fun j hj => (hf _ _ (by omega)).trans (b6 j hj), b7⟩
theorem mA.congr {I I' : cn_I} {rr : Int32 × List Int32} (h : mA I rr) (hf : ∀ a k, (a = 155 ∧ (33 ≤ k ∧ k ≤ 35)) ∨ a = 174 → I' a k = I a k) : mA I' rr := by
  rcases h with ⟨h1, h2, h3⟩ | ⟨h1, h2⟩
  · exact Or.inl ⟨(hf _ _ (by omega)).trans h1, (hf _ _ (by omega)).trans h2, h3.congr (hf _ _ (by omega)) (fun j => hf _ _ (by omega))⟩
  · exact Or.inr ⟨(hf _ _ (by omega)).trans h1, h2⟩
theorem isv_eq (ns : List sNode) (i : Nat) : isv ns i = decide (¬ (ns.getD i nd0).2.1 = -1) := rfl
theorem prs_push {ns : List sNode} {k : Nat} {t : Int32} {v : List Int32} (h : prs ns) (hk : k < ns.length) : prs (ns ++ [(nI k, t, v)]) := by
  obtain ⟨h0, h1, h2⟩ := h
  refine ⟨by rw [List.length_append]; omega, by rw [nd_l h0]; exact h1, fun i hi => ?_⟩
  rw [List.length_append] at hi ⊢
  have hi : i < ns.length + 1 := hi
  by_cases e : i = ns.length
  · subst e
    rw [nd_last]
    exact Or.inr ⟨k, by omega, rfl⟩
  · rw [nd_l (by omega)]
    rcases h2 i (by omega) with h3 | ⟨q, h3, h4⟩
    · exact Or.inl h3
    · exact Or.inr ⟨q, by omega, h4⟩
theorem mN_push {I I' : cn_I} {ns : List sNode} {k : Nat} {t : Int32} {v : List Int32} (h : mN I ns) (h16 : ns.length < 16) (hk : k < ns.length) (h1 : I' 155 1 = nI (ns.length + 1)) (h2 : mNd I' ns.length (nI k, t, v)) (hf : ∀ a j, 156 ≤ a → a ≤ 159 → j < ns.length → I' a j = I a j) (hf2 : ∀ j, j < 64 * ns.length → I' 160 j = I 160 j) : mN I' (ns ++ [(nI k, t, v)]) := by
  refine ⟨by rw [List.length_append]; exact h1, by rw [List.length_append]; exact h16, fun i hi => ?_, prs_push h.2.2.2 hk⟩
  rw [List.length_append] at hi
  have hi : i < ns.length + 1 := hi
  by_cases e : i = ns.length
  · subst e
    rw [nd_last]; exact h2
  · rw [nd_l (by omega)]
    have h3 := h.2.2.1 i (by omega)
    exact h3.congr (fun a x y => hf a i x y (by omega)) (fun j hj => hf2 _ (by have := h3.2.2.2.2.1; omega))
theorem l255 : ∀ j, j < 32 → (255 : Int64).toBitVec.getLsbD j = decide (j < 8) := by decide +kernel
theorem l2i_by (y : Int64) : (y &&& 255).toInt32 = y.toInt32 &&& 255 := by
  apply b_ext
  intro j hj
  rw [bl_i hj, b_and, bl_i hj, b_255, Int64.toBitVec_and, BitVec.getLsbD_and, l255 j hj]
theorem mby (x : Int64) (i : Nat) : ((x >>> ((nI (8 * i)).toInt64 &&& 63)) &&& 255).toInt32 = lby x i := l2i_by _
theorem lbs_at {x : Int64} {n j : Nat} (h : j < n) : (lbs x n).getD j 0 = lby x j := by
  unfold lbs
  rw [List.getD_eq_getElem?_getD, List.getElem?_map, List.getElem?_range h]; rfl
section
variable {l : Launch} {en : cn_E} {d : Nat} {S : cn_S} {I : cn_I} {P : cn_P} {Q : Option Value → cn_S → cn_I → cn_P → Prop}
variable {ns : List sNode} {xs : List sItem} {ps : List sPar} {pn : Int32} {ch : sCh} {rq : Int32} {ru : List Int32} {T : Nat}
theorem c_M_isVariable {n : Int32} (hm : wM S P) (hN : mN I ns) (hd1 : 1 ≤ d) (K1 : ∀ k, n = nI k → k < ns.length → isv ns k = true → Q (some (.int (nI 1))) S I P) (K0 : vdx ns n = none → Q (some (.int (nI 0))) S I P) : cn_V l en mi_M_isVariable d 0 0 S I P Q 0 [(0, .ref 155), (1, .int n)] [] := by
  have hl := hN.2.1
  refine cn_aload_n (pc' := 1) (k := 0) rfl rfl d_M_isVariable_0 rfl ?_
  refine cn_iload_n (pc' := 2) (k := 1) rfl rfl d_M_isVariable_1 rfl ?_
  refine cn_callV (pc' := 5) (kc1 := 0) (ks1 := 0) (kc2 := 0) (ks2 := 0) (rest := []) (lvj := [(0, .ref 155), (1, .int (n))]) [.int (n)] mv_M_97 hm.1 rfl rfl rfl (Nat.le_of_ble_eq_true rfl) (Nat.le_of_ble_eq_true rfl) (by omega) (by omega) (by omega) d_M_isVariable_2 rfl ?_
  refine c_M_isNode (ns := ns) hm hN.1 (by omega) (fun k hnk hkl => ?_) (fun hno => ?_)
  · subst hnk
    have hbk := tn_le (isv ns k)
    show cn_V l en mi_M_isVariable d 0 0 S I P Q 5 [(0, .ref 155), (1, .int (nI (k)))] [.int (nI (1))]
    refine cn_if_eq_n (tgt := 21) (pc' := 8) (by omega) d_M_isVariable_5 (by decide) rfl (fun hc5 => ?_) (fun hc5 => ?_)
    · exact False.elim (by omega)
    · refine cn_aload_n (pc' := 9) (k := 0) rfl rfl d_M_isVariable_8 rfl ?_
      refine cn_getP (pc' := 12) (b := 157) (hm.2.1 3 157 rfl) fl_M_17 hm.1 rfl d_M_isVariable_9 rfl ?_
      refine cn_iload_n (pc' := 13) (k := 1) rfl rfl d_M_isVariable_12 rfl ?_
      refine cn_zaldv (pc' := 14) (v := nI ((isv ns k).toNat)) (hN.2.2.1 k (by omega)).2.1 (hm.2.2 157 2 16 rfl) (by omega) (by decide) d_M_isVariable_13 rfl ?_
      refine cn_if_eq_n (tgt := 21) (pc' := 17) (by omega) d_M_isVariable_14 (by decide) rfl (fun hc14 => ?_) (fun hc14 => ?_)
      · refine cn_iconst (pc' := 22) k_c_0 d_M_isVariable_21 rfl ?_
        refine cn_zret rfl (Or.inl rfl) d_M_isVariable_22 ?_
        exact K0 (by unfold vdx; rw [ndx_some hkl (by omega)]; dsimp only; rw [if_neg (by rw [tn_0 hc14]; decide)])
      · refine cn_iconst (pc' := 18) k_c_1 d_M_isVariable_17 rfl ?_
        refine cn_goto (tgt := 22) d_M_isVariable_18 (by decide) ?_
        refine cn_zret rfl (Or.inr rfl) d_M_isVariable_22 ?_
        exact K1 k rfl hkl (tn_1 hc14)
  · show cn_V l en mi_M_isVariable d 0 0 S I P Q 5 [(0, .ref 155), (1, .int (n))] [.int (nI (0))]
    refine cn_if_eq_n (tgt := 21) (pc' := 8) (by omega) d_M_isVariable_5 (by decide) rfl (fun hc5 => ?_) (fun hc5 => ?_)
    · refine cn_iconst (pc' := 22) k_c_0 d_M_isVariable_21 rfl ?_
      refine cn_zret rfl (Or.inl rfl) d_M_isVariable_22 ?_
      exact K0 (by unfold vdx; rw [hno])
    · exact False.elim (by omega)
theorem c_M_make {n t : Int32} {b : Bool} (hm : wM S P) (hN : mN I ns) (hd1 : 1 ≤ d) (K0 : (∀ t, sp_add ns n t = (-1, ns)) → Q (some (.int (-1))) S I P) (K1 : ∀ k, n = nI k → k < ns.length → ns.length < 16 → (∀ t, sp_add ns n t = (nI ns.length, ns ++ [(n, t, if t = -1 then [] else sv0 t)])) → Q (some (.int (nI ns.length))) S (cn_wi (cn_wi (cn_wi (cn_wi (cn_wi I 156 ns.length (nI k)) 157 ns.length (nI b.toNat)) 158 ns.length t) 159 ns.length (nI 0)) 155 1 (nI (ns.length + 1))) P) : cn_V l en mi_M_make d 0 0 S I P Q 0 [(0, .ref 155), (1, .int n), (2, .int (nI b.toNat)), (3, .int t)] [] := by
  have hl := hN.2.1
  have hbb := tn_le b
  refine cn_aload_n (pc' := 1) (k := 0) rfl rfl d_M_make_0 rfl ?_
  refine cn_iload_n (pc' := 2) (k := 1) rfl rfl d_M_make_1 rfl ?_
  refine cn_callV (pc' := 5) (kc1 := 0) (ks1 := 0) (kc2 := 0) (ks2 := 0) (rest := []) (lvj := [(0, .ref 155), (1, .int (n))]) [.int (n)] mv_M_97 hm.1 rfl rfl rfl (Nat.le_of_ble_eq_true rfl) (Nat.le_of_ble_eq_true rfl) (by omega) (by omega) (by omega) d_M_make_2 rfl ?_
  refine c_M_isNode (ns := ns) hm hN.1 (by omega) (fun k hnk hkl => ?_) (fun hno => ?_)
  · subst hnk
    have hbk := tn_le (isv ns k)
    show cn_V l en mi_M_make d 0 0 S I P Q 5 [(0, .ref 155), (1, .int (nI (k))), (2, .int (nI (b.toNat))), (3, .int (t))] [.int (nI (1))]
    refine cn_if_eq_n (tgt := 26) (pc' := 8) (by omega) d_M_make_5 (by decide) rfl (fun hc5 => ?_) (fun hc5 => ?_)
    · exact False.elim (by omega)
    · refine cn_aload_n (pc' := 9) (k := 0) rfl rfl d_M_make_8 rfl ?_
      refine cn_getP (pc' := 12) (b := 157) (hm.2.1 3 157 rfl) fl_M_17 hm.1 rfl d_M_make_9 rfl ?_
      refine cn_iload_n (pc' := 13) (k := 1) rfl rfl d_M_make_12 rfl ?_
      refine cn_zaldv (pc' := 14) (v := nI ((isv ns k).toNat)) (hN.2.2.1 k (by omega)).2.1 (hm.2.2 157 2 16 rfl) (by omega) (by decide) d_M_make_13 rfl ?_
      refine cn_if_ne_n (tgt := 26) (pc' := 17) (by omega) d_M_make_14 (by decide) rfl (fun hc14 => ?_) (fun hc14 => ?_)
      · refine cn_iconst (pc' := 27) k_c_m1 d_M_make_26 rfl ?_
        refine cn_iret rfl d_M_make_27 ?_
        exact K0 (fun t => by unfold sp_add; rw [ndx_some hkl (by omega)]; dsimp only; rw [if_pos (Or.inl (tn_1 hc14))])
      · refine cn_aload_n (pc' := 18) (k := 0) rfl rfl d_M_make_17 rfl ?_
        refine cn_getIv (pc' := 21) (v := nI (ns.length)) hN.1 fl_M_7 hm.1 rfl d_M_make_18 rfl ?_
        refine cn_bipush (pc' := 23) k_b_16 d_M_make_21 rfl ?_
        refine cn_icmp_ne_n (tgt := 28) (pc' := 26) (by omega) (by omega) d_M_make_23 (by decide) rfl (fun hc23 => ?_) (fun hc23 => ?_)
        · refine cn_aload_n (pc' := 29) (k := 0) rfl rfl d_M_make_28 rfl ?_
          refine cn_getP (pc' := 32) (b := 156) (hm.2.1 2 156 rfl) fl_M_13 hm.1 rfl d_M_make_29 rfl ?_
          refine cn_aload_n (pc' := 33) (k := 0) rfl rfl d_M_make_32 rfl ?_
          refine cn_getIv (pc' := 36) (v := nI (ns.length)) hN.1 fl_M_7 hm.1 rfl d_M_make_33 rfl ?_
          refine cn_iload_n (pc' := 37) (k := 1) rfl rfl d_M_make_36 rfl ?_
          refine cn_iast (pc' := 38) (hm.2.2 156 0 16 rfl) (by omega) (by decide) d_M_make_37 rfl ?_
          refine cn_aload_n (pc' := 39) (k := 0) rfl rfl d_M_make_38 rfl ?_
          refine cn_getP (pc' := 42) (b := 157) (hm.2.1 3 157 rfl) fl_M_17 hm.1 rfl d_M_make_39 rfl ?_
          refine cn_aload_n (pc' := 43) (k := 0) rfl rfl d_M_make_42 rfl ?_
          refine cn_getIv (pc' := 46) (v := nI (ns.length)) (mw_a (by decide) hN.1) fl_M_7 hm.1 rfl d_M_make_43 rfl ?_
          refine cn_iload_n (pc' := 47) (k := 2) rfl rfl d_M_make_46 rfl ?_
          refine cn_zast (pc' := 48) (hm.2.2 157 2 16 rfl) (by omega) (by decide) d_M_make_47 rfl ?_
          rw [show vp_nar .boolean (nI (b.toNat)) = nI (b.toNat) from zn_b _]
          refine cn_aload_n (pc' := 49) (k := 0) rfl rfl d_M_make_48 rfl ?_
          refine cn_getP (pc' := 52) (b := 158) (hm.2.1 4 158 rfl) fl_M_21 hm.1 rfl d_M_make_49 rfl ?_
          refine cn_aload_n (pc' := 53) (k := 0) rfl rfl d_M_make_52 rfl ?_
          refine cn_getIv (pc' := 56) (v := nI (ns.length)) (mw_a (by decide) (mw_a (by decide) hN.1)) fl_M_7 hm.1 rfl d_M_make_53 rfl ?_
          refine cn_iload_n (pc' := 57) (k := 3) rfl rfl d_M_make_56 rfl ?_
          refine cn_iast (pc' := 58) (hm.2.2 158 0 16 rfl) (by omega) (by decide) d_M_make_57 rfl ?_
          refine cn_aload_n (pc' := 59) (k := 0) rfl rfl d_M_make_58 rfl ?_
          refine cn_getP (pc' := 62) (b := 159) (hm.2.1 5 159 rfl) fl_M_24 hm.1 rfl d_M_make_59 rfl ?_
          refine cn_aload_n (pc' := 63) (k := 0) rfl rfl d_M_make_62 rfl ?_
          refine cn_getIv (pc' := 66) (v := nI (ns.length)) (mw_a (by decide) (mw_a (by decide) (mw_a (by decide) hN.1))) fl_M_7 hm.1 rfl d_M_make_63 rfl ?_
          refine cn_iconst (pc' := 67) k_c_0 d_M_make_66 rfl ?_
          refine cn_iast (pc' := 68) (hm.2.2 159 0 16 rfl) (by omega) (by decide) d_M_make_67 rfl ?_
          refine cn_aload_n (pc' := 69) (k := 0) rfl rfl d_M_make_68 rfl ?_
          refine cn_dup (pc' := 70) rfl d_M_make_69 rfl ?_
          refine cn_getIv (pc' := 73) (v := nI (ns.length)) (mw_a (by decide) (mw_a (by decide) (mw_a (by decide) (mw_a (by decide) hN.1)))) fl_M_7 hm.1 rfl d_M_make_70 rfl ?_
          refine cn_iconst (pc' := 74) k_c_1 d_M_make_73 rfl ?_
          refine cn_iadd_n (pc' := 75) d_M_make_74 rfl ?_
          refine cn_putI (pc' := 78) fl_M_7 hm.1 rfl rfl rfl rfl d_M_make_75 rfl ?_
          refine cn_aload_n (pc' := 79) (k := 0) rfl rfl d_M_make_78 rfl ?_
          refine cn_getIv (pc' := 82) (v := nI (ns.length + 1)) mw_e fl_M_7 hm.1 rfl d_M_make_79 rfl ?_
          refine cn_iconst (pc' := 83) k_c_1 d_M_make_82 rfl ?_
          refine cn_isub_n (pc' := 84) (by omega) d_M_make_83 rfl ?_
          refine cn_iret rfl d_M_make_84 ?_
          rw [show ns.length + 1 - 1 = ns.length from rfl]
          exact K1 k rfl hkl (by omega) (fun t => by unfold sp_add; rw [ndx_some hkl (by omega)]; dsimp only; rw [if_neg (fun h => h.elim (fun h => by rw [tn_0 hc14] at h; exact absurd h (by decide)) hc23)])
        · refine cn_iconst (pc' := 27) k_c_m1 d_M_make_26 rfl ?_
          refine cn_iret rfl d_M_make_27 ?_
          exact K0 (fun t => by unfold sp_add; rw [ndx_some hkl (by omega)]; dsimp only; rw [if_pos (Or.inr hc23)])
  · show cn_V l en mi_M_make d 0 0 S I P Q 5 [(0, .ref 155), (1, .int (n)), (2, .int (nI (b.toNat))), (3, .int (t))] [.int (nI (0))]
    refine cn_if_eq_n (tgt := 26) (pc' := 8) (by omega) d_M_make_5 (by decide) rfl (fun hc5 => ?_) (fun hc5 => ?_)
    · refine cn_iconst (pc' := 27) k_c_m1 d_M_make_26 rfl ?_
      refine cn_iret rfl d_M_make_27 ?_
      exact K0 (fun t => by unfold sp_add; rw [hno])
    · exact False.elim (by omega)
theorem c_M_startNumber_loop {q0 n : Nat} {x : Int64} (hm : wM S P) (hq : q0 + n ≤ 1024) (hn : n ≤ 8) (I0 : cn_I) (K : ∀ I', (∀ j, j < n → I' 160 (q0 + j) = lby x j) → (∀ a k, a ≠ 160 ∨ k < q0 ∨ q0 + n ≤ k → I' a k = I0 a k) → Q none S I' P) : ∀ (k i : Nat) (I : cn_I), i + k = n → (∀ j, j < i → I 160 (q0 + j) = lby x j) → (∀ a k, a ≠ 160 ∨ k < q0 ∨ q0 + n ≤ k → I a k = I0 a k) → cn_V l en mi_M_startNumber d 0 0 S I P Q 3 [(0, .ref 155), (1, .int (nI q0)), (2, .long x), (4, .int (nI n)), (5, .int (nI i))] [] := by
  intro k
  induction k with
  | zero =>
    intro i I hik hb hf
    refine cn_iload (pc' := 5) (k := 4) rfl d_M_startNumber_3 rfl ?_
    refine cn_iload (pc' := 7) (k := 3) rfl d_M_startNumber_5 rfl ?_
    refine cn_icmp_ge_n (tgt := 37) (pc' := 10) (by omega) (by omega) d_M_startNumber_7 (by decide) rfl (fun hc7 => ?_) (fun hc7 => ?_)
    · refine cn_vret rfl d_M_startNumber_37 ?_
      obtain rfl : i = n := by omega
      exact K I hb hf
    · exact absurd hc7 (by omega)
  | succ k ih =>
    intro i I hik hb hf
    refine cn_iload (pc' := 5) (k := 4) rfl d_M_startNumber_3 rfl ?_
    refine cn_iload (pc' := 7) (k := 3) rfl d_M_startNumber_5 rfl ?_
    refine cn_icmp_ge_n (tgt := 37) (pc' := 10) (by omega) (by omega) d_M_startNumber_7 (by decide) rfl (fun hc7 => ?_) (fun hc7 => ?_)
    · exact absurd hc7 (by omega)
    · refine cn_aload_n (pc' := 11) (k := 0) rfl rfl d_M_startNumber_10 rfl ?_
      refine cn_getP (pc' := 14) (b := 160) (hm.2.1 6 160 rfl) fl_M_27 hm.1 rfl d_M_startNumber_11 rfl ?_
      refine cn_iload_n (pc' := 15) (k := 1) rfl rfl d_M_startNumber_14 rfl ?_
      refine cn_iload (pc' := 17) (k := 4) rfl d_M_startNumber_15 rfl ?_
      refine cn_iadd_n (pc' := 18) d_M_startNumber_17 rfl ?_
      refine cn_lload_n (pc' := 19) (k := 2) rfl rfl d_M_startNumber_18 rfl ?_
      refine cn_bipush (pc' := 21) k_b_8 d_M_startNumber_19 rfl ?_
      refine cn_iload (pc' := 23) (k := 4) rfl d_M_startNumber_21 rfl ?_
      refine cn_imul_n (pc' := 24) d_M_startNumber_23 rfl ?_
      refine cn_lshr (pc' := 25) d_M_startNumber_24 rfl ?_
      refine cn_ldc2 (pc' := 28) w_k_M_105 d_M_startNumber_25 rfl ?_
      refine cn_land (pc' := 29) d_M_startNumber_28 rfl ?_
      refine cn_l2i (pc' := 30) d_M_startNumber_29 rfl ?_
      refine cn_iast (pc' := 31) (hm.2.2 160 0 1024 rfl) (by omega) (by decide) d_M_startNumber_30 rfl ?_
      refine cn_iinc_n (pc' := 34) (lv' := [(0, .ref 155), (1, .int (nI (q0))), (2, .long (x)), (4, .int (nI (n))), (5, .int (nI (i + 1)))]) (k := 4) [1, 2, 3, 4, 0] rfl (Nat.le_of_ble_eq_true rfl) rfl d_M_startNumber_31 rfl ?_
      refine cn_goto (tgt := 3) d_M_startNumber_34 (by decide) ?_
      rw [mby]
      refine ih (i + 1) _ (by omega) (fun j hj => ?_) (fun a k h => by rw [mw_o (by omega)]; exact hf a k h)
      by_cases e : j = i
      · subst e; exact mw_e
      · rw [mw_o (by omega)]; exact hb j (by omega)
theorem c_M_startNumber {q0 n : Nat} {x : Int64} (hm : wM S P) (hq : q0 + n ≤ 1024) (hn : n ≤ 8) (K : ∀ I', (∀ j, j < n → I' 160 (q0 + j) = lby x j) → (∀ a k, a ≠ 160 ∨ k < q0 ∨ q0 + n ≤ k → I' a k = I a k) → Q none S I' P) : cn_V l en mi_M_startNumber d 0 0 S I P Q 0 [(0, .ref 155), (1, .int (nI q0)), (2, .long x), (4, .int (nI n))] [] := by
  refine cn_iconst (pc' := 1) k_c_0 d_M_startNumber_0 rfl ?_
  refine cn_istore (pc' := 3) (lv' := [(0, .ref 155), (1, .int (nI (q0))), (2, .long (x)), (4, .int (nI (n))), (5, .int (nI (0)))]) [1, 2, 3, 4, 0] (Nat.le_of_ble_eq_true rfl) rfl d_M_startNumber_1 rfl ?_
  exact c_M_startNumber_loop hm hq hn I K n 0 I (by omega) (fun j hj => absurd hj (Nat.not_lt_zero j)) (fun _ _ _ => rfl)
theorem C_M_folder {n : Int32} (h : RM S I P T (ns, xs, (ps, pn), ch, (rq, ru))) (hd1 : 2 ≤ d) (K : ∀ (I' : cn_I), RM S I' P T ((sp_add ns n (-1)).2, xs, (ps, pn), ch, (rq, ru)) → frM I I' → Q (some (.int ((sp_add ns n (-1)).1))) S I' P) : cn_V l en mi_M_folder d 0 0 S I P Q 0 [(0, .ref 155), (1, .int n)] [] := by
  have h9 := h
  obtain ⟨hm, hN, hJ, hS, hp, hC, hA⟩ := h
  have hN : mN I ns := hN
  have hJ : mI I xs := hJ
  have hS : mS I ps pn := hS
  have hp : pOK ps pn T := hp
  have hC : mC I ch := hC
  have hA : mA I (rq, ru) := hA
  have hl16 := hN.2.1
  have hl6 := hJ.2.1
  have hl3 := hS.2.1
  refine cn_aload_n (pc' := 1) (k := 0) rfl rfl d_M_folder_0 rfl ?_
  refine cn_iload_n (pc' := 2) (k := 1) rfl rfl d_M_folder_1 rfl ?_
  refine cn_iconst (pc' := 3) k_c_0 d_M_folder_2 rfl ?_
  refine cn_iconst (pc' := 4) k_c_0 d_M_folder_3 rfl ?_
  refine cn_callV (pc' := 7) (kc1 := 0) (ks1 := 0) (kc2 := 0) (ks2 := 0) (rest := []) (lvj := [(0, .ref 155), (1, .int (n)), (2, .int (nI (0))), (3, .int (nI (0)))]) [.int (n), .int (nI (0)), .int (nI (0))] mv_M_101 hm.1 rfl rfl rfl (Nat.le_of_ble_eq_true rfl) (Nat.le_of_ble_eq_true rfl) (by omega) (by omega) (by omega) d_M_folder_4 rfl ?_
  refine c_M_make (b := false) hm hN (by omega) (fun e => ?_) (fun k hnk hkl h16 e => ?_)
  · show cn_V l en mi_M_folder d 0 0 S I P Q 7 [(0, .ref 155), (1, .int (n))] [.int (-1)]
    refine cn_iret rfl d_M_folder_7 ?_
    rw [e (-1)] at K
    exact K I h9 frM.rf
  · subst hnk
    show cn_V l en mi_M_folder d 0 0 S ((cn_wi (cn_wi (cn_wi (cn_wi (cn_wi I 156 ns.length (nI k)) 157 ns.length (nI false.toNat)) 158 ns.length (nI 0)) 159 ns.length (nI 0)) 155 1 (nI (ns.length + 1)))) P Q 7 [(0, .ref 155), (1, .int (nI (k)))] [.int (nI (ns.length))]
    refine cn_iret rfl d_M_folder_7 ?_
    rw [e (-1)] at K
    rw [show (if (-1 : Int32) = -1 then ([] : List Int32) else sv0 (-1)) = [] from if_pos rfl] at K
    refine K _ ⟨hm, mN_push hN h16 hkl mw_e ⟨?_, ?_, fun e => absurd rfl e, ?_, Nat.zero_le _, fun j hj => absurd hj (Nat.not_lt_zero j)⟩ (fun a j x1 x2 x3 => by rw [mw_o (by omega), mw_o (by omega), mw_o (by omega), mw_o (by omega), mw_o (by omega)]) (fun j x1 => by rw [mw_o (by omega), mw_o (by omega), mw_o (by omega), mw_o (by omega), mw_o (by omega)]), hJ.congr (fun a j x1 => by rw [mw_o (by omega), mw_o (by omega), mw_o (by omega), mw_o (by omega), mw_o (by omega)]), hS.congr (fun a j x1 => by rw [mw_o (by omega), mw_o (by omega), mw_o (by omega), mw_o (by omega), mw_o (by omega)]), hp, hC.congr (fun a j x1 => by rw [mw_o (by omega), mw_o (by omega), mw_o (by omega), mw_o (by omega), mw_o (by omega)]), hA.congr (fun a j x1 => by rw [mw_o (by omega), mw_o (by omega), mw_o (by omega), mw_o (by omega), mw_o (by omega)])⟩ (fun a x1 => by funext j; rw [mw_o (by omega), mw_o (by omega), mw_o (by omega), mw_o (by omega), mw_o (by omega)])
    · exact mw_a (by decide) (mw_a (by decide) (mw_a (by decide) (mw_a (by decide) mw_e)))
    · exact mw_a (by decide) (mw_a (by decide) (mw_a (by decide) mw_e))
    · exact mw_a (by decide) mw_e
theorem C_M_variable {n t : Int32} (h : RM S I P T (ns, xs, (ps, pn), ch, (rq, ru))) (hd1 : 2 ≤ d) (K : ∀ (I' : cn_I), RM S I' P T ((sp_var ns n t).2, xs, (ps, pn), ch, (rq, ru)) → frM I I' → Q (some (.int ((sp_var ns n t).1))) S I' P) : cn_V l en mi_M_variable d 0 0 S I P Q 0 [(0, .ref 155), (1, .int n), (2, .int t)] [] := by
  have h9 := h
  obtain ⟨hm, hN, hJ, hS, hp, hC, hA⟩ := h
  have hN : mN I ns := hN
  have hJ : mI I xs := hJ
  have hS : mS I ps pn := hS
  have hp : pOK ps pn T := hp
  have hC : mC I ch := hC
  have hA : mA I (rq, ru) := hA
  have hl16 := hN.2.1
  have hl6 := hJ.2.1
  have hl3 := hS.2.1
  have hbt := tn_le (isT t)
  by_cases hT : isT t = true
  · have ht5 : t = nI 0 ∨ t = nI 1 ∨ t = nI 6 ∨ t = nI 8 ∨ t = nI 12 := by unfold isT at hT; simpa [or_assoc] using hT
    rcases ht5 with rfl | rfl | rfl | rfl | rfl
    · refine cn_iload_n (pc' := 1) (k := 2) rfl rfl d_M_variable_0 rfl ?_
      refine cn_if_eq_n (tgt := 29) (pc' := 4) (by omega) d_M_variable_1 (by decide) rfl (fun hc1 => ?_) (fun hc1 => ?_)
      · refine cn_aload_n (pc' := 30) (k := 0) rfl rfl d_M_variable_29 rfl ?_
        refine cn_iload_n (pc' := 31) (k := 1) rfl rfl d_M_variable_30 rfl ?_
        refine cn_iconst (pc' := 32) k_c_1 d_M_variable_31 rfl ?_
        refine cn_iload_n (pc' := 33) (k := 2) rfl rfl d_M_variable_32 rfl ?_
        refine cn_callV (pc' := 36) (kc1 := 0) (ks1 := 0) (kc2 := 0) (ks2 := 0) (rest := []) (lvj := [(0, .ref 155), (1, .int (n)), (2, .int (nI (1))), (3, .int (nI (0)))]) [.int (n), .int (nI (1)), .int (nI (0))] mv_M_101 hm.1 rfl rfl rfl (Nat.le_of_ble_eq_true rfl) (Nat.le_of_ble_eq_true rfl) (by omega) (by omega) (by omega) d_M_variable_33 rfl ?_
        refine c_M_make (b := true) hm hN (by omega) (fun e => ?_) (fun k hnk hkl h16 e => ?_)
        · show cn_V l en mi_M_variable d 0 0 S I P Q 36 [(0, .ref 155), (1, .int (n)), (2, .int (nI (0)))] [.int (-1)]
          refine cn_istore_n (pc' := 37) (lv' := [(0, .ref 155), (1, .int (n)), (2, .int (nI (0))), (3, .int (-1))]) rfl [1, 2, 3, 0] (Nat.le_of_ble_eq_true rfl) rfl d_M_variable_36 rfl ?_
          refine cn_iload_n (pc' := 38) (k := 3) rfl rfl d_M_variable_37 rfl ?_
          refine cn_if_lt (tgt := 117) (pc' := 41) d_M_variable_38 (by decide) rfl (fun hc38 => ?_) (fun hc38 => ?_)
          · refine cn_iload_n (pc' := 118) (k := 3) rfl rfl d_M_variable_117 rfl ?_
            refine cn_iret rfl d_M_variable_118 ?_
            rw [show sp_var ns n (nI 0) = sp_add ns n (nI 0) from if_pos hT, e (nI 0)] at K
            exact K I h9 frM.rf
          · exact absurd hc38 (by decide)
        · subst hnk
          show cn_V l en mi_M_variable d 0 0 S ((cn_wi (cn_wi (cn_wi (cn_wi (cn_wi I 156 ns.length (nI k)) 157 ns.length (nI true.toNat)) 158 ns.length (nI 0)) 159 ns.length (nI 0)) 155 1 (nI (ns.length + 1)))) P Q 36 [(0, .ref 155), (1, .int (nI (k))), (2, .int (nI (0)))] [.int (nI (ns.length))]
          refine cn_istore_n (pc' := 37) (lv' := [(0, .ref 155), (1, .int (nI (k))), (2, .int (nI (0))), (3, .int (nI (ns.length)))]) rfl [1, 2, 3, 0] (Nat.le_of_ble_eq_true rfl) rfl d_M_variable_36 rfl ?_
          refine cn_iload_n (pc' := 38) (k := 3) rfl rfl d_M_variable_37 rfl ?_
          refine cn_if_lt_n (tgt := 117) (pc' := 41) (by omega) d_M_variable_38 (by decide) rfl (fun hc38 => ?_) (fun hc38 => ?_)
          · exact False.elim (by omega)
          · refine cn_iload_n (pc' := 42) (k := 2) rfl rfl d_M_variable_41 rfl ?_
            refine cn_if_ne_n (tgt := 49) (pc' := 45) (by omega) d_M_variable_42 (by decide) rfl (fun hc42 => ?_) (fun hc42 => ?_)
            · exact False.elim (by omega)
            · refine cn_iconst (pc' := 46) k_c_0 d_M_variable_45 rfl ?_
              refine cn_goto (tgt := 70) d_M_variable_46 (by decide) ?_
              refine cn_istore (pc' := 72) (lv' := [(0, .ref 155), (1, .int (nI (k))), (2, .int (nI (0))), (3, .int (nI (ns.length))), (4, .int (nI (0)))]) [1, 2, 3, 4, 0] (Nat.le_of_ble_eq_true rfl) rfl d_M_variable_70 rfl ?_
              refine cn_aload_n (pc' := 73) (k := 0) rfl rfl d_M_variable_72 rfl ?_
              refine cn_getP (pc' := 76) (b := 160) (hm.2.1 6 160 rfl) fl_M_27 hm.1 rfl d_M_variable_73 rfl ?_
              refine cn_bipush (pc' := 78) k_b_64 d_M_variable_76 rfl ?_
              refine cn_iload_n (pc' := 79) (k := 3) rfl rfl d_M_variable_78 rfl ?_
              refine cn_imul_n (pc' := 80) d_M_variable_79 rfl ?_
              refine cn_iload_n (pc' := 81) (k := 2) rfl rfl d_M_variable_80 rfl ?_
              refine cn_iast (pc' := 82) (hm.2.2 160 0 1024 rfl) (by omega) (by decide) d_M_variable_81 rfl ?_
              refine cn_aload_n (pc' := 83) (k := 0) rfl rfl d_M_variable_82 rfl ?_
              refine cn_bipush (pc' := 85) k_b_64 d_M_variable_83 rfl ?_
              refine cn_iload_n (pc' := 86) (k := 3) rfl rfl d_M_variable_85 rfl ?_
              refine cn_imul_n (pc' := 87) d_M_variable_86 rfl ?_
              refine cn_iconst (pc' := 88) k_c_1 d_M_variable_87 rfl ?_
              refine cn_iadd_n (pc' := 89) d_M_variable_88 rfl ?_
              refine cn_iload_n (pc' := 90) (k := 2) rfl rfl d_M_variable_89 rfl ?_
              refine cn_bipush (pc' := 92) k_b_12 d_M_variable_90 rfl ?_
              refine cn_icmp_ne_n (tgt := 101) (pc' := 95) (by omega) (by omega) d_M_variable_92 (by decide) rfl (fun hc92 => ?_) (fun hc92 => ?_)
              · refine cn_lconst (pc' := 102) (v := 0) (by decide +kernel) d_M_variable_101 rfl ?_
                refine cn_iload (pc' := 104) (k := 4) rfl d_M_variable_102 rfl ?_
                refine cn_callV (pc' := 107) (kc1 := 0) (ks1 := 0) (kc2 := 0) (ks2 := 0) (rest := []) (lvj := [(0, .ref 155), (1, .int (nI ((64 * ns.length) + 1))), (2, .long (0)), (4, .int (nI (0)))]) [.int (nI ((64 * ns.length) + 1)), .long (0), .int (nI (0))] mv_M_109 hm.1 rfl rfl rfl (Nat.le_of_ble_eq_true rfl) (Nat.le_of_ble_eq_true rfl) (by omega) (by omega) (by omega) d_M_variable_104 rfl ?_
                refine c_M_startNumber (q0 := 64 * ns.length + 1) (n := 0) (x := 0) hm (by omega) (by omega) (fun I1 hb1 hf1 => ?_)
                show cn_V l en mi_M_variable d 0 0 S I1 P Q 107 [(0, .ref 155), (1, .int (nI (k))), (2, .int (nI (0))), (3, .int (nI (ns.length))), (4, .int (nI (0)))] []
                refine cn_aload_n (pc' := 108) (k := 0) rfl rfl d_M_variable_107 rfl ?_
                refine cn_getP (pc' := 111) (b := 159) (hm.2.1 5 159 rfl) fl_M_24 hm.1 rfl d_M_variable_108 rfl ?_
                refine cn_iload_n (pc' := 112) (k := 3) rfl rfl d_M_variable_111 rfl ?_
                refine cn_iconst (pc' := 113) k_c_1 d_M_variable_112 rfl ?_
                refine cn_iload (pc' := 115) (k := 4) rfl d_M_variable_113 rfl ?_
                refine cn_iadd_n (pc' := 116) d_M_variable_115 rfl ?_
                refine cn_iast (pc' := 117) (hm.2.2 159 0 16 rfl) (by omega) (by decide) d_M_variable_116 rfl ?_
                refine cn_iload_n (pc' := 118) (k := 3) rfl rfl d_M_variable_117 rfl ?_
                refine cn_iret rfl d_M_variable_118 ?_
                rw [show sp_var ns (nI k) (nI 0) = sp_add ns (nI k) (nI 0) from if_pos hT, e (nI 0)] at K
                have ev : (if nI 0 = -1 then [] else sv0 (nI 0)) = nI 0 :: lbs (0) 0 := by decide +kernel
                rw [ev] at K
                have hl2 : (nI 0 :: lbs (0) 0).length = 1 := by show (lbs (0) 0).length + 1 = 1; rw [lbs_len]
                have hrow : ∀ a j, (a ≠ 155 ∨ j ≠ 1) → (a < 156 ∨ 159 < a ∨ j ≠ ns.length) → (a ≠ 160 ∨ j < 64 * ns.length ∨ 64 * ns.length + 1 ≤ j) → cn_wi I1 159 ns.length (nI (1 + 0)) a j = I a j := fun a j x1 x2 x3 => by rw [mw_o (by omega), hf1 a j (by omega), mw_o (by omega), mw_o (by omega), mw_o (by omega), mw_o (by omega), mw_o (by omega), mw_o (by omega)]
                refine K _ ⟨hm, mN_push hN h16 hkl ?_ ⟨?_, ?_, fun _ => ?_, ?_, by rw [hl2]; decide, fun j hj => ?_⟩ (fun a j x1 x2 x3 => hrow a j (by omega) (by omega) (by omega)) (fun j x1 => hrow _ j (by omega) (by omega) (by omega)), hJ.congr (fun a j x1 => hrow a j (by omega) (by omega) (by omega)), hS.congr (fun a j x1 => hrow a j (by omega) (by omega) (by omega)), hp, hC.congr (fun a j x1 => hrow a j (by omega) (by omega) (by omega)), hA.congr (fun a j x1 => hrow a j (by omega) (by omega) (by omega))⟩ (fun a x1 => by funext j; exact hrow a j (by omega) (by omega) (by omega))
                · rw [mw_o (by omega), hf1 _ _ (by omega), mw_o (by omega)]; exact mw_e
                · rw [mw_o (by omega), hf1 _ _ (by omega), mw_o (by omega), mw_o (by omega), mw_o (by omega), mw_o (by omega), mw_o (by omega)]; exact mw_e
                · rw [mw_o (by omega), hf1 _ _ (by omega), mw_o (by omega), mw_o (by omega), mw_o (by omega), mw_o (by omega)]; exact mw_e
                · rw [mw_o (by omega), hf1 _ _ (by omega), mw_o (by omega), mw_o (by omega), mw_o (by omega)]; exact mw_e
                · rw [mw_e]; show _ = nI (nI 0 :: lbs (0) 0).length; rw [hl2]
                · have hj : j < (nI 0 :: lbs (0) 0).length := hj
                  rw [hl2] at hj
                  rw [mw_o (by omega)]
                  cases j with
                  | zero => rw [hf1 _ _ (by omega)]; exact mw_e
                  | succ j =>
                    rw [show 64 * ns.length + (j + 1) = 64 * ns.length + 1 + j by omega, hb1 j (by omega)]
                    exact (lbs_at (by omega)).symm
              · exact False.elim (by omega)
      · exact False.elim (by omega)
    · refine cn_iload_n (pc' := 1) (k := 2) rfl rfl d_M_variable_0 rfl ?_
      refine cn_if_eq_n (tgt := 29) (pc' := 4) (by omega) d_M_variable_1 (by decide) rfl (fun hc1 => ?_) (fun hc1 => ?_)
      · exact False.elim (by omega)
      · refine cn_iload_n (pc' := 5) (k := 2) rfl rfl d_M_variable_4 rfl ?_
        refine cn_iconst (pc' := 6) k_c_1 d_M_variable_5 rfl ?_
        refine cn_icmp_eq_n (tgt := 29) (pc' := 9) (by omega) (by omega) d_M_variable_6 (by decide) rfl (fun hc6 => ?_) (fun hc6 => ?_)
        · refine cn_aload_n (pc' := 30) (k := 0) rfl rfl d_M_variable_29 rfl ?_
          refine cn_iload_n (pc' := 31) (k := 1) rfl rfl d_M_variable_30 rfl ?_
          refine cn_iconst (pc' := 32) k_c_1 d_M_variable_31 rfl ?_
          refine cn_iload_n (pc' := 33) (k := 2) rfl rfl d_M_variable_32 rfl ?_
          refine cn_callV (pc' := 36) (kc1 := 0) (ks1 := 0) (kc2 := 0) (ks2 := 0) (rest := []) (lvj := [(0, .ref 155), (1, .int (n)), (2, .int (nI (1))), (3, .int (nI (1)))]) [.int (n), .int (nI (1)), .int (nI (1))] mv_M_101 hm.1 rfl rfl rfl (Nat.le_of_ble_eq_true rfl) (Nat.le_of_ble_eq_true rfl) (by omega) (by omega) (by omega) d_M_variable_33 rfl ?_
          refine c_M_make (b := true) hm hN (by omega) (fun e => ?_) (fun k hnk hkl h16 e => ?_)
          · show cn_V l en mi_M_variable d 0 0 S I P Q 36 [(0, .ref 155), (1, .int (n)), (2, .int (nI (1)))] [.int (-1)]
            refine cn_istore_n (pc' := 37) (lv' := [(0, .ref 155), (1, .int (n)), (2, .int (nI (1))), (3, .int (-1))]) rfl [1, 2, 3, 0] (Nat.le_of_ble_eq_true rfl) rfl d_M_variable_36 rfl ?_
            refine cn_iload_n (pc' := 38) (k := 3) rfl rfl d_M_variable_37 rfl ?_
            refine cn_if_lt (tgt := 117) (pc' := 41) d_M_variable_38 (by decide) rfl (fun hc38 => ?_) (fun hc38 => ?_)
            · refine cn_iload_n (pc' := 118) (k := 3) rfl rfl d_M_variable_117 rfl ?_
              refine cn_iret rfl d_M_variable_118 ?_
              rw [show sp_var ns n (nI 1) = sp_add ns n (nI 1) from if_pos hT, e (nI 1)] at K
              exact K I h9 frM.rf
            · exact absurd hc38 (by decide)
          · subst hnk
            show cn_V l en mi_M_variable d 0 0 S ((cn_wi (cn_wi (cn_wi (cn_wi (cn_wi I 156 ns.length (nI k)) 157 ns.length (nI true.toNat)) 158 ns.length (nI 1)) 159 ns.length (nI 0)) 155 1 (nI (ns.length + 1)))) P Q 36 [(0, .ref 155), (1, .int (nI (k))), (2, .int (nI (1)))] [.int (nI (ns.length))]
            refine cn_istore_n (pc' := 37) (lv' := [(0, .ref 155), (1, .int (nI (k))), (2, .int (nI (1))), (3, .int (nI (ns.length)))]) rfl [1, 2, 3, 0] (Nat.le_of_ble_eq_true rfl) rfl d_M_variable_36 rfl ?_
            refine cn_iload_n (pc' := 38) (k := 3) rfl rfl d_M_variable_37 rfl ?_
            refine cn_if_lt_n (tgt := 117) (pc' := 41) (by omega) d_M_variable_38 (by decide) rfl (fun hc38 => ?_) (fun hc38 => ?_)
            · exact False.elim (by omega)
            · refine cn_iload_n (pc' := 42) (k := 2) rfl rfl d_M_variable_41 rfl ?_
              refine cn_if_ne_n (tgt := 49) (pc' := 45) (by omega) d_M_variable_42 (by decide) rfl (fun hc42 => ?_) (fun hc42 => ?_)
              · refine cn_iload_n (pc' := 50) (k := 2) rfl rfl d_M_variable_49 rfl ?_
                refine cn_iconst (pc' := 51) k_c_1 d_M_variable_50 rfl ?_
                refine cn_icmp_ne_n (tgt := 58) (pc' := 54) (by omega) (by omega) d_M_variable_51 (by decide) rfl (fun hc51 => ?_) (fun hc51 => ?_)
                · exact False.elim (by omega)
                · refine cn_iconst (pc' := 55) k_c_1 d_M_variable_54 rfl ?_
                  refine cn_goto (tgt := 70) d_M_variable_55 (by decide) ?_
                  refine cn_istore (pc' := 72) (lv' := [(0, .ref 155), (1, .int (nI (k))), (2, .int (nI (1))), (3, .int (nI (ns.length))), (4, .int (nI (1)))]) [1, 2, 3, 4, 0] (Nat.le_of_ble_eq_true rfl) rfl d_M_variable_70 rfl ?_
                  refine cn_aload_n (pc' := 73) (k := 0) rfl rfl d_M_variable_72 rfl ?_
                  refine cn_getP (pc' := 76) (b := 160) (hm.2.1 6 160 rfl) fl_M_27 hm.1 rfl d_M_variable_73 rfl ?_
                  refine cn_bipush (pc' := 78) k_b_64 d_M_variable_76 rfl ?_
                  refine cn_iload_n (pc' := 79) (k := 3) rfl rfl d_M_variable_78 rfl ?_
                  refine cn_imul_n (pc' := 80) d_M_variable_79 rfl ?_
                  refine cn_iload_n (pc' := 81) (k := 2) rfl rfl d_M_variable_80 rfl ?_
                  refine cn_iast (pc' := 82) (hm.2.2 160 0 1024 rfl) (by omega) (by decide) d_M_variable_81 rfl ?_
                  refine cn_aload_n (pc' := 83) (k := 0) rfl rfl d_M_variable_82 rfl ?_
                  refine cn_bipush (pc' := 85) k_b_64 d_M_variable_83 rfl ?_
                  refine cn_iload_n (pc' := 86) (k := 3) rfl rfl d_M_variable_85 rfl ?_
                  refine cn_imul_n (pc' := 87) d_M_variable_86 rfl ?_
                  refine cn_iconst (pc' := 88) k_c_1 d_M_variable_87 rfl ?_
                  refine cn_iadd_n (pc' := 89) d_M_variable_88 rfl ?_
                  refine cn_iload_n (pc' := 90) (k := 2) rfl rfl d_M_variable_89 rfl ?_
                  refine cn_bipush (pc' := 92) k_b_12 d_M_variable_90 rfl ?_
                  refine cn_icmp_ne_n (tgt := 101) (pc' := 95) (by omega) (by omega) d_M_variable_92 (by decide) rfl (fun hc92 => ?_) (fun hc92 => ?_)
                  · refine cn_lconst (pc' := 102) (v := 0) (by decide +kernel) d_M_variable_101 rfl ?_
                    refine cn_iload (pc' := 104) (k := 4) rfl d_M_variable_102 rfl ?_
                    refine cn_callV (pc' := 107) (kc1 := 0) (ks1 := 0) (kc2 := 0) (ks2 := 0) (rest := []) (lvj := [(0, .ref 155), (1, .int (nI ((64 * ns.length) + 1))), (2, .long (0)), (4, .int (nI (1)))]) [.int (nI ((64 * ns.length) + 1)), .long (0), .int (nI (1))] mv_M_109 hm.1 rfl rfl rfl (Nat.le_of_ble_eq_true rfl) (Nat.le_of_ble_eq_true rfl) (by omega) (by omega) (by omega) d_M_variable_104 rfl ?_
                    refine c_M_startNumber (q0 := 64 * ns.length + 1) (n := 1) (x := 0) hm (by omega) (by omega) (fun I1 hb1 hf1 => ?_)
                    show cn_V l en mi_M_variable d 0 0 S I1 P Q 107 [(0, .ref 155), (1, .int (nI (k))), (2, .int (nI (1))), (3, .int (nI (ns.length))), (4, .int (nI (1)))] []
                    refine cn_aload_n (pc' := 108) (k := 0) rfl rfl d_M_variable_107 rfl ?_
                    refine cn_getP (pc' := 111) (b := 159) (hm.2.1 5 159 rfl) fl_M_24 hm.1 rfl d_M_variable_108 rfl ?_
                    refine cn_iload_n (pc' := 112) (k := 3) rfl rfl d_M_variable_111 rfl ?_
                    refine cn_iconst (pc' := 113) k_c_1 d_M_variable_112 rfl ?_
                    refine cn_iload (pc' := 115) (k := 4) rfl d_M_variable_113 rfl ?_
                    refine cn_iadd_n (pc' := 116) d_M_variable_115 rfl ?_
                    refine cn_iast (pc' := 117) (hm.2.2 159 0 16 rfl) (by omega) (by decide) d_M_variable_116 rfl ?_
                    refine cn_iload_n (pc' := 118) (k := 3) rfl rfl d_M_variable_117 rfl ?_
                    refine cn_iret rfl d_M_variable_118 ?_
                    rw [show sp_var ns (nI k) (nI 1) = sp_add ns (nI k) (nI 1) from if_pos hT, e (nI 1)] at K
                    have ev : (if nI 1 = -1 then [] else sv0 (nI 1)) = nI 1 :: lbs (0) 1 := by decide +kernel
                    rw [ev] at K
                    have hl2 : (nI 1 :: lbs (0) 1).length = 2 := by show (lbs (0) 1).length + 1 = 2; rw [lbs_len]
                    have hrow : ∀ a j, (a ≠ 155 ∨ j ≠ 1) → (a < 156 ∨ 159 < a ∨ j ≠ ns.length) → (a ≠ 160 ∨ j < 64 * ns.length ∨ 64 * ns.length + 2 ≤ j) → cn_wi I1 159 ns.length (nI (1 + 1)) a j = I a j := fun a j x1 x2 x3 => by rw [mw_o (by omega), hf1 a j (by omega), mw_o (by omega), mw_o (by omega), mw_o (by omega), mw_o (by omega), mw_o (by omega), mw_o (by omega)]
                    refine K _ ⟨hm, mN_push hN h16 hkl ?_ ⟨?_, ?_, fun _ => ?_, ?_, by rw [hl2]; decide, fun j hj => ?_⟩ (fun a j x1 x2 x3 => hrow a j (by omega) (by omega) (by omega)) (fun j x1 => hrow _ j (by omega) (by omega) (by omega)), hJ.congr (fun a j x1 => hrow a j (by omega) (by omega) (by omega)), hS.congr (fun a j x1 => hrow a j (by omega) (by omega) (by omega)), hp, hC.congr (fun a j x1 => hrow a j (by omega) (by omega) (by omega)), hA.congr (fun a j x1 => hrow a j (by omega) (by omega) (by omega))⟩ (fun a x1 => by funext j; exact hrow a j (by omega) (by omega) (by omega))
                    · rw [mw_o (by omega), hf1 _ _ (by omega), mw_o (by omega)]; exact mw_e
                    · rw [mw_o (by omega), hf1 _ _ (by omega), mw_o (by omega), mw_o (by omega), mw_o (by omega), mw_o (by omega), mw_o (by omega)]; exact mw_e
                    · rw [mw_o (by omega), hf1 _ _ (by omega), mw_o (by omega), mw_o (by omega), mw_o (by omega), mw_o (by omega)]; exact mw_e
                    · rw [mw_o (by omega), hf1 _ _ (by omega), mw_o (by omega), mw_o (by omega), mw_o (by omega)]; exact mw_e
                    · rw [mw_e]; show _ = nI (nI 1 :: lbs (0) 1).length; rw [hl2]
                    · have hj : j < (nI 1 :: lbs (0) 1).length := hj
                      rw [hl2] at hj
                      rw [mw_o (by omega)]
                      cases j with
                      | zero => rw [hf1 _ _ (by omega)]; exact mw_e
                      | succ j =>
                        rw [show 64 * ns.length + (j + 1) = 64 * ns.length + 1 + j by omega, hb1 j (by omega)]
                        exact (lbs_at (by omega)).symm
                  · exact False.elim (by omega)
              · exact False.elim (by omega)
        · exact False.elim (by omega)
    · refine cn_iload_n (pc' := 1) (k := 2) rfl rfl d_M_variable_0 rfl ?_
      refine cn_if_eq_n (tgt := 29) (pc' := 4) (by omega) d_M_variable_1 (by decide) rfl (fun hc1 => ?_) (fun hc1 => ?_)
      · exact False.elim (by omega)
      · refine cn_iload_n (pc' := 5) (k := 2) rfl rfl d_M_variable_4 rfl ?_
        refine cn_iconst (pc' := 6) k_c_1 d_M_variable_5 rfl ?_
        refine cn_icmp_eq_n (tgt := 29) (pc' := 9) (by omega) (by omega) d_M_variable_6 (by decide) rfl (fun hc6 => ?_) (fun hc6 => ?_)
        · exact False.elim (by omega)
        · refine cn_iload_n (pc' := 10) (k := 2) rfl rfl d_M_variable_9 rfl ?_
          refine cn_bipush (pc' := 12) k_b_6 d_M_variable_10 rfl ?_
          refine cn_icmp_eq_n (tgt := 29) (pc' := 15) (by omega) (by omega) d_M_variable_12 (by decide) rfl (fun hc12 => ?_) (fun hc12 => ?_)
          · refine cn_aload_n (pc' := 30) (k := 0) rfl rfl d_M_variable_29 rfl ?_
            refine cn_iload_n (pc' := 31) (k := 1) rfl rfl d_M_variable_30 rfl ?_
            refine cn_iconst (pc' := 32) k_c_1 d_M_variable_31 rfl ?_
            refine cn_iload_n (pc' := 33) (k := 2) rfl rfl d_M_variable_32 rfl ?_
            refine cn_callV (pc' := 36) (kc1 := 0) (ks1 := 0) (kc2 := 0) (ks2 := 0) (rest := []) (lvj := [(0, .ref 155), (1, .int (n)), (2, .int (nI (1))), (3, .int (nI (6)))]) [.int (n), .int (nI (1)), .int (nI (6))] mv_M_101 hm.1 rfl rfl rfl (Nat.le_of_ble_eq_true rfl) (Nat.le_of_ble_eq_true rfl) (by omega) (by omega) (by omega) d_M_variable_33 rfl ?_
            refine c_M_make (b := true) hm hN (by omega) (fun e => ?_) (fun k hnk hkl h16 e => ?_)
            · show cn_V l en mi_M_variable d 0 0 S I P Q 36 [(0, .ref 155), (1, .int (n)), (2, .int (nI (6)))] [.int (-1)]
              refine cn_istore_n (pc' := 37) (lv' := [(0, .ref 155), (1, .int (n)), (2, .int (nI (6))), (3, .int (-1))]) rfl [1, 2, 3, 0] (Nat.le_of_ble_eq_true rfl) rfl d_M_variable_36 rfl ?_
              refine cn_iload_n (pc' := 38) (k := 3) rfl rfl d_M_variable_37 rfl ?_
              refine cn_if_lt (tgt := 117) (pc' := 41) d_M_variable_38 (by decide) rfl (fun hc38 => ?_) (fun hc38 => ?_)
              · refine cn_iload_n (pc' := 118) (k := 3) rfl rfl d_M_variable_117 rfl ?_
                refine cn_iret rfl d_M_variable_118 ?_
                rw [show sp_var ns n (nI 6) = sp_add ns n (nI 6) from if_pos hT, e (nI 6)] at K
                exact K I h9 frM.rf
              · exact absurd hc38 (by decide)
            · subst hnk
              show cn_V l en mi_M_variable d 0 0 S ((cn_wi (cn_wi (cn_wi (cn_wi (cn_wi I 156 ns.length (nI k)) 157 ns.length (nI true.toNat)) 158 ns.length (nI 6)) 159 ns.length (nI 0)) 155 1 (nI (ns.length + 1)))) P Q 36 [(0, .ref 155), (1, .int (nI (k))), (2, .int (nI (6)))] [.int (nI (ns.length))]
              refine cn_istore_n (pc' := 37) (lv' := [(0, .ref 155), (1, .int (nI (k))), (2, .int (nI (6))), (3, .int (nI (ns.length)))]) rfl [1, 2, 3, 0] (Nat.le_of_ble_eq_true rfl) rfl d_M_variable_36 rfl ?_
              refine cn_iload_n (pc' := 38) (k := 3) rfl rfl d_M_variable_37 rfl ?_
              refine cn_if_lt_n (tgt := 117) (pc' := 41) (by omega) d_M_variable_38 (by decide) rfl (fun hc38 => ?_) (fun hc38 => ?_)
              · exact False.elim (by omega)
              · refine cn_iload_n (pc' := 42) (k := 2) rfl rfl d_M_variable_41 rfl ?_
                refine cn_if_ne_n (tgt := 49) (pc' := 45) (by omega) d_M_variable_42 (by decide) rfl (fun hc42 => ?_) (fun hc42 => ?_)
                · refine cn_iload_n (pc' := 50) (k := 2) rfl rfl d_M_variable_49 rfl ?_
                  refine cn_iconst (pc' := 51) k_c_1 d_M_variable_50 rfl ?_
                  refine cn_icmp_ne_n (tgt := 58) (pc' := 54) (by omega) (by omega) d_M_variable_51 (by decide) rfl (fun hc51 => ?_) (fun hc51 => ?_)
                  · refine cn_iload_n (pc' := 59) (k := 2) rfl rfl d_M_variable_58 rfl ?_
                    refine cn_bipush (pc' := 61) k_b_8 d_M_variable_59 rfl ?_
                    refine cn_icmp_ne_n (tgt := 69) (pc' := 64) (by omega) (by omega) d_M_variable_61 (by decide) rfl (fun hc61 => ?_) (fun hc61 => ?_)
                    · refine cn_iconst (pc' := 70) k_c_4 d_M_variable_69 rfl ?_
                      refine cn_istore (pc' := 72) (lv' := [(0, .ref 155), (1, .int (nI (k))), (2, .int (nI (6))), (3, .int (nI (ns.length))), (4, .int (nI (4)))]) [1, 2, 3, 4, 0] (Nat.le_of_ble_eq_true rfl) rfl d_M_variable_70 rfl ?_
                      refine cn_aload_n (pc' := 73) (k := 0) rfl rfl d_M_variable_72 rfl ?_
                      refine cn_getP (pc' := 76) (b := 160) (hm.2.1 6 160 rfl) fl_M_27 hm.1 rfl d_M_variable_73 rfl ?_
                      refine cn_bipush (pc' := 78) k_b_64 d_M_variable_76 rfl ?_
                      refine cn_iload_n (pc' := 79) (k := 3) rfl rfl d_M_variable_78 rfl ?_
                      refine cn_imul_n (pc' := 80) d_M_variable_79 rfl ?_
                      refine cn_iload_n (pc' := 81) (k := 2) rfl rfl d_M_variable_80 rfl ?_
                      refine cn_iast (pc' := 82) (hm.2.2 160 0 1024 rfl) (by omega) (by decide) d_M_variable_81 rfl ?_
                      refine cn_aload_n (pc' := 83) (k := 0) rfl rfl d_M_variable_82 rfl ?_
                      refine cn_bipush (pc' := 85) k_b_64 d_M_variable_83 rfl ?_
                      refine cn_iload_n (pc' := 86) (k := 3) rfl rfl d_M_variable_85 rfl ?_
                      refine cn_imul_n (pc' := 87) d_M_variable_86 rfl ?_
                      refine cn_iconst (pc' := 88) k_c_1 d_M_variable_87 rfl ?_
                      refine cn_iadd_n (pc' := 89) d_M_variable_88 rfl ?_
                      refine cn_iload_n (pc' := 90) (k := 2) rfl rfl d_M_variable_89 rfl ?_
                      refine cn_bipush (pc' := 92) k_b_12 d_M_variable_90 rfl ?_
                      refine cn_icmp_ne_n (tgt := 101) (pc' := 95) (by omega) (by omega) d_M_variable_92 (by decide) rfl (fun hc92 => ?_) (fun hc92 => ?_)
                      · refine cn_lconst (pc' := 102) (v := 0) (by decide +kernel) d_M_variable_101 rfl ?_
                        refine cn_iload (pc' := 104) (k := 4) rfl d_M_variable_102 rfl ?_
                        refine cn_callV (pc' := 107) (kc1 := 0) (ks1 := 0) (kc2 := 0) (ks2 := 0) (rest := []) (lvj := [(0, .ref 155), (1, .int (nI ((64 * ns.length) + 1))), (2, .long (0)), (4, .int (nI (4)))]) [.int (nI ((64 * ns.length) + 1)), .long (0), .int (nI (4))] mv_M_109 hm.1 rfl rfl rfl (Nat.le_of_ble_eq_true rfl) (Nat.le_of_ble_eq_true rfl) (by omega) (by omega) (by omega) d_M_variable_104 rfl ?_
                        refine c_M_startNumber (q0 := 64 * ns.length + 1) (n := 4) (x := 0) hm (by omega) (by omega) (fun I1 hb1 hf1 => ?_)
                        show cn_V l en mi_M_variable d 0 0 S I1 P Q 107 [(0, .ref 155), (1, .int (nI (k))), (2, .int (nI (6))), (3, .int (nI (ns.length))), (4, .int (nI (4)))] []
                        refine cn_aload_n (pc' := 108) (k := 0) rfl rfl d_M_variable_107 rfl ?_
                        refine cn_getP (pc' := 111) (b := 159) (hm.2.1 5 159 rfl) fl_M_24 hm.1 rfl d_M_variable_108 rfl ?_
                        refine cn_iload_n (pc' := 112) (k := 3) rfl rfl d_M_variable_111 rfl ?_
                        refine cn_iconst (pc' := 113) k_c_1 d_M_variable_112 rfl ?_
                        refine cn_iload (pc' := 115) (k := 4) rfl d_M_variable_113 rfl ?_
                        refine cn_iadd_n (pc' := 116) d_M_variable_115 rfl ?_
                        refine cn_iast (pc' := 117) (hm.2.2 159 0 16 rfl) (by omega) (by decide) d_M_variable_116 rfl ?_
                        refine cn_iload_n (pc' := 118) (k := 3) rfl rfl d_M_variable_117 rfl ?_
                        refine cn_iret rfl d_M_variable_118 ?_
                        rw [show sp_var ns (nI k) (nI 6) = sp_add ns (nI k) (nI 6) from if_pos hT, e (nI 6)] at K
                        have ev : (if nI 6 = -1 then [] else sv0 (nI 6)) = nI 6 :: lbs (0) 4 := by decide +kernel
                        rw [ev] at K
                        have hl2 : (nI 6 :: lbs (0) 4).length = 5 := by show (lbs (0) 4).length + 1 = 5; rw [lbs_len]
                        have hrow : ∀ a j, (a ≠ 155 ∨ j ≠ 1) → (a < 156 ∨ 159 < a ∨ j ≠ ns.length) → (a ≠ 160 ∨ j < 64 * ns.length ∨ 64 * ns.length + 5 ≤ j) → cn_wi I1 159 ns.length (nI (1 + 4)) a j = I a j := fun a j x1 x2 x3 => by rw [mw_o (by omega), hf1 a j (by omega), mw_o (by omega), mw_o (by omega), mw_o (by omega), mw_o (by omega), mw_o (by omega), mw_o (by omega)]
                        refine K _ ⟨hm, mN_push hN h16 hkl ?_ ⟨?_, ?_, fun _ => ?_, ?_, by rw [hl2]; decide, fun j hj => ?_⟩ (fun a j x1 x2 x3 => hrow a j (by omega) (by omega) (by omega)) (fun j x1 => hrow _ j (by omega) (by omega) (by omega)), hJ.congr (fun a j x1 => hrow a j (by omega) (by omega) (by omega)), hS.congr (fun a j x1 => hrow a j (by omega) (by omega) (by omega)), hp, hC.congr (fun a j x1 => hrow a j (by omega) (by omega) (by omega)), hA.congr (fun a j x1 => hrow a j (by omega) (by omega) (by omega))⟩ (fun a x1 => by funext j; exact hrow a j (by omega) (by omega) (by omega))
                        · rw [mw_o (by omega), hf1 _ _ (by omega), mw_o (by omega)]; exact mw_e
                        · rw [mw_o (by omega), hf1 _ _ (by omega), mw_o (by omega), mw_o (by omega), mw_o (by omega), mw_o (by omega), mw_o (by omega)]; exact mw_e
                        · rw [mw_o (by omega), hf1 _ _ (by omega), mw_o (by omega), mw_o (by omega), mw_o (by omega), mw_o (by omega)]; exact mw_e
                        · rw [mw_o (by omega), hf1 _ _ (by omega), mw_o (by omega), mw_o (by omega), mw_o (by omega)]; exact mw_e
                        · rw [mw_e]; show _ = nI (nI 6 :: lbs (0) 4).length; rw [hl2]
                        · have hj : j < (nI 6 :: lbs (0) 4).length := hj
                          rw [hl2] at hj
                          rw [mw_o (by omega)]
                          cases j with
                          | zero => rw [hf1 _ _ (by omega)]; exact mw_e
                          | succ j =>
                            rw [show 64 * ns.length + (j + 1) = 64 * ns.length + 1 + j by omega, hb1 j (by omega)]
                            exact (lbs_at (by omega)).symm
                      · exact False.elim (by omega)
                    · exact False.elim (by omega)
                  · exact False.elim (by omega)
                · exact False.elim (by omega)
          · exact False.elim (by omega)
    · refine cn_iload_n (pc' := 1) (k := 2) rfl rfl d_M_variable_0 rfl ?_
      refine cn_if_eq_n (tgt := 29) (pc' := 4) (by omega) d_M_variable_1 (by decide) rfl (fun hc1 => ?_) (fun hc1 => ?_)
      · exact False.elim (by omega)
      · refine cn_iload_n (pc' := 5) (k := 2) rfl rfl d_M_variable_4 rfl ?_
        refine cn_iconst (pc' := 6) k_c_1 d_M_variable_5 rfl ?_
        refine cn_icmp_eq_n (tgt := 29) (pc' := 9) (by omega) (by omega) d_M_variable_6 (by decide) rfl (fun hc6 => ?_) (fun hc6 => ?_)
        · exact False.elim (by omega)
        · refine cn_iload_n (pc' := 10) (k := 2) rfl rfl d_M_variable_9 rfl ?_
          refine cn_bipush (pc' := 12) k_b_6 d_M_variable_10 rfl ?_
          refine cn_icmp_eq_n (tgt := 29) (pc' := 15) (by omega) (by omega) d_M_variable_12 (by decide) rfl (fun hc12 => ?_) (fun hc12 => ?_)
          · exact False.elim (by omega)
          · refine cn_iload_n (pc' := 16) (k := 2) rfl rfl d_M_variable_15 rfl ?_
            refine cn_bipush (pc' := 18) k_b_8 d_M_variable_16 rfl ?_
            refine cn_icmp_eq_n (tgt := 29) (pc' := 21) (by omega) (by omega) d_M_variable_18 (by decide) rfl (fun hc18 => ?_) (fun hc18 => ?_)
            · refine cn_aload_n (pc' := 30) (k := 0) rfl rfl d_M_variable_29 rfl ?_
              refine cn_iload_n (pc' := 31) (k := 1) rfl rfl d_M_variable_30 rfl ?_
              refine cn_iconst (pc' := 32) k_c_1 d_M_variable_31 rfl ?_
              refine cn_iload_n (pc' := 33) (k := 2) rfl rfl d_M_variable_32 rfl ?_
              refine cn_callV (pc' := 36) (kc1 := 0) (ks1 := 0) (kc2 := 0) (ks2 := 0) (rest := []) (lvj := [(0, .ref 155), (1, .int (n)), (2, .int (nI (1))), (3, .int (nI (8)))]) [.int (n), .int (nI (1)), .int (nI (8))] mv_M_101 hm.1 rfl rfl rfl (Nat.le_of_ble_eq_true rfl) (Nat.le_of_ble_eq_true rfl) (by omega) (by omega) (by omega) d_M_variable_33 rfl ?_
              refine c_M_make (b := true) hm hN (by omega) (fun e => ?_) (fun k hnk hkl h16 e => ?_)
              · show cn_V l en mi_M_variable d 0 0 S I P Q 36 [(0, .ref 155), (1, .int (n)), (2, .int (nI (8)))] [.int (-1)]
                refine cn_istore_n (pc' := 37) (lv' := [(0, .ref 155), (1, .int (n)), (2, .int (nI (8))), (3, .int (-1))]) rfl [1, 2, 3, 0] (Nat.le_of_ble_eq_true rfl) rfl d_M_variable_36 rfl ?_
                refine cn_iload_n (pc' := 38) (k := 3) rfl rfl d_M_variable_37 rfl ?_
                refine cn_if_lt (tgt := 117) (pc' := 41) d_M_variable_38 (by decide) rfl (fun hc38 => ?_) (fun hc38 => ?_)
                · refine cn_iload_n (pc' := 118) (k := 3) rfl rfl d_M_variable_117 rfl ?_
                  refine cn_iret rfl d_M_variable_118 ?_
                  rw [show sp_var ns n (nI 8) = sp_add ns n (nI 8) from if_pos hT, e (nI 8)] at K
                  exact K I h9 frM.rf
                · exact absurd hc38 (by decide)
              · subst hnk
                show cn_V l en mi_M_variable d 0 0 S ((cn_wi (cn_wi (cn_wi (cn_wi (cn_wi I 156 ns.length (nI k)) 157 ns.length (nI true.toNat)) 158 ns.length (nI 8)) 159 ns.length (nI 0)) 155 1 (nI (ns.length + 1)))) P Q 36 [(0, .ref 155), (1, .int (nI (k))), (2, .int (nI (8)))] [.int (nI (ns.length))]
                refine cn_istore_n (pc' := 37) (lv' := [(0, .ref 155), (1, .int (nI (k))), (2, .int (nI (8))), (3, .int (nI (ns.length)))]) rfl [1, 2, 3, 0] (Nat.le_of_ble_eq_true rfl) rfl d_M_variable_36 rfl ?_
                refine cn_iload_n (pc' := 38) (k := 3) rfl rfl d_M_variable_37 rfl ?_
                refine cn_if_lt_n (tgt := 117) (pc' := 41) (by omega) d_M_variable_38 (by decide) rfl (fun hc38 => ?_) (fun hc38 => ?_)
                · exact False.elim (by omega)
                · refine cn_iload_n (pc' := 42) (k := 2) rfl rfl d_M_variable_41 rfl ?_
                  refine cn_if_ne_n (tgt := 49) (pc' := 45) (by omega) d_M_variable_42 (by decide) rfl (fun hc42 => ?_) (fun hc42 => ?_)
                  · refine cn_iload_n (pc' := 50) (k := 2) rfl rfl d_M_variable_49 rfl ?_
                    refine cn_iconst (pc' := 51) k_c_1 d_M_variable_50 rfl ?_
                    refine cn_icmp_ne_n (tgt := 58) (pc' := 54) (by omega) (by omega) d_M_variable_51 (by decide) rfl (fun hc51 => ?_) (fun hc51 => ?_)
                    · refine cn_iload_n (pc' := 59) (k := 2) rfl rfl d_M_variable_58 rfl ?_
                      refine cn_bipush (pc' := 61) k_b_8 d_M_variable_59 rfl ?_
                      refine cn_icmp_ne_n (tgt := 69) (pc' := 64) (by omega) (by omega) d_M_variable_61 (by decide) rfl (fun hc61 => ?_) (fun hc61 => ?_)
                      · exact False.elim (by omega)
                      · refine cn_bipush (pc' := 66) k_b_8 d_M_variable_64 rfl ?_
                        refine cn_goto (tgt := 70) d_M_variable_66 (by decide) ?_
                        refine cn_istore (pc' := 72) (lv' := [(0, .ref 155), (1, .int (nI (k))), (2, .int (nI (8))), (3, .int (nI (ns.length))), (4, .int (nI (8)))]) [1, 2, 3, 4, 0] (Nat.le_of_ble_eq_true rfl) rfl d_M_variable_70 rfl ?_
                        refine cn_aload_n (pc' := 73) (k := 0) rfl rfl d_M_variable_72 rfl ?_
                        refine cn_getP (pc' := 76) (b := 160) (hm.2.1 6 160 rfl) fl_M_27 hm.1 rfl d_M_variable_73 rfl ?_
                        refine cn_bipush (pc' := 78) k_b_64 d_M_variable_76 rfl ?_
                        refine cn_iload_n (pc' := 79) (k := 3) rfl rfl d_M_variable_78 rfl ?_
                        refine cn_imul_n (pc' := 80) d_M_variable_79 rfl ?_
                        refine cn_iload_n (pc' := 81) (k := 2) rfl rfl d_M_variable_80 rfl ?_
                        refine cn_iast (pc' := 82) (hm.2.2 160 0 1024 rfl) (by omega) (by decide) d_M_variable_81 rfl ?_
                        refine cn_aload_n (pc' := 83) (k := 0) rfl rfl d_M_variable_82 rfl ?_
                        refine cn_bipush (pc' := 85) k_b_64 d_M_variable_83 rfl ?_
                        refine cn_iload_n (pc' := 86) (k := 3) rfl rfl d_M_variable_85 rfl ?_
                        refine cn_imul_n (pc' := 87) d_M_variable_86 rfl ?_
                        refine cn_iconst (pc' := 88) k_c_1 d_M_variable_87 rfl ?_
                        refine cn_iadd_n (pc' := 89) d_M_variable_88 rfl ?_
                        refine cn_iload_n (pc' := 90) (k := 2) rfl rfl d_M_variable_89 rfl ?_
                        refine cn_bipush (pc' := 92) k_b_12 d_M_variable_90 rfl ?_
                        refine cn_icmp_ne_n (tgt := 101) (pc' := 95) (by omega) (by omega) d_M_variable_92 (by decide) rfl (fun hc92 => ?_) (fun hc92 => ?_)
                        · refine cn_lconst (pc' := 102) (v := 0) (by decide +kernel) d_M_variable_101 rfl ?_
                          refine cn_iload (pc' := 104) (k := 4) rfl d_M_variable_102 rfl ?_
                          refine cn_callV (pc' := 107) (kc1 := 0) (ks1 := 0) (kc2 := 0) (ks2 := 0) (rest := []) (lvj := [(0, .ref 155), (1, .int (nI ((64 * ns.length) + 1))), (2, .long (0)), (4, .int (nI (8)))]) [.int (nI ((64 * ns.length) + 1)), .long (0), .int (nI (8))] mv_M_109 hm.1 rfl rfl rfl (Nat.le_of_ble_eq_true rfl) (Nat.le_of_ble_eq_true rfl) (by omega) (by omega) (by omega) d_M_variable_104 rfl ?_
                          refine c_M_startNumber (q0 := 64 * ns.length + 1) (n := 8) (x := 0) hm (by omega) (by omega) (fun I1 hb1 hf1 => ?_)
                          show cn_V l en mi_M_variable d 0 0 S I1 P Q 107 [(0, .ref 155), (1, .int (nI (k))), (2, .int (nI (8))), (3, .int (nI (ns.length))), (4, .int (nI (8)))] []
                          refine cn_aload_n (pc' := 108) (k := 0) rfl rfl d_M_variable_107 rfl ?_
                          refine cn_getP (pc' := 111) (b := 159) (hm.2.1 5 159 rfl) fl_M_24 hm.1 rfl d_M_variable_108 rfl ?_
                          refine cn_iload_n (pc' := 112) (k := 3) rfl rfl d_M_variable_111 rfl ?_
                          refine cn_iconst (pc' := 113) k_c_1 d_M_variable_112 rfl ?_
                          refine cn_iload (pc' := 115) (k := 4) rfl d_M_variable_113 rfl ?_
                          refine cn_iadd_n (pc' := 116) d_M_variable_115 rfl ?_
                          refine cn_iast (pc' := 117) (hm.2.2 159 0 16 rfl) (by omega) (by decide) d_M_variable_116 rfl ?_
                          refine cn_iload_n (pc' := 118) (k := 3) rfl rfl d_M_variable_117 rfl ?_
                          refine cn_iret rfl d_M_variable_118 ?_
                          rw [show sp_var ns (nI k) (nI 8) = sp_add ns (nI k) (nI 8) from if_pos hT, e (nI 8)] at K
                          have ev : (if nI 8 = -1 then [] else sv0 (nI 8)) = nI 8 :: lbs (0) 8 := by decide +kernel
                          rw [ev] at K
                          have hl2 : (nI 8 :: lbs (0) 8).length = 9 := by show (lbs (0) 8).length + 1 = 9; rw [lbs_len]
                          have hrow : ∀ a j, (a ≠ 155 ∨ j ≠ 1) → (a < 156 ∨ 159 < a ∨ j ≠ ns.length) → (a ≠ 160 ∨ j < 64 * ns.length ∨ 64 * ns.length + 9 ≤ j) → cn_wi I1 159 ns.length (nI (1 + 8)) a j = I a j := fun a j x1 x2 x3 => by rw [mw_o (by omega), hf1 a j (by omega), mw_o (by omega), mw_o (by omega), mw_o (by omega), mw_o (by omega), mw_o (by omega), mw_o (by omega)]
                          refine K _ ⟨hm, mN_push hN h16 hkl ?_ ⟨?_, ?_, fun _ => ?_, ?_, by rw [hl2]; decide, fun j hj => ?_⟩ (fun a j x1 x2 x3 => hrow a j (by omega) (by omega) (by omega)) (fun j x1 => hrow _ j (by omega) (by omega) (by omega)), hJ.congr (fun a j x1 => hrow a j (by omega) (by omega) (by omega)), hS.congr (fun a j x1 => hrow a j (by omega) (by omega) (by omega)), hp, hC.congr (fun a j x1 => hrow a j (by omega) (by omega) (by omega)), hA.congr (fun a j x1 => hrow a j (by omega) (by omega) (by omega))⟩ (fun a x1 => by funext j; exact hrow a j (by omega) (by omega) (by omega))
                          · rw [mw_o (by omega), hf1 _ _ (by omega), mw_o (by omega)]; exact mw_e
                          · rw [mw_o (by omega), hf1 _ _ (by omega), mw_o (by omega), mw_o (by omega), mw_o (by omega), mw_o (by omega), mw_o (by omega)]; exact mw_e
                          · rw [mw_o (by omega), hf1 _ _ (by omega), mw_o (by omega), mw_o (by omega), mw_o (by omega), mw_o (by omega)]; exact mw_e
                          · rw [mw_o (by omega), hf1 _ _ (by omega), mw_o (by omega), mw_o (by omega), mw_o (by omega)]; exact mw_e
                          · rw [mw_e]; show _ = nI (nI 8 :: lbs (0) 8).length; rw [hl2]
                          · have hj : j < (nI 8 :: lbs (0) 8).length := hj
                            rw [hl2] at hj
                            rw [mw_o (by omega)]
                            cases j with
                            | zero => rw [hf1 _ _ (by omega)]; exact mw_e
                            | succ j =>
                              rw [show 64 * ns.length + (j + 1) = 64 * ns.length + 1 + j by omega, hb1 j (by omega)]
                              exact (lbs_at (by omega)).symm
                        · exact False.elim (by omega)
                    · exact False.elim (by omega)
                  · exact False.elim (by omega)
            · exact False.elim (by omega)
    · refine cn_iload_n (pc' := 1) (k := 2) rfl rfl d_M_variable_0 rfl ?_
      refine cn_if_eq_n (tgt := 29) (pc' := 4) (by omega) d_M_variable_1 (by decide) rfl (fun hc1 => ?_) (fun hc1 => ?_)
      · exact False.elim (by omega)
      · refine cn_iload_n (pc' := 5) (k := 2) rfl rfl d_M_variable_4 rfl ?_
        refine cn_iconst (pc' := 6) k_c_1 d_M_variable_5 rfl ?_
        refine cn_icmp_eq_n (tgt := 29) (pc' := 9) (by omega) (by omega) d_M_variable_6 (by decide) rfl (fun hc6 => ?_) (fun hc6 => ?_)
        · exact False.elim (by omega)
        · refine cn_iload_n (pc' := 10) (k := 2) rfl rfl d_M_variable_9 rfl ?_
          refine cn_bipush (pc' := 12) k_b_6 d_M_variable_10 rfl ?_
          refine cn_icmp_eq_n (tgt := 29) (pc' := 15) (by omega) (by omega) d_M_variable_12 (by decide) rfl (fun hc12 => ?_) (fun hc12 => ?_)
          · exact False.elim (by omega)
          · refine cn_iload_n (pc' := 16) (k := 2) rfl rfl d_M_variable_15 rfl ?_
            refine cn_bipush (pc' := 18) k_b_8 d_M_variable_16 rfl ?_
            refine cn_icmp_eq_n (tgt := 29) (pc' := 21) (by omega) (by omega) d_M_variable_18 (by decide) rfl (fun hc18 => ?_) (fun hc18 => ?_)
            · exact False.elim (by omega)
            · refine cn_iload_n (pc' := 22) (k := 2) rfl rfl d_M_variable_21 rfl ?_
              refine cn_bipush (pc' := 24) k_b_12 d_M_variable_22 rfl ?_
              refine cn_icmp_eq_n (tgt := 29) (pc' := 27) (by omega) (by omega) d_M_variable_24 (by decide) rfl (fun hc24 => ?_) (fun hc24 => ?_)
              · refine cn_aload_n (pc' := 30) (k := 0) rfl rfl d_M_variable_29 rfl ?_
                refine cn_iload_n (pc' := 31) (k := 1) rfl rfl d_M_variable_30 rfl ?_
                refine cn_iconst (pc' := 32) k_c_1 d_M_variable_31 rfl ?_
                refine cn_iload_n (pc' := 33) (k := 2) rfl rfl d_M_variable_32 rfl ?_
                refine cn_callV (pc' := 36) (kc1 := 0) (ks1 := 0) (kc2 := 0) (ks2 := 0) (rest := []) (lvj := [(0, .ref 155), (1, .int (n)), (2, .int (nI (1))), (3, .int (nI (12)))]) [.int (n), .int (nI (1)), .int (nI (12))] mv_M_101 hm.1 rfl rfl rfl (Nat.le_of_ble_eq_true rfl) (Nat.le_of_ble_eq_true rfl) (by omega) (by omega) (by omega) d_M_variable_33 rfl ?_
                refine c_M_make (b := true) hm hN (by omega) (fun e => ?_) (fun k hnk hkl h16 e => ?_)
                · show cn_V l en mi_M_variable d 0 0 S I P Q 36 [(0, .ref 155), (1, .int (n)), (2, .int (nI (12)))] [.int (-1)]
                  refine cn_istore_n (pc' := 37) (lv' := [(0, .ref 155), (1, .int (n)), (2, .int (nI (12))), (3, .int (-1))]) rfl [1, 2, 3, 0] (Nat.le_of_ble_eq_true rfl) rfl d_M_variable_36 rfl ?_
                  refine cn_iload_n (pc' := 38) (k := 3) rfl rfl d_M_variable_37 rfl ?_
                  refine cn_if_lt (tgt := 117) (pc' := 41) d_M_variable_38 (by decide) rfl (fun hc38 => ?_) (fun hc38 => ?_)
                  · refine cn_iload_n (pc' := 118) (k := 3) rfl rfl d_M_variable_117 rfl ?_
                    refine cn_iret rfl d_M_variable_118 ?_
                    rw [show sp_var ns n (nI 12) = sp_add ns n (nI 12) from if_pos hT, e (nI 12)] at K
                    exact K I h9 frM.rf
                  · exact absurd hc38 (by decide)
                · subst hnk
                  show cn_V l en mi_M_variable d 0 0 S ((cn_wi (cn_wi (cn_wi (cn_wi (cn_wi I 156 ns.length (nI k)) 157 ns.length (nI true.toNat)) 158 ns.length (nI 12)) 159 ns.length (nI 0)) 155 1 (nI (ns.length + 1)))) P Q 36 [(0, .ref 155), (1, .int (nI (k))), (2, .int (nI (12)))] [.int (nI (ns.length))]
                  refine cn_istore_n (pc' := 37) (lv' := [(0, .ref 155), (1, .int (nI (k))), (2, .int (nI (12))), (3, .int (nI (ns.length)))]) rfl [1, 2, 3, 0] (Nat.le_of_ble_eq_true rfl) rfl d_M_variable_36 rfl ?_
                  refine cn_iload_n (pc' := 38) (k := 3) rfl rfl d_M_variable_37 rfl ?_
                  refine cn_if_lt_n (tgt := 117) (pc' := 41) (by omega) d_M_variable_38 (by decide) rfl (fun hc38 => ?_) (fun hc38 => ?_)
                  · exact False.elim (by omega)
                  · refine cn_iload_n (pc' := 42) (k := 2) rfl rfl d_M_variable_41 rfl ?_
                    refine cn_if_ne_n (tgt := 49) (pc' := 45) (by omega) d_M_variable_42 (by decide) rfl (fun hc42 => ?_) (fun hc42 => ?_)
                    · refine cn_iload_n (pc' := 50) (k := 2) rfl rfl d_M_variable_49 rfl ?_
                      refine cn_iconst (pc' := 51) k_c_1 d_M_variable_50 rfl ?_
                      refine cn_icmp_ne_n (tgt := 58) (pc' := 54) (by omega) (by omega) d_M_variable_51 (by decide) rfl (fun hc51 => ?_) (fun hc51 => ?_)
                      · refine cn_iload_n (pc' := 59) (k := 2) rfl rfl d_M_variable_58 rfl ?_
                        refine cn_bipush (pc' := 61) k_b_8 d_M_variable_59 rfl ?_
                        refine cn_icmp_ne_n (tgt := 69) (pc' := 64) (by omega) (by omega) d_M_variable_61 (by decide) rfl (fun hc61 => ?_) (fun hc61 => ?_)
                        · refine cn_iconst (pc' := 70) k_c_4 d_M_variable_69 rfl ?_
                          refine cn_istore (pc' := 72) (lv' := [(0, .ref 155), (1, .int (nI (k))), (2, .int (nI (12))), (3, .int (nI (ns.length))), (4, .int (nI (4)))]) [1, 2, 3, 4, 0] (Nat.le_of_ble_eq_true rfl) rfl d_M_variable_70 rfl ?_
                          refine cn_aload_n (pc' := 73) (k := 0) rfl rfl d_M_variable_72 rfl ?_
                          refine cn_getP (pc' := 76) (b := 160) (hm.2.1 6 160 rfl) fl_M_27 hm.1 rfl d_M_variable_73 rfl ?_
                          refine cn_bipush (pc' := 78) k_b_64 d_M_variable_76 rfl ?_
                          refine cn_iload_n (pc' := 79) (k := 3) rfl rfl d_M_variable_78 rfl ?_
                          refine cn_imul_n (pc' := 80) d_M_variable_79 rfl ?_
                          refine cn_iload_n (pc' := 81) (k := 2) rfl rfl d_M_variable_80 rfl ?_
                          refine cn_iast (pc' := 82) (hm.2.2 160 0 1024 rfl) (by omega) (by decide) d_M_variable_81 rfl ?_
                          refine cn_aload_n (pc' := 83) (k := 0) rfl rfl d_M_variable_82 rfl ?_
                          refine cn_bipush (pc' := 85) k_b_64 d_M_variable_83 rfl ?_
                          refine cn_iload_n (pc' := 86) (k := 3) rfl rfl d_M_variable_85 rfl ?_
                          refine cn_imul_n (pc' := 87) d_M_variable_86 rfl ?_
                          refine cn_iconst (pc' := 88) k_c_1 d_M_variable_87 rfl ?_
                          refine cn_iadd_n (pc' := 89) d_M_variable_88 rfl ?_
                          refine cn_iload_n (pc' := 90) (k := 2) rfl rfl d_M_variable_89 rfl ?_
                          refine cn_bipush (pc' := 92) k_b_12 d_M_variable_90 rfl ?_
                          refine cn_icmp_ne_n (tgt := 101) (pc' := 95) (by omega) (by omega) d_M_variable_92 (by decide) rfl (fun hc92 => ?_) (fun hc92 => ?_)
                          · exact False.elim (by omega)
                          · refine cn_ldc2 (pc' := 98) w_k_M_107 d_M_variable_95 rfl ?_
                            refine cn_goto (tgt := 102) d_M_variable_98 (by decide) ?_
                            refine cn_iload (pc' := 104) (k := 4) rfl d_M_variable_102 rfl ?_
                            refine cn_callV (pc' := 107) (kc1 := 0) (ks1 := 0) (kc2 := 0) (ks2 := 0) (rest := []) (lvj := [(0, .ref 155), (1, .int (nI ((64 * ns.length) + 1))), (2, .long (-1)), (4, .int (nI (4)))]) [.int (nI ((64 * ns.length) + 1)), .long (-1), .int (nI (4))] mv_M_109 hm.1 rfl rfl rfl (Nat.le_of_ble_eq_true rfl) (Nat.le_of_ble_eq_true rfl) (by omega) (by omega) (by omega) d_M_variable_104 rfl ?_
                            refine c_M_startNumber (q0 := 64 * ns.length + 1) (n := 4) (x := -1) hm (by omega) (by omega) (fun I1 hb1 hf1 => ?_)
                            show cn_V l en mi_M_variable d 0 0 S I1 P Q 107 [(0, .ref 155), (1, .int (nI (k))), (2, .int (nI (12))), (3, .int (nI (ns.length))), (4, .int (nI (4)))] []
                            refine cn_aload_n (pc' := 108) (k := 0) rfl rfl d_M_variable_107 rfl ?_
                            refine cn_getP (pc' := 111) (b := 159) (hm.2.1 5 159 rfl) fl_M_24 hm.1 rfl d_M_variable_108 rfl ?_
                            refine cn_iload_n (pc' := 112) (k := 3) rfl rfl d_M_variable_111 rfl ?_
                            refine cn_iconst (pc' := 113) k_c_1 d_M_variable_112 rfl ?_
                            refine cn_iload (pc' := 115) (k := 4) rfl d_M_variable_113 rfl ?_
                            refine cn_iadd_n (pc' := 116) d_M_variable_115 rfl ?_
                            refine cn_iast (pc' := 117) (hm.2.2 159 0 16 rfl) (by omega) (by decide) d_M_variable_116 rfl ?_
                            refine cn_iload_n (pc' := 118) (k := 3) rfl rfl d_M_variable_117 rfl ?_
                            refine cn_iret rfl d_M_variable_118 ?_
                            rw [show sp_var ns (nI k) (nI 12) = sp_add ns (nI k) (nI 12) from if_pos hT, e (nI 12)] at K
                            have ev : (if nI 12 = -1 then [] else sv0 (nI 12)) = nI 12 :: lbs (-1) 4 := by decide +kernel
                            rw [ev] at K
                            have hl2 : (nI 12 :: lbs (-1) 4).length = 5 := by show (lbs (-1) 4).length + 1 = 5; rw [lbs_len]
                            have hrow : ∀ a j, (a ≠ 155 ∨ j ≠ 1) → (a < 156 ∨ 159 < a ∨ j ≠ ns.length) → (a ≠ 160 ∨ j < 64 * ns.length ∨ 64 * ns.length + 5 ≤ j) → cn_wi I1 159 ns.length (nI (1 + 4)) a j = I a j := fun a j x1 x2 x3 => by rw [mw_o (by omega), hf1 a j (by omega), mw_o (by omega), mw_o (by omega), mw_o (by omega), mw_o (by omega), mw_o (by omega), mw_o (by omega)]
                            refine K _ ⟨hm, mN_push hN h16 hkl ?_ ⟨?_, ?_, fun _ => ?_, ?_, by rw [hl2]; decide, fun j hj => ?_⟩ (fun a j x1 x2 x3 => hrow a j (by omega) (by omega) (by omega)) (fun j x1 => hrow _ j (by omega) (by omega) (by omega)), hJ.congr (fun a j x1 => hrow a j (by omega) (by omega) (by omega)), hS.congr (fun a j x1 => hrow a j (by omega) (by omega) (by omega)), hp, hC.congr (fun a j x1 => hrow a j (by omega) (by omega) (by omega)), hA.congr (fun a j x1 => hrow a j (by omega) (by omega) (by omega))⟩ (fun a x1 => by funext j; exact hrow a j (by omega) (by omega) (by omega))
                            · rw [mw_o (by omega), hf1 _ _ (by omega), mw_o (by omega)]; exact mw_e
                            · rw [mw_o (by omega), hf1 _ _ (by omega), mw_o (by omega), mw_o (by omega), mw_o (by omega), mw_o (by omega), mw_o (by omega)]; exact mw_e
                            · rw [mw_o (by omega), hf1 _ _ (by omega), mw_o (by omega), mw_o (by omega), mw_o (by omega), mw_o (by omega)]; exact mw_e
                            · rw [mw_o (by omega), hf1 _ _ (by omega), mw_o (by omega), mw_o (by omega), mw_o (by omega)]; exact mw_e
                            · rw [mw_e]; show _ = nI (nI 12 :: lbs (-1) 4).length; rw [hl2]
                            · have hj : j < (nI 12 :: lbs (-1) 4).length := hj
                              rw [hl2] at hj
                              rw [mw_o (by omega)]
                              cases j with
                              | zero => rw [hf1 _ _ (by omega)]; exact mw_e
                              | succ j =>
                                rw [show 64 * ns.length + (j + 1) = 64 * ns.length + 1 + j by omega, hb1 j (by omega)]
                                exact (lbs_at (by omega)).symm
                        · exact False.elim (by omega)
                      · exact False.elim (by omega)
                    · exact False.elim (by omega)
              · exact False.elim (by omega)
  · refine cn_iload_n (pc' := 1) (k := 2) rfl rfl d_M_variable_0 rfl ?_
    refine cn_if_eq (tgt := 29) (pc' := 4) d_M_variable_1 (by decide) rfl (fun hc1 => ?_) (fun hc1 => ?_)
    · exact absurd (by rw [show t = nI 0 from hc1]; decide) hT
    · refine cn_iload_n (pc' := 5) (k := 2) rfl rfl d_M_variable_4 rfl ?_
      refine cn_iconst (pc' := 6) k_c_1 d_M_variable_5 rfl ?_
      refine cn_icmp_eq (tgt := 29) (pc' := 9) d_M_variable_6 (by decide) rfl (fun hc6 => ?_) (fun hc6 => ?_)
      · exact absurd (by rw [show t = nI 1 from hc6]; decide) hT
      · refine cn_iload_n (pc' := 10) (k := 2) rfl rfl d_M_variable_9 rfl ?_
        refine cn_bipush (pc' := 12) k_b_6 d_M_variable_10 rfl ?_
        refine cn_icmp_eq (tgt := 29) (pc' := 15) d_M_variable_12 (by decide) rfl (fun hc12 => ?_) (fun hc12 => ?_)
        · exact absurd (by rw [show t = nI 6 from hc12]; decide) hT
        · refine cn_iload_n (pc' := 16) (k := 2) rfl rfl d_M_variable_15 rfl ?_
          refine cn_bipush (pc' := 18) k_b_8 d_M_variable_16 rfl ?_
          refine cn_icmp_eq (tgt := 29) (pc' := 21) d_M_variable_18 (by decide) rfl (fun hc18 => ?_) (fun hc18 => ?_)
          · exact absurd (by rw [show t = nI 8 from hc18]; decide) hT
          · refine cn_iload_n (pc' := 22) (k := 2) rfl rfl d_M_variable_21 rfl ?_
            refine cn_bipush (pc' := 24) k_b_12 d_M_variable_22 rfl ?_
            refine cn_icmp_eq (tgt := 29) (pc' := 27) d_M_variable_24 (by decide) rfl (fun hc24 => ?_) (fun hc24 => ?_)
            · exact absurd (by rw [show t = nI 12 from hc24]; decide) hT
            · refine cn_iconst (pc' := 28) k_c_m1 d_M_variable_27 rfl ?_
              refine cn_iret rfl d_M_variable_28 ?_
              rw [show sp_var ns n t = (-1, ns) from if_neg hT] at K
              exact K I h9 frM.rf
theorem C_M_isOpen (h : RM S I P T (ns, xs, (ps, pn), ch, (rq, ru))) (K : Q (some (.int (nI ch.1.toNat))) S I P) : cn_V l en mi_M_isOpen d 0 0 S I P Q 0 [(0, .ref 155)] [] := by
  have h9 := h
  obtain ⟨hm, hN, hJ, hS, hp, hC, hA⟩ := h
  have hN : mN I ns := hN
  have hJ : mI I xs := hJ
  have hS : mS I ps pn := hS
  have hp : pOK ps pn T := hp
  have hC : mC I ch := hC
  have hA : mA I (rq, ru) := hA
  have hl16 := hN.2.1
  have hl6 := hJ.2.1
  have hl3 := hS.2.1
  have hb1 := tn_le (!ch.1)
  refine cn_aload_n (pc' := 1) (k := 0) rfl rfl d_M_isOpen_0 rfl ?_
  refine cn_getIv (pc' := 4) (v := nI ((!ch.1).toNat)) hC.1 fl_M_72 hm.1 rfl d_M_isOpen_1 rfl ?_
  refine cn_if_ne_n (tgt := 11) (pc' := 7) (by omega) d_M_isOpen_4 (by decide) rfl (fun hc4 => ?_) (fun hc4 => ?_)
  · refine cn_iconst (pc' := 12) k_c_0 d_M_isOpen_11 rfl ?_
    refine cn_zret rfl (Or.inl rfl) d_M_isOpen_12 ?_
    have e : ch.1 = false := by have := tn_1 hc4; simpa using this
    rw [e] at K; exact K
  · refine cn_iconst (pc' := 8) k_c_1 d_M_isOpen_7 rfl ?_
    refine cn_goto (tgt := 12) d_M_isOpen_8 (by decide) ?_
    refine cn_zret rfl (Or.inr rfl) d_M_isOpen_12 ?_
    have e : ch.1 = true := by have := tn_0 hc4; simpa using this
    rw [e] at K; exact K
theorem C_M_part (h : RM S I P T (ns, xs, (ps, pn), ch, (rq, ru))) (K : Q (some (.int (sp_part ch))) S I P) : cn_V l en mi_M_part d 0 0 S I P Q 0 [(0, .ref 155)] [] := by
  have h9 := h
  obtain ⟨hm, hN, hJ, hS, hp, hC, hA⟩ := h
  have hN : mN I ns := hN
  have hJ : mI I xs := hJ
  have hS : mS I ps pn := hS
  have hp : pOK ps pn T := hp
  have hC : mC I ch := hC
  have hA : mA I (rq, ru) := hA
  have hl16 := hN.2.1
  have hl6 := hJ.2.1
  have hl3 := hS.2.1
  have hb2 := tn_le ch.2.2.2.1.isSome
  refine cn_aload_n (pc' := 1) (k := 0) rfl rfl d_M_part_0 rfl ?_
  refine cn_getIv (pc' := 4) (v := nI (ch.2.2.2.1.isSome.toNat)) hC.2.2.2.1 fl_M_79 hm.1 rfl d_M_part_1 rfl ?_
  refine cn_if_eq_n (tgt := 14) (pc' := 7) (by omega) d_M_part_4 (by decide) rfl (fun hc4 => ?_) (fun hc4 => ?_)
  · refine cn_iconst (pc' := 15) k_c_m1 d_M_part_14 rfl ?_
    refine cn_iret rfl d_M_part_15 ?_
    have e : sp_part ch = -1 := by unfold sp_part; cases hq : ch.2.2.2.1 with | none => rfl | some x => rw [hq] at hc4; cases hc4
    rw [e] at K; exact K
  · obtain ⟨q, hq⟩ := Option.isSome_iff_exists.mp (tn_1 hc4)
    have hq4 := (hC.2.2.2.2 q hq).2.2.2.1
    refine cn_aload_n (pc' := 8) (k := 0) rfl rfl d_M_part_7 rfl ?_
    refine cn_getIv (pc' := 11) (v := nI (ch.2.2.2.2.length)) hq4 fl_M_140 hm.1 rfl d_M_part_8 rfl ?_
    refine cn_goto (tgt := 15) d_M_part_11 (by decide) ?_
    refine cn_iret rfl d_M_part_15 ?_
    have e : sp_part ch = nI ch.2.2.2.2.length := by unfold sp_part; rw [hq]
    rw [e] at K; exact K
theorem C_M_answerLength (h : RM S I P T (ns, xs, (ps, pn), ch, (rq, ru))) (K : Q (some (.int (nI ru.length))) S I P) : cn_V l en mi_M_answerLength d 0 0 S I P Q 0 [(0, .ref 155)] [] := by
  have h9 := h
  obtain ⟨hm, hN, hJ, hS, hp, hC, hA⟩ := h
  have hN : mN I ns := hN
  have hJ : mI I xs := hJ
  have hS : mS I ps pn := hS
  have hp : pOK ps pn T := hp
  have hC : mC I ch := hC
  have hA : mA I (rq, ru) := hA
  have hl16 := hN.2.1
  have hl6 := hJ.2.1
  have hl3 := hS.2.1
  rcases hA with ⟨a1, a2, a3⟩ | ⟨a1, rfl, rfl⟩
  · have a3 : mo I ru := a3
    have hl200 := a3.2.1
    refine cn_aload_n (pc' := 1) (k := 0) rfl rfl d_M_answerLength_0 rfl ?_
    refine cn_getIv (pc' := 4) (v := nI (1)) a1 fl_M_91 hm.1 rfl d_M_answerLength_1 rfl ?_
    refine cn_if_eq_n (tgt := 14) (pc' := 7) (by omega) d_M_answerLength_4 (by decide) rfl (fun hc4 => ?_) (fun hc4 => ?_)
    · exact False.elim (by omega)
    · refine cn_aload_n (pc' := 8) (k := 0) rfl rfl d_M_answerLength_7 rfl ?_
      refine cn_getIv (pc' := 11) (v := nI (ru.length)) a3.1 fl_M_94 hm.1 rfl d_M_answerLength_8 rfl ?_
      refine cn_goto (tgt := 15) d_M_answerLength_11 (by decide) ?_
      refine cn_iret rfl d_M_answerLength_15 ?_
      exact K
  · refine cn_aload_n (pc' := 1) (k := 0) rfl rfl d_M_answerLength_0 rfl ?_
    refine cn_getIv (pc' := 4) (v := nI (0)) a1 fl_M_91 hm.1 rfl d_M_answerLength_1 rfl ?_
    refine cn_if_eq_n (tgt := 14) (pc' := 7) (by omega) d_M_answerLength_4 (by decide) rfl (fun hc4 => ?_) (fun hc4 => ?_)
    · refine cn_iconst (pc' := 15) k_c_0 d_M_answerLength_14 rfl ?_
      refine cn_iret rfl d_M_answerLength_15 ?_
      exact K
    · exact False.elim (by omega)
theorem C_M_request (h : RM S I P T (ns, xs, (ps, pn), ch, (rq, ru))) (K : Q (some (.int (rq))) S I P) : cn_V l en mi_M_request d 0 0 S I P Q 0 [(0, .ref 155)] [] := by
  have h9 := h
  obtain ⟨hm, hN, hJ, hS, hp, hC, hA⟩ := h
  have hN : mN I ns := hN
  have hJ : mI I xs := hJ
  have hS : mS I ps pn := hS
  have hp : pOK ps pn T := hp
  have hC : mC I ch := hC
  have hA : mA I (rq, ru) := hA
  have hl16 := hN.2.1
  have hl6 := hJ.2.1
  have hl3 := hS.2.1
  rcases hA with ⟨a1, a2, a3⟩ | ⟨a1, rfl, rfl⟩
  · have a3 : mo I ru := a3
    have hl200 := a3.2.1
    refine cn_aload_n (pc' := 1) (k := 0) rfl rfl d_M_request_0 rfl ?_
    refine cn_getIv (pc' := 4) (v := nI (1)) a1 fl_M_91 hm.1 rfl d_M_request_1 rfl ?_
    refine cn_if_eq_n (tgt := 14) (pc' := 7) (by omega) d_M_request_4 (by decide) rfl (fun hc4 => ?_) (fun hc4 => ?_)
    · exact False.elim (by omega)
    · refine cn_aload_n (pc' := 8) (k := 0) rfl rfl d_M_request_7 rfl ?_
      refine cn_getIv (pc' := 11) (v := rq) a2 fl_M_152 hm.1 rfl d_M_request_8 rfl ?_
      refine cn_goto (tgt := 15) d_M_request_11 (by decide) ?_
      refine cn_iret rfl d_M_request_15 ?_
      exact K
  · refine cn_aload_n (pc' := 1) (k := 0) rfl rfl d_M_request_0 rfl ?_
    refine cn_getIv (pc' := 4) (v := nI (0)) a1 fl_M_91 hm.1 rfl d_M_request_1 rfl ?_
    refine cn_if_eq_n (tgt := 14) (pc' := 7) (by omega) d_M_request_4 (by decide) rfl (fun hc4 => ?_) (fun hc4 => ?_)
    · refine cn_iconst (pc' := 15) k_c_m1 d_M_request_14 rfl ?_
      refine cn_iret rfl d_M_request_15 ?_
      exact K
    · exact False.elim (by omega)
theorem C_M_answer {i : Int32} (h : RM S I P T (ns, xs, (ps, pn), ch, (rq, ru))) (K : Q (some (.int (sp_ans ru i))) S I P) : cn_V l en mi_M_answer d 0 0 S I P Q 0 [(0, .ref 155), (1, .int i)] [] := by
  have h9 := h
  obtain ⟨hm, hN, hJ, hS, hp, hC, hA⟩ := h
  have hN : mN I ns := hN
  have hJ : mI I xs := hJ
  have hS : mS I ps pn := hS
  have hp : pOK ps pn T := hp
  have hC : mC I ch := hC
  have hA : mA I (rq, ru) := hA
  have hl16 := hN.2.1
  have hl6 := hJ.2.1
  have hl3 := hS.2.1
  rcases hA with ⟨a1, a2, a3⟩ | ⟨a1, rfl, rfl⟩
  · have a3 : mo I ru := a3
    have hl200 := a3.2.1
    refine cn_aload_n (pc' := 1) (k := 0) rfl rfl d_M_answer_0 rfl ?_
    refine cn_getIv (pc' := 4) (v := nI (1)) a1 fl_M_91 hm.1 rfl d_M_answer_1 rfl ?_
    refine cn_if_eq_n (tgt := 28) (pc' := 7) (by omega) d_M_answer_4 (by decide) rfl (fun hc4 => ?_) (fun hc4 => ?_)
    · exact False.elim (by omega)
    · refine cn_iload_n (pc' := 8) (k := 1) rfl rfl d_M_answer_7 rfl ?_
      refine cn_if_lt (tgt := 28) (pc' := 11) d_M_answer_8 (by decide) rfl (fun hc8 => ?_) (fun hc8 => ?_)
      · refine cn_iconst (pc' := 29) k_c_m1 d_M_answer_28 rfl ?_
        refine cn_iret rfl d_M_answer_29 ?_
        have e : sp_ans ru i = -1 := if_pos hc8
        rw [e] at K; exact K
      · obtain ⟨j, hj, rfl⟩ := nI_of hc8
        refine cn_iload_n (pc' := 12) (k := 1) rfl rfl d_M_answer_11 rfl ?_
        refine cn_aload_n (pc' := 13) (k := 0) rfl rfl d_M_answer_12 rfl ?_
        refine cn_getIv (pc' := 16) (v := nI (ru.length)) a3.1 fl_M_94 hm.1 rfl d_M_answer_13 rfl ?_
        refine cn_icmp_ge_n (tgt := 28) (pc' := 19) (by omega) (by omega) d_M_answer_16 (by decide) rfl (fun hc16 => ?_) (fun hc16 => ?_)
        · refine cn_iconst (pc' := 29) k_c_m1 d_M_answer_28 rfl ?_
          refine cn_iret rfl d_M_answer_29 ?_
          have e : sp_ans ru (nI j) = -1 := by unfold sp_ans; rw [if_neg (nI_pos hj), nI_clamp hj, if_neg (by omega)]
          rw [e] at K; exact K
        · refine cn_aload_n (pc' := 20) (k := 0) rfl rfl d_M_answer_19 rfl ?_
          refine cn_getP (pc' := 23) (b := 174) (hm.2.1 36 174 rfl) fl_M_69 hm.1 rfl d_M_answer_20 rfl ?_
          refine cn_iload_n (pc' := 24) (k := 1) rfl rfl d_M_answer_23 rfl ?_
          refine cn_ialdv (pc' := 25) (v := ru.getD j 0) (a3.2.2 j (by omega)) (hm.2.2 174 0 200 rfl) (by omega) (by decide) d_M_answer_24 rfl ?_
          refine cn_goto (tgt := 29) d_M_answer_25 (by decide) ?_
          refine cn_iret rfl d_M_answer_29 ?_
          have e : sp_ans ru (nI j) = ru.getD j 0 := by unfold sp_ans; rw [if_neg (nI_pos hj), nI_clamp hj, if_pos (by omega)]
          rw [e] at K; exact K
  · refine cn_aload_n (pc' := 1) (k := 0) rfl rfl d_M_answer_0 rfl ?_
    refine cn_getIv (pc' := 4) (v := nI (0)) a1 fl_M_91 hm.1 rfl d_M_answer_1 rfl ?_
    refine cn_if_eq_n (tgt := 28) (pc' := 7) (by omega) d_M_answer_4 (by decide) rfl (fun hc4 => ?_) (fun hc4 => ?_)
    · refine cn_iconst (pc' := 29) k_c_m1 d_M_answer_28 rfl ?_
      refine cn_iret rfl d_M_answer_29 ?_
      have e : sp_ans [] i = -1 := by unfold sp_ans; split; rfl; exact if_neg (Nat.not_lt_zero _)
      rw [e] at K; exact K
    · exact False.elim (by omega)
theorem C_M_queue {i : Int32} (h : RM S I P T (ns, xs, (ps, pn), ch, (rq, ru))) (K : Q (some (.int (sp_queue xs i))) S I P) : cn_V l en mi_M_queue d 0 0 S I P Q 0 [(0, .ref 155), (1, .int i)] [] := by
  have h9 := h
  obtain ⟨hm, hN, hJ, hS, hp, hC, hA⟩ := h
  have hN : mN I ns := hN
  have hJ : mI I xs := hJ
  have hS : mS I ps pn := hS
  have hp : pOK ps pn T := hp
  have hC : mC I ch := hC
  have hA : mA I (rq, ru) := hA
  have hl16 := hN.2.1
  have hl6 := hJ.2.1
  have hl3 := hS.2.1
  refine cn_iload_n (pc' := 1) (k := 1) rfl rfl d_M_queue_0 rfl ?_
  refine cn_if_lt (tgt := 21) (pc' := 4) d_M_queue_1 (by decide) rfl (fun hc1 => ?_) (fun hc1 => ?_)
  · refine cn_iconst (pc' := 22) k_c_m1 d_M_queue_21 rfl ?_
    refine cn_iret rfl d_M_queue_22 ?_
    have e : sp_queue xs i = -1 := if_pos hc1
    rw [e] at K; exact K
  · obtain ⟨j, hj, rfl⟩ := nI_of hc1
    refine cn_iload_n (pc' := 5) (k := 1) rfl rfl d_M_queue_4 rfl ?_
    refine cn_aload_n (pc' := 6) (k := 0) rfl rfl d_M_queue_5 rfl ?_
    refine cn_getIv (pc' := 9) (v := nI (xs.length)) hJ.1 fl_M_82 hm.1 rfl d_M_queue_6 rfl ?_
    refine cn_icmp_ge_n (tgt := 21) (pc' := 12) (by omega) (by omega) d_M_queue_9 (by decide) rfl (fun hc9 => ?_) (fun hc9 => ?_)
    · refine cn_iconst (pc' := 22) k_c_m1 d_M_queue_21 rfl ?_
      refine cn_iret rfl d_M_queue_22 ?_
      have e : sp_queue xs (nI j) = -1 := by unfold sp_queue; rw [if_neg (nI_pos hj), nI_clamp hj, if_neg (by omega)]
      rw [e] at K; exact K
    · refine cn_aload_n (pc' := 13) (k := 0) rfl rfl d_M_queue_12 rfl ?_
      refine cn_getP (pc' := 16) (b := 164) (hm.2.1 11 164 rfl) fl_M_39 hm.1 rfl d_M_queue_13 rfl ?_
      refine cn_iload_n (pc' := 17) (k := 1) rfl rfl d_M_queue_16 rfl ?_
      refine cn_ialdv (pc' := 18) (v := nI ((xs.getD j it0).2.2.2.length)) (hJ.2.2 j (by omega)).2.2.2.2.2.2.2.1 (hm.2.2 164 0 6 rfl) (by omega) (by decide) d_M_queue_17 rfl ?_
      refine cn_goto (tgt := 22) d_M_queue_18 (by decide) ?_
      refine cn_iret rfl d_M_queue_22 ?_
      have e : sp_queue xs (nI j) = nI (xs.getD j it0).2.2.2.length := by unfold sp_queue; rw [if_neg (nI_pos hj), nI_clamp hj, if_pos (by omega)]
      rw [e] at K; exact K
theorem C_M_parcel {i : Int32} (h : RM S I P T (ns, xs, (ps, pn), ch, (rq, ru))) (K : Q (some (.int (sp_parcel ps i))) S I P) : cn_V l en mi_M_parcel d 0 0 S I P Q 0 [(0, .ref 155), (1, .int i)] [] := by
  have h9 := h
  obtain ⟨hm, hN, hJ, hS, hp, hC, hA⟩ := h
  have hN : mN I ns := hN
  have hJ : mI I xs := hJ
  have hS : mS I ps pn := hS
  have hp : pOK ps pn T := hp
  have hC : mC I ch := hC
  have hA : mA I (rq, ru) := hA
  have hl16 := hN.2.1
  have hl6 := hJ.2.1
  have hl3 := hS.2.1
  refine cn_iload_n (pc' := 1) (k := 1) rfl rfl d_M_parcel_0 rfl ?_
  refine cn_if_lt (tgt := 21) (pc' := 4) d_M_parcel_1 (by decide) rfl (fun hc1 => ?_) (fun hc1 => ?_)
  · refine cn_iconst (pc' := 22) k_c_m1 d_M_parcel_21 rfl ?_
    refine cn_iret rfl d_M_parcel_22 ?_
    have e : sp_parcel ps i = -1 := if_pos hc1
    rw [e] at K; exact K
  · obtain ⟨j, hj, rfl⟩ := nI_of hc1
    refine cn_iload_n (pc' := 5) (k := 1) rfl rfl d_M_parcel_4 rfl ?_
    refine cn_aload_n (pc' := 6) (k := 0) rfl rfl d_M_parcel_5 rfl ?_
    refine cn_getIv (pc' := 9) (v := nI (ps.length)) hS.1 fl_M_85 hm.1 rfl d_M_parcel_6 rfl ?_
    refine cn_icmp_ge_n (tgt := 21) (pc' := 12) (by omega) (by omega) d_M_parcel_9 (by decide) rfl (fun hc9 => ?_) (fun hc9 => ?_)
    · refine cn_iconst (pc' := 22) k_c_m1 d_M_parcel_21 rfl ?_
      refine cn_iret rfl d_M_parcel_22 ?_
      have e : sp_parcel ps (nI j) = -1 := by unfold sp_parcel; rw [if_neg (nI_pos hj), nI_clamp hj, if_neg (by omega)]
      rw [e] at K; exact K
    · refine cn_aload_n (pc' := 13) (k := 0) rfl rfl d_M_parcel_12 rfl ?_
      refine cn_getP (pc' := 16) (b := 168) (hm.2.1 17 168 rfl) fl_M_51 hm.1 rfl d_M_parcel_13 rfl ?_
      refine cn_iload_n (pc' := 17) (k := 1) rfl rfl d_M_parcel_16 rfl ?_
      refine cn_ialdv (pc' := 18) (v := (ps.getD j pad).1) (hS.2.2.2 j (by omega)).1 (hm.2.2 168 0 3 rfl) (by omega) (by decide) d_M_parcel_17 rfl ?_
      refine cn_goto (tgt := 22) d_M_parcel_18 (by decide) ?_
      refine cn_iret rfl d_M_parcel_22 ?_
      have e : sp_parcel ps (nI j) = (ps.getD j pad).1 := by unfold sp_parcel; rw [if_neg (nI_pos hj), nI_clamp hj, if_pos (by omega)]
      rw [e] at K; exact K
theorem C_M_parcels (h : RM S I P T (ns, xs, (ps, pn), ch, (rq, ru))) (K : Q (some (.int (nI ps.length))) S I P) : cn_V l en mi_M_parcels d 0 0 S I P Q 0 [(0, .ref 155)] [] := by
  have h9 := h
  obtain ⟨hm, hN, hJ, hS, hp, hC, hA⟩ := h
  have hN : mN I ns := hN
  have hJ : mI I xs := hJ
  have hS : mS I ps pn := hS
  have hp : pOK ps pn T := hp
  have hC : mC I ch := hC
  have hA : mA I (rq, ru) := hA
  have hl16 := hN.2.1
  have hl6 := hJ.2.1
  have hl3 := hS.2.1
  refine cn_aload_n (pc' := 1) (k := 0) rfl rfl d_M_parcels_0 rfl ?_
  refine cn_getIv (pc' := 4) (v := nI (ps.length)) hS.1 fl_M_85 hm.1 rfl d_M_parcels_1 rfl ?_
  refine cn_iret rfl d_M_parcels_4 ?_
  exact K
theorem C_M_size {n : Int32} (h : RM S I P T (ns, xs, (ps, pn), ch, (rq, ru))) (hd1 : 2 ≤ d) (K : Q (some (.int (sp_size ns n))) S I P) : cn_V l en mi_M_size d 0 0 S I P Q 0 [(0, .ref 155), (1, .int n)] [] := by
  have h9 := h
  obtain ⟨hm, hN, hJ, hS, hp, hC, hA⟩ := h
  have hN : mN I ns := hN
  have hJ : mI I xs := hJ
  have hS : mS I ps pn := hS
  have hp : pOK ps pn T := hp
  have hC : mC I ch := hC
  have hA : mA I (rq, ru) := hA
  have hl16 := hN.2.1
  have hl6 := hJ.2.1
  have hl3 := hS.2.1
  refine cn_aload_n (pc' := 1) (k := 0) rfl rfl d_M_size_0 rfl ?_
  refine cn_iload_n (pc' := 2) (k := 1) rfl rfl d_M_size_1 rfl ?_
  refine cn_callV (pc' := 5) (kc1 := 0) (ks1 := 0) (kc2 := 0) (ks2 := 0) (rest := []) (lvj := [(0, .ref 155), (1, .int (n))]) [.int (n)] mv_M_131 hm.1 rfl rfl rfl (Nat.le_of_ble_eq_true rfl) (Nat.le_of_ble_eq_true rfl) (by omega) (by omega) (by omega) d_M_size_2 rfl ?_
  refine c_M_isVariable (ns := ns) hm hN (by omega) (fun k hnk hkl hv => ?_) (fun hnv => ?_)
  · subst hnk
    show cn_V l en mi_M_size d 0 0 S I P Q 5 [(0, .ref 155), (1, .int (nI (k)))] [.int (nI (1))]
    refine cn_if_eq_n (tgt := 17) (pc' := 8) (by omega) d_M_size_5 (by decide) rfl (fun hc5 => ?_) (fun hc5 => ?_)
    · exact False.elim (by omega)
    · refine cn_aload_n (pc' := 9) (k := 0) rfl rfl d_M_size_8 rfl ?_
      refine cn_getP (pc' := 12) (b := 159) (hm.2.1 5 159 rfl) fl_M_24 hm.1 rfl d_M_size_9 rfl ?_
      refine cn_iload_n (pc' := 13) (k := 1) rfl rfl d_M_size_12 rfl ?_
      refine cn_ialdv (pc' := 14) (v := nI ((ns.getD k nd0).2.2.length)) (hN.2.2.1 k (by omega)).2.2.2.1 (hm.2.2 159 0 16 rfl) (by omega) (by decide) d_M_size_13 rfl ?_
      refine cn_goto (tgt := 18) d_M_size_14 (by decide) ?_
      refine cn_iret rfl d_M_size_18 ?_
      have e : sp_size ns (nI k) = nI (ns.getD k nd0).2.2.length := by unfold sp_size; rw [vdx_some hkl (by omega) hv]
      rw [e] at K; exact K
  · show cn_V l en mi_M_size d 0 0 S I P Q 5 [(0, .ref 155), (1, .int (n))] [.int (nI (0))]
    refine cn_if_eq_n (tgt := 17) (pc' := 8) (by omega) d_M_size_5 (by decide) rfl (fun hc5 => ?_) (fun hc5 => ?_)
    · refine cn_iconst (pc' := 18) k_c_m1 d_M_size_17 rfl ?_
      refine cn_iret rfl d_M_size_18 ?_
      have e : sp_size ns n = -1 := by unfold sp_size; rw [hnv]
      rw [e] at K; exact K
    · exact False.elim (by omega)
theorem C_M_open (h : RM S I P T (ns, xs, (ps, pn), ch, (rq, ru))) (K : ∀ (I' : cn_I), RM S I' P T (sp_open (ns, xs, (ps, pn), ch, (rq, ru))) → frM I I' → Q none S I' P) : cn_V l en mi_M_open d 0 0 S I P Q 0 [(0, .ref 155)] [] := by
  have h9 := h
  obtain ⟨hm, hN, hJ, hS, hp, hC, hA⟩ := h
  have hN : mN I ns := hN
  have hJ : mI I xs := hJ
  have hS : mS I ps pn := hS
  have hp : pOK ps pn T := hp
  have hC : mC I ch := hC
  have hA : mA I (rq, ru) := hA
  have hl16 := hN.2.1
  have hl6 := hJ.2.1
  have hl3 := hS.2.1
  refine cn_aload_n (pc' := 1) (k := 0) rfl rfl d_M_open_0 rfl ?_
  refine cn_iconst (pc' := 2) k_c_0 d_M_open_1 rfl ?_
  refine cn_putI (pc' := 5) fl_M_72 hm.1 rfl rfl rfl rfl d_M_open_2 rfl ?_
  refine cn_aload_n (pc' := 6) (k := 0) rfl rfl d_M_open_5 rfl ?_
  refine cn_iconst (pc' := 7) k_c_0 d_M_open_6 rfl ?_
  refine cn_putI (pc' := 10) fl_M_76 hm.1 rfl rfl rfl rfl d_M_open_7 rfl ?_
  refine cn_aload_n (pc' := 11) (k := 0) rfl rfl d_M_open_10 rfl ?_
  refine cn_iconst (pc' := 12) k_c_0 d_M_open_11 rfl ?_
  refine cn_putI (pc' := 15) fl_M_79 hm.1 rfl rfl rfl rfl d_M_open_12 rfl ?_
  refine cn_aload_n (pc' := 16) (k := 0) rfl rfl d_M_open_15 rfl ?_
  refine cn_iconst (pc' := 17) k_c_0 d_M_open_16 rfl ?_
  refine cn_putI (pc' := 20) fl_M_82 hm.1 rfl rfl rfl rfl d_M_open_17 rfl ?_
  refine cn_aload_n (pc' := 21) (k := 0) rfl rfl d_M_open_20 rfl ?_
  refine cn_iconst (pc' := 22) k_c_0 d_M_open_21 rfl ?_
  refine cn_putI (pc' := 25) fl_M_85 hm.1 rfl rfl rfl rfl d_M_open_22 rfl ?_
  refine cn_aload_n (pc' := 26) (k := 0) rfl rfl d_M_open_25 rfl ?_
  refine cn_iconst (pc' := 27) k_c_0 d_M_open_26 rfl ?_
  refine cn_putI (pc' := 30) fl_M_88 hm.1 rfl rfl rfl rfl d_M_open_27 rfl ?_
  refine cn_aload_n (pc' := 31) (k := 0) rfl rfl d_M_open_30 rfl ?_
  refine cn_iconst (pc' := 32) k_c_0 d_M_open_31 rfl ?_
  refine cn_putI (pc' := 35) fl_M_91 hm.1 rfl rfl rfl rfl d_M_open_32 rfl ?_
  refine cn_aload_n (pc' := 36) (k := 0) rfl rfl d_M_open_35 rfl ?_
  refine cn_iconst (pc' := 37) k_c_0 d_M_open_36 rfl ?_
  refine cn_putI (pc' := 40) fl_M_94 hm.1 rfl rfl rfl rfl d_M_open_37 rfl ?_
  refine cn_vret rfl d_M_open_40 ?_
  have hrow : ∀ a j, (a ≠ 155 ∨ (j ≠ 0 ∧ j ≠ 20 ∧ j ≠ 22 ∧ j ≠ 7 ∧ j ≠ 15 ∧ j ≠ 16 ∧ j ≠ 33 ∧ j ≠ 35)) → (cn_wi (cn_wi (cn_wi (cn_wi (cn_wi (cn_wi (cn_wi (cn_wi I 155 0 (nI (0))) 155 20 (nI (0))) 155 22 (nI (0))) 155 7 (nI (0))) 155 15 (nI (0))) 155 16 (nI (0))) 155 33 (nI (0))) 155 35 (nI (0))) a j = I a j := fun a j x1 => by rw [mw_o (by omega), mw_o (by omega), mw_o (by omega), mw_o (by omega), mw_o (by omega), mw_o (by omega), mw_o (by omega), mw_o (by omega)]
  have K : ∀ (I' : cn_I), RM S I' P T (ns, [], ([], nI 0), (true, false, ch.2.2.1, none, ch.2.2.2.2), (-1, [])) → frM I I' → Q none S I' P := K
  exact K _ ⟨hm, hN.congr (fun a j x => hrow a j (by omega)), ⟨(mw_k (by decide) (mw_k (by decide) (mw_k (by decide) (mw_k (by decide) mw_e)))), Nat.zero_le _, fun i hi => absurd hi (Nat.not_lt_zero i)⟩, ⟨(mw_k (by decide) (mw_k (by decide) (mw_k (by decide) mw_e))), Nat.zero_le _, (mw_k (by decide) (mw_k (by decide) mw_e)), fun i hi => absurd hi (Nat.not_lt_zero i)⟩, ⟨0, Nat.zero_le _, rfl, fun i j _ hj => absurd hj (Nat.not_lt_zero j), fun i hi => absurd hi (Nat.not_lt_zero i)⟩, ⟨(mw_k (by decide) (mw_k (by decide) (mw_k (by decide) (mw_k (by decide) (mw_k (by decide) (mw_k (by decide) (mw_k (by decide) mw_e))))))), (mw_k (by decide) (mw_k (by decide) (mw_k (by decide) (mw_k (by decide) (mw_k (by decide) (mw_k (by decide) mw_e)))))), (hrow 155 21 (by omega)).trans hC.2.2.1, (mw_k (by decide) (mw_k (by decide) (mw_k (by decide) (mw_k (by decide) (mw_k (by decide) mw_e))))), fun q hq => by cases hq⟩, Or.inr ⟨(mw_k (by decide) mw_e), rfl, rfl⟩⟩ (fun a x => by funext j; exact hrow a j (by omega))
end
