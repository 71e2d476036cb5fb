theorem ntot_take {xs : List sItem} {i : Nat} (h : i < xs.length) : ntot (xs.take (i + 1)) = ntot (xs.take i) + (xs.getD i it0).2.2.2.length := by
  unfold ntot
  rw [List.take_succ, List.map_append, List.sum_append, List.getElem?_eq_getElem h, List.getD_eq_getElem?_getD, List.getElem?_eq_getElem h]
  simp
theorem ntot_le {xs : List sItem} (h : ∀ j, j < xs.length → (xs.getD j it0).2.2.2.length ≤ 4) : ∀ i, i ≤ xs.length → ntot (xs.take i) ≤ 4 * i
  | 0, _ => by simp [ntot]
  | i + 1, hi => by
    rw [ntot_take (by omega)]
    have h1 := ntot_le h i (by omega)
    have h2 := h i (by omega)
    omega
theorem it_set (xs : List sItem) (k j : Nat) (a : sItem) (hk : k < xs.length) : (xs.set k a).getD j it0 = if j = k then a else xs.getD j it0 := by
  rw [List.getD_eq_getElem?_getD, List.getElem?_set]
  by_cases h : k = j
  · subst h
    rw [if_pos rfl, if_pos hk, if_pos rfl]; rfl
  · rw [if_neg h, if_neg (fun e => h e.symm), List.getD_eq_getElem?_getD]
theorem drop_cons {xs : List sItem} {i : Nat} (h : i < xs.length) : xs.drop i = xs.getD i it0 :: xs.drop (i + 1) := by
  rw [List.drop_eq_getElem_cons h, List.getD_eq_getElem?_getD, List.getElem?_eq_getElem h]; rfl
/-- one notice more of item i -/
theorem tkx_one {i n : Nat} {x : sItem} {t : List sItem} (h : 0 < x.2.2.2.length) : tkx i (n + 1) (x :: t) = (ntb i [x.2.2.2.getD 0 ntd] ++ (tkx i n ((x.1, x.2.1, x.2.2.1, x.2.2.2.tail) :: t)).1, (tkx i n ((x.1, x.2.1, x.2.2.1, x.2.2.2.tail) :: t)).2) := by
  obtain ⟨x1, x2, x3, q⟩ := x
  cases q with
  | nil => exact absurd h (Nat.lt_irrefl 0)
  | cons a q =>
    simp only [tkx, List.tail_cons, List.take_succ_cons, List.drop_succ_cons, List.length_cons, Nat.add_sub_add_right]
    refine Prod.ext ?_ rfl
    show ntb i (a :: q.take n) ++ _ = ntb i [a] ++ (ntb i (q.take n) ++ _)
    rw [← List.append_assoc]
    congr 1
    simp [ntb]
theorem tkx_skip {i n : Nat} {x : sItem} {t : List sItem} (h : n = 0 ∨ x.2.2.2.length = 0) : tkx i n (x :: t) = ((tkx (i + 1) n t).1, x :: (tkx (i + 1) n t).2) := by
  obtain ⟨x1, x2, x3, q⟩ := x
  rcases h with h | h
  · subst h
    simp [tkx, ntb]
  · have hq : q = [] := List.length_eq_zero_iff.mp h
    subst hq
    simp [tkx, ntb]
theorem rI_set {I I' : cn_I} {P P' : cn_P} {xs : List sItem} {i : Nat} {x : sItem} (h : rI I P xs) (hi : i < xs.length) (hx : rIt I' P' (71 + 14 * i) x) (hf : ∀ a, 71 ≤ a → a < 155 → (a < 71 + 14 * i ∨ 85 + 14 * i ≤ a) → I' a = I a) (hP : ∀ a, a ≠ 72 + 14 * i → P' a = P a) : rI I' P' (xs.set i x) := by
  have h6 := h.1
  refine ⟨by rw [List.length_set]; exact h6, fun j hj => ?_, fun j hj => ?_⟩
  · by_cases e : j = i
    · subst e
      obtain ⟨-, -, -, -, -, -, -, π, hq⟩ := hx
      exact ⟨π, by rw [show 72 + 14 * j = 71 + 14 * j + 1 by omega, show 73 + 14 * j = 71 + 14 * j + 2 by omega]; exact hq.2.2.1⟩
    · obtain ⟨π, a1, a2, a3⟩ := h.2.1 j hj
      exact ⟨π, a1, a2, fun q hq => by rw [hP _ (by omega)]; exact a3 q hq⟩
  · rw [List.length_set] at hj
    rw [it_set xs i j x hi]
    by_cases e : j = i
    · subst e
      rw [if_pos rfl]
      exact hx
    · rw [if_neg e]
      exact (h.2.2 j hj).congr (fun a x1 x2 => hf a (by omega) (by omega) (by omega)) (hP _ (by omega))
section
variable {l : Launch} {en : cn_E} {d : Nat} {S : cn_S} {I : cn_I} {P : cn_P} {Q : Option Value → cn_S → cn_I → cn_P → Prop}
variable {xs : List sItem}
theorem c_X_countNotices_loop (hw : wX S P) (hI : rI I P xs) (h03 : I 0 3 = nI xs.length) (K : Q (some (.int (nI (ntot xs)))) S I P) : ∀ (r i : Nat), i + r = xs.length → cn_V l en mi_X_countNotices d 0 0 S I P Q 4 [(0, .ref 0), (1, .int (nI (ntot (xs.take i)))), (2, .int (nI i))] [] := by
  have hl6 := hI.1
  have hq4 : ∀ j, j < xs.length → (xs.getD j it0).2.2.2.length ≤ 4 := fun j hj => by obtain ⟨-, -, -, -, -, c6, c7, -⟩ := hI.2.2 j hj; omega
  intro r
  induction r with
  | zero =>
    intro i hir
    have hnt := ntot_le hq4 i (by omega)
    refine cn_iload_n (pc' := 5) (k := 2) rfl rfl d_X_countNotices_4 rfl ?_
    refine cn_aload_n (pc' := 6) (k := 0) rfl rfl d_X_countNotices_5 rfl ?_
    refine cn_getIv (pc' := 9) (v := nI (xs.length)) h03 fl_X_67 hw.1 rfl d_X_countNotices_6 rfl ?_
    refine cn_icmp_ge_n (tgt := 30) (pc' := 12) (by omega) (by omega) d_X_countNotices_9 (by decide) rfl (fun hc9 => ?_) (fun hc9 => ?_)
    · refine cn_iload_n (pc' := 31) (k := 1) rfl rfl d_X_countNotices_30 rfl ?_
      refine cn_iret rfl d_X_countNotices_31 ?_
      rw [show i = xs.length by omega, List.take_length]; exact K
    · exact absurd hc9 (by omega)
  | succ r ih =>
    intro i hir
    have hnt := ntot_le hq4 i (by omega)
    obtain ⟨b1, b2, b3, b4, b5, b6, b7, π, b8⟩ := hI.2.2 i (by omega)
    refine cn_iload_n (pc' := 5) (k := 2) rfl rfl d_X_countNotices_4 rfl ?_
    refine cn_aload_n (pc' := 6) (k := 0) rfl rfl d_X_countNotices_5 rfl ?_
    refine cn_getIv (pc' := 9) (v := nI (xs.length)) h03 fl_X_67 hw.1 rfl d_X_countNotices_6 rfl ?_
    refine cn_icmp_ge_n (tgt := 30) (pc' := 12) (by omega) (by omega) d_X_countNotices_9 (by decide) rfl (fun hc9 => ?_) (fun hc9 => ?_)
    · exact absurd hc9 (by omega)
    · refine cn_iload_n (pc' := 13) (k := 1) rfl rfl d_X_countNotices_12 rfl ?_
      refine cn_aload_n (pc' := 14) (k := 0) rfl rfl d_X_countNotices_13 rfl ?_
      refine cn_getP (pc' := 17) (b := 2) hw.2.1.2.1 fl_X_17 hw.1 rfl d_X_countNotices_14 rfl ?_
      refine cn_iload_n (pc' := 18) (k := 2) rfl rfl d_X_countNotices_17 rfl ?_
      refine cn_aald (pc' := 19) (b := (71 + 14 * i)) hw.2.2.2.1.1 (by decide) (by decide) rfl (by omega) (by decide) (hw.it (i := i) (by omega)).1 d_X_countNotices_18 rfl ?_
      refine cn_getIv (pc' := 22) (v := nI ((xs.getD i it0).2.2.2.length)) b8.1 fl_X_139 (hw.it (i := i) (by omega)).2.1 rfl d_X_countNotices_19 rfl ?_
      refine cn_iadd_n (pc' := 23) d_X_countNotices_22 rfl ?_
      refine cn_istore_n (pc' := 24) (lv' := [(0, .ref 0), (1, .int (nI ((ntot (xs.take i)) + ((xs.getD i it0).2.2.2.length)))), (2, .int (nI (i)))]) rfl [1, 0, 2] (Nat.le_of_ble_eq_true rfl) rfl d_X_countNotices_23 rfl ?_
      refine cn_iinc_n (pc' := 27) (lv' := [(0, .ref 0), (1, .int (nI ((ntot (xs.take i)) + ((xs.getD i it0).2.2.2.length)))), (2, .int (nI (i + 1)))]) (k := 2) [1, 2, 0] rfl (Nat.le_of_ble_eq_true rfl) rfl d_X_countNotices_24 rfl ?_
      refine cn_goto (tgt := 4) d_X_countNotices_27 (by decide) ?_
      have e := ih (i + 1) (by omega)
      rw [ntot_take (by omega)] at e
      exact e
theorem c_X_countNotices (hw : wX S P) (hI : rI I P xs) (h03 : I 0 3 = nI xs.length) (K : Q (some (.int (nI (ntot xs)))) S I P) : cn_V l en mi_X_countNotices d 0 0 S I P Q 0 [(0, .ref 0)] [] := by
  refine cn_iconst (pc' := 1) k_c_0 d_X_countNotices_0 rfl ?_
  refine cn_istore_n (pc' := 2) (lv' := [(0, .ref 0), (1, .int (nI (0)))]) rfl [1, 0] (Nat.le_of_ble_eq_true rfl) rfl d_X_countNotices_1 rfl ?_
  refine cn_iconst (pc' := 3) k_c_0 d_X_countNotices_2 rfl ?_
  refine cn_istore_n (pc' := 4) (lv' := [(0, .ref 0), (1, .int (nI (0))), (2, .int (nI (0)))]) rfl [1, 2, 0] (Nat.le_of_ble_eq_true rfl) rfl d_X_countNotices_3 rfl ?_
  exact c_X_countNotices_loop hw hI h03 K xs.length 0 (by omega)
theorem cn_fewer {l : Launch} {en : cn_E} {mi : cn_M} {d kc ks : Nat} {S : cn_S} {I : cn_I} {P : cn_P} {Q : Option Value → cn_S → cn_I → cn_P → Prop} {pc : Nat} {lv : List (Nat × Value)} {st : List Value} {lv' : List (Nat × Value)} (hs : ∀ q ∈ lv, q ∈ lv') (K : cn_V l en mi d kc ks S I P Q pc lv st) : cn_V l en mi d kc ks S I P Q pc lv' st := by
  intro p e R s m args below meth c Z H locs cells slots ls C hc hs2 hH hS hl hk
  refine K p e R s m args below meth c Z H locs cells slots ls C hc hs2 hH hS ⟨hl.1, hl.2.1, fun q hq => ?_⟩ hk
  obtain ⟨q0, h1, rfl⟩ := List.mem_map.mp hq
  exact hl.2.2 _ (List.mem_map.mpr ⟨q0, hs q0 h1, rfl⟩)
theorem c_X_moveNotices_14 {c n i L : Nat} (hc6 : 6 ≤ c) (hc13 : c < 13) (hd1 : 2 ≤ d) (hiL : i < L) (H5 : ∀ (m : Nat) (I : cn_I) (P : cn_P) (xs : List sItem) (v : List Int32), xs.length = L → wX S P → rI I P xs → I 0 3 = nI xs.length → yb S P c 194 → ys I c v → v.length + 63 * m ≤ 194 → m ≤ 3 → (∀ (I' : cn_I) (P' : cn_P), wX S P' → rI I' P' (xs.take (i + 1) ++ (tkx (i + 1) m (xs.drop (i + 1))).2) → ys I' c (v ++ (tkx (i + 1) m (xs.drop (i + 1))).1) → (v ++ (tkx (i + 1) m (xs.drop (i + 1))).1).length ≤ 194 → (∀ a, a ≠ c → a ≠ c + 1 → (a < 71 ∨ 155 ≤ a) → I' a = I a) → (∀ a, (∀ j, j < 6 → a ≠ 72 + 14 * j) → P' a = P a) → Q none S I' P') → cn_V l en mi_X_moveNotices d 0 0 S I P Q 5 [(0, .ref 0), (1, .ref c), (2, .int (nI n)), (3, .int (nI m)), (4, .int (nI (i + 1)))] []) : ∀ (m : Nat) (I : cn_I) (P : cn_P) (xs : List sItem) (v : List Int32), xs.length = L → wX S P → rI I P xs → I 0 3 = nI xs.length → yb S P c 194 → ys I c v → v.length + 63 * m ≤ 194 → m ≤ 3 → (∀ (I' : cn_I) (P' : cn_P), wX S P' → rI I' P' (xs.take i ++ (tkx i m (xs.drop i)).2) → ys I' c (v ++ (tkx i m (xs.drop i)).1) → (v ++ (tkx i m (xs.drop i)).1).length ≤ 194 → (∀ a, a ≠ c → a ≠ c + 1 → (a < 71 ∨ 155 ≤ a) → I' a = I a) → (∀ a, (∀ j, j < 6 → a ≠ 72 + 14 * j) → P' a = P a) → Q none S I' P') → cn_V l en mi_X_moveNotices d 0 0 S I P Q 14 [(0, .ref 0), (1, .ref c), (2, .int (nI n)), (3, .int (nI m)), (4, .int (nI i))] [] := by
  intro m
  induction m with
  | zero =>
    intro I P xs v hxL hw hI h03 hcb hy hlen hm3 K
    have hix : i < xs.length := by omega
    have hl6 := hI.1
    obtain ⟨b1, b2, b3, b4, b5, b6, b7, π, b8⟩ := hI.2.2 i hix
    refine cn_iload_n (pc' := 15) (k := 3) rfl rfl d_X_moveNotices_14 rfl ?_
    refine cn_if_le_n (tgt := 73) (pc' := 18) (by omega) d_X_moveNotices_15 (by decide) rfl (fun hc15 => ?_) (fun hc15 => ?_)
    · refine cn_iinc_n (pc' := 76) (lv' := [(0, .ref 0), (1, .ref c), (2, .int (nI (n))), (3, .int (nI (0))), (4, .int (nI (i + 1)))]) (k := 4) [1, 2, 3, 4, 0] rfl (Nat.le_of_ble_eq_true rfl) rfl d_X_moveNotices_73 rfl ?_
      refine cn_goto (tgt := 5) d_X_moveNotices_76 (by decide) ?_
      refine H5 0 I P xs v hxL hw hI h03 hcb hy hlen hm3 ?_
      have e : tkx i 0 (xs.drop i) = ((tkx (i + 1) 0 (xs.drop (i + 1))).1, xs.getD i it0 :: (tkx (i + 1) 0 (xs.drop (i + 1))).2) := by rw [drop_cons hix]; exact tkx_skip (Or.inl rfl)
      rw [e] at K
      have e2 : xs.take i ++ xs.getD i it0 :: (tkx (i + 1) 0 (xs.drop (i + 1))).2 = xs.take (i + 1) ++ (tkx (i + 1) 0 (xs.drop (i + 1))).2 := by
        rw [List.take_succ, List.getElem?_eq_getElem hix, List.append_assoc, List.getD_eq_getElem?_getD, List.getElem?_eq_getElem hix]; rfl
      rw [← e2]
      exact K
    · exact False.elim (by omega)
  | succ m ih =>
    intro I P xs v hxL hw hI h03 hcb hy hlen hm3 K
    have hix : i < xs.length := by omega
    have hl6 := hI.1
    obtain ⟨b1, b2, b3, b4, b5, b6, b7, π, b8⟩ := hI.2.2 i hix
    refine cn_iload_n (pc' := 15) (k := 3) rfl rfl d_X_moveNotices_14 rfl ?_
    refine cn_if_le_n (tgt := 73) (pc' := 18) (by omega) d_X_moveNotices_15 (by decide) rfl (fun hc15 => ?_) (fun hc15 => ?_)
    · exact absurd hc15 (by omega)
    · refine cn_aload_n (pc' := 19) (k := 0) rfl rfl d_X_moveNotices_18 rfl ?_
      refine cn_getP (pc' := 22) (b := 2) hw.2.1.2.1 fl_X_17 hw.1 rfl d_X_moveNotices_19 rfl ?_
      refine cn_iload (pc' := 24) (k := 4) rfl d_X_moveNotices_22 rfl ?_
      refine cn_aald (pc' := 25) (b := (71 + 14 * i)) hw.2.2.2.1.1 (by decide) (by decide) rfl (by omega) (by decide) (hw.it (i := i) (by omega)).1 d_X_moveNotices_24 rfl ?_
      refine cn_getIv (pc' := 28) (v := nI ((xs.getD i it0).2.2.2.length)) b8.1 fl_X_139 (hw.it (i := i) (by omega)).2.1 rfl d_X_moveNotices_25 rfl ?_
      refine cn_if_le_n (tgt := 73) (pc' := 31) (by omega) d_X_moveNotices_28 (by decide) rfl (fun hc28 => ?_) (fun hc28 => ?_)
      · refine cn_iinc_n (pc' := 76) (lv' := [(0, .ref 0), (1, .ref c), (2, .int (nI (n))), (3, .int (nI (m + 1))), (4, .int (nI (i + 1)))]) (k := 4) [1, 2, 3, 4, 0] rfl (Nat.le_of_ble_eq_true rfl) rfl d_X_moveNotices_73 rfl ?_
        refine cn_goto (tgt := 5) d_X_moveNotices_76 (by decide) ?_
        refine H5 (m + 1) I P xs v hxL hw hI h03 hcb hy hlen hm3 ?_
        have e : tkx i (m + 1) (xs.drop i) = ((tkx (i + 1) (m + 1) (xs.drop (i + 1))).1, xs.getD i it0 :: (tkx (i + 1) (m + 1) (xs.drop (i + 1))).2) := by rw [drop_cons hix]; exact tkx_skip (Or.inr (by omega))
        rw [e] at K
        have e2 : xs.take i ++ xs.getD i it0 :: (tkx (i + 1) (m + 1) (xs.drop (i + 1))).2 = xs.take (i + 1) ++ (tkx (i + 1) (m + 1) (xs.drop (i + 1))).2 := by
          rw [List.take_succ, List.getElem?_eq_getElem hix, List.append_assoc, List.getD_eq_getElem?_getD, List.getElem?_eq_getElem hix]; rfl
        rw [← e2]
        exact K
      · refine cn_aload_n (pc' := 32) (k := 0) rfl rfl d_X_moveNotices_31 rfl ?_
        refine cn_getP (pc' := 35) (b := 2) hw.2.1.2.1 fl_X_17 hw.1 rfl d_X_moveNotices_32 rfl ?_
        refine cn_iload (pc' := 37) (k := 4) rfl d_X_moveNotices_35 rfl ?_
        refine cn_aald (pc' := 38) (b := (71 + 14 * i)) hw.2.2.2.1.1 (by decide) (by decide) rfl (by omega) (by decide) (hw.it (i := i) (by omega)).1 d_X_moveNotices_37 rfl ?_
        refine cn_callV (pc' := 41) (kc1 := 0) (ks1 := 0) (kc2 := 0) (ks2 := 0) (rest := []) (lvj := [(0, .ref ((71 + 14 * i)))]) [] mv_X_257 (hw.it (i := i) (by omega)).2.1 rfl rfl rfl (Nat.le_of_ble_eq_true rfl) (Nat.le_of_ble_eq_true rfl) (by omega) (by omega) (by omega) d_X_moveNotices_38 rfl ?_
        have h0q : 0 < (xs.getD i it0).2.2.2.length := by omega
        obtain ⟨z1, z2, z3⟩ := b8.2.2.2 0 h0q
        have hπ0 := b8.2.2.1.1 0 (by omega)
        refine c_It_removeFirst (it := 71 + 14 * i) (hw.it (by omega)).2 b8 h0q ?_
        have hq1 := yq_tail b8 h0q
        generalize hI1 : cn_wi I (71 + 14 * i) 4 (nI ((xs.getD i it0).2.2.2.length - 1)) = I1 at hq1 ⊢
        generalize hP1 : cn_wq P (71 + 14 * i + 1) (rot (P (71 + 14 * i + 1)) 0 (xs.getD i it0).2.2.2.length) = P1 at hq1 ⊢
        have hfI : ∀ a, a ≠ 71 + 14 * i → I1 a = I a := fun a x => by rw [← hI1]; exact cn_wi_ne x
        have hfP : ∀ a, a ≠ 72 + 14 * i → P1 a = P a := fun a x => by rw [← hP1]; exact cn_wq_ne (by omega)
        have hrow1 : ∀ q, q ≠ 4 → I1 (71 + 14 * i) q = I (71 + 14 * i) q := fun q x => by rw [← hI1, cn_wi_row]; exact if_neg x
        have hw1 : wX S P1 := hw.keepP (fun a x1 x2 => hfP a (x2 i (by omega)))
        have hcb1 : yb S P1 c 194 := hcb.keepP (hfP c (by omega))
        show cn_V l en mi_X_moveNotices d 0 0 S I1 P1 Q 41 [(0, .ref 0), (1, .ref c), (2, .int (nI (n))), (3, .int (nI (m + 1))), (4, .int (nI (i)))] [.ref ((71 + 14 * i + 2 + 3 * π 0))]
        refine cn_astore (pc' := 43) (lv' := [(0, .ref 0), (1, .ref c), (2, .int (nI (n))), (3, .int (nI (m + 1))), (4, .int (nI (i))), (5, .ref ((71 + 14 * i + 2 + 3 * π 0)))]) [1, 2, 3, 4, 5, 0] (Nat.le_of_ble_eq_true rfl) rfl d_X_moveNotices_41 rfl ?_
        refine cn_aload_n (pc' := 44) (k := 1) rfl rfl d_X_moveNotices_43 rfl ?_
        refine cn_iload (pc' := 46) (k := 4) rfl d_X_moveNotices_44 rfl ?_
        refine cn_callV (pc' := 49) (kc1 := 0) (ks1 := 0) (kc2 := 0) (ks2 := 0) (rest := []) (lvj := [(0, .ref c), (1, .int (nI (i)))]) [.int (nI (i))] mv_X_92 hcb1.1 rfl rfl rfl (Nat.le_of_ble_eq_true rfl) (Nat.le_of_ble_eq_true rfl) (by omega) (by omega) (by omega) d_X_moveNotices_46 rfl ?_
        refine c_By_add (b := c) (cap := 194) hcb1 (hy.congr (hfI c (by omega)) (hfI (c + 1) (by omega))) (by omega) (fun I2 hy2 hf2 => ?_)
        rw [nI_255 (by omega), List.take_of_length_le (by rw [List.length_append]; show v.length + 1 ≤ 194; omega)] at hy2
        show cn_V l en mi_X_moveNotices d 0 0 S I2 P1 Q 49 [(0, .ref 0), (1, .ref c), (2, .int (nI (n))), (3, .int (nI (m + 1))), (4, .int (nI (i))), (5, .ref ((71 + 14 * i + 2 + 3 * π 0)))] []
        refine cn_aload_n (pc' := 50) (k := 1) rfl rfl d_X_moveNotices_49 rfl ?_
        refine cn_aload (pc' := 52) (k := 5) rfl d_X_moveNotices_50 rfl ?_
        refine cn_getP (pc' := 55) (b := (71 + 14 * i + 3 + 3 * π 0)) ((hw1.it (i := i) (by omega)).2.2.2.2 _ hπ0).2.1 fl_X_261 ((hw1.it (i := i) (by omega)).2.2.2.2 _ hπ0).1 rfl d_X_moveNotices_52 rfl ?_
        refine cn_callV (pc' := 58) (kc1 := 0) (ks1 := 0) (kc2 := 0) (ks2 := 0) (rest := []) (lvj := [(0, .ref c), (1, .ref ((71 + 14 * i + 3 + 3 * π 0)))]) [.ref ((71 + 14 * i + 3 + 3 * π 0))] mv_X_164 hcb1.1 rfl rfl rfl (Nat.le_of_ble_eq_true rfl) (Nat.le_of_ble_eq_true rfl) (by omega) (by omega) (by omega) d_X_moveNotices_55 rfl ?_
        refine c_By_append (b := c) (c := 71 + 14 * i + 3 + 3 * π 0) (cap := 194) (cap2 := 61) hcb1 hy2 (by rw [List.length_append]; show v.length + 1 ≤ 194; omega) ((hw1.it (i := i) (by omega)).2.2.2.2 _ hπ0).2.2 ((z1.congr (hfI _ (by omega)) (hfI _ (by omega))).keep hf2 (by omega) (by omega) (by omega)) z2 (by omega) (by omega) (by omega) (fun I3 hy3 hf3 => ?_)
        rw [List.take_of_length_le (by rw [List.length_append, List.length_append]; show v.length + 1 + _ ≤ 194; omega)] at hy3
        show cn_V l en mi_X_moveNotices d 0 0 S I3 P1 Q 58 [(0, .ref 0), (1, .ref c), (2, .int (nI (n))), (3, .int (nI (m + 1))), (4, .int (nI (i))), (5, .ref ((71 + 14 * i + 2 + 3 * π 0)))] []
        refine cn_aload_n (pc' := 59) (k := 1) rfl rfl d_X_moveNotices_58 rfl ?_
        refine cn_aload (pc' := 61) (k := 5) rfl d_X_moveNotices_59 rfl ?_
        refine cn_getIv (pc' := 64) (v := ((xs.getD i it0).2.2.2.getD 0 ntd).2) (by rw [hf3 _ (by omega) (by omega), hf2 _ (by omega) (by omega), hfI _ (by omega)]; exact z3) fl_X_264 ((hw1.it (i := i) (by omega)).2.2.2.2 _ hπ0).1 rfl d_X_moveNotices_61 rfl ?_
        refine cn_callV (pc' := 67) (kc1 := 0) (ks1 := 0) (kc2 := 0) (ks2 := 0) (rest := []) (lvj := [(0, .ref c), (1, .int (((xs.getD i it0).2.2.2.getD 0 ntd).2))]) [.int (((xs.getD i it0).2.2.2.getD 0 ntd).2)] mv_X_92 hcb1.1 rfl rfl rfl (Nat.le_of_ble_eq_true rfl) (Nat.le_of_ble_eq_true rfl) (by omega) (by omega) (by omega) d_X_moveNotices_64 rfl ?_
        refine c_By_add (b := c) (cap := 194) hcb1 hy3 (by rw [List.length_append, List.length_append]; show v.length + 1 + _ ≤ 194; omega) (fun I4 hy4 hf4 => ?_)
        have hf24 : fr2 I1 I4 c := (hf2.tr hf3).tr hf4
        show cn_V l en mi_X_moveNotices d 0 0 S I4 P1 Q 67 [(0, .ref 0), (1, .ref c), (2, .int (nI (n))), (3, .int (nI (m + 1))), (4, .int (nI (i))), (5, .ref ((71 + 14 * i + 2 + 3 * π 0)))] []
        refine cn_idec_n (pc' := 70) (lv' := [(0, .ref 0), (1, .ref c), (2, .int (nI (n))), (3, .int (nI (m))), (4, .int (nI (i))), (5, .ref ((71 + 14 * i + 2 + 3 * π 0)))]) (k := 3) [1, 2, 3, 0, 4, 5] rfl (Nat.le_of_ble_eq_true rfl) rfl d_X_moveNotices_67 rfl ?_
        refine cn_goto (tgt := 14) d_X_moveNotices_70 (by decide) ?_
        refine cn_fewer (lv := [(0, .ref 0), (1, .ref c), (2, .int (nI n)), (3, .int (nI m)), (4, .int (nI i))]) (fun q hq => by simp only [List.mem_cons, List.not_mem_nil, or_false] at hq ⊢; rcases hq with h | h | h | h | h <;> simp only [h, true_or, or_true]) ?_
        obtain ⟨x, hx⟩ : ∃ x, x = xs.getD i it0 := ⟨_, rfl⟩
        rw [← hx] at b1 b2 b3 b4 b5 b6 b7 hq1 z2 hy4 h0q
        have hxs : rI I4 P1 (xs.set i (x.1, x.2.1, x.2.2.1, x.2.2.2.tail)) := by
          refine rI_set hI hix ?_ (fun a x1 x2 x3 => (hf24 a (by omega) (by omega)).trans (hfI a (by omega))) hfP
          refine ⟨?_, b2, ?_, ?_, b5, b6, ?_, _, hq1.congr (fun a x1 x2 => hf24 a (by omega) (by omega)) rfl⟩
          · rw [hf24 _ (by omega) (by omega), hrow1 1 (by omega)]; exact b1
          · rw [hf24 _ (by omega) (by omega), hrow1 2 (by omega)]; exact b3
          · rw [hf24 _ (by omega) (by omega), hrow1 3 (by omega)]; exact b4
          · show x.2.2.2.tail.length ≤ x.2.1; rw [List.length_tail]; omega
        have e : tkx i (m + 1) (xs.drop i) = (ntb i [x.2.2.2.getD 0 ntd] ++ (tkx i m ((xs.set i (x.1, x.2.1, x.2.2.1, x.2.2.2.tail)).drop i)).1, (tkx i m ((xs.set i (x.1, x.2.1, x.2.2.1, x.2.2.2.tail)).drop i)).2) := by
          have ed := drop_cons (xs := xs.set i (x.1, x.2.1, x.2.2.1, x.2.2.2.tail)) (i := i) (by rw [List.length_set]; exact hix)
          rw [it_set xs i i _ hix, if_pos rfl, List.drop_set_of_lt (Nat.lt_succ_self i)] at ed
          rw [ed, drop_cons hix, ← hx, tkx_one h0q]
        rw [e] at K
        rw [List.take_of_length_le (by rw [List.length_append, List.length_append, List.length_append]; show v.length + 1 + _ + 1 ≤ 194; omega)] at hy4
        have hvv : v ++ [nI i] ++ (x.2.2.2.getD 0 ntd).1 ++ [(x.2.2.2.getD 0 ntd).2 &&& 255] = v ++ ntb i [x.2.2.2.getD 0 ntd] := by simp [ntb]
        rw [hvv] at hy4
        have hnl : (ntb i [x.2.2.2.getD 0 ntd]).length ≤ 63 := by show (nI i :: ((x.2.2.2.getD 0 ntd).1 ++ [(x.2.2.2.getD 0 ntd).2 &&& 255]) ++ []).length ≤ 63; rw [List.append_nil]; show ((x.2.2.2.getD 0 ntd).1 ++ [(x.2.2.2.getD 0 ntd).2 &&& 255]).length + 1 ≤ 63; rw [List.length_append]; show (x.2.2.2.getD 0 ntd).1.length + 1 + 1 ≤ 63; omega
        refine ih I4 P1 (xs.set i (x.1, x.2.1, x.2.2.1, x.2.2.2.tail)) (v ++ ntb i [x.2.2.2.getD 0 ntd]) (by rw [List.length_set]; exact hxL) hw1 hxs (by rw [List.length_set, hf24 0 (by omega) (by omega), hfI 0 (by omega)]; exact h03) hcb1 hy4 (by rw [List.length_append]; omega) (by omega) (fun I5 P5 a1 a2 a3 a4 a5 a6 => ?_)
        rw [List.take_set_of_le (Nat.le_refl i)] at a2
        rw [List.append_assoc] at a3 a4
        exact K I5 P5 a1 a2 a3 a4 (fun a x1 x2 x3 => by rw [a5 a x1 x2 x3, hf24 a x1 x2]; exact hfI a (by omega)) (fun a x => (a6 a x).trans (hfP a (x i (by omega))))
theorem c_X_moveNotices_5 {c n L : Nat} (hc6 : 6 ≤ c) (hc13 : c < 13) (hd1 : 2 ≤ d) : ∀ (r i m : Nat) (I : cn_I) (P : cn_P) (xs : List sItem) (v : List Int32), i + r = L → xs.length = L → wX S P → rI I P xs → I 0 3 = nI xs.length → yb S P c 194 → ys I c v → v.length + 63 * m ≤ 194 → m ≤ 3 → (∀ (I' : cn_I) (P' : cn_P), wX S P' → rI I' P' (xs.take i ++ (tkx i m (xs.drop i)).2) → ys I' c (v ++ (tkx i m (xs.drop i)).1) → (v ++ (tkx i m (xs.drop i)).1).length ≤ 194 → (∀ a, a ≠ c → a ≠ c + 1 → (a < 71 ∨ 155 ≤ a) → I' a = I a) → (∀ a, (∀ j, j < 6 → a ≠ 72 + 14 * j) → P' a = P a) → Q none S I' P') → cn_V l en mi_X_moveNotices d 0 0 S I P Q 5 [(0, .ref 0), (1, .ref c), (2, .int (nI n)), (3, .int (nI m)), (4, .int (nI i))] [] := by
  intro r
  induction r with
  | zero =>
    intro i m I P xs v hir hxL hw hI h03 hcb hy hlen hm3 K
    have hl6 := hI.1
    refine cn_iload (pc' := 7) (k := 4) rfl d_X_moveNotices_5 rfl ?_
    refine cn_aload_n (pc' := 8) (k := 0) rfl rfl d_X_moveNotices_7 rfl ?_
    refine cn_getIv (pc' := 11) (v := nI (xs.length)) h03 fl_X_67 hw.1 rfl d_X_moveNotices_8 rfl ?_
    refine cn_icmp_ge_n (tgt := 79) (pc' := 14) (by omega) (by omega) d_X_moveNotices_11 (by decide) rfl (fun hc11 => ?_) (fun hc11 => ?_)
    · refine cn_vret rfl d_X_moveNotices_79 ?_
      have e : xs.drop i = [] := List.drop_eq_nil_of_le (by omega)
      rw [e, List.take_of_length_le (by omega), show tkx i m [] = ([], []) from by simp [tkx], List.append_nil, List.append_nil] at K
      exact K I P hw hI hy (by omega) (fun a _ _ _ => rfl) (fun a _ => rfl)
    · exact absurd hc11 (by omega)
  | succ r ih =>
    intro i m I P xs v hir hxL hw hI h03 hcb hy hlen hm3 K
    have hl6 := hI.1
    refine cn_iload (pc' := 7) (k := 4) rfl d_X_moveNotices_5 rfl ?_
    refine cn_aload_n (pc' := 8) (k := 0) rfl rfl d_X_moveNotices_7 rfl ?_
    refine cn_getIv (pc' := 11) (v := nI (xs.length)) h03 fl_X_67 hw.1 rfl d_X_moveNotices_8 rfl ?_
    refine cn_icmp_ge_n (tgt := 79) (pc' := 14) (by omega) (by omega) d_X_moveNotices_11 (by decide) rfl (fun hc11 => ?_) (fun hc11 => ?_)
    · exact absurd hc11 (by omega)
    · exact c_X_moveNotices_14 hc6 hc13 hd1 (i := i) (L := L) (by omega) (fun m I P xs v => ih (i + 1) m I P xs v (by omega)) m I P xs v hxL hw hI h03 hcb hy hlen hm3 K
theorem c_X_moveNotices {c n : Nat} {v : List Int32} (hc6 : 6 ≤ c) (hc13 : c < 13) (hd1 : 2 ≤ d) (hw : wX S P) (hI : rI I P xs) (h03 : I 0 3 = nI xs.length) (hcb : yb S P c 194) (hy : ys I c v) (hlen : v.length + 63 * n ≤ 194) (hn3 : n ≤ 3) (K : ∀ (I' : cn_I) (P' : cn_P), wX S P' → rI I' P' (tkx 0 n xs).2 → ys I' c (v ++ (tkx 0 n xs).1) → (v ++ (tkx 0 n xs).1).length ≤ 194 → (∀ a, a ≠ c → a ≠ c + 1 → (a < 71 ∨ 155 ≤ a) → I' a = I a) → (∀ a, (∀ j, j < 6 → a ≠ 72 + 14 * j) → P' a = P a) → Q none S I' P') : cn_V l en mi_X_moveNotices d 0 0 S I P Q 0 [(0, .ref 0), (1, .ref c), (2, .int (nI n))] [] := by
  refine cn_iload_n (pc' := 1) (k := 2) rfl rfl d_X_moveNotices_0 rfl ?_
  refine cn_istore_n (pc' := 2) (lv' := [(0, .ref 0), (1, .ref c), (2, .int (nI (n))), (3, .int (nI (n)))]) rfl [1, 2, 3, 0] (Nat.le_of_ble_eq_true rfl) rfl d_X_moveNotices_1 rfl ?_
  refine cn_iconst (pc' := 3) k_c_0 d_X_moveNotices_2 rfl ?_
  refine cn_istore (pc' := 5) (lv' := [(0, .ref 0), (1, .ref c), (2, .int (nI (n))), (3, .int (nI (n))), (4, .int (nI (0)))]) [1, 2, 3, 4, 0] (Nat.le_of_ble_eq_true rfl) rfl d_X_moveNotices_3 rfl ?_
  exact c_X_moveNotices_5 hc6 hc13 hd1 xs.length 0 n I P xs v (by omega) rfl hw hI h03 hcb hy hlen hn3 K
end
