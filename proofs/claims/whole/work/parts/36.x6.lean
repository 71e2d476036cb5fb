theorem nI_255 {n : Nat} (h : n < 256) : nI n &&& 255 = nI n := by
  rw [pk_andN (by omega) 8 (by decide), Nat.mod_eq_of_lt h]
def kid (ns : List sNode) (k i : Nat) : List Nat := (List.range i).filter (fun i => decide ((ns.getD i nd0).1 = nI k))
def kfl (l : List Nat) : List Int32 := l.flatMap (fun i => [nI 0, nI i])
theorem kid_len (ns : List sNode) (k i : Nat) : (kid ns k i).length ≤ i := by
  have h := List.length_filter_le (fun i => decide ((ns.getD i nd0).1 = nI k)) (List.range i)
  rw [List.length_range] at h
  exact h
theorem kfl_len (l : List Nat) : (kfl l).length = 2 * l.length := by
  induction l with
  | nil => rfl
  | cons a t ih =>
    show ([nI 0, nI a] ++ kfl t).length = 2 * (t.length + 1)
    rw [List.length_append, ih]
    show 2 + 2 * t.length = _
    omega
theorem kid_y {ns : List sNode} {k i : Nat} (h : (ns.getD i nd0).1 = nI k) : kid ns k (i + 1) = kid ns k i ++ [i] := by
  unfold kid
  rw [List.range_succ, List.filter_append]
  congr 1
  rw [List.getD_eq_getElem?_getD] at h
  simp [h]
theorem kid_n {ns : List sNode} {k i : Nat} (h : ¬ (ns.getD i nd0).1 = nI k) : kid ns k (i + 1) = kid ns k i := by
  unfold kid
  rw [List.range_succ, List.filter_append]
  rw [List.getD_eq_getElem?_getD] at h
  simp [h]
theorem kfl_app (a b : List Nat) : kfl (a ++ b) = kfl a ++ kfl b := by simp [kfl]
theorem brw_len {ns : List sNode} (h : ns.length ≤ 16) (k : Nat) (up : Int32) : (brw ns k up).length ≤ 40 := by
  unfold brw
  by_cases h1 : up = nI 1
  · rw [if_pos h1]
    split <;> simp
  · rw [if_neg h1]
    have hkk := kid_len ns k ns.length
    show (kfl (kid ns k ns.length)).length + 1 ≤ 40
    rw [kfl_len]
    omega
theorem capo_eq (x : Int32) : (if nI 1 < (if nI 4 < x then nI 4 else x) then (if nI 4 < x then nI 4 else x) else nI 1) = nI (capo x) := by
  unfold capo
  by_cases h4 : nI 4 < x
  · have h1 : ¬ x < nI 1 := fun h => absurd (Int32.lt_trans (Int32.lt_trans (show nI 1 < nI 4 by decide) h4) h) (Int32.lt_irrefl)
    rw [if_pos h4, if_pos (show nI 1 < nI 4 by decide), if_neg h1, if_pos h4]
  · rw [if_neg h4]
    by_cases h1 : x < nI 1
    · rw [if_pos h1, if_neg (fun h => absurd (Int32.lt_trans h h1) Int32.lt_irrefl)]
    · rw [if_neg h1, if_neg h4]
      have h0 : ¬ x < 0 := fun h => h1 (Int32.lt_trans h (show (0 : Int32) < nI 1 by decide))
      obtain ⟨j, hj, rfl⟩ := nI_of h0
      rw [nI_clamp hj]
      by_cases h2 : nI 1 < nI j
      · rw [if_pos h2]
      · rw [if_neg h2]
        have a1 : ¬ j < 1 := fun h => h1 ((nI_ltI (by omega) (by omega)).mpr h)
        have a2 : ¬ 1 < j := fun h => h2 ((nI_ltI (by omega) (by omega)).mpr h)
        congr 1
        omega
theorem capo_le (x : Int32) : 1 ≤ capo x ∧ capo x ≤ 4 := by
  unfold capo
  by_cases h1 : x < nI 1
  · rw [if_pos h1]; omega
  · rw [if_neg h1]
    by_cases h4 : nI 4 < x
    · rw [if_pos h4]; omega
    · rw [if_neg h4]
      have h0 : ¬ x < 0 := fun h => h1 (Int32.lt_trans h (show (0 : Int32) < nI 1 by decide))
      obtain ⟨j, hj, rfl⟩ := nI_of h0
      rw [nI_clamp hj]
      have a1 : ¬ j < 1 := fun h => h1 ((nI_ltI (by omega) (by omega)).mpr h)
      have a2 : ¬ 4 < j := fun h => h4 ((nI_ltI (by omega) (by omega)).mpr h)
      omega
theorem it_l {v w : List sItem} {j : Nat} (h : j < v.length) : (v ++ w).getD j it0 = v.getD j it0 := by
  rw [List.getD_eq_getElem?_getD, List.getD_eq_getElem?_getD, List.getElem?_append_left h]
theorem it_last (v : List sItem) (a : sItem) : (v ++ [a]).getD v.length it0 = a := by
  rw [List.getD_eq_getElem?_getD, List.getElem?_append_right (Nat.le_refl _), Nat.sub_self]; rfl
theorem rI_push {I I' : cn_I} {P P' : cn_P} {xs : List sItem} {x : sItem} (h : rI I P xs) (h6 : xs.length < 6) (hx : rIt I' P' (71 + 14 * xs.length) x) (hf : ∀ a, 71 ≤ a → a < 155 → (a < 71 + 14 * xs.length ∨ 85 + 14 * xs.length ≤ a) → I' a = I a) (hP : ∀ a, a ≠ 72 + 14 * xs.length → P' a = P a) : rI I' P' (xs ++ [x]) := by
  refine ⟨by rw [List.length_append]; exact h6, fun i hi => ?_, fun i hi => ?_⟩
  · by_cases e : i = xs.length
    · subst e
      obtain ⟨-, -, -, -, -, -, -, π, hq⟩ := hx
      exact ⟨π, by rw [show 72 + 14 * xs.length = 71 + 14 * xs.length + 1 by omega, show 73 + 14 * xs.length = 71 + 14 * xs.length + 2 by omega]; exact hq.2.2.1⟩
    · obtain ⟨π, a1, a2, a3⟩ := h.2.1 i hi
      exact ⟨π, a1, a2, fun j hj => by rw [hP _ (by omega)]; exact a3 j hj⟩
  · rw [List.length_append] at hi
    have hi : i < xs.length + 1 := hi
    by_cases e : i = xs.length
    · subst e
      rw [it_last]
      exact hx
    · have hl : i < xs.length := by omega
      rw [it_l hl]
      exact (h.2.2 i hl).congr (fun a x1 x2 => hf a (by omega) (by omega) (by omega)) (hP _ (by omega))
section
variable {l : Launch} {en : cn_E} {d : Nat} {S : cn_S} {I : cn_I} {P : cn_P} {Q : Option Value → cn_S → cn_I → cn_P → Prop}
variable {ns : List sNode} {xs : List sItem} {ps : List sPar} {pn : Int32} {ch : sCh} {rq : Int32}
theorem c_X_replyName {x a0 : Int32} {c : Nat} {t : List Int32} (hw : wX S P) (hy : ys I 18 (a0 :: nI c :: t)) (hc : c ≤ 100) (hl : t.length ≤ 150) (hd1 : 1 ≤ d) (K : ∀ I', ys I' 18 (a0 :: nI (c + 1) :: (t ++ [nI 0, x &&& 255])) → fr2 I I' 18 → Q none S I' P) : cn_V l en mi_X_replyName d 0 0 S I P Q 0 [(0, .ref 0), (1, .int x)] [] := by
  have hlen : (a0 :: nI c :: t).length ≤ 195 := by show t.length + 1 + 1 ≤ 195; omega
  refine cn_aload_n (pc' := 1) (k := 0) rfl rfl d_X_replyName_0 rfl ?_
  refine cn_getP (pc' := 4) (b := 18) hw.2.1.2.2.2.2.1 fl_X_40 hw.1 rfl d_X_replyName_1 rfl ?_
  refine cn_iconst (pc' := 5) k_c_1 d_X_replyName_4 rfl ?_
  refine cn_aload_n (pc' := 6) (k := 0) rfl rfl d_X_replyName_5 rfl ?_
  refine cn_getP (pc' := 9) (b := 18) hw.2.1.2.2.2.2.1 fl_X_40 hw.1 rfl d_X_replyName_6 rfl ?_
  refine cn_iconst (pc' := 10) k_c_1 d_X_replyName_9 rfl ?_
  refine cn_callV (pc' := 13) (kc1 := 0) (ks1 := 0) (kc2 := 0) (ks2 := 0) (rest := [.int (nI (1)), .ref 18]) (lvj := [(0, .ref 18), (1, .int (nI (1)))]) [.int (nI (1))] mv_X_135 hw.re.1 rfl rfl rfl (Nat.le_of_ble_eq_true rfl) (Nat.le_of_ble_eq_true rfl) (by omega) (by omega) (by omega) d_X_replyName_10 rfl ?_
  refine c_By_at (b := 18) (cap := 195) hw.re hy hlen ?_
  rw [show ya (a0 :: nI c :: t) (nI 1) = nI c from rfl]
  show cn_V l en mi_X_replyName d 0 0 S I P Q 13 [(0, .ref 0), (1, .int (x))] [.int (nI (c)), .int (nI (1)), .ref 18]
  refine cn_iconst (pc' := 14) k_c_1 d_X_replyName_13 rfl ?_
  refine cn_iadd_n (pc' := 15) d_X_replyName_14 rfl ?_
  refine cn_callV (pc' := 18) (kc1 := 0) (ks1 := 0) (kc2 := 0) (ks2 := 0) (rest := []) (lvj := [(0, .ref 18), (1, .int (nI (1))), (2, .int (nI (c + 1)))]) [.int (nI (1)), .int (nI (c + 1))] mv_X_121 hw.re.1 rfl rfl rfl (Nat.le_of_ble_eq_true rfl) (Nat.le_of_ble_eq_true rfl) (by omega) (by omega) (by omega) d_X_replyName_15 rfl ?_
  refine c_By_set (b := 18) (cap := 195) hw.re hy hlen (fun I1 hy1 hf1 => ?_)
  have hy1 : ys I1 18 (a0 :: nI (c + 1) :: t) := by have e : yset (a0 :: nI c :: t) (nI 1) (nI (c + 1)) = a0 :: nI (c + 1) :: t := (by show a0 :: (nI (c + 1) &&& 255) :: t = _; rw [nI_255 (by omega)]); rw [← e]; exact hy1
  show cn_V l en mi_X_replyName d 0 0 S I1 P Q 18 [(0, .ref 0), (1, .int (x))] []
  refine cn_aload_n (pc' := 19) (k := 0) rfl rfl d_X_replyName_18 rfl ?_
  refine cn_getP (pc' := 22) (b := 18) hw.2.1.2.2.2.2.1 fl_X_40 hw.1 rfl d_X_replyName_19 rfl ?_
  refine cn_iconst (pc' := 23) k_c_0 d_X_replyName_22 rfl ?_
  refine cn_callV (pc' := 26) (kc1 := 0) (ks1 := 0) (kc2 := 0) (ks2 := 0) (rest := []) (lvj := [(0, .ref 18), (1, .int (nI (0)))]) [.int (nI (0))] mv_X_92 hw.re.1 rfl rfl rfl (Nat.le_of_ble_eq_true rfl) (Nat.le_of_ble_eq_true rfl) (by omega) (by omega) (by omega) d_X_replyName_23 rfl ?_
  refine c_By_add (b := 18) (cap := 195) hw.re hy1 hlen (fun I2 hy2 hf2 => ?_)
  have hy2 : ys I2 18 (a0 :: nI (c + 1) :: (t ++ [nI 0])) := by rw [List.take_of_length_le (by show (t ++ [nI 0 &&& 255]).length + 1 + 1 ≤ 195; rw [List.length_append]; show t.length + 1 + 1 + 1 ≤ 195; omega)] at hy2; exact hy2
  show cn_V l en mi_X_replyName d 0 0 S I2 P Q 26 [(0, .ref 0), (1, .int (x))] []
  refine cn_aload_n (pc' := 27) (k := 0) rfl rfl d_X_replyName_26 rfl ?_
  refine cn_getP (pc' := 30) (b := 18) hw.2.1.2.2.2.2.1 fl_X_40 hw.1 rfl d_X_replyName_27 rfl ?_
  refine cn_iload_n (pc' := 31) (k := 1) rfl rfl d_X_replyName_30 rfl ?_
  refine cn_callV (pc' := 34) (kc1 := 0) (ks1 := 0) (kc2 := 0) (ks2 := 0) (rest := []) (lvj := [(0, .ref 18), (1, .int (x))]) [.int (x)] mv_X_92 hw.re.1 rfl rfl rfl (Nat.le_of_ble_eq_true rfl) (Nat.le_of_ble_eq_true rfl) (by omega) (by omega) (by omega) d_X_replyName_31 rfl ?_
  refine c_By_add (b := 18) (cap := 195) hw.re hy2 (by show (t ++ [nI 0]).length + 1 + 1 ≤ 195; rw [List.length_append]; show t.length + 1 + 1 + 1 ≤ 195; omega) (fun I3 hy3 hf3 => ?_)
  rw [List.take_of_length_le (by show ((t ++ [nI 0]) ++ [x &&& 255]).length + 1 + 1 ≤ 195; rw [List.length_append, List.length_append]; show t.length + 1 + 1 + 1 + 1 ≤ 195; omega)] at hy3
  show cn_V l en mi_X_replyName d 0 0 S I3 P Q 34 [(0, .ref 0), (1, .int (x))] []
  refine cn_vret rfl d_X_replyName_34 ?_
  exact K I3 (by have e : a0 :: nI (c + 1) :: (t ++ [nI 0]) ++ [x &&& 255] = a0 :: nI (c + 1) :: (t ++ [nI 0, x &&& 255]) := (by simp); rw [← e]; exact hy3) ((hf1.tr hf2).tr hf3)
theorem c_X_replyParent {k : Nat} (hw : wX S P) (hN : rN I ns) (hkl : k < ns.length) (hy : ys I 18 [nI 0, nI 0]) (hd1 : 2 ≤ d) (K : ∀ I', ys I' 18 (nI 0 :: brw ns k (nI 1)) → fr2 I I' 18 → Q none S I' P) : cn_V l en mi_X_replyParent d 0 0 S I P Q 0 [(0, .ref 0), (1, .int (nI k))] [] := by
  have hl16 := hN.1
  refine cn_aload_n (pc' := 1) (k := 0) rfl rfl d_X_replyParent_0 rfl ?_
  refine cn_getP (pc' := 4) (b := 1) hw.2.1.1 fl_X_11 hw.1 rfl d_X_replyParent_1 rfl ?_
  refine cn_iload_n (pc' := 5) (k := 1) rfl rfl d_X_replyParent_4 rfl ?_
  refine cn_aald (pc' := 6) (b := (23 + 3 * k)) hw.2.2.1.1 (by decide) (by decide) rfl (by omega) (by decide) (hw.nd (i := k) (by omega)).1 d_X_replyParent_5 rfl ?_
  refine cn_getIv (pc' := 9) (v := (ns.getD k nd0).1) (hN.2.1 k (by omega)).1 fl_X_222 (hw.nd (i := k) (by omega)).2.1 rfl d_X_replyParent_6 rfl ?_
  refine cn_iconst (pc' := 10) k_c_m1 d_X_replyParent_9 rfl ?_
  refine cn_icmp_eq (tgt := 26) (pc' := 13) d_X_replyParent_10 (by decide) rfl (fun hc10 => ?_) (fun hc10 => ?_)
  · refine cn_vret rfl d_X_replyParent_26 ?_
    have e : brw ns k (nI 1) = [nI 0] := by unfold brw; rw [if_pos rfl, if_pos hc10]
    rw [e] at K; exact K I hy fr2.rf
  · refine cn_aload_n (pc' := 14) (k := 0) rfl rfl d_X_replyParent_13 rfl ?_
    refine cn_aload_n (pc' := 15) (k := 0) rfl rfl d_X_replyParent_14 rfl ?_
    refine cn_getP (pc' := 18) (b := 1) hw.2.1.1 fl_X_11 hw.1 rfl d_X_replyParent_15 rfl ?_
    refine cn_iload_n (pc' := 19) (k := 1) rfl rfl d_X_replyParent_18 rfl ?_
    refine cn_aald (pc' := 20) (b := (23 + 3 * k)) hw.2.2.1.1 (by decide) (by decide) rfl (by omega) (by decide) (hw.nd (i := k) (by omega)).1 d_X_replyParent_19 rfl ?_
    refine cn_getIv (pc' := 23) (v := (ns.getD k nd0).1) (hN.2.1 k (by omega)).1 fl_X_222 (hw.nd (i := k) (by omega)).2.1 rfl d_X_replyParent_20 rfl ?_
    refine cn_callV (pc' := 26) (kc1 := 0) (ks1 := 0) (kc2 := 0) (ks2 := 0) (rest := []) (lvj := [(0, .ref 0), (1, .int ((ns.getD k nd0).1))]) [.int ((ns.getD k nd0).1)] mv_X_225 hw.1 rfl rfl rfl (Nat.le_of_ble_eq_true rfl) (Nat.le_of_ble_eq_true rfl) (by omega) (by omega) (by omega) d_X_replyParent_23 rfl ?_
    refine c_X_replyName (c := 0) (t := []) hw hy (by omega) (Nat.zero_le _) (by omega) (fun I1 hy1 hf1 => ?_)
    show cn_V l en mi_X_replyParent d 0 0 S I1 P Q 26 [(0, .ref 0), (1, .int (nI (k)))] []
    refine cn_vret rfl d_X_replyParent_26 ?_
    have e : brw ns k (nI 1) = [nI 1, nI 0, (ns.getD k nd0).1 &&& 255] := by unfold brw; rw [if_pos rfl, if_neg hc10]
    rw [e] at K; exact K I1 hy1 hf1
theorem c_X_replyChildren_loop {k : Nat} (hw : wX S P) (hl16 : ns.length ≤ 16) (hd1 : 2 ≤ d) (I0 : cn_I) (K : ∀ I', ys I' 18 (nI 0 :: nI (kid ns k ns.length).length :: kfl (kid ns k ns.length)) → fr2 I0 I' 18 → Q none S I' P) : ∀ (r i : Nat) (I : cn_I), i + r = ns.length → rN I ns → I 0 1 = nI ns.length → ys I 18 (nI 0 :: nI (kid ns k i).length :: kfl (kid ns k i)) → fr2 I0 I 18 → cn_V l en mi_X_replyChildren d 0 0 S I P Q 2 [(0, .ref 0), (1, .int (nI k)), (2, .int (nI i))] [] := by
  intro r
  induction r with
  | zero =>
    intro i I hir hN h01 hy hf
    have hkl := kid_len ns k i
    refine cn_iload_n (pc' := 3) (k := 2) rfl rfl d_X_replyChildren_2 rfl ?_
    refine cn_aload_n (pc' := 4) (k := 0) rfl rfl d_X_replyChildren_3 rfl ?_
    refine cn_getIv (pc' := 7) (v := nI (ns.length)) h01 fl_X_57 hw.1 rfl d_X_replyChildren_4 rfl ?_
    refine cn_icmp_ge_n (tgt := 34) (pc' := 10) (by omega) (by omega) d_X_replyChildren_7 (by decide) rfl (fun hc7 => ?_) (fun hc7 => ?_)
    · refine cn_vret rfl d_X_replyChildren_34 ?_
      have e : i = ns.length := by omega
      subst e
      exact K I hy hf
    · exact absurd hc7 (by omega)
  | succ r ih =>
    intro i I hir hN h01 hy hf
    have hkl := kid_len ns k i
    refine cn_iload_n (pc' := 3) (k := 2) rfl rfl d_X_replyChildren_2 rfl ?_
    refine cn_aload_n (pc' := 4) (k := 0) rfl rfl d_X_replyChildren_3 rfl ?_
    refine cn_getIv (pc' := 7) (v := nI (ns.length)) h01 fl_X_57 hw.1 rfl d_X_replyChildren_4 rfl ?_
    refine cn_icmp_ge_n (tgt := 34) (pc' := 10) (by omega) (by omega) d_X_replyChildren_7 (by decide) rfl (fun hc7 => ?_) (fun hc7 => ?_)
    · exact absurd hc7 (by omega)
    · refine cn_aload_n (pc' := 11) (k := 0) rfl rfl d_X_replyChildren_10 rfl ?_
      refine cn_getP (pc' := 14) (b := 1) hw.2.1.1 fl_X_11 hw.1 rfl d_X_replyChildren_11 rfl ?_
      refine cn_iload_n (pc' := 15) (k := 2) rfl rfl d_X_replyChildren_14 rfl ?_
      refine cn_aald (pc' := 16) (b := (23 + 3 * i)) hw.2.2.1.1 (by decide) (by decide) rfl (by omega) (by decide) (hw.nd (i := i) (by omega)).1 d_X_replyChildren_15 rfl ?_
      refine cn_getIv (pc' := 19) (v := (ns.getD i nd0).1) (hN.2.1 i (by omega)).1 fl_X_222 (hw.nd (i := i) (by omega)).2.1 rfl d_X_replyChildren_16 rfl ?_
      refine cn_iload_n (pc' := 20) (k := 1) rfl rfl d_X_replyChildren_19 rfl ?_
      refine cn_icmp_ne (tgt := 28) (pc' := 23) d_X_replyChildren_20 (by decide) rfl (fun hc20 => ?_) (fun hc20 => ?_)
      · refine cn_iinc_n (pc' := 31) (lv' := [(0, .ref 0), (1, .int (nI (k))), (2, .int (nI (i + 1)))]) (k := 2) [1, 2, 0] rfl (Nat.le_of_ble_eq_true rfl) rfl d_X_replyChildren_28 rfl ?_
        refine cn_goto (tgt := 2) d_X_replyChildren_31 (by decide) ?_
        refine ih (i + 1) I (by omega) hN h01 ?_ hf
        rw [kid_n hc20]
        exact hy
      · refine cn_aload_n (pc' := 24) (k := 0) rfl rfl d_X_replyChildren_23 rfl ?_
        refine cn_iload_n (pc' := 25) (k := 2) rfl rfl d_X_replyChildren_24 rfl ?_
        refine cn_callV (pc' := 28) (kc1 := 0) (ks1 := 0) (kc2 := 0) (ks2 := 0) (rest := []) (lvj := [(0, .ref 0), (1, .int (nI (i)))]) [.int (nI (i))] mv_X_225 hw.1 rfl rfl rfl (Nat.le_of_ble_eq_true rfl) (Nat.le_of_ble_eq_true rfl) (by omega) (by omega) (by omega) d_X_replyChildren_25 rfl ?_
        refine c_X_replyName (c := (kid ns k i).length) (t := kfl (kid ns k i)) hw hy (by omega) (by rw [kfl_len]; omega) (by omega) (fun I1 hy1 hf1 => ?_)
        show cn_V l en mi_X_replyChildren d 0 0 S I1 P Q 28 [(0, .ref 0), (1, .int (nI (k))), (2, .int (nI (i)))] []
        refine cn_iinc_n (pc' := 31) (lv' := [(0, .ref 0), (1, .int (nI (k))), (2, .int (nI (i + 1)))]) (k := 2) [1, 2, 0] rfl (Nat.le_of_ble_eq_true rfl) rfl d_X_replyChildren_28 rfl ?_
        refine cn_goto (tgt := 2) d_X_replyChildren_31 (by decide) ?_
        refine ih (i + 1) I1 (by omega) (hN.congr (fun a x1 x2 => hf1 a (by omega) (by omega))) (by rw [hf1 0 (by omega) (by omega)]; exact h01) ?_ (hf.tr hf1)
        rw [kid_y hc20, kfl_app, List.length_append]
        rw [nI_255 (by omega)] at hy1
        exact hy1
theorem c_X_replyChildren {k : Nat} {up : Int32} (hup : ¬ up = nI 1) (hw : wX S P) (hN : rN I ns) (h01 : I 0 1 = nI ns.length) (hy : ys I 18 [nI 0, nI 0]) (hd1 : 2 ≤ d) (K : ∀ I', ys I' 18 (nI 0 :: brw ns k up) → fr2 I I' 18 → Q none S I' P) : cn_V l en mi_X_replyChildren d 0 0 S I P Q 0 [(0, .ref 0), (1, .int (nI k))] [] := by
  have e : brw ns k up = nI (kid ns k ns.length).length :: kfl (kid ns k ns.length) := by unfold brw; rw [if_neg hup]; rfl
  rw [e] at K
  refine cn_iconst (pc' := 1) k_c_0 d_X_replyChildren_0 rfl ?_
  refine cn_istore_n (pc' := 2) (lv' := [(0, .ref 0), (1, .int (nI (k))), (2, .int (nI (0)))]) rfl [1, 2, 0] (Nat.le_of_ble_eq_true rfl) rfl d_X_replyChildren_1 rfl ?_
  exact c_X_replyChildren_loop hw hN.1 hd1 I K ns.length 0 I (by omega) hN h01 hy fr2.rf
theorem c_X_serveBrowse {g : List Int32} (h : RC S I P (ns, xs, (ps, pn), ch, (rq, [nI 0]))) (hr : rd I 15 g 1 true) (hd1 : 4 ≤ d) (K : ∀ (I' : cn_I) (P' : cn_P), RC S I' P' ((sp_browse (ns, xs, (ps, pn)) g).2.2.1, (sp_browse (ns, xs, (ps, pn)) g).2.2.2.1, (sp_browse (ns, xs, (ps, pn)) g).2.2.2.2, ch, (rq, nI 0 :: (sp_browse (ns, xs, (ps, pn)) g).2.1)) → frX I I' P P' → Q (some (.int (sp_browse (ns, xs, (ps, pn)) g).1)) S I' P') : cn_V l en mi_X_serveBrowse d 0 0 S I P Q 0 [(0, .ref 0), (1, .ref 15)] [] := by
  have h9 := h
  obtain ⟨hw, hX, hN, hI, hS, hC, hR, hV⟩ := h
  have hX : rX I ns.length xs.length rq := hX
  have hN : rN I ns := hN
  have hI : rI I P xs := hI
  have hS : rS I P ps pn := hS
  have hC : chs I 14 ch := hC
  have hR : rR I [nI 0] := hR
  have h01 := hX.1
  have hl16 := hN.1
  have hl6 := hI.1
  obtain ⟨⟨π, hk⟩, hpn⟩ := hS
  have hl3 := hk.2.1
  refine cn_aload_n (pc' := 1) (k := 1) rfl rfl d_X_serveBrowse_0 rfl ?_
  refine cn_callV (pc' := 4) (kc1 := 0) (ks1 := 0) (kc2 := 0) (ks2 := 0) (rest := []) (lvj := [(0, .ref 15)]) [] mv_X_202 hw.me.1 rfl rfl rfl (Nat.le_of_ble_eq_true rfl) (Nat.le_of_ble_eq_true rfl) (by omega) (by omega) (by omega) d_X_serveBrowse_1 rfl ?_
  refine c_Me_readName hw.me hr (by omega) (fun I1 hr1 hf1 => ?_)
  have hr1 : rd I1 15 g (p1 g) (w1 g) := hr1
  show cn_V l en mi_X_serveBrowse d 0 0 S I1 P Q 4 [(0, .ref 0), (1, .ref 15)] [.int (rnm g 1)]
  refine cn_istore_n (pc' := 5) (lv' := [(0, .ref 0), (1, .ref 15), (2, .int (rnm g 1))]) rfl [1, 2, 0] (Nat.le_of_ble_eq_true rfl) rfl d_X_serveBrowse_4 rfl ?_
  refine cn_aload_n (pc' := 6) (k := 1) rfl rfl d_X_serveBrowse_5 rfl ?_
  refine cn_callV (pc' := 9) (kc1 := 0) (ks1 := 0) (kc2 := 0) (ks2 := 0) (rest := []) (lvj := [(0, .ref 15)]) [] mv_X_181 hw.me.1 rfl rfl rfl (Nat.le_of_ble_eq_true rfl) (Nat.le_of_ble_eq_true rfl) (by omega) (by omega) (by omega) d_X_serveBrowse_6 rfl ?_
  refine c_Me_readByte hw.me hr1 (fun I2 hr2 hf2 => ?_)
  have hf12 : fr1 I I2 15 := hf1.tr hf2
  show cn_V l en mi_X_serveBrowse d 0 0 S I2 P Q 9 [(0, .ref 0), (1, .ref 15), (2, .int (rnm g 1))] [.int (g.getD (p1 g) 0)]
  refine cn_istore_n (pc' := 10) (lv' := [(0, .ref 0), (1, .ref 15), (2, .int (rnm g 1)), (3, .int (g.getD (p1 g) 0))]) rfl [1, 2, 3, 0] (Nat.le_of_ble_eq_true rfl) rfl d_X_serveBrowse_9 rfl ?_
  refine cn_aload_n (pc' := 11) (k := 1) rfl rfl d_X_serveBrowse_10 rfl ?_
  refine cn_callV (pc' := 14) (kc1 := 0) (ks1 := 0) (kc2 := 0) (ks2 := 0) (rest := []) (lvj := [(0, .ref 15)]) [] mv_X_205 hw.me.1 rfl rfl rfl (Nat.le_of_ble_eq_true rfl) (Nat.le_of_ble_eq_true rfl) (by omega) (by omega) (by omega) d_X_serveBrowse_11 rfl ?_
  refine c_Me_isReadWhole hw.me hr2 (by omega) ?_
  have hwb := tn_le (whl g (rp g (p1 g) 1) (rw_ g (p1 g) 1 (w1 g)))
  show cn_V l en mi_X_serveBrowse d 0 0 S I2 P Q 14 [(0, .ref 0), (1, .ref 15), (2, .int (rnm g 1)), (3, .int (g.getD (p1 g) 0))] [.int (nI ((whl g (rp g (p1 g) 1) (rw_ g (p1 g) 1 (w1 g))).toNat))]
  refine cn_if_eq_n (tgt := 22) (pc' := 17) (by omega) d_X_serveBrowse_14 (by decide) rfl (fun hc14 => ?_) (fun hc14 => ?_)
  · refine cn_iconst (pc' := 23) k_c_1 d_X_serveBrowse_22 rfl ?_
    refine cn_iret rfl d_X_serveBrowse_23 ?_
    have e : sp_browse (ns, xs, (ps, pn)) g = (nI 1, [], ns, xs, (ps, pn)) := by unfold sp_browse; rw [if_neg (fun h9 => absurd h9.1 (by rw [tn_0 hc14]; decide))]
    rw [e] at K
    exact K I2 P (h9.row15 hf12) (frX.f1 hf12 (by decide))
  · refine cn_iload_n (pc' := 18) (k := 3) rfl rfl d_X_serveBrowse_17 rfl ?_
    refine cn_iconst (pc' := 19) k_c_1 d_X_serveBrowse_18 rfl ?_
    refine cn_icmp_le (tgt := 24) (pc' := 22) d_X_serveBrowse_19 (by decide) rfl (fun hc19 => ?_) (fun hc19 => ?_)
    · refine cn_aload_n (pc' := 25) (k := 0) rfl rfl d_X_serveBrowse_24 rfl ?_
      refine cn_iload_n (pc' := 26) (k := 2) rfl rfl d_X_serveBrowse_25 rfl ?_
      refine cn_callV (pc' := 29) (kc1 := 0) (ks1 := 0) (kc2 := 0) (ks2 := 0) (rest := []) (lvj := [(0, .ref 0), (1, .int (rnm g 1))]) [.int (rnm g 1)] mv_X_157 hw.1 rfl rfl rfl (Nat.le_of_ble_eq_true rfl) (Nat.le_of_ble_eq_true rfl) (by omega) (by omega) (by omega) d_X_serveBrowse_26 rfl ?_
      refine c_X_isNode (ns := ns) hw (by rw [hf12 0 (by omega)]; exact h01) (by omega) (fun k hnk hkl => ?_) (fun hno => ?_)
      · rw [hnk]
        show cn_V l en mi_X_serveBrowse d 0 0 S I2 P Q 29 [(0, .ref 0), (1, .ref 15), (2, .int (nI (k))), (3, .int (g.getD (p1 g) 0))] [.int (nI (1))]
        refine cn_if_ne_n (tgt := 34) (pc' := 32) (by omega) d_X_serveBrowse_29 (by decide) rfl (fun hc29 => ?_) (fun hc29 => ?_)
        · refine cn_aload_n (pc' := 35) (k := 0) rfl rfl d_X_serveBrowse_34 rfl ?_
          refine cn_getP (pc' := 38) (b := 18) hw.2.1.2.2.2.2.1 fl_X_40 hw.1 rfl d_X_serveBrowse_35 rfl ?_
          refine cn_iconst (pc' := 39) k_c_0 d_X_serveBrowse_38 rfl ?_
          refine cn_callV (pc' := 42) (kc1 := 0) (ks1 := 0) (kc2 := 0) (ks2 := 0) (rest := []) (lvj := [(0, .ref 18), (1, .int (nI (0)))]) [.int (nI (0))] mv_X_92 hw.re.1 rfl rfl rfl (Nat.le_of_ble_eq_true rfl) (Nat.le_of_ble_eq_true rfl) (by omega) (by omega) (by omega) d_X_serveBrowse_39 rfl ?_
          refine c_By_add (b := 18) (cap := 195) hw.re (hR.1.keep1 hf12 (by omega) (by omega)) hR.2 (fun I3 hy3 hf3 => ?_)
          have hy3 : ys I3 18 [nI 0, nI 0] := hy3
          show cn_V l en mi_X_serveBrowse d 0 0 S I3 P Q 42 [(0, .ref 0), (1, .ref 15), (2, .int (nI (k))), (3, .int (g.getD (p1 g) 0))] []
          refine cn_iload_n (pc' := 43) (k := 3) rfl rfl d_X_serveBrowse_42 rfl ?_
          refine cn_iconst (pc' := 44) k_c_1 d_X_serveBrowse_43 rfl ?_
          refine cn_icmp_ne (tgt := 55) (pc' := 47) d_X_serveBrowse_44 (by decide) rfl (fun hc44 => ?_) (fun hc44 => ?_)
          · refine cn_aload_n (pc' := 56) (k := 0) rfl rfl d_X_serveBrowse_55 rfl ?_
            refine cn_iload_n (pc' := 57) (k := 2) rfl rfl d_X_serveBrowse_56 rfl ?_
            refine cn_callV (pc' := 60) (kc1 := 0) (ks1 := 0) (kc2 := 0) (ks2 := 0) (rest := []) (lvj := [(0, .ref 0), (1, .int (nI (k)))]) [.int (nI (k))] mv_X_219 hw.1 rfl rfl rfl (Nat.le_of_ble_eq_true rfl) (Nat.le_of_ble_eq_true rfl) (by omega) (by omega) (by omega) d_X_serveBrowse_57 rfl ?_
            have hN3 : rN I3 ns := (hN.congr (fun a x1 x2 => hf12 a (by omega))).congr (fun a x1 x2 => hf3 a (by omega) (by omega))
            refine c_X_replyChildren (up := g.getD (p1 g) 0) hc44 hw hN3 (by rw [hf3 0 (by omega) (by omega), hf12 0 (by omega)]; exact h01) hy3 (by omega) (fun I4 hy4 hf4 => ?_)
            show cn_V l en mi_X_serveBrowse d 0 0 S I4 P Q 60 [(0, .ref 0), (1, .ref 15), (2, .int (nI (k))), (3, .int (g.getD (p1 g) 0))] []
            refine cn_iconst (pc' := 61) k_c_0 d_X_serveBrowse_60 rfl ?_
            refine cn_iret rfl d_X_serveBrowse_61 ?_
            have e : sp_browse (ns, xs, (ps, pn)) g = (nI 0, brw ns k (g.getD (p1 g) 0), ns, xs, (ps, pn)) := by unfold sp_browse; rw [if_pos ⟨tn_1 hc14, Int32.not_lt.mpr hc19⟩, hnk, ndx_some hkl (by omega)]
            rw [e] at K
            refine K I4 P ((h9.row15 hf12).reply (hf3.tr hf4) hy4 ?_) ((frX.f1 hf12 (by decide)).tr (frX.f2 (hf3.tr hf4) (by decide)))
            have hbl := brw_len hl16 k (g.getD (p1 g) 0)
            show (brw ns k (g.getD (p1 g) 0)).length + 1 ≤ 195
            omega
          · refine cn_aload_n (pc' := 48) (k := 0) rfl rfl d_X_serveBrowse_47 rfl ?_
            refine cn_iload_n (pc' := 49) (k := 2) rfl rfl d_X_serveBrowse_48 rfl ?_
            refine cn_callV (pc' := 52) (kc1 := 0) (ks1 := 0) (kc2 := 0) (ks2 := 0) (rest := []) (lvj := [(0, .ref 0), (1, .int (nI (k)))]) [.int (nI (k))] mv_X_216 hw.1 rfl rfl rfl (Nat.le_of_ble_eq_true rfl) (Nat.le_of_ble_eq_true rfl) (by omega) (by omega) (by omega) d_X_serveBrowse_49 rfl ?_
            have hN3 : rN I3 ns := (hN.congr (fun a x1 x2 => hf12 a (by omega))).congr (fun a x1 x2 => hf3 a (by omega) (by omega))
            refine c_X_replyParent hw hN3 hkl hy3 (by omega) (fun I4 hy4 hf4 => ?_)
            show cn_V l en mi_X_serveBrowse d 0 0 S I4 P Q 52 [(0, .ref 0), (1, .ref 15), (2, .int (nI (k))), (3, .int (g.getD (p1 g) 0))] []
            refine cn_goto (tgt := 60) d_X_serveBrowse_52 (by decide) ?_
            refine cn_iconst (pc' := 61) k_c_0 d_X_serveBrowse_60 rfl ?_
            refine cn_iret rfl d_X_serveBrowse_61 ?_
            rw [← hc44] at hy4
            have e : sp_browse (ns, xs, (ps, pn)) g = (nI 0, brw ns k (g.getD (p1 g) 0), ns, xs, (ps, pn)) := by unfold sp_browse; rw [if_pos ⟨tn_1 hc14, Int32.not_lt.mpr hc19⟩, hnk, ndx_some hkl (by omega)]
            rw [e] at K
            refine K I4 P ((h9.row15 hf12).reply (hf3.tr hf4) hy4 ?_) ((frX.f1 hf12 (by decide)).tr (frX.f2 (hf3.tr hf4) (by decide)))
            have hbl := brw_len hl16 k (g.getD (p1 g) 0)
            show (brw ns k (g.getD (p1 g) 0)).length + 1 ≤ 195
            omega
        · exact False.elim (by omega)
      · show cn_V l en mi_X_serveBrowse d 0 0 S I2 P Q 29 [(0, .ref 0), (1, .ref 15), (2, .int (rnm g 1)), (3, .int (g.getD (p1 g) 0))] [.int (nI (0))]
        refine cn_if_ne_n (tgt := 34) (pc' := 32) (by omega) d_X_serveBrowse_29 (by decide) rfl (fun hc29 => ?_) (fun hc29 => ?_)
        · exact False.elim (by omega)
        · refine cn_iconst (pc' := 33) k_c_3 d_X_serveBrowse_32 rfl ?_
          refine cn_iret rfl d_X_serveBrowse_33 ?_
          have e : sp_browse (ns, xs, (ps, pn)) g = (nI 3, [], ns, xs, (ps, pn)) := by unfold sp_browse; rw [if_pos ⟨tn_1 hc14, Int32.not_lt.mpr hc19⟩, hno]
          rw [e] at K
          exact K I2 P (h9.row15 hf12) (frX.f1 hf12 (by decide))
    · refine cn_iconst (pc' := 23) k_c_1 d_X_serveBrowse_22 rfl ?_
      refine cn_iret rfl d_X_serveBrowse_23 ?_
      have e : sp_browse (ns, xs, (ps, pn)) g = (nI 1, [], ns, xs, (ps, pn)) := by unfold sp_browse; rw [if_neg (fun h9 => h9.2 (Int32.not_le.mp hc19))]
      rw [e] at K
      exact K I2 P (h9.row15 hf12) (frX.f1 hf12 (by decide))
end
