theorem wX.sf {S : cn_S} {P : cn_P} (h : wX S P) : yh S P 3 := h.2.2.2.2.1
theorem wX.ch {S : cn_S} {P : cn_P} (h : wX S P) : yc S P 14 := h.2.2.2.2.2.1
theorem wX.re {S : cn_S} {P : cn_P} (h : wX S P) : yb S P 18 195 := h.2.2.2.2.2.2.1
theorem wX.ic {S : cn_S} {P : cn_P} (h : wX S P) : yb S P 20 61 := h.2.2.2.2.2.2.2.1
theorem wX.ak {S : cn_S} {P : cn_P} (h : wX S P) : cn_ar S 22 0 4 := h.2.2.2.2.2.2.2.2
theorem wX.me {S : cn_S} {P : cn_P} (h : wX S P) : ym S P 15 := h.ch.2.2
theorem wX.nd {S : cn_S} {P : cn_P} (h : wX S P) {i : Nat} (hi : i < 16) : P 1 i = some (23 + 3 * i) ∧ yn S P (23 + 3 * i) := h.2.2.1.2 i hi
theorem wX.nv {S : cn_S} {P : cn_P} (h : wX S P) {i : Nat} (hi : i < 16) : P (23 + 3 * i) 2 = some (24 + 3 * i) ∧ yb S P (24 + 3 * i) 61 := by
  obtain ⟨-, h1, h2, h3⟩ := h.nd hi
  rw [show 24 + 3 * i = 23 + 3 * i + 1 by omega]
  exact ⟨h2, h3⟩
theorem wX.it {S : cn_S} {P : cn_P} (h : wX S P) {i : Nat} (hi : i < 6) : P 2 i = some (71 + 14 * i) ∧ yi S P (71 + 14 * i) := h.2.2.2.1.2 i hi
theorem ndx_some {ns : List sNode} {j : Nat} (h : j < ns.length) (hj : j < 2 ^ 31) : ndx ns (nI j) = some j := by
  unfold ndx
  rw [if_neg (nI_pos hj), nI_clamp hj, if_pos h]
theorem ndx_ge {ns : List sNode} {j : Nat} (h : ns.length ≤ j) (hj : j < 2 ^ 31) : ndx ns (nI j) = none := by
  unfold ndx
  rw [if_neg (nI_pos hj), nI_clamp hj, if_neg (by omega)]
theorem ndx_neg {ns : List sNode} {n : Int32} (h : n < 0) : ndx ns n = none := if_pos h
theorem vdx_some {ns : List sNode} {k : Nat} (h : k < ns.length) (hk : k < 2 ^ 31) (hv : isv ns k = true) : vdx ns (nI k) = some k := by
  unfold vdx; rw [ndx_some h hk]; dsimp only; rw [if_pos hv]
theorem vdx_none {ns : List sNode} {k : Nat} (h : k < ns.length) (hk : k < 2 ^ 31) (hn : vdx ns (nI k) = none) : ¬ isv ns k = true := by
  intro hv
  rw [vdx_some h hk hv] at hn
  cases hn
theorem vcode_3 {ns : List sNode} {n : Int32} (h : ndx ns n = none) : vcode ns n = nI 3 := by unfold vcode; rw [h]
theorem vcode_0 {ns : List sNode} {k : Nat} (h : k < ns.length) (hk : k < 2 ^ 31) (hv : isv ns k = true) : vcode ns (nI k) = nI 0 := by
  unfold vcode; rw [ndx_some h hk]; dsimp only; rw [if_pos hv]
theorem vcode_4 {ns : List sNode} {k : Nat} (h : k < ns.length) (hk : k < 2 ^ 31) (hv : ¬ isv ns k = true) : vcode ns (nI k) = nI 4 := by
  unfold vcode; rw [ndx_some h hk]; dsimp only; rw [if_neg hv]
theorem nd_l {v w : List sNode} {j : Nat} (h : j < v.length) : (v ++ w).getD j nd0 = v.getD j nd0 := by
  rw [List.getD_eq_getElem?_getD, List.getD_eq_getElem?_getD, List.getElem?_append_left h]
theorem nd_last (v : List sNode) (a : sNode) : (v ++ [a]).getD v.length nd0 = a := by
  rw [List.getD_eq_getElem?_getD, List.getElem?_append_right (Nat.le_refl _), Nat.sub_self]; rfl
theorem rN_push {I I' : cn_I} {ns : List sNode} {par t : Int32} {v : List Int32} (h : rN I ns) (h16 : ns.length < 16) (h0 : I' (23 + 3 * ns.length) 0 = par) (h1 : I' (23 + 3 * ns.length) 1 = t) (hy : ys I' (24 + 3 * ns.length) v) (hv : v.length ≤ 61) (hf : ∀ a, 23 ≤ a → a < 71 → a ≠ 23 + 3 * ns.length → a ≠ 24 + 3 * ns.length → a ≠ 25 + 3 * ns.length → I' a = I a) : rN I' (ns ++ [(par, t, v)]) := by
  refine ⟨by rw [List.length_append]; exact h16, fun i hi => ?_, fun i h2 h3 => ?_⟩
  · rw [List.length_append] at hi
    have hi : i < ns.length + 1 := hi
    by_cases e : i = ns.length
    · subst e
      rw [nd_last]
      exact ⟨h0, h1, hy, hv⟩
    · have hl : i < ns.length := by omega
      rw [nd_l hl]
      obtain ⟨a1, a2, a3, a4⟩ := h.2.1 i hl
      exact ⟨by rw [hf _ (by omega) (by omega) (by omega) (by omega) (by omega)]; exact a1, by rw [hf _ (by omega) (by omega) (by omega) (by omega) (by omega)]; exact a2, a3.congr (hf _ (by omega) (by omega) (by omega) (by omega) (by omega)) (hf _ (by omega) (by omega) (by omega) (by omega) (by omega)), a4⟩
  · rw [List.length_append] at h2
    have h2 : ns.length + 1 ≤ i := h2
    exact (h.2.2 i (by omega) h3).congr (hf _ (by omega) (by omega) (by omega) (by omega) (by omega)) (hf _ (by omega) (by omega) (by omega) (by omega) (by omega))
theorem sv0_len (t : Int32) : (sv0 t).length ≤ 61 := by
  unfold sv0
  repeat' split
  all_goals simp [lbs_len]
section
variable {l : Launch} {en : cn_E} {d : Nat} {S : cn_S} {I : cn_I} {P : cn_P} {Q : Option Value → cn_S → cn_I → cn_P → Prop}
variable {ns : List sNode} {xs : List sItem}
theorem c_X_isVariableType {t : Int32} (K : Q (some (.int (nI (isT t).toNat))) S I P) : cn_V l en mi_X_isVariableType d 0 0 S I P Q 0 [(0, .int t)] [] := by
  refine cn_iload_n (pc' := 1) (k := 0) rfl rfl d_X_isVariableType_0 rfl ?_
  refine cn_if_eq (tgt := 27) (pc' := 4) d_X_isVariableType_1 (by decide) rfl (fun hc1 => ?_) (fun hc1 => ?_)
  · have hz : t = nI 0 := hc1
    refine cn_iconst (pc' := 28) k_c_1 d_X_isVariableType_27 rfl ?_
    refine cn_goto (tgt := 32) d_X_isVariableType_28 (by decide) ?_
    refine cn_zret rfl (Or.inr rfl) d_X_isVariableType_32 ?_
    have e : (isT t).toNat = 1 := by unfold isT; simp [hz]
    rw [e] at K; exact K
  · have hz : ¬ t = nI 0 := hc1
    refine cn_iload_n (pc' := 5) (k := 0) rfl rfl d_X_isVariableType_4 rfl ?_
    refine cn_iconst (pc' := 6) k_c_1 d_X_isVariableType_5 rfl ?_
    refine cn_icmp_eq (tgt := 27) (pc' := 9) d_X_isVariableType_6 (by decide) rfl (fun hc6 => ?_) (fun hc6 => ?_)
    · refine cn_iconst (pc' := 28) k_c_1 d_X_isVariableType_27 rfl ?_
      refine cn_goto (tgt := 32) d_X_isVariableType_28 (by decide) ?_
      refine cn_zret rfl (Or.inr rfl) d_X_isVariableType_32 ?_
      have e : (isT t).toNat = 1 := by unfold isT; simp [hz, hc6]
      rw [e] at K; exact K
    · refine cn_iload_n (pc' := 10) (k := 0) rfl rfl d_X_isVariableType_9 rfl ?_
      refine cn_bipush (pc' := 12) k_b_6 d_X_isVariableType_10 rfl ?_
      refine cn_icmp_eq (tgt := 27) (pc' := 15) d_X_isVariableType_12 (by decide) rfl (fun hc12 => ?_) (fun hc12 => ?_)
      · refine cn_iconst (pc' := 28) k_c_1 d_X_isVariableType_27 rfl ?_
        refine cn_goto (tgt := 32) d_X_isVariableType_28 (by decide) ?_
        refine cn_zret rfl (Or.inr rfl) d_X_isVariableType_32 ?_
        have e : (isT t).toNat = 1 := by unfold isT; simp [hz, hc6, hc12]
        rw [e] at K; exact K
      · refine cn_iload_n (pc' := 16) (k := 0) rfl rfl d_X_isVariableType_15 rfl ?_
        refine cn_bipush (pc' := 18) k_b_8 d_X_isVariableType_16 rfl ?_
        refine cn_icmp_eq (tgt := 27) (pc' := 21) d_X_isVariableType_18 (by decide) rfl (fun hc18 => ?_) (fun hc18 => ?_)
        · refine cn_iconst (pc' := 28) k_c_1 d_X_isVariableType_27 rfl ?_
          refine cn_goto (tgt := 32) d_X_isVariableType_28 (by decide) ?_
          refine cn_zret rfl (Or.inr rfl) d_X_isVariableType_32 ?_
          have e : (isT t).toNat = 1 := by unfold isT; simp [hz, hc6, hc12, hc18]
          rw [e] at K; exact K
        · refine cn_iload_n (pc' := 22) (k := 0) rfl rfl d_X_isVariableType_21 rfl ?_
          refine cn_bipush (pc' := 24) k_b_12 d_X_isVariableType_22 rfl ?_
          refine cn_icmp_ne (tgt := 31) (pc' := 27) d_X_isVariableType_24 (by decide) rfl (fun hc24 => ?_) (fun hc24 => ?_)
          · refine cn_iconst (pc' := 32) k_c_0 d_X_isVariableType_31 rfl ?_
            refine cn_zret rfl (Or.inl rfl) d_X_isVariableType_32 ?_
            have e : (isT t).toNat = 0 := by unfold isT; simp [hz, hc6, hc12, hc18, hc24]
            rw [e] at K; exact K
          · refine cn_iconst (pc' := 28) k_c_1 d_X_isVariableType_27 rfl ?_
            refine cn_goto (tgt := 32) d_X_isVariableType_28 (by decide) ?_
            refine cn_zret rfl (Or.inr rfl) d_X_isVariableType_32 ?_
            have e : (isT t).toNat = 1 := by unfold isT; simp [hz, hc6, hc12, hc18, hc24]
            rw [e] at K; exact K
theorem c_X_isNode {n : Int32} (hw : wX S P) (h01 : I 0 1 = nI ns.length) (hl : ns.length ≤ 16) (K1 : ∀ k, n = nI k → k < ns.length → Q (some (.int (nI 1))) S I P) (K0 : ndx ns n = none → Q (some (.int (nI 0))) S I P) : cn_V l en mi_X_isNode d 0 0 S I P Q 0 [(0, .ref 0), (1, .int n)] [] := by
  refine cn_iload_n (pc' := 1) (k := 1) rfl rfl d_X_isNode_0 rfl ?_
  refine cn_if_lt (tgt := 16) (pc' := 4) d_X_isNode_1 (by decide) rfl (fun hc1 => ?_) (fun hc1 => ?_)
  · refine cn_iconst (pc' := 17) k_c_0 d_X_isNode_16 rfl ?_
    refine cn_zret rfl (Or.inl rfl) d_X_isNode_17 ?_
    exact K0 (ndx_neg hc1)
  · obtain ⟨j, hj, rfl⟩ := nI_of hc1
    refine cn_iload_n (pc' := 5) (k := 1) rfl rfl d_X_isNode_4 rfl ?_
    refine cn_aload_n (pc' := 6) (k := 0) rfl rfl d_X_isNode_5 rfl ?_
    refine cn_getIv (pc' := 9) (v := nI (ns.length)) h01 fl_X_57 hw.1 rfl d_X_isNode_6 rfl ?_
    refine cn_icmp_ge_n (tgt := 16) (pc' := 12) (by omega) (by omega) d_X_isNode_9 (by decide) rfl (fun hc9 => ?_) (fun hc9 => ?_)
    · refine cn_iconst (pc' := 17) k_c_0 d_X_isNode_16 rfl ?_
      refine cn_zret rfl (Or.inl rfl) d_X_isNode_17 ?_
      exact K0 (ndx_ge (by omega) hj)
    · refine cn_iconst (pc' := 13) k_c_1 d_X_isNode_12 rfl ?_
      refine cn_goto (tgt := 17) d_X_isNode_13 (by decide) ?_
      refine cn_zret rfl (Or.inr rfl) d_X_isNode_17 ?_
      exact K1 j rfl (by omega)
theorem c_X_isVariable {n : Int32} (hw : wX S P) (h01 : I 0 1 = nI ns.length) (hN : rN I ns) (hd1 : 1 ≤ d) (K1 : ∀ k, n = nI k → k < ns.length → isv ns k = true → Q (some (.int (nI 1))) S I P) (K0 : vdx ns n = none → Q (some (.int (nI 0))) S I P) : cn_V l en mi_X_isVariable d 0 0 S I P Q 0 [(0, .ref 0), (1, .int n)] [] := by
  have hl := hN.1
  refine cn_aload_n (pc' := 1) (k := 0) rfl rfl d_X_isVariable_0 rfl ?_
  refine cn_iload_n (pc' := 2) (k := 1) rfl rfl d_X_isVariable_1 rfl ?_
  refine cn_callV (pc' := 5) (kc1 := 0) (ks1 := 0) (kc2 := 0) (ks2 := 0) (rest := []) (lvj := [(0, .ref 0), (1, .int (n))]) [.int (n)] mv_X_157 hw.1 rfl rfl rfl (Nat.le_of_ble_eq_true rfl) (Nat.le_of_ble_eq_true rfl) (by omega) (by omega) (by omega) d_X_isVariable_2 rfl ?_
  refine c_X_isNode (ns := ns) hw h01 (by omega) (fun k hnk hkl => ?_) (fun hno => ?_)
  · subst hnk
    show cn_V l en mi_X_isVariable d 0 0 S I P Q 5 [(0, .ref 0), (1, .int (nI (k)))] [.int (nI (1))]
    refine cn_if_eq_n (tgt := 25) (pc' := 8) (by omega) d_X_isVariable_5 (by decide) rfl (fun hc5 => ?_) (fun hc5 => ?_)
    · exact False.elim (by omega)
    · refine cn_aload_n (pc' := 9) (k := 0) rfl rfl d_X_isVariable_8 rfl ?_
      refine cn_getP (pc' := 12) (b := 1) hw.2.1.1 fl_X_11 hw.1 rfl d_X_isVariable_9 rfl ?_
      refine cn_iload_n (pc' := 13) (k := 1) rfl rfl d_X_isVariable_12 rfl ?_
      refine cn_aald (pc' := 14) (b := (23 + 3 * k)) hw.2.2.1.1 (by decide) (by decide) rfl (by omega) (by decide) (hw.nd (i := k) (by omega)).1 d_X_isVariable_13 rfl ?_
      refine cn_getIv (pc' := 17) (v := (ns.getD k nd0).2.1) (hN.2.1 k (by omega)).2.1 fl_X_89 (hw.nd (i := k) (by omega)).2.1 rfl d_X_isVariable_14 rfl ?_
      refine cn_iconst (pc' := 18) k_c_m1 d_X_isVariable_17 rfl ?_
      refine cn_icmp_eq (tgt := 25) (pc' := 21) d_X_isVariable_18 (by decide) rfl (fun hc18 => ?_) (fun hc18 => ?_)
      · refine cn_iconst (pc' := 26) k_c_0 d_X_isVariable_25 rfl ?_
        refine cn_zret rfl (Or.inl rfl) d_X_isVariable_26 ?_
        exact K0 (by unfold vdx; rw [ndx_some hkl (by omega)]; dsimp only; rw [if_neg (by unfold isv; rw [decide_eq_false (fun h => h hc18)]; decide)])
      · refine cn_iconst (pc' := 22) k_c_1 d_X_isVariable_21 rfl ?_
        refine cn_goto (tgt := 26) d_X_isVariable_22 (by decide) ?_
        refine cn_zret rfl (Or.inr rfl) d_X_isVariable_26 ?_
        exact K1 k rfl hkl (by unfold isv; exact decide_eq_true hc18)
  · show cn_V l en mi_X_isVariable d 0 0 S I P Q 5 [(0, .ref 0), (1, .int (n))] [.int (nI (0))]
    refine cn_if_eq_n (tgt := 25) (pc' := 8) (by omega) d_X_isVariable_5 (by decide) rfl (fun hc5 => ?_) (fun hc5 => ?_)
    · refine cn_iconst (pc' := 26) k_c_0 d_X_isVariable_25 rfl ?_
      refine cn_zret rfl (Or.inl rfl) d_X_isVariable_26 ?_
      exact K0 (by unfold vdx; rw [hno])
    · exact False.elim (by omega)
theorem c_X_checkVariable {n : Int32} (hw : wX S P) (h01 : I 0 1 = nI ns.length) (hN : rN I ns) (hd1 : 2 ≤ d) (K : Q (some (.int (vcode ns n))) S I P) : cn_V l en mi_X_checkVariable d 0 0 S I P Q 0 [(0, .ref 0), (1, .int n)] [] := by
  have hl := hN.1
  refine cn_aload_n (pc' := 1) (k := 0) rfl rfl d_X_checkVariable_0 rfl ?_
  refine cn_iload_n (pc' := 2) (k := 1) rfl rfl d_X_checkVariable_1 rfl ?_
  refine cn_callV (pc' := 5) (kc1 := 0) (ks1 := 0) (kc2 := 0) (ks2 := 0) (rest := []) (lvj := [(0, .ref 0), (1, .int (n))]) [.int (n)] mv_X_157 hw.1 rfl rfl rfl (Nat.le_of_ble_eq_true rfl) (Nat.le_of_ble_eq_true rfl) (by omega) (by omega) (by omega) d_X_checkVariable_2 rfl ?_
  refine c_X_isNode (ns := ns) hw h01 (by omega) (fun k hnk hkl => ?_) (fun hno => ?_)
  · subst hnk
    show cn_V l en mi_X_checkVariable d 0 0 S I P Q 5 [(0, .ref 0), (1, .int (nI (k)))] [.int (nI (1))]
    refine cn_if_ne_n (tgt := 10) (pc' := 8) (by omega) d_X_checkVariable_5 (by decide) rfl (fun hc5 => ?_) (fun hc5 => ?_)
    · refine cn_aload_n (pc' := 11) (k := 0) rfl rfl d_X_checkVariable_10 rfl ?_
      refine cn_iload_n (pc' := 12) (k := 1) rfl rfl d_X_checkVariable_11 rfl ?_
      refine cn_callV (pc' := 15) (kc1 := 0) (ks1 := 0) (kc2 := 0) (ks2 := 0) (rest := []) (lvj := [(0, .ref 0), (1, .int (nI (k)))]) [.int (nI (k))] mv_X_86 hw.1 rfl rfl rfl (Nat.le_of_ble_eq_true rfl) (Nat.le_of_ble_eq_true rfl) (by omega) (by omega) (by omega) d_X_checkVariable_12 rfl ?_
      refine c_X_isVariable (ns := ns) hw h01 hN (by omega) (fun k2 hnk2 hkl2 hv => ?_) (fun hnv => ?_)
      · have hk2 : k = k2 := (nI_eq (by omega) (by omega)).mp hnk2
        subst hk2
        show cn_V l en mi_X_checkVariable d 0 0 S I P Q 15 [(0, .ref 0), (1, .int (nI (k)))] [.int (nI (1))]
        refine cn_if_eq_n (tgt := 22) (pc' := 18) (by omega) d_X_checkVariable_15 (by decide) rfl (fun hc15 => ?_) (fun hc15 => ?_)
        · exact False.elim (by omega)
        · refine cn_iconst (pc' := 19) k_c_0 d_X_checkVariable_18 rfl ?_
          refine cn_goto (tgt := 23) d_X_checkVariable_19 (by decide) ?_
          refine cn_iret rfl d_X_checkVariable_23 ?_
          rw [vcode_0 hkl (by omega) hv] at K
          exact K
      · show cn_V l en mi_X_checkVariable d 0 0 S I P Q 15 [(0, .ref 0), (1, .int (nI (k)))] [.int (nI (0))]
        refine cn_if_eq_n (tgt := 22) (pc' := 18) (by omega) d_X_checkVariable_15 (by decide) rfl (fun hc15 => ?_) (fun hc15 => ?_)
        · refine cn_iconst (pc' := 23) k_c_4 d_X_checkVariable_22 rfl ?_
          refine cn_iret rfl d_X_checkVariable_23 ?_
          rw [vcode_4 hkl (by omega) (vdx_none hkl (by omega) hnv)] at K
          exact K
        · exact False.elim (by omega)
    · exact False.elim (by omega)
  · show cn_V l en mi_X_checkVariable d 0 0 S I P Q 5 [(0, .ref 0), (1, .int (n))] [.int (nI (0))]
    refine cn_if_ne_n (tgt := 10) (pc' := 8) (by omega) d_X_checkVariable_5 (by decide) rfl (fun hc5 => ?_) (fun hc5 => ?_)
    · exact False.elim (by omega)
    · refine cn_iconst (pc' := 9) k_c_3 d_X_checkVariable_8 rfl ?_
      refine cn_iret rfl d_X_checkVariable_9 ?_
      rw [vcode_3 hno] at K
      exact K
theorem c_X_addNode {n t : Int32} (hw : wX S P) (h01 : I 0 1 = nI ns.length) (hN : rN I ns) (ht : t = -1 ∨ isT t = true) (hd1 : 3 ≤ d) (K : ∀ I', rN I' (sp_add ns n t).2 → I' 0 1 = nI (sp_add ns n t).2.length → (∀ k, k ≠ 1 → I' 0 k = I 0 k) → (∀ a, a ≠ 0 → (a < 23 ∨ 71 ≤ a) → I' a = I a) → Q (some (.int (sp_add ns n t).1)) S I' P) : cn_V l en mi_X_addNode d 0 0 S I P Q 0 [(0, .ref 0), (1, .int n), (2, .int t)] [] := by
  have hl := hN.1
  refine cn_aload_n (pc' := 1) (k := 0) rfl rfl d_X_addNode_0 rfl ?_
  refine cn_iload_n (pc' := 2) (k := 1) rfl rfl d_X_addNode_1 rfl ?_
  refine cn_callV (pc' := 5) (kc1 := 0) (ks1 := 0) (kc2 := 0) (ks2 := 0) (rest := []) (lvj := [(0, .ref 0), (1, .int (n))]) [.int (n)] mv_X_157 hw.1 rfl rfl rfl (Nat.le_of_ble_eq_true rfl) (Nat.le_of_ble_eq_true rfl) (by omega) (by omega) (by omega) d_X_addNode_2 rfl ?_
  refine c_X_isNode (ns := ns) hw h01 (by omega) (fun k hnk hkl => ?_) (fun hno => ?_)
  · subst hnk
    show cn_V l en mi_X_addNode d 0 0 S I P Q 5 [(0, .ref 0), (1, .int (nI (k))), (2, .int (t))] [.int (nI (1))]
    refine cn_if_eq_n (tgt := 25) (pc' := 8) (by omega) d_X_addNode_5 (by decide) rfl (fun hc5 => ?_) (fun hc5 => ?_)
    · exact False.elim (by omega)
    · refine cn_aload_n (pc' := 9) (k := 0) rfl rfl d_X_addNode_8 rfl ?_
      refine cn_iload_n (pc' := 10) (k := 1) rfl rfl d_X_addNode_9 rfl ?_
      refine cn_callV (pc' := 13) (kc1 := 0) (ks1 := 0) (kc2 := 0) (ks2 := 0) (rest := []) (lvj := [(0, .ref 0), (1, .int (nI (k)))]) [.int (nI (k))] mv_X_86 hw.1 rfl rfl rfl (Nat.le_of_ble_eq_true rfl) (Nat.le_of_ble_eq_true rfl) (by omega) (by omega) (by omega) d_X_addNode_10 rfl ?_
      refine c_X_isVariable (ns := ns) hw h01 hN (by omega) (fun k2 hnk2 hkl2 hv => ?_) (fun hnv => ?_)
      · have hk2 : k = k2 := (nI_eq (by omega) (by omega)).mp hnk2
        subst hk2
        show cn_V l en mi_X_addNode d 0 0 S I P Q 13 [(0, .ref 0), (1, .int (nI (k))), (2, .int (t))] [.int (nI (1))]
        refine cn_if_ne_n (tgt := 25) (pc' := 16) (by omega) d_X_addNode_13 (by decide) rfl (fun hc13 => ?_) (fun hc13 => ?_)
        · refine cn_iconst (pc' := 26) k_c_m1 d_X_addNode_25 rfl ?_
          refine cn_iret rfl d_X_addNode_26 ?_
          have e : sp_add ns (nI (k)) t = (-1, ns) := by
            unfold sp_add
            rw [ndx_some hkl (by omega)]; dsimp only; rw [if_pos (Or.inl hv)]
          rw [e] at K
          exact K I hN h01 (fun _ _ => rfl) (fun _ _ _ => rfl)
        · exact False.elim (by omega)
      · show cn_V l en mi_X_addNode d 0 0 S I P Q 13 [(0, .ref 0), (1, .int (nI (k))), (2, .int (t))] [.int (nI (0))]
        refine cn_if_ne_n (tgt := 25) (pc' := 16) (by omega) d_X_addNode_13 (by decide) rfl (fun hc13 => ?_) (fun hc13 => ?_)
        · exact False.elim (by omega)
        · refine cn_aload_n (pc' := 17) (k := 0) rfl rfl d_X_addNode_16 rfl ?_
          refine cn_getIv (pc' := 20) (v := nI (ns.length)) h01 fl_X_57 hw.1 rfl d_X_addNode_17 rfl ?_
          refine cn_bipush (pc' := 22) k_b_16 d_X_addNode_20 rfl ?_
          refine cn_icmp_ne_n (tgt := 27) (pc' := 25) (by omega) (by omega) d_X_addNode_22 (by decide) rfl (fun hc22 => ?_) (fun hc22 => ?_)
          · refine cn_aload_n (pc' := 28) (k := 0) rfl rfl d_X_addNode_27 rfl ?_
            refine cn_getP (pc' := 31) (b := 1) hw.2.1.1 fl_X_11 hw.1 rfl d_X_addNode_28 rfl ?_
            refine cn_aload_n (pc' := 32) (k := 0) rfl rfl d_X_addNode_31 rfl ?_
            refine cn_getIv (pc' := 35) (v := nI (ns.length)) h01 fl_X_57 hw.1 rfl d_X_addNode_32 rfl ?_
            refine cn_aald (pc' := 36) (b := (23 + 3 * ns.length)) hw.2.2.1.1 (by decide) (by decide) rfl (by omega) (by decide) (hw.nd (i := ns.length) (by omega)).1 d_X_addNode_35 rfl ?_
            refine cn_iload_n (pc' := 37) (k := 1) rfl rfl d_X_addNode_36 rfl ?_
            refine cn_iload_n (pc' := 38) (k := 2) rfl rfl d_X_addNode_37 rfl ?_
            refine cn_callV (pc' := 41) (kc1 := 0) (ks1 := 0) (kc2 := 0) (ks2 := 0) (rest := []) (lvj := [(0, .ref ((23 + 3 * ns.length))), (1, .int (nI (k))), (2, .int (t))]) [.int (nI (k)), .int (t)] mv_X_53 (hw.nd (i := ns.length) (by omega)).2.1 rfl rfl rfl (Nat.le_of_ble_eq_true rfl) (Nat.le_of_ble_eq_true rfl) (by omega) (by omega) (by omega) d_X_addNode_38 rfl ?_
            by_cases htf : t = -1
            · subst htf
              refine c_No_become_f (hw.nd (by omega)).2 ?_
              show cn_V l en mi_X_addNode d 0 0 S ((cn_wi (cn_wi I (23 + 3 * ns.length) 0 (nI k)) (23 + 3 * ns.length) 1 (-1))) P Q 41 [(0, .ref 0), (1, .int (nI (k))), (2, .int (-1))] []
              refine cn_aload_n (pc' := 42) (k := 0) rfl rfl d_X_addNode_41 rfl ?_
              refine cn_dup (pc' := 43) rfl d_X_addNode_42 rfl ?_
              refine cn_getIv (pc' := 46) (v := nI (ns.length)) (by rw [cn_wi_ne (by omega), cn_wi_ne (by omega)]; exact h01) fl_X_57 hw.1 rfl d_X_addNode_43 rfl ?_
              refine cn_iconst (pc' := 47) k_c_1 d_X_addNode_46 rfl ?_
              refine cn_iadd_n (pc' := 48) d_X_addNode_47 rfl ?_
              refine cn_putI (pc' := 51) fl_X_57 hw.1 rfl rfl rfl rfl d_X_addNode_48 rfl ?_
              refine cn_aload_n (pc' := 52) (k := 0) rfl rfl d_X_addNode_51 rfl ?_
              refine cn_getIv (pc' := 55) (v := nI (ns.length + 1)) (by simp [cn_wi, upd]) fl_X_57 hw.1 rfl d_X_addNode_52 rfl ?_
              refine cn_iconst (pc' := 56) k_c_1 d_X_addNode_55 rfl ?_
              refine cn_isub_n (pc' := 57) (by omega) d_X_addNode_56 rfl ?_
              refine cn_iret rfl d_X_addNode_57 ?_
              have hnv2 := vdx_none hkl (by omega) hnv
              have e : sp_add ns (nI k) (-1) = (nI ns.length, ns ++ [(nI k, -1, [])]) := by
                unfold sp_add; rw [ndx_some hkl (by omega)]; dsimp only; rw [if_neg (fun h => h.elim hnv2 hc22), if_pos rfl]
              rw [e, show nI ns.length = nI (ns.length + 1 - 1) by rw [Nat.add_sub_cancel]] at K
              refine K _ (rN_push hN (by omega) (by rw [cn_wi_ne (by omega)]; simp [cn_wi, upd]) (by rw [cn_wi_ne (by omega)]; simp [cn_wi, upd]) (ys_cong1 (ys_cong1 (ys_cong1 (hN.2.2 _ (Nat.le_refl _) (by omega)) (by omega) (by omega)) (by omega) (by omega)) (by omega) (by omega)) (Nat.zero_le _) (fun a x1 x2 x3 x4 x5 => by rw [cn_wi_ne (by omega), cn_wi_ne (by omega), cn_wi_ne (by omega)])) (by rw [List.length_append]; simp [cn_wi, upd]) (fun q hq => by rw [cn_wi_row, show upd _ 1 _ q = _ from if_neg hq, cn_wi_ne (by omega), cn_wi_ne (by omega)]) (fun a x1 x2 => by rw [cn_wi_ne x1, cn_wi_ne (by omega), cn_wi_ne (by omega)])
            · have htt := ht.resolve_left htf
              have ht5 : t = nI 0 ∨ t = nI 1 ∨ t = nI 6 ∨ t = nI 8 ∨ t = nI 12 := by unfold isT at htt; simpa [or_assoc] using htt
              refine c_No_become_v (hw.nd (i := ns.length) (by omega)).2 ht5 (by rw [show 23 + 3 * ns.length + 1 = 24 + 3 * ns.length by omega]; exact hN.2.2 _ (Nat.le_refl _) (by omega)) (by omega) (fun I1 hy1 hp1 ht1 hf1 => ?_)
              show cn_V l en mi_X_addNode d 0 0 S I1 P Q 41 [(0, .ref 0), (1, .int (nI (k))), (2, .int (t))] []
              refine cn_aload_n (pc' := 42) (k := 0) rfl rfl d_X_addNode_41 rfl ?_
              refine cn_dup (pc' := 43) rfl d_X_addNode_42 rfl ?_
              refine cn_getIv (pc' := 46) (v := nI (ns.length)) (by rw [hf1 0 (by omega) (by omega) (by omega)]; exact h01) fl_X_57 hw.1 rfl d_X_addNode_43 rfl ?_
              refine cn_iconst (pc' := 47) k_c_1 d_X_addNode_46 rfl ?_
              refine cn_iadd_n (pc' := 48) d_X_addNode_47 rfl ?_
              refine cn_putI (pc' := 51) fl_X_57 hw.1 rfl rfl rfl rfl d_X_addNode_48 rfl ?_
              refine cn_aload_n (pc' := 52) (k := 0) rfl rfl d_X_addNode_51 rfl ?_
              refine cn_getIv (pc' := 55) (v := nI (ns.length + 1)) (by simp [cn_wi, upd]) fl_X_57 hw.1 rfl d_X_addNode_52 rfl ?_
              refine cn_iconst (pc' := 56) k_c_1 d_X_addNode_55 rfl ?_
              refine cn_isub_n (pc' := 57) (by omega) d_X_addNode_56 rfl ?_
              refine cn_iret rfl d_X_addNode_57 ?_
              have hnv2 := vdx_none hkl (by omega) hnv
              have e : sp_add ns (nI k) t = (nI ns.length, ns ++ [(nI k, t, sv0 t)]) := by
                unfold sp_add; rw [ndx_some hkl (by omega)]; dsimp only; rw [if_neg (fun h => h.elim hnv2 hc22), if_neg htf]
              rw [e, show nI ns.length = nI (ns.length + 1 - 1) by rw [Nat.add_sub_cancel]] at K
              rw [show 23 + 3 * ns.length + 1 = 24 + 3 * ns.length by omega] at hy1
              refine K _ (rN_push hN (by omega) (by rw [cn_wi_ne (by omega)]; exact hp1) (by rw [cn_wi_ne (by omega)]; exact ht1) (ys_cong1 hy1 (by omega) (by omega)) (sv0_len t) (fun a x1 x2 x3 x4 x5 => by rw [cn_wi_ne (by omega)]; exact hf1 a (by omega) (by omega) (by omega))) (by rw [List.length_append]; simp [cn_wi, upd]) (fun q hq => by rw [cn_wi_row, show upd _ 1 _ q = _ from if_neg hq]; rw [hf1 0 (by omega) (by omega) (by omega)]) (fun a x1 x2 => by rw [cn_wi_ne x1]; exact hf1 a (by omega) (by omega) (by omega))
          · refine cn_iconst (pc' := 26) k_c_m1 d_X_addNode_25 rfl ?_
            refine cn_iret rfl d_X_addNode_26 ?_
            have e : sp_add ns (nI (k)) t = (-1, ns) := by
              unfold sp_add
              rw [ndx_some hkl (by omega)]; dsimp only; rw [if_pos (Or.inr hc22)]
            rw [e] at K
            exact K I hN h01 (fun _ _ => rfl) (fun _ _ _ => rfl)
  · show cn_V l en mi_X_addNode d 0 0 S I P Q 5 [(0, .ref 0), (1, .int (n)), (2, .int (t))] [.int (nI (0))]
    refine cn_if_eq_n (tgt := 25) (pc' := 8) (by omega) d_X_addNode_5 (by decide) rfl (fun hc5 => ?_) (fun hc5 => ?_)
    · refine cn_iconst (pc' := 26) k_c_m1 d_X_addNode_25 rfl ?_
      refine cn_iret rfl d_X_addNode_26 ?_
      have e : sp_add ns n t = (-1, ns) := by
        unfold sp_add
        rw [hno]
      rw [e] at K
      exact K I hN h01 (fun _ _ => rfl) (fun _ _ _ => rfl)
    · exact False.elim (by omega)
end
