/-- nothing changed but item i's queue -/
def fQ (I I' : cn_I) (i : Nat) : Prop := ∀ a k, (a ≠ 164 ∨ k ≠ i) → ((a ≠ 165 ∧ a ≠ 166) ∨ k < 4 * i ∨ 4 * i + 4 ≤ k) → (a ≠ 167 ∨ k < 256 * i ∨ 256 * i + 256 ≤ k) → I' a k = I a k
theorem fQ.rf {I : cn_I} {i : Nat} : fQ I I i := fun _ _ _ _ _ => rfl
theorem fQ.tr {I I1 I2 : cn_I} {i : Nat} (h1 : fQ I I1 i) (h2 : fQ I1 I2 i) : fQ I I2 i := fun a k x y z => (h2 a k x y z).trans (h1 a k x y z)
theorem mnt_copy {I I' : cn_I} {f t : Nat} {x : sNt} (h : mnt I f x) (e1 : I' 165 t = I 165 f) (e2 : I' 166 t = I 166 f) (e3 : ∀ k, k < 64 → I' 167 (64 * t + k) = I 167 (64 * f + k)) : mnt I' t x :=
  ⟨e1.trans h.1, h.2.1, e2.trans h.2.2.1, h.2.2.2.1, fun k hk => (e3 k (by have := h.2.1; omega)).trans (h.2.2.2.2 k hk)⟩
theorem mIt_q {I I' : cn_I} {i : Nat} {x : sItem} {q : List sNt} (h : mIt I i x) (hq : mq I' i q) (hl : q.length ≤ x.2.1) (hf : ∀ a, 161 ≤ a → a ≤ 163 → I' a i = I a i) : mIt I' i (x.1, x.2.1, x.2.2.1, q) := by
  obtain ⟨a1, a2, a3, a4, a5, a6, a7, a8⟩ := h
  exact ⟨(hf _ (by omega) (by omega)).trans a1, a2, (hf _ (by omega) (by omega)).trans a3, (hf _ (by omega) (by omega)).trans a4, a5, a6, hl, hq⟩
theorem mIt.fQ {I I' : cn_I} {i j : Nat} {x : sItem} (h : mIt I i x) (hf : fQ I I' j) (e : i ≠ j) : mIt I' i x :=
  h.congr (fun a x1 x2 => hf _ _ (by omega) (by omega) (by omega)) (fun k hk => hf _ _ (by omega) (by omega) (by omega)) (fun k hk => hf _ _ (by omega) (by omega) (by omega)) (fun k m hk hm => hf _ _ (by omega) (by omega) (by omega))
theorem mq_push {I I' : cn_I} {i : Nat} {q : List sNt} {t : sNt} (h : mq I i q) (h4 : q.length < 4) (hn : I' 164 i = nI (q.length + 1)) (ht : mnt I' (4 * i + q.length) t) (hf : ∀ a k, a ≠ 164 → ((a ≠ 165 ∧ a ≠ 166) ∨ k ≠ 4 * i + q.length) → (a ≠ 167 ∨ k < 64 * (4 * i + q.length)) → I' a k = I a k) : mq I' i (q ++ [t]) := by
  refine ⟨by rw [List.length_append]; exact hn, by rw [List.length_append]; exact h4, fun j hj => ?_⟩
  rw [List.length_append] at hj
  have hj : j < q.length + 1 := hj
  by_cases e : j = q.length
  · subst e
    rw [show (q ++ [t]).getD q.length ntd = t by rw [List.getD_eq_getElem?_getD, List.getElem?_append_right (Nat.le_refl _), Nat.sub_self]; rfl]
    exact ht
  · rw [nt_l (by omega)]
    have h3 := h.2.2 j (by omega)
    exact h3.congr (hf _ _ (by omega) (by omega) (by omega)) (hf _ _ (by omega) (by omega) (by omega)) (fun k hk => hf _ _ (by omega) (by omega) (by have := h3.2.1; omega))
theorem mq_dropLast {I : cn_I} {i : Nat} {q : List sNt} {w : Int32} (h : mq I i q) (hw : w = nI (q.length - 1)) : mq (cn_wi I 164 i w) i q.dropLast := by
  refine ⟨by rw [mw_e, List.length_dropLast]; exact hw, by rw [List.length_dropLast]; have := h.2.1; omega, fun j hj => ?_⟩
  rw [List.length_dropLast] at hj
  rw [nt_drop hj]
  exact (h.2.2 j (by omega)).congr (mw_o (by omega)) (mw_o (by omega)) (fun k _ => mw_o (by omega))
theorem mq_mk1 {I : cn_I} {i : Nat} {q : List sNt} (h : mq I i q) (h0 : 0 < q.length) : mq (cn_wi I 166 (4 * i) (nI 1)) i (mk1 q) := by
  cases q with
  | nil => exact absurd h0 (Nat.lt_irrefl 0)
  | cons a q =>
    refine ⟨mw_a (by decide) h.1, h.2.1, fun j hj => ?_⟩
    cases j with
    | zero =>
      have h3 := h.2.2 0 h0
      exact ⟨mw_a (by decide) h3.1, h3.2.1, mw_e, show nI 1 &&& 255 = nI 1 by decide, fun k hk => mw_a (by decide) (h3.2.2.2.2 k hk)⟩
    | succ j => exact (h.2.2 (j + 1) hj).congr (mw_o (by omega)) (mw_o (by omega)) (fun k _ => mw_o (by omega))
theorem mk1_app {q : List sNt} (t : List sNt) (h : 0 < q.length) : mk1 (q ++ t) = mk1 q ++ t := by
  cases q with
  | nil => exact absurd h (Nat.lt_irrefl 0)
  | cons a q => rfl
theorem mk1_len (q : List sNt) : (mk1 q).length = q.length := by cases q <;> rfl
section
variable {l : Launch} {en : cn_E} {d : Nat} {S : cn_S} {I : cn_I} {P : cn_P} {Q : Option Value → cn_S → cn_I → cn_P → Prop}
variable {ns : List sNode} {xs : List sItem} {ps : List sPar} {pn : Int32} {ch : sCh} {rq : Int32} {ru : List Int32} {T : Nat}
theorem c_M_copyNotice_loop {f t : Nat} (hm : wM S P) (hf24 : f < 24) (ht24 : t < 24) (hft : f ≠ t) (I0 : cn_I) (K : ∀ I', I' 165 t = I0 165 f → I' 166 t = I0 166 f → (∀ j, j < 64 → I' 167 (64 * t + j) = I0 167 (64 * f + j)) → (∀ a k, (a ≠ 165 ∨ k ≠ t) → (a ≠ 166 ∨ k ≠ t) → (a ≠ 167 ∨ k < 64 * t ∨ 64 * t + 64 ≤ k) → I' a k = I0 a k) → Q none S I' P) : ∀ (r i : Nat) (I : cn_I), i + r = 64 → I 165 t = I0 165 f → I 166 t = I0 166 f → (∀ j, j < i → I 167 (64 * t + j) = I0 167 (64 * f + j)) → (∀ a k, (a ≠ 165 ∨ k ≠ t) → (a ≠ 166 ∨ k ≠ t) → (a ≠ 167 ∨ k < 64 * t ∨ 64 * t + i ≤ k) → I a k = I0 a k) → cn_V l en mi_M_copyNotice d 0 0 S I P Q 26 [(0, .ref 155), (1, .int (nI f)), (2, .int (nI t)), (3, .int (nI i))] [] := by
  intro r
  induction r with
  | zero =>
    intro i I hir h1 h2 hb hf
    refine cn_iload_n (pc' := 27) (k := 3) rfl rfl d_M_copyNotice_26 rfl ?_
    refine cn_bipush (pc' := 29) k_b_64 d_M_copyNotice_27 rfl ?_
    refine cn_icmp_ge_n (tgt := 60) (pc' := 32) (by omega) (by omega) d_M_copyNotice_29 (by decide) rfl (fun hc29 => ?_) (fun hc29 => ?_)
    · refine cn_vret rfl d_M_copyNotice_60 ?_
      obtain rfl : i = 64 := by omega
      exact K I h1 h2 hb hf
    · exact absurd hc29 (by omega)
  | succ r ih =>
    intro i I hir h1 h2 hb hf
    refine cn_iload_n (pc' := 27) (k := 3) rfl rfl d_M_copyNotice_26 rfl ?_
    refine cn_bipush (pc' := 29) k_b_64 d_M_copyNotice_27 rfl ?_
    refine cn_icmp_ge_n (tgt := 60) (pc' := 32) (by omega) (by omega) d_M_copyNotice_29 (by decide) rfl (fun hc29 => ?_) (fun hc29 => ?_)
    · exact absurd hc29 (by omega)
    · refine cn_aload_n (pc' := 33) (k := 0) rfl rfl d_M_copyNotice_32 rfl ?_
      refine cn_getP (pc' := 36) (b := 167) (hm.2.1 14 167 rfl) fl_M_48 hm.1 rfl d_M_copyNotice_33 rfl ?_
      refine cn_bipush (pc' := 38) k_b_64 d_M_copyNotice_36 rfl ?_
      refine cn_iload_n (pc' := 39) (k := 2) rfl rfl d_M_copyNotice_38 rfl ?_
      refine cn_imul_n (pc' := 40) d_M_copyNotice_39 rfl ?_
      refine cn_iload_n (pc' := 41) (k := 3) rfl rfl d_M_copyNotice_40 rfl ?_
      refine cn_iadd_n (pc' := 42) d_M_copyNotice_41 rfl ?_
      refine cn_aload_n (pc' := 43) (k := 0) rfl rfl d_M_copyNotice_42 rfl ?_
      refine cn_getP (pc' := 46) (b := 167) (hm.2.1 14 167 rfl) fl_M_48 hm.1 rfl d_M_copyNotice_43 rfl ?_
      refine cn_bipush (pc' := 48) k_b_64 d_M_copyNotice_46 rfl ?_
      refine cn_iload_n (pc' := 49) (k := 1) rfl rfl d_M_copyNotice_48 rfl ?_
      refine cn_imul_n (pc' := 50) d_M_copyNotice_49 rfl ?_
      refine cn_iload_n (pc' := 51) (k := 3) rfl rfl d_M_copyNotice_50 rfl ?_
      refine cn_iadd_n (pc' := 52) d_M_copyNotice_51 rfl ?_
      refine cn_ialdv (pc' := 53) (v := I0 167 (64 * f + i)) (hf _ _ (by omega) (by omega) (by omega)) (hm.2.2 167 0 1536 rfl) (by omega) (by decide) d_M_copyNotice_52 rfl ?_
      refine cn_iast (pc' := 54) (hm.2.2 167 0 1536 rfl) (by omega) (by decide) d_M_copyNotice_53 rfl ?_
      refine cn_iinc_n (pc' := 57) (lv' := [(0, .ref 155), (1, .int (nI (f))), (2, .int (nI (t))), (3, .int (nI (i + 1)))]) (k := 3) [1, 2, 3, 0] rfl (Nat.le_of_ble_eq_true rfl) rfl d_M_copyNotice_54 rfl ?_
      refine cn_goto (tgt := 26) d_M_copyNotice_57 (by decide) ?_
      refine ih (i + 1) _ (by omega) (mw_a (by decide) h1) (mw_a (by decide) h2) (fun j hj => ?_) (fun a k x y z => by rw [mw_o (by omega)]; exact hf a k x y (by omega))
      by_cases e : j = i
      · subst e; exact mw_e
      · rw [mw_o (by omega)]; exact hb j (by omega)
theorem c_M_copyNotice {f t : Nat} (hm : wM S P) (hf24 : f < 24) (ht24 : t < 24) (hft : f ≠ t) (K : ∀ I', I' 165 t = I 165 f → I' 166 t = I 166 f → (∀ j, j < 64 → I' 167 (64 * t + j) = I 167 (64 * f + j)) → (∀ a k, (a ≠ 165 ∨ k ≠ t) → (a ≠ 166 ∨ k ≠ t) → (a ≠ 167 ∨ k < 64 * t ∨ 64 * t + 64 ≤ k) → I' a k = I a k) → Q none S I' P) : cn_V l en mi_M_copyNotice d 0 0 S I P Q 0 [(0, .ref 155), (1, .int (nI f)), (2, .int (nI t))] [] := by
  refine cn_aload_n (pc' := 1) (k := 0) rfl rfl d_M_copyNotice_0 rfl ?_
  refine cn_getP (pc' := 4) (b := 165) (hm.2.1 12 165 rfl) fl_M_42 hm.1 rfl d_M_copyNotice_1 rfl ?_
  refine cn_iload_n (pc' := 5) (k := 2) rfl rfl d_M_copyNotice_4 rfl ?_
  refine cn_aload_n (pc' := 6) (k := 0) rfl rfl d_M_copyNotice_5 rfl ?_
  refine cn_getP (pc' := 9) (b := 165) (hm.2.1 12 165 rfl) fl_M_42 hm.1 rfl d_M_copyNotice_6 rfl ?_
  refine cn_iload_n (pc' := 10) (k := 1) rfl rfl d_M_copyNotice_9 rfl ?_
  refine cn_ialdv (pc' := 11) (v := I 165 f) rfl (hm.2.2 165 0 24 rfl) (by omega) (by decide) d_M_copyNotice_10 rfl ?_
  refine cn_iast (pc' := 12) (hm.2.2 165 0 24 rfl) (by omega) (by decide) d_M_copyNotice_11 rfl ?_
  refine cn_aload_n (pc' := 13) (k := 0) rfl rfl d_M_copyNotice_12 rfl ?_
  refine cn_getP (pc' := 16) (b := 166) (hm.2.1 13 166 rfl) fl_M_45 hm.1 rfl d_M_copyNotice_13 rfl ?_
  refine cn_iload_n (pc' := 17) (k := 2) rfl rfl d_M_copyNotice_16 rfl ?_
  refine cn_aload_n (pc' := 18) (k := 0) rfl rfl d_M_copyNotice_17 rfl ?_
  refine cn_getP (pc' := 21) (b := 166) (hm.2.1 13 166 rfl) fl_M_45 hm.1 rfl d_M_copyNotice_18 rfl ?_
  refine cn_iload_n (pc' := 22) (k := 1) rfl rfl d_M_copyNotice_21 rfl ?_
  refine cn_ialdv (pc' := 23) (v := I 166 f) (mw_a (by decide) rfl) (hm.2.2 166 0 24 rfl) (by omega) (by decide) d_M_copyNotice_22 rfl ?_
  refine cn_iast (pc' := 24) (hm.2.2 166 0 24 rfl) (by omega) (by decide) d_M_copyNotice_23 rfl ?_
  refine cn_iconst (pc' := 25) k_c_0 d_M_copyNotice_24 rfl ?_
  refine cn_istore_n (pc' := 26) (lv' := [(0, .ref 155), (1, .int (nI (f))), (2, .int (nI (t))), (3, .int (nI (0)))]) rfl [1, 2, 3, 0] (Nat.le_of_ble_eq_true rfl) rfl d_M_copyNotice_25 rfl ?_
  exact c_M_copyNotice_loop hm hf24 ht24 hft I K 64 0 _ (by omega) (mw_a (by decide) mw_e) mw_e (fun j hj => absurd hj (Nat.not_lt_zero j)) (fun a k x y z => by rw [mw_o (by omega), mw_o (by omega)])
theorem c_M_dropFirst_loop {i : Nat} {q : List sNt} (hm : wM S P) (hi : i < 6) (h0 : 0 < q.length) (h4 : q.length ≤ 4) (hd1 : 1 ≤ d) (I0 : cn_I) (K : ∀ I', mq I' i q.tail → fQ I0 I' i → Q none S I' P) : ∀ (r k : Nat) (I : cn_I), k + r = q.length → 1 ≤ k → I 164 i = nI q.length → (∀ j, j < q.length → mnt I (4 * i + j) (q.getD (if j + 1 < k then j + 1 else j) ntd)) → fQ I0 I i → cn_V l en mi_M_dropFirst d 0 0 S I P Q 2 [(0, .ref 155), (1, .int (nI i)), (2, .int (nI k))] [] := by
  intro r
  induction r with
  | zero =>
    intro k I hkr hk1 hw hn hf
    refine cn_iload_n (pc' := 3) (k := 2) rfl rfl d_M_dropFirst_2 rfl ?_
    refine cn_aload_n (pc' := 4) (k := 0) rfl rfl d_M_dropFirst_3 rfl ?_
    refine cn_getP (pc' := 7) (b := 164) (hm.2.1 11 164 rfl) fl_M_39 hm.1 rfl d_M_dropFirst_4 rfl ?_
    refine cn_iload_n (pc' := 8) (k := 1) rfl rfl d_M_dropFirst_7 rfl ?_
    refine cn_ialdv (pc' := 9) (v := nI (q.length)) hw (hm.2.2 164 0 6 rfl) (by omega) (by decide) d_M_dropFirst_8 rfl ?_
    refine cn_icmp_ge_n (tgt := 34) (pc' := 12) (by omega) (by omega) d_M_dropFirst_9 (by decide) rfl (fun hc9 => ?_) (fun hc9 => ?_)
    · refine cn_aload_n (pc' := 35) (k := 0) rfl rfl d_M_dropFirst_34 rfl ?_
      refine cn_getP (pc' := 38) (b := 164) (hm.2.1 11 164 rfl) fl_M_39 hm.1 rfl d_M_dropFirst_35 rfl ?_
      refine cn_iload_n (pc' := 39) (k := 1) rfl rfl d_M_dropFirst_38 rfl ?_
      refine cn_dup2 (pc' := 40) rfl rfl d_M_dropFirst_39 rfl ?_
      refine cn_ialdv (pc' := 41) (v := nI (q.length)) hw (hm.2.2 164 0 6 rfl) (by omega) (by decide) d_M_dropFirst_40 rfl ?_
      refine cn_iconst (pc' := 42) k_c_1 d_M_dropFirst_41 rfl ?_
      refine cn_isub_n (pc' := 43) (by omega) d_M_dropFirst_42 rfl ?_
      refine cn_iast (pc' := 44) (hm.2.2 164 0 6 rfl) (by omega) (by decide) d_M_dropFirst_43 rfl ?_
      refine cn_vret rfl d_M_dropFirst_44 ?_
      refine K _ ⟨by rw [mw_e, List.length_tail], by rw [List.length_tail]; omega, fun j hj => ?_⟩ (hf.tr (fun a m x y z => mw_o (by omega)))
      rw [List.length_tail] at hj
      have h3 := hn j (by omega)
      rw [if_pos (by omega), ← nt_tail] at h3
      exact h3.congr (mw_o (by omega)) (mw_o (by omega)) (fun m _ => mw_o (by omega))
    · exact absurd hc9 (by omega)
  | succ r ih =>
    intro k I hkr hk1 hw hn hf
    refine cn_iload_n (pc' := 3) (k := 2) rfl rfl d_M_dropFirst_2 rfl ?_
    refine cn_aload_n (pc' := 4) (k := 0) rfl rfl d_M_dropFirst_3 rfl ?_
    refine cn_getP (pc' := 7) (b := 164) (hm.2.1 11 164 rfl) fl_M_39 hm.1 rfl d_M_dropFirst_4 rfl ?_
    refine cn_iload_n (pc' := 8) (k := 1) rfl rfl d_M_dropFirst_7 rfl ?_
    refine cn_ialdv (pc' := 9) (v := nI (q.length)) hw (hm.2.2 164 0 6 rfl) (by omega) (by decide) d_M_dropFirst_8 rfl ?_
    refine cn_icmp_ge_n (tgt := 34) (pc' := 12) (by omega) (by omega) d_M_dropFirst_9 (by decide) rfl (fun hc9 => ?_) (fun hc9 => ?_)
    · exact absurd hc9 (by omega)
    · refine cn_aload_n (pc' := 13) (k := 0) rfl rfl d_M_dropFirst_12 rfl ?_
      refine cn_iconst (pc' := 14) k_c_4 d_M_dropFirst_13 rfl ?_
      refine cn_iload_n (pc' := 15) (k := 1) rfl rfl d_M_dropFirst_14 rfl ?_
      refine cn_imul_n (pc' := 16) d_M_dropFirst_15 rfl ?_
      refine cn_iload_n (pc' := 17) (k := 2) rfl rfl d_M_dropFirst_16 rfl ?_
      refine cn_iadd_n (pc' := 18) d_M_dropFirst_17 rfl ?_
      refine cn_iconst (pc' := 19) k_c_4 d_M_dropFirst_18 rfl ?_
      refine cn_iload_n (pc' := 20) (k := 1) rfl rfl d_M_dropFirst_19 rfl ?_
      refine cn_imul_n (pc' := 21) d_M_dropFirst_20 rfl ?_
      refine cn_iload_n (pc' := 22) (k := 2) rfl rfl d_M_dropFirst_21 rfl ?_
      refine cn_iadd_n (pc' := 23) d_M_dropFirst_22 rfl ?_
      refine cn_iconst (pc' := 24) k_c_1 d_M_dropFirst_23 rfl ?_
      refine cn_isub_n (pc' := 25) (by omega) d_M_dropFirst_24 rfl ?_
      refine cn_callV (pc' := 28) (kc1 := 0) (ks1 := 0) (kc2 := 0) (ks2 := 0) (rest := []) (lvj := [(0, .ref 155), (1, .int (nI ((4 * i) + k))), (2, .int (nI (((4 * i) + k) - 1)))]) [.int (nI ((4 * i) + k)), .int (nI (((4 * i) + k) - 1))] mv_M_113 hm.1 rfl rfl rfl (Nat.le_of_ble_eq_true rfl) (Nat.le_of_ble_eq_true rfl) (by omega) (by omega) (by omega) d_M_dropFirst_25 rfl ?_
      refine c_M_copyNotice (f := 4 * i + k) (t := 4 * i + k - 1) hm (by omega) (by omega) (by omega) (fun I1 e1 e2 e3 hf1 => ?_)
      show cn_V l en mi_M_dropFirst d 0 0 S I1 P Q 28 [(0, .ref 155), (1, .int (nI (i))), (2, .int (nI (k)))] []
      refine cn_iinc_n (pc' := 31) (lv' := [(0, .ref 155), (1, .int (nI (i))), (2, .int (nI (k + 1)))]) (k := 2) [1, 2, 0] rfl (Nat.le_of_ble_eq_true rfl) rfl d_M_dropFirst_28 rfl ?_
      refine cn_goto (tgt := 2) d_M_dropFirst_31 (by decide) ?_
      refine ih (k + 1) I1 (by omega) (by omega) ((hf1 _ _ (by omega) (by omega) (by omega)).trans hw) (fun j hj => ?_) (hf.tr (fun a m x y z => hf1 a m (by omega) (by omega) (by omega)))
      by_cases e : j + 1 = k
      · rw [if_pos (by omega)]
        have h3 := hn k (by omega)
        rw [if_neg (by omega)] at h3
        have h5 := mnt_copy h3 e1 e2 e3
        rw [show 4 * i + j = 4 * i + k - 1 by omega, e]; exact h5
      · have h3 := hn j hj
        by_cases e2 : j + 1 < k
        · rw [if_pos (by omega)]
          rw [if_pos e2] at h3
          exact h3.congr (hf1 _ _ (by omega) (by omega) (by omega)) (hf1 _ _ (by omega) (by omega) (by omega)) (fun m hm2 => hf1 _ _ (by omega) (by omega) (by have := h3.2.1; omega))
        · rw [if_neg (by omega)]
          rw [if_neg e2] at h3
          exact h3.congr (hf1 _ _ (by omega) (by omega) (by omega)) (hf1 _ _ (by omega) (by omega) (by omega)) (fun m hm2 => hf1 _ _ (by omega) (by omega) (by have := h3.2.1; omega))
theorem c_M_dropFirst {i : Nat} {q : List sNt} (hm : wM S P) (hi : i < 6) (hq : mq I i q) (h0 : 0 < q.length) (hd1 : 1 ≤ d) (K : ∀ I', mq I' i q.tail → fQ I I' i → Q none S I' P) : cn_V l en mi_M_dropFirst d 0 0 S I P Q 0 [(0, .ref 155), (1, .int (nI i))] [] := by
  refine cn_iconst (pc' := 1) k_c_1 d_M_dropFirst_0 rfl ?_
  refine cn_istore_n (pc' := 2) (lv' := [(0, .ref 155), (1, .int (nI (i))), (2, .int (nI (1)))]) rfl [1, 2, 0] (Nat.le_of_ble_eq_true rfl) rfl d_M_dropFirst_1 rfl ?_
  exact c_M_dropFirst_loop hm hi h0 hq.2.1 hd1 I K (q.length - 1) 1 I (by omega) (by omega) hq.1 (fun j hj => by rw [if_neg (by omega)]; exact hq.2.2 j hj) fQ.rf
theorem c_M_append_loop {i nd m : Nat} {mk w : Int32} (hm : wM S P) (hi : i < 6) (hnd : nd < 16) (hm24 : m < 24) (I0 : cn_I) (hw0 : I0 164 i = w) (K : ∀ I', I' 165 m = I0 159 nd → I' 166 m = mk → (∀ j, j < 64 → I' 167 (64 * m + j) = I0 160 (64 * nd + j)) → I' 164 i = w + nI 1 → (∀ a k, (a ≠ 164 ∨ k ≠ i) → (a ≠ 165 ∨ k ≠ m) → (a ≠ 166 ∨ k ≠ m) → (a ≠ 167 ∨ k < 64 * m ∨ 64 * m + 64 ≤ k) → I' a k = I0 a k) → Q none S I' P) : ∀ (r k : Nat) (I : cn_I), k + r = 64 → I 165 m = I0 159 nd → I 166 m = mk → (∀ j, j < k → I 167 (64 * m + j) = I0 160 (64 * nd + j)) → (∀ a k, (a ≠ 165 ∨ k ≠ m) → (a ≠ 166 ∨ k ≠ m) → (a ≠ 167 ∨ k < 64 * m ∨ 64 * m + 64 ≤ k) → I a k = I0 a k) → cn_V l en mi_M_append d 0 0 S I P Q 36 [(0, .ref 155), (1, .int (nI i)), (2, .int (nI nd)), (3, .int mk), (4, .int (nI m)), (5, .int (nI k))] [] := by
  intro r
  induction r with
  | zero =>
    intro k I hkr h1 h2 hb hf
    refine cn_iload (pc' := 38) (k := 5) rfl d_M_append_36 rfl ?_
    refine cn_bipush (pc' := 40) k_b_64 d_M_append_38 rfl ?_
    refine cn_icmp_ge_n (tgt := 74) (pc' := 43) (by omega) (by omega) d_M_append_40 (by decide) rfl (fun hc40 => ?_) (fun hc40 => ?_)
    · refine cn_aload_n (pc' := 75) (k := 0) rfl rfl d_M_append_74 rfl ?_
      refine cn_getP (pc' := 78) (b := 164) (hm.2.1 11 164 rfl) fl_M_39 hm.1 rfl d_M_append_75 rfl ?_
      refine cn_iload_n (pc' := 79) (k := 1) rfl rfl d_M_append_78 rfl ?_
      refine cn_dup2 (pc' := 80) rfl rfl d_M_append_79 rfl ?_
      refine cn_ialdv (pc' := 81) (v := w) ((hf _ _ (by omega) (by omega) (by omega)).trans hw0) (hm.2.2 164 0 6 rfl) (by omega) (by decide) d_M_append_80 rfl ?_
      refine cn_iconst (pc' := 82) k_c_1 d_M_append_81 rfl ?_
      refine cn_iadd (pc' := 83) d_M_append_82 rfl ?_
      refine cn_iast (pc' := 84) (hm.2.2 164 0 6 rfl) (by omega) (by decide) d_M_append_83 rfl ?_
      refine cn_vret rfl d_M_append_84 ?_
      obtain rfl : k = 64 := by omega
      exact K _ (mw_a (by decide) h1) (mw_a (by decide) h2) (fun j hj => mw_a (by decide) (hb j hj)) mw_e (fun a k x0 x y z => by rw [mw_o (by omega)]; exact hf a k x y z)
    · exact absurd hc40 (by omega)
  | succ r ih =>
    intro k I hkr h1 h2 hb hf
    refine cn_iload (pc' := 38) (k := 5) rfl d_M_append_36 rfl ?_
    refine cn_bipush (pc' := 40) k_b_64 d_M_append_38 rfl ?_
    refine cn_icmp_ge_n (tgt := 74) (pc' := 43) (by omega) (by omega) d_M_append_40 (by decide) rfl (fun hc40 => ?_) (fun hc40 => ?_)
    · exact absurd hc40 (by omega)
    · refine cn_aload_n (pc' := 44) (k := 0) rfl rfl d_M_append_43 rfl ?_
      refine cn_getP (pc' := 47) (b := 167) (hm.2.1 14 167 rfl) fl_M_48 hm.1 rfl d_M_append_44 rfl ?_
      refine cn_bipush (pc' := 49) k_b_64 d_M_append_47 rfl ?_
      refine cn_iload (pc' := 51) (k := 4) rfl d_M_append_49 rfl ?_
      refine cn_imul_n (pc' := 52) d_M_append_51 rfl ?_
      refine cn_iload (pc' := 54) (k := 5) rfl d_M_append_52 rfl ?_
      refine cn_iadd_n (pc' := 55) d_M_append_54 rfl ?_
      refine cn_aload_n (pc' := 56) (k := 0) rfl rfl d_M_append_55 rfl ?_
      refine cn_getP (pc' := 59) (b := 160) (hm.2.1 6 160 rfl) fl_M_27 hm.1 rfl d_M_append_56 rfl ?_
      refine cn_bipush (pc' := 61) k_b_64 d_M_append_59 rfl ?_
      refine cn_iload_n (pc' := 62) (k := 2) rfl rfl d_M_append_61 rfl ?_
      refine cn_imul_n (pc' := 63) d_M_append_62 rfl ?_
      refine cn_iload (pc' := 65) (k := 5) rfl d_M_append_63 rfl ?_
      refine cn_iadd_n (pc' := 66) d_M_append_65 rfl ?_
      refine cn_ialdv (pc' := 67) (v := I0 160 (64 * nd + k)) (hf _ _ (by omega) (by omega) (by omega)) (hm.2.2 160 0 1024 rfl) (by omega) (by decide) d_M_append_66 rfl ?_
      refine cn_iast (pc' := 68) (hm.2.2 167 0 1536 rfl) (by omega) (by decide) d_M_append_67 rfl ?_
      refine cn_iinc_n (pc' := 71) (lv' := [(0, .ref 155), (1, .int (nI (i))), (2, .int (nI (nd))), (3, .int (mk)), (4, .int (nI (m))), (5, .int (nI (k + 1)))]) (k := 5) [1, 2, 3, 4, 5, 0] rfl (Nat.le_of_ble_eq_true rfl) rfl d_M_append_68 rfl ?_
      refine cn_goto (tgt := 36) d_M_append_71 (by decide) ?_
      refine ih (k + 1) _ (by omega) (mw_a (by decide) h1) (mw_a (by decide) h2) (fun j hj => ?_) (fun a k x y z => by rw [mw_o (by omega)]; exact hf a k x y z)
      by_cases e : j = k
      · subst e; exact mw_e
      · rw [mw_o (by omega)]; exact hb j (by omega)
theorem c_M_append {i nd : Nat} {mk : Int32} {q : List sNt} {v : List Int32} (hm : wM S P) (hi : i < 6) (hnd : nd < 16) (hq : mq I i q) (h4 : q.length < 4) (hmk : mk &&& 255 = mk) (hv1 : I 159 nd = nI v.length) (hv2 : v.length ≤ 61) (hv3 : ∀ j, j < v.length → I 160 (64 * nd + j) = v.getD j 0) (K : ∀ I', mq I' i (q ++ [(v, mk)]) → fQ I I' i → Q none S I' P) : cn_V l en mi_M_append d 0 0 S I P Q 0 [(0, .ref 155), (1, .int (nI i)), (2, .int (nI nd)), (3, .int mk)] [] := by
  refine cn_iconst (pc' := 1) k_c_4 d_M_append_0 rfl ?_
  refine cn_iload_n (pc' := 2) (k := 1) rfl rfl d_M_append_1 rfl ?_
  refine cn_imul_n (pc' := 3) d_M_append_2 rfl ?_
  refine cn_aload_n (pc' := 4) (k := 0) rfl rfl d_M_append_3 rfl ?_
  refine cn_getP (pc' := 7) (b := 164) (hm.2.1 11 164 rfl) fl_M_39 hm.1 rfl d_M_append_4 rfl ?_
  refine cn_iload_n (pc' := 8) (k := 1) rfl rfl d_M_append_7 rfl ?_
  refine cn_ialdv (pc' := 9) (v := nI (q.length)) hq.1 (hm.2.2 164 0 6 rfl) (by omega) (by decide) d_M_append_8 rfl ?_
  refine cn_iadd_n (pc' := 10) d_M_append_9 rfl ?_
  refine cn_istore (pc' := 12) (lv' := [(0, .ref 155), (1, .int (nI (i))), (2, .int (nI (nd))), (3, .int (mk)), (4, .int (nI ((4 * i) + q.length)))]) [1, 2, 3, 4, 0] (Nat.le_of_ble_eq_true rfl) rfl d_M_append_10 rfl ?_
  refine cn_aload_n (pc' := 13) (k := 0) rfl rfl d_M_append_12 rfl ?_
  refine cn_getP (pc' := 16) (b := 165) (hm.2.1 12 165 rfl) fl_M_42 hm.1 rfl d_M_append_13 rfl ?_
  refine cn_iload (pc' := 18) (k := 4) rfl d_M_append_16 rfl ?_
  refine cn_aload_n (pc' := 19) (k := 0) rfl rfl d_M_append_18 rfl ?_
  refine cn_getP (pc' := 22) (b := 159) (hm.2.1 5 159 rfl) fl_M_24 hm.1 rfl d_M_append_19 rfl ?_
  refine cn_iload_n (pc' := 23) (k := 2) rfl rfl d_M_append_22 rfl ?_
  refine cn_ialdv (pc' := 24) (v := I 159 nd) rfl (hm.2.2 159 0 16 rfl) (by omega) (by decide) d_M_append_23 rfl ?_
  refine cn_iast (pc' := 25) (hm.2.2 165 0 24 rfl) (by omega) (by decide) d_M_append_24 rfl ?_
  refine cn_aload_n (pc' := 26) (k := 0) rfl rfl d_M_append_25 rfl ?_
  refine cn_getP (pc' := 29) (b := 166) (hm.2.1 13 166 rfl) fl_M_45 hm.1 rfl d_M_append_26 rfl ?_
  refine cn_iload (pc' := 31) (k := 4) rfl d_M_append_29 rfl ?_
  refine cn_iload_n (pc' := 32) (k := 3) rfl rfl d_M_append_31 rfl ?_
  refine cn_iast (pc' := 33) (hm.2.2 166 0 24 rfl) (by omega) (by decide) d_M_append_32 rfl ?_
  refine cn_iconst (pc' := 34) k_c_0 d_M_append_33 rfl ?_
  refine cn_istore (pc' := 36) (lv' := [(0, .ref 155), (1, .int (nI (i))), (2, .int (nI (nd))), (3, .int (mk)), (4, .int (nI ((4 * i) + q.length))), (5, .int (nI (0)))]) [1, 2, 3, 4, 5, 0] (Nat.le_of_ble_eq_true rfl) rfl d_M_append_34 rfl ?_
  refine c_M_append_loop (w := nI q.length) hm hi hnd (by omega) I hq.1 (fun I1 e1 e2 e3 e4 hf1 => ?_) 64 0 _ (by omega) (mw_a (by decide) mw_e) mw_e (fun j hj => absurd hj (Nat.not_lt_zero j)) (fun a k x y z => by rw [mw_o (by omega), mw_o (by omega)])
  refine K I1 (mq_push hq h4 (by rw [e4, nI_add]) ⟨e1.trans hv1, hv2, e2, hmk, fun k hk => (e3 k (by have hk : k < v.length := hk; omega)).trans (hv3 k hk)⟩ (fun a k x y z => hf1 a k (by omega) (by omega) (by omega) (by omega))) (fun a k x y z => hf1 a k (by omega) (by omega) (by omega) (by omega))
theorem c_M_tell {i nd : Nat} {x : sItem} {v : List Int32} (hm : wM S P) (hi : i < 6) (hnd : nd < 16) (hx : mIt I i x) (hv1 : I 159 nd = nI v.length) (hv2 : v.length ≤ 61) (hv3 : ∀ j, j < v.length → I 160 (64 * nd + j) = v.getD j 0) (hd1 : 2 ≤ d) (K : ∀ I', mIt I' i (x.1, x.2.1, x.2.2.1, nq x.2.1 x.2.2.1 x.2.2.2 v) → fQ I I' i → Q none S I' P) : cn_V l en mi_M_tell d 0 0 S I P Q 0 [(0, .ref 155), (1, .int (nI i)), (2, .int (nI nd))] [] := by
  obtain ⟨a1, a2, a3, a4, a5, a6, a7, a8⟩ := id hx
  have hbo := tn_le x.2.2.1
  have hql := nq_len (old := x.2.2.1) (v := v) a7 a5
  refine cn_aload_n (pc' := 1) (k := 0) rfl rfl d_M_tell_0 rfl ?_
  refine cn_getP (pc' := 4) (b := 164) (hm.2.1 11 164 rfl) fl_M_39 hm.1 rfl d_M_tell_1 rfl ?_
  refine cn_iload_n (pc' := 5) (k := 1) rfl rfl d_M_tell_4 rfl ?_
  refine cn_ialdv (pc' := 6) (v := nI (x.2.2.2.length)) a8.1 (hm.2.2 164 0 6 rfl) (by omega) (by decide) d_M_tell_5 rfl ?_
  refine cn_aload_n (pc' := 7) (k := 0) rfl rfl d_M_tell_6 rfl ?_
  refine cn_getP (pc' := 10) (b := 162) (hm.2.1 9 162 rfl) fl_M_33 hm.1 rfl d_M_tell_7 rfl ?_
  refine cn_iload_n (pc' := 11) (k := 1) rfl rfl d_M_tell_10 rfl ?_
  refine cn_ialdv (pc' := 12) (v := nI (x.2.1)) a3 (hm.2.2 162 0 6 rfl) (by omega) (by decide) d_M_tell_11 rfl ?_
  refine cn_icmp_ne_n (tgt := 19) (pc' := 15) (by omega) (by omega) d_M_tell_12 (by decide) rfl (fun hc12 => ?_) (fun hc12 => ?_)
  · refine cn_iconst (pc' := 20) k_c_0 d_M_tell_19 rfl ?_
    refine cn_istore_n (pc' := 21) (lv' := [(0, .ref 155), (1, .int (nI (i))), (2, .int (nI (nd))), (3, .int (nI (0)))]) rfl [1, 2, 3, 0] (Nat.le_of_ble_eq_true rfl) rfl d_M_tell_20 rfl ?_
    refine cn_iload_n (pc' := 22) (k := 3) rfl rfl d_M_tell_21 rfl ?_
    refine cn_if_eq_n (tgt := 39) (pc' := 25) (by omega) d_M_tell_22 (by decide) rfl (fun hc22 => ?_) (fun hc22 => ?_)
    · refine cn_iconst (pc' := 40) k_c_0 d_M_tell_39 rfl ?_
      refine cn_istore (pc' := 42) (lv' := [(0, .ref 155), (1, .int (nI (i))), (2, .int (nI (nd))), (3, .int (nI (0))), (4, .int (nI (0)))]) [1, 2, 3, 4, 0] (Nat.le_of_ble_eq_true rfl) rfl d_M_tell_40 rfl ?_
      refine cn_iload_n (pc' := 43) (k := 3) rfl rfl d_M_tell_42 rfl ?_
      refine cn_if_eq_n (tgt := 84) (pc' := 46) (by omega) d_M_tell_43 (by decide) rfl (fun hc43 => ?_) (fun hc43 => ?_)
      · refine cn_aload_n (pc' := 85) (k := 0) rfl rfl d_M_tell_84 rfl ?_
        refine cn_getP (pc' := 88) (b := 164) (hm.2.1 11 164 rfl) fl_M_39 hm.1 rfl d_M_tell_85 rfl ?_
        refine cn_iload_n (pc' := 89) (k := 1) rfl rfl d_M_tell_88 rfl ?_
        refine cn_iload_n (pc' := 90) (k := 3) rfl rfl d_M_tell_89 rfl ?_
        refine cn_if_eq_n (tgt := 104) (pc' := 93) (by omega) d_M_tell_90 (by decide) rfl (fun hc90 => ?_) (fun hc90 => ?_)
        · refine cn_aload_n (pc' := 105) (k := 0) rfl rfl d_M_tell_104 rfl ?_
          refine cn_getP (pc' := 108) (b := 164) (hm.2.1 11 164 rfl) fl_M_39 hm.1 rfl d_M_tell_105 rfl ?_
          refine cn_iload_n (pc' := 109) (k := 1) rfl rfl d_M_tell_108 rfl ?_
          refine cn_ialdv (pc' := 110) (v := nI (x.2.2.2.length)) a8.1 (hm.2.2 164 0 6 rfl) (by omega) (by decide) d_M_tell_109 rfl ?_
          refine cn_iast (pc' := 111) (hm.2.2 164 0 6 rfl) (by omega) (by decide) d_M_tell_110 rfl ?_
          refine cn_aload_n (pc' := 112) (k := 0) rfl rfl d_M_tell_111 rfl ?_
          refine cn_iload_n (pc' := 113) (k := 1) rfl rfl d_M_tell_112 rfl ?_
          refine cn_iload_n (pc' := 114) (k := 2) rfl rfl d_M_tell_113 rfl ?_
          refine cn_iload (pc' := 116) (k := 4) rfl d_M_tell_114 rfl ?_
          refine cn_if_eq_n (tgt := 123) (pc' := 119) (by omega) d_M_tell_116 (by decide) rfl (fun hc116 => ?_) (fun hc116 => ?_)
          · refine cn_iconst (pc' := 124) k_c_0 d_M_tell_123 rfl ?_
            refine cn_callV (pc' := 127) (kc1 := 0) (ks1 := 0) (kc2 := 0) (ks2 := 0) (rest := []) (lvj := [(0, .ref 155), (1, .int (nI (i))), (2, .int (nI (nd))), (3, .int (nI (0)))]) [.int (nI (i)), .int (nI (nd)), .int (nI (0))] mv_M_121 hm.1 rfl rfl rfl (Nat.le_of_ble_eq_true rfl) (Nat.le_of_ble_eq_true rfl) (by omega) (by omega) (by omega) d_M_tell_124 rfl ?_
            have hq2 : mq ((cn_wi I 164 i (nI (x.2.2.2.length)))) i x.2.2.2 := a8.congr (mw_e.trans a8.1.symm) (fun j _ => mw_o (by omega)) (fun j _ => mw_o (by omega)) (fun j k _ _ => mw_o (by omega))
            have hf2 : fQ I ((cn_wi I 164 i (nI (x.2.2.2.length)))) i := fun a k x y z => mw_o (by omega)
            refine c_M_append (v := v) hm hi hnd hq2 (by first | omega | (rw [mk1_len]; omega)) (by decide) ((hf2 _ _ (by omega) (by omega) (by omega)).trans hv1) hv2 (fun j hj => (hf2 _ _ (by omega) (by omega) (by omega)).trans (hv3 j hj)) (fun I9 hq9 hf9 => ?_)
            show cn_V l en mi_M_tell d 0 0 S I9 P Q 127 [(0, .ref 155), (1, .int (nI (i))), (2, .int (nI (nd))), (3, .int (nI (0))), (4, .int (nI (0)))] []
            refine cn_vret rfl d_M_tell_127 ?_
            have e : nq x.2.1 x.2.2.1 x.2.2.2 v = x.2.2.2 ++ [(v, nI 0)] := by unfold nq; rw [if_neg (by omega)]
            rw [e] at K hql
            exact K I9 (mIt_q hx hq9 hql (fun a x1 x2 => ((hf2.tr hf9) a i (by omega) (by omega) (by omega)))) (hf2.tr hf9)
          · exact False.elim (by omega)
        · exact False.elim (by omega)
      · exact False.elim (by omega)
    · exact False.elim (by omega)
  · refine cn_iconst (pc' := 16) k_c_1 d_M_tell_15 rfl ?_
    refine cn_goto (tgt := 20) d_M_tell_16 (by decide) ?_
    refine cn_istore_n (pc' := 21) (lv' := [(0, .ref 155), (1, .int (nI (i))), (2, .int (nI (nd))), (3, .int (nI (1)))]) rfl [1, 2, 3, 0] (Nat.le_of_ble_eq_true rfl) rfl d_M_tell_20 rfl ?_
    refine cn_iload_n (pc' := 22) (k := 3) rfl rfl d_M_tell_21 rfl ?_
    refine cn_if_eq_n (tgt := 39) (pc' := 25) (by omega) d_M_tell_22 (by decide) rfl (fun hc22 => ?_) (fun hc22 => ?_)
    · exact False.elim (by omega)
    · refine cn_aload_n (pc' := 26) (k := 0) rfl rfl d_M_tell_25 rfl ?_
      refine cn_getP (pc' := 29) (b := 162) (hm.2.1 9 162 rfl) fl_M_33 hm.1 rfl d_M_tell_26 rfl ?_
      refine cn_iload_n (pc' := 30) (k := 1) rfl rfl d_M_tell_29 rfl ?_
      refine cn_ialdv (pc' := 31) (v := nI (x.2.1)) a3 (hm.2.2 162 0 6 rfl) (by omega) (by decide) d_M_tell_30 rfl ?_
      refine cn_iconst (pc' := 32) k_c_1 d_M_tell_31 rfl ?_
      refine cn_icmp_le_n (tgt := 39) (pc' := 35) (by omega) (by omega) d_M_tell_32 (by decide) rfl (fun hc32 => ?_) (fun hc32 => ?_)
      · refine cn_iconst (pc' := 40) k_c_0 d_M_tell_39 rfl ?_
        refine cn_istore (pc' := 42) (lv' := [(0, .ref 155), (1, .int (nI (i))), (2, .int (nI (nd))), (3, .int (nI (1))), (4, .int (nI (0)))]) [1, 2, 3, 4, 0] (Nat.le_of_ble_eq_true rfl) rfl d_M_tell_40 rfl ?_
        refine cn_iload_n (pc' := 43) (k := 3) rfl rfl d_M_tell_42 rfl ?_
        refine cn_if_eq_n (tgt := 84) (pc' := 46) (by omega) d_M_tell_43 (by decide) rfl (fun hc43 => ?_) (fun hc43 => ?_)
        · exact False.elim (by omega)
        · refine cn_aload_n (pc' := 47) (k := 0) rfl rfl d_M_tell_46 rfl ?_
          refine cn_getP (pc' := 50) (b := 163) (hm.2.1 10 163 rfl) fl_M_36 hm.1 rfl d_M_tell_47 rfl ?_
          refine cn_iload_n (pc' := 51) (k := 1) rfl rfl d_M_tell_50 rfl ?_
          refine cn_zaldv (pc' := 52) (v := nI (x.2.2.1.toNat)) a4 (hm.2.2 163 2 6 rfl) (by omega) (by decide) d_M_tell_51 rfl ?_
          refine cn_if_eq_n (tgt := 84) (pc' := 55) (by omega) d_M_tell_52 (by decide) rfl (fun hc52 => ?_) (fun hc52 => ?_)
          · refine cn_aload_n (pc' := 85) (k := 0) rfl rfl d_M_tell_84 rfl ?_
            refine cn_getP (pc' := 88) (b := 164) (hm.2.1 11 164 rfl) fl_M_39 hm.1 rfl d_M_tell_85 rfl ?_
            refine cn_iload_n (pc' := 89) (k := 1) rfl rfl d_M_tell_88 rfl ?_
            refine cn_iload_n (pc' := 90) (k := 3) rfl rfl d_M_tell_89 rfl ?_
            refine cn_if_eq_n (tgt := 104) (pc' := 93) (by omega) d_M_tell_90 (by decide) rfl (fun hc90 => ?_) (fun hc90 => ?_)
            · exact False.elim (by omega)
            · refine cn_aload_n (pc' := 94) (k := 0) rfl rfl d_M_tell_93 rfl ?_
              refine cn_getP (pc' := 97) (b := 164) (hm.2.1 11 164 rfl) fl_M_39 hm.1 rfl d_M_tell_94 rfl ?_
              refine cn_iload_n (pc' := 98) (k := 1) rfl rfl d_M_tell_97 rfl ?_
              refine cn_ialdv (pc' := 99) (v := nI (x.2.2.2.length)) a8.1 (hm.2.2 164 0 6 rfl) (by omega) (by decide) d_M_tell_98 rfl ?_
              refine cn_iconst (pc' := 100) k_c_1 d_M_tell_99 rfl ?_
              refine cn_isub_n (pc' := 101) (by omega) d_M_tell_100 rfl ?_
              refine cn_goto (tgt := 110) d_M_tell_101 (by decide) ?_
              refine cn_iast (pc' := 111) (hm.2.2 164 0 6 rfl) (by omega) (by decide) d_M_tell_110 rfl ?_
              refine cn_aload_n (pc' := 112) (k := 0) rfl rfl d_M_tell_111 rfl ?_
              refine cn_iload_n (pc' := 113) (k := 1) rfl rfl d_M_tell_112 rfl ?_
              refine cn_iload_n (pc' := 114) (k := 2) rfl rfl d_M_tell_113 rfl ?_
              refine cn_iload (pc' := 116) (k := 4) rfl d_M_tell_114 rfl ?_
              refine cn_if_eq_n (tgt := 123) (pc' := 119) (by omega) d_M_tell_116 (by decide) rfl (fun hc116 => ?_) (fun hc116 => ?_)
              · refine cn_iconst (pc' := 124) k_c_0 d_M_tell_123 rfl ?_
                refine cn_callV (pc' := 127) (kc1 := 0) (ks1 := 0) (kc2 := 0) (ks2 := 0) (rest := []) (lvj := [(0, .ref 155), (1, .int (nI (i))), (2, .int (nI (nd))), (3, .int (nI (0)))]) [.int (nI (i)), .int (nI (nd)), .int (nI (0))] mv_M_121 hm.1 rfl rfl rfl (Nat.le_of_ble_eq_true rfl) (Nat.le_of_ble_eq_true rfl) (by omega) (by omega) (by omega) d_M_tell_124 rfl ?_
                have hq2 := mq_dropLast a8 (w := nI (x.2.2.2.length - 1)) rfl
                have hdl : x.2.2.2.dropLast.length = x.2.2.2.length - 1 := List.length_dropLast
                have hf2 : fQ I ((cn_wi I 164 i (nI (x.2.2.2.length - 1)))) i := fun a k x y z => mw_o (by omega)
                refine c_M_append (v := v) hm hi hnd hq2 (by first | omega | (rw [mk1_len]; omega)) (by decide) ((hf2 _ _ (by omega) (by omega) (by omega)).trans hv1) hv2 (fun j hj => (hf2 _ _ (by omega) (by omega) (by omega)).trans (hv3 j hj)) (fun I9 hq9 hf9 => ?_)
                show cn_V l en mi_M_tell d 0 0 S I9 P Q 127 [(0, .ref 155), (1, .int (nI (i))), (2, .int (nI (nd))), (3, .int (nI (1))), (4, .int (nI (0)))] []
                refine cn_vret rfl d_M_tell_127 ?_
                have e : nq x.2.1 x.2.2.1 x.2.2.2 v = x.2.2.2.dropLast ++ [(v, nI 0)] := by unfold nq; rw [if_pos (by omega), if_neg (by rw [tn_0 hc52]; decide), if_neg (by omega)]
                rw [e] at K hql
                exact K I9 (mIt_q hx hq9 hql (fun a x1 x2 => ((hf2.tr hf9) a i (by omega) (by omega) (by omega)))) (hf2.tr hf9)
              · exact False.elim (by omega)
          · refine cn_aload_n (pc' := 56) (k := 0) rfl rfl d_M_tell_55 rfl ?_
            refine cn_iload_n (pc' := 57) (k := 1) rfl rfl d_M_tell_56 rfl ?_
            refine cn_callV (pc' := 60) (kc1 := 0) (ks1 := 0) (kc2 := 0) (ks2 := 0) (rest := []) (lvj := [(0, .ref 155), (1, .int (nI (i)))]) [.int (nI (i))] mv_M_117 hm.1 rfl rfl rfl (Nat.le_of_ble_eq_true rfl) (Nat.le_of_ble_eq_true rfl) (by omega) (by omega) (by omega) d_M_tell_57 rfl ?_
            refine c_M_dropFirst hm hi a8 (by omega) (by omega) (fun I1 hq1 hf1 => ?_)
            have htl : x.2.2.2.tail.length = x.2.2.2.length - 1 := List.length_tail
            show cn_V l en mi_M_tell d 0 0 S I1 P Q 60 [(0, .ref 155), (1, .int (nI (i))), (2, .int (nI (nd))), (3, .int (nI (1))), (4, .int (nI (0)))] []
            refine cn_iload (pc' := 62) (k := 4) rfl d_M_tell_60 rfl ?_
            refine cn_if_eq_n (tgt := 74) (pc' := 65) (by omega) d_M_tell_62 (by decide) rfl (fun hc62 => ?_) (fun hc62 => ?_)
            · refine cn_aload_n (pc' := 75) (k := 0) rfl rfl d_M_tell_74 rfl ?_
              refine cn_iload_n (pc' := 76) (k := 1) rfl rfl d_M_tell_75 rfl ?_
              refine cn_iload_n (pc' := 77) (k := 2) rfl rfl d_M_tell_76 rfl ?_
              refine cn_iconst (pc' := 78) k_c_0 d_M_tell_77 rfl ?_
              refine cn_callV (pc' := 81) (kc1 := 0) (ks1 := 0) (kc2 := 0) (ks2 := 0) (rest := []) (lvj := [(0, .ref 155), (1, .int (nI (i))), (2, .int (nI (nd))), (3, .int (nI (0)))]) [.int (nI (i)), .int (nI (nd)), .int (nI (0))] mv_M_121 hm.1 rfl rfl rfl (Nat.le_of_ble_eq_true rfl) (Nat.le_of_ble_eq_true rfl) (by omega) (by omega) (by omega) d_M_tell_78 rfl ?_
              have hq2 := hq1
              have hf2 : fQ I I1 i := hf1
              refine c_M_append (v := v) hm hi hnd hq2 (by first | omega | (rw [mk1_len]; omega)) (by decide) ((hf2 _ _ (by omega) (by omega) (by omega)).trans hv1) hv2 (fun j hj => (hf2 _ _ (by omega) (by omega) (by omega)).trans (hv3 j hj)) (fun I9 hq9 hf9 => ?_)
              show cn_V l en mi_M_tell d 0 0 S I9 P Q 81 [(0, .ref 155), (1, .int (nI (i))), (2, .int (nI (nd))), (3, .int (nI (1))), (4, .int (nI (0)))] []
              refine cn_goto (tgt := 127) d_M_tell_81 (by decide) ?_
              refine cn_vret rfl d_M_tell_127 ?_
              have e : nq x.2.1 x.2.2.1 x.2.2.2 v = x.2.2.2.tail ++ [(v, nI 0)] := by unfold nq; rw [if_pos (by omega), if_pos (tn_1 hc52), if_neg (by omega)]
              rw [e] at K hql
              exact K I9 (mIt_q hx hq9 hql (fun a x1 x2 => ((hf2.tr hf9) a i (by omega) (by omega) (by omega)))) (hf2.tr hf9)
            · exact False.elim (by omega)
      · refine cn_iconst (pc' := 36) k_c_1 d_M_tell_35 rfl ?_
        refine cn_goto (tgt := 40) d_M_tell_36 (by decide) ?_
        refine cn_istore (pc' := 42) (lv' := [(0, .ref 155), (1, .int (nI (i))), (2, .int (nI (nd))), (3, .int (nI (1))), (4, .int (nI (1)))]) [1, 2, 3, 4, 0] (Nat.le_of_ble_eq_true rfl) rfl d_M_tell_40 rfl ?_
        refine cn_iload_n (pc' := 43) (k := 3) rfl rfl d_M_tell_42 rfl ?_
        refine cn_if_eq_n (tgt := 84) (pc' := 46) (by omega) d_M_tell_43 (by decide) rfl (fun hc43 => ?_) (fun hc43 => ?_)
        · exact False.elim (by omega)
        · refine cn_aload_n (pc' := 47) (k := 0) rfl rfl d_M_tell_46 rfl ?_
          refine cn_getP (pc' := 50) (b := 163) (hm.2.1 10 163 rfl) fl_M_36 hm.1 rfl d_M_tell_47 rfl ?_
          refine cn_iload_n (pc' := 51) (k := 1) rfl rfl d_M_tell_50 rfl ?_
          refine cn_zaldv (pc' := 52) (v := nI (x.2.2.1.toNat)) a4 (hm.2.2 163 2 6 rfl) (by omega) (by decide) d_M_tell_51 rfl ?_
          refine cn_if_eq_n (tgt := 84) (pc' := 55) (by omega) d_M_tell_52 (by decide) rfl (fun hc52 => ?_) (fun hc52 => ?_)
          · refine cn_aload_n (pc' := 85) (k := 0) rfl rfl d_M_tell_84 rfl ?_
            refine cn_getP (pc' := 88) (b := 164) (hm.2.1 11 164 rfl) fl_M_39 hm.1 rfl d_M_tell_85 rfl ?_
            refine cn_iload_n (pc' := 89) (k := 1) rfl rfl d_M_tell_88 rfl ?_
            refine cn_iload_n (pc' := 90) (k := 3) rfl rfl d_M_tell_89 rfl ?_
            refine cn_if_eq_n (tgt := 104) (pc' := 93) (by omega) d_M_tell_90 (by decide) rfl (fun hc90 => ?_) (fun hc90 => ?_)
            · exact False.elim (by omega)
            · refine cn_aload_n (pc' := 94) (k := 0) rfl rfl d_M_tell_93 rfl ?_
              refine cn_getP (pc' := 97) (b := 164) (hm.2.1 11 164 rfl) fl_M_39 hm.1 rfl d_M_tell_94 rfl ?_
              refine cn_iload_n (pc' := 98) (k := 1) rfl rfl d_M_tell_97 rfl ?_
              refine cn_ialdv (pc' := 99) (v := nI (x.2.2.2.length)) a8.1 (hm.2.2 164 0 6 rfl) (by omega) (by decide) d_M_tell_98 rfl ?_
              refine cn_iconst (pc' := 100) k_c_1 d_M_tell_99 rfl ?_
              refine cn_isub_n (pc' := 101) (by omega) d_M_tell_100 rfl ?_
              refine cn_goto (tgt := 110) d_M_tell_101 (by decide) ?_
              refine cn_iast (pc' := 111) (hm.2.2 164 0 6 rfl) (by omega) (by decide) d_M_tell_110 rfl ?_
              refine cn_aload_n (pc' := 112) (k := 0) rfl rfl d_M_tell_111 rfl ?_
              refine cn_iload_n (pc' := 113) (k := 1) rfl rfl d_M_tell_112 rfl ?_
              refine cn_iload_n (pc' := 114) (k := 2) rfl rfl d_M_tell_113 rfl ?_
              refine cn_iload (pc' := 116) (k := 4) rfl d_M_tell_114 rfl ?_
              refine cn_if_eq_n (tgt := 123) (pc' := 119) (by omega) d_M_tell_116 (by decide) rfl (fun hc116 => ?_) (fun hc116 => ?_)
              · exact False.elim (by omega)
              · refine cn_iconst (pc' := 120) k_c_1 d_M_tell_119 rfl ?_
                refine cn_goto (tgt := 124) d_M_tell_120 (by decide) ?_
                refine cn_callV (pc' := 127) (kc1 := 0) (ks1 := 0) (kc2 := 0) (ks2 := 0) (rest := []) (lvj := [(0, .ref 155), (1, .int (nI (i))), (2, .int (nI (nd))), (3, .int (nI (1)))]) [.int (nI (i)), .int (nI (nd)), .int (nI (1))] mv_M_121 hm.1 rfl rfl rfl (Nat.le_of_ble_eq_true rfl) (Nat.le_of_ble_eq_true rfl) (by omega) (by omega) (by omega) d_M_tell_124 rfl ?_
                have hq2 := mq_dropLast a8 (w := nI (x.2.2.2.length - 1)) rfl
                have hdl : x.2.2.2.dropLast.length = x.2.2.2.length - 1 := List.length_dropLast
                have hf2 : fQ I ((cn_wi I 164 i (nI (x.2.2.2.length - 1)))) i := fun a k x y z => mw_o (by omega)
                refine c_M_append (v := v) hm hi hnd hq2 (by first | omega | (rw [mk1_len]; omega)) (by decide) ((hf2 _ _ (by omega) (by omega) (by omega)).trans hv1) hv2 (fun j hj => (hf2 _ _ (by omega) (by omega) (by omega)).trans (hv3 j hj)) (fun I9 hq9 hf9 => ?_)
                show cn_V l en mi_M_tell d 0 0 S I9 P Q 127 [(0, .ref 155), (1, .int (nI (i))), (2, .int (nI (nd))), (3, .int (nI (1))), (4, .int (nI (1)))] []
                refine cn_vret rfl d_M_tell_127 ?_
                have e : nq x.2.1 x.2.2.1 x.2.2.2 v = x.2.2.2.dropLast ++ [(v, nI 1)] := by unfold nq; rw [if_pos (by omega), if_neg (by rw [tn_0 hc52]; decide), if_pos (by omega)]
                rw [e] at K hql
                exact K I9 (mIt_q hx hq9 hql (fun a x1 x2 => ((hf2.tr hf9) a i (by omega) (by omega) (by omega)))) (hf2.tr hf9)
          · refine cn_aload_n (pc' := 56) (k := 0) rfl rfl d_M_tell_55 rfl ?_
            refine cn_iload_n (pc' := 57) (k := 1) rfl rfl d_M_tell_56 rfl ?_
            refine cn_callV (pc' := 60) (kc1 := 0) (ks1 := 0) (kc2 := 0) (ks2 := 0) (rest := []) (lvj := [(0, .ref 155), (1, .int (nI (i)))]) [.int (nI (i))] mv_M_117 hm.1 rfl rfl rfl (Nat.le_of_ble_eq_true rfl) (Nat.le_of_ble_eq_true rfl) (by omega) (by omega) (by omega) d_M_tell_57 rfl ?_
            refine c_M_dropFirst hm hi a8 (by omega) (by omega) (fun I1 hq1 hf1 => ?_)
            have htl : x.2.2.2.tail.length = x.2.2.2.length - 1 := List.length_tail
            show cn_V l en mi_M_tell d 0 0 S I1 P Q 60 [(0, .ref 155), (1, .int (nI (i))), (2, .int (nI (nd))), (3, .int (nI (1))), (4, .int (nI (1)))] []
            refine cn_iload (pc' := 62) (k := 4) rfl d_M_tell_60 rfl ?_
            refine cn_if_eq_n (tgt := 74) (pc' := 65) (by omega) d_M_tell_62 (by decide) rfl (fun hc62 => ?_) (fun hc62 => ?_)
            · exact False.elim (by omega)
            · refine cn_aload_n (pc' := 66) (k := 0) rfl rfl d_M_tell_65 rfl ?_
              refine cn_getP (pc' := 69) (b := 166) (hm.2.1 13 166 rfl) fl_M_45 hm.1 rfl d_M_tell_66 rfl ?_
              refine cn_iconst (pc' := 70) k_c_4 d_M_tell_69 rfl ?_
              refine cn_iload_n (pc' := 71) (k := 1) rfl rfl d_M_tell_70 rfl ?_
              refine cn_imul_n (pc' := 72) d_M_tell_71 rfl ?_
              refine cn_iconst (pc' := 73) k_c_1 d_M_tell_72 rfl ?_
              refine cn_iast (pc' := 74) (hm.2.2 166 0 24 rfl) (by omega) (by decide) d_M_tell_73 rfl ?_
              refine cn_aload_n (pc' := 75) (k := 0) rfl rfl d_M_tell_74 rfl ?_
              refine cn_iload_n (pc' := 76) (k := 1) rfl rfl d_M_tell_75 rfl ?_
              refine cn_iload_n (pc' := 77) (k := 2) rfl rfl d_M_tell_76 rfl ?_
              refine cn_iconst (pc' := 78) k_c_0 d_M_tell_77 rfl ?_
              refine cn_callV (pc' := 81) (kc1 := 0) (ks1 := 0) (kc2 := 0) (ks2 := 0) (rest := []) (lvj := [(0, .ref 155), (1, .int (nI (i))), (2, .int (nI (nd))), (3, .int (nI (0)))]) [.int (nI (i)), .int (nI (nd)), .int (nI (0))] mv_M_121 hm.1 rfl rfl rfl (Nat.le_of_ble_eq_true rfl) (Nat.le_of_ble_eq_true rfl) (by omega) (by omega) (by omega) d_M_tell_78 rfl ?_
              have hq2 := mq_mk1 hq1 (by omega)
              have hf2 : fQ I ((cn_wi I1 166 (4 * i) (nI (1)))) i := (hf1.tr (fun a k x y z => mw_o (by omega)))
              refine c_M_append (v := v) hm hi hnd hq2 (by first | omega | (rw [mk1_len]; omega)) (by decide) ((hf2 _ _ (by omega) (by omega) (by omega)).trans hv1) hv2 (fun j hj => (hf2 _ _ (by omega) (by omega) (by omega)).trans (hv3 j hj)) (fun I9 hq9 hf9 => ?_)
              show cn_V l en mi_M_tell d 0 0 S I9 P Q 81 [(0, .ref 155), (1, .int (nI (i))), (2, .int (nI (nd))), (3, .int (nI (1))), (4, .int (nI (1)))] []
              refine cn_goto (tgt := 127) d_M_tell_81 (by decide) ?_
              refine cn_vret rfl d_M_tell_127 ?_
              have e : nq x.2.1 x.2.2.1 x.2.2.2 v = mk1 x.2.2.2.tail ++ [(v, nI 0)] := by unfold nq; rw [if_pos (by omega), if_pos (tn_1 hc52), if_pos (by omega), mk1_app _ (by omega)]
              rw [e] at K hql
              exact K I9 (mIt_q hx hq9 hql (fun a x1 x2 => ((hf2.tr hf9) a i (by omega) (by omega) (by omega)))) (hf2.tr hf9)
end
/-- nothing changed but values and queues -/
def fB (I I' : cn_I) : Prop := ∀ a k, (a < 159 ∨ 160 < a) → (a < 164 ∨ 167 < a) → I' a k = I a k
theorem fB.tr {I I1 I2 : cn_I} (h1 : fB I I1) (h2 : fB I1 I2) : fB I I2 := fun a k x y => (h2 a k x y).trans (h1 a k x y)
theorem li_eq {v u : List Int32} (h : v.length = u.length) (h2 : ∀ j, j < u.length → v.getD j 0 = u.getD j 0) : v = u := by
  apply List.ext_getElem h
  intro i h3 h4
  have := h2 i h4
  rw [List.getD_eq_getElem?_getD, List.getD_eq_getElem?_getD, List.getElem?_eq_getElem h3, List.getElem?_eq_getElem h4] at this
  exact this
theorem prs_set {ns : List sNode} {k : Nat} {u : List Int32} (h : prs ns) (hk : k < ns.length) : prs (ns.set k ((ns.getD k nd0).1, (ns.getD k nd0).2.1, u)) := by
  obtain ⟨h0, h1, h2⟩ := h
  have e : ∀ i, ((ns.set k ((ns.getD k nd0).1, (ns.getD k nd0).2.1, u)).getD i nd0).1 = (ns.getD i nd0).1 := fun i => by
    rw [nd_set ns k i _ hk]
    by_cases e : i = k
    · subst e; rw [if_pos rfl]
    · rw [if_neg e]
  refine ⟨by rw [List.length_set]; exact h0, by rw [e]; exact h1, fun i hi => ?_⟩
  rw [List.length_set] at hi ⊢
  rw [e]; exact h2 i hi
theorem mN_set {I I' : cn_I} {ns : List sNode} {k : Nat} {u : List Int32} (h : mN I ns) (hk : k < ns.length) (h1 : I' 159 k = nI u.length) (hu : u.length ≤ 61) (h2 : ∀ j, j < u.length → I' 160 (64 * k + j) = u.getD j 0) (hf : ∀ a j, (a < 159 ∨ (a = 159 ∧ j ≠ k) ∨ (a = 160 ∧ (j < 64 * k ∨ 64 * k + 64 ≤ j))) → I' a j = I a j) : mN I' (ns.set k ((ns.getD k nd0).1, (ns.getD k nd0).2.1, u)) := by
  refine ⟨by rw [List.length_set]; exact (hf _ _ (by omega)).trans h.1, by rw [List.length_set]; exact h.2.1, fun i hi => ?_, prs_set h.2.2.2 hk⟩
  rw [List.length_set] at hi
  rw [nd_set ns k i _ hk]
  obtain ⟨b1, b2, b3, b4, b5, b6⟩ := h.2.2.1 i hi
  by_cases e : i = k
  · subst e
    rw [if_pos rfl]
    exact ⟨(hf _ _ (by omega)).trans b1, (hf _ _ (by omega)).trans b2, fun e => (hf _ _ (by omega)).trans (b3 e), h1, hu, h2⟩
  · rw [if_neg e]
    exact ⟨(hf _ _ (by omega)).trans b1, (hf _ _ (by omega)).trans b2, fun e => (hf _ _ (by omega)).trans (b3 e), (hf _ _ (by omega)).trans b4, b5, fun j hj => (hf _ _ (by omega)).trans (b6 j hj)⟩
section
variable {l : Launch} {en : cn_E} {d : Nat} {S : cn_S} {I : cn_I} {P : cn_P} {Q : Option Value → cn_S → cn_I → cn_P → Prop}
variable {ns : List sNode} {xs : List sItem} {ps : List sPar} {pn : Int32} {ch : sCh} {rq : Int32} {ru : List Int32} {T : Nat}
theorem c_M_become_116 {k : Nat} {u : List Int32} {s2 : Int32} (hm : wM S P) (hk : k < 16) (hl6 : xs.length ≤ 6) (hu : u.length ≤ 61) (hd1 : 3 ≤ d) (I0 : cn_I) (K : ∀ I', mI I' (xs.map (chx k u)) → (∀ a j, (a < 164 ∨ 167 < a) → I' a j = I0 a j) → Q (some (.int (nI 1))) S I' P) : ∀ (r i : Nat) (I : cn_I), i + r = xs.length → I 155 7 = nI xs.length → I 159 k = nI u.length → (∀ j, j < u.length → I 160 (64 * k + j) = u.getD j 0) → (∀ j, j < xs.length → mIt I j (if j < i then chx k u (xs.getD j it0) else xs.getD j it0)) → (∀ a j, (a < 164 ∨ 167 < a) → I a j = I0 a j) → cn_V l en mi_M_become d 0 0 S I P Q 116 [(0, .ref 155), (1, .int (nI k)), (2, .int s2), (3, .int (nI i))] [] := by
  intro r
  induction r with
  | zero =>
    intro i I hir h7 hv1 hv3 hL hf
    refine cn_iload_n (pc' := 117) (k := 3) rfl rfl d_M_become_116 rfl ?_
    refine cn_aload_n (pc' := 118) (k := 0) rfl rfl d_M_become_117 rfl ?_
    refine cn_getIv (pc' := 121) (v := nI (xs.length)) h7 fl_M_82 hm.1 rfl d_M_become_118 rfl ?_
    refine cn_icmp_ge_n (tgt := 146) (pc' := 124) (by omega) (by omega) d_M_become_121 (by decide) rfl (fun hc121 => ?_) (fun hc121 => ?_)
    · refine cn_iconst (pc' := 147) k_c_1 d_M_become_146 rfl ?_
      refine cn_zret rfl (Or.inr rfl) d_M_become_147 ?_
      refine K I ⟨by rw [List.length_map]; exact h7, by rw [List.length_map]; exact hl6, fun j hj => ?_⟩ hf
      rw [List.length_map] at hj
      rw [it_map _ _ hj]
      have h3 := hL j hj
      rw [if_pos (by omega)] at h3; exact h3
    · exact absurd hc121 (by omega)
  | succ r ih =>
    intro i I hir h7 hv1 hv3 hL hf
    have hx := hL i (by omega)
    rw [if_neg (Nat.lt_irrefl i)] at hx
    have hx2 := hx.2.1
    refine cn_iload_n (pc' := 117) (k := 3) rfl rfl d_M_become_116 rfl ?_
    refine cn_aload_n (pc' := 118) (k := 0) rfl rfl d_M_become_117 rfl ?_
    refine cn_getIv (pc' := 121) (v := nI (xs.length)) h7 fl_M_82 hm.1 rfl d_M_become_118 rfl ?_
    refine cn_icmp_ge_n (tgt := 146) (pc' := 124) (by omega) (by omega) d_M_become_121 (by decide) rfl (fun hc121 => ?_) (fun hc121 => ?_)
    · exact absurd hc121 (by omega)
    · refine cn_aload_n (pc' := 125) (k := 0) rfl rfl d_M_become_124 rfl ?_
      refine cn_getP (pc' := 128) (b := 161) (hm.2.1 8 161 rfl) fl_M_30 hm.1 rfl d_M_become_125 rfl ?_
      refine cn_iload_n (pc' := 129) (k := 3) rfl rfl d_M_become_128 rfl ?_
      refine cn_ialdv (pc' := 130) (v := nI ((xs.getD i it0).1)) hx.1 (hm.2.2 161 0 6 rfl) (by omega) (by decide) d_M_become_129 rfl ?_
      refine cn_iload_n (pc' := 131) (k := 1) rfl rfl d_M_become_130 rfl ?_
      refine cn_icmp_ne_n (tgt := 140) (pc' := 134) (by omega) (by omega) d_M_become_131 (by decide) rfl (fun hc131 => ?_) (fun hc131 => ?_)
      · refine cn_iinc_n (pc' := 143) (lv' := [(0, .ref 155), (1, .int (nI (k))), (2, .int (s2)), (3, .int (nI (i + 1)))]) (k := 3) [1, 2, 3, 0] rfl (Nat.le_of_ble_eq_true rfl) rfl d_M_become_140 rfl ?_
        refine cn_goto (tgt := 116) d_M_become_143 (by decide) ?_
        refine ih (i + 1) I (by omega) h7 hv1 hv3 (fun j hj => ?_) hf
        by_cases e : j = i
        · subst e
          rw [if_pos (Nat.lt_succ_self j), show chx k u (xs.getD j it0) = xs.getD j it0 from if_neg (by omega)]
          exact hx
        · have h3 := hL j hj
          by_cases e2 : j < i
          · rw [if_pos (by omega)]; rw [if_pos e2] at h3; exact h3
          · rw [if_neg (by omega)]; rw [if_neg e2] at h3; exact h3
      · refine cn_aload_n (pc' := 135) (k := 0) rfl rfl d_M_become_134 rfl ?_
        refine cn_iload_n (pc' := 136) (k := 3) rfl rfl d_M_become_135 rfl ?_
        refine cn_iload_n (pc' := 137) (k := 1) rfl rfl d_M_become_136 rfl ?_
        refine cn_callV (pc' := 140) (kc1 := 0) (ks1 := 0) (kc2 := 0) (ks2 := 0) (rest := []) (lvj := [(0, .ref 155), (1, .int (nI (i))), (2, .int (nI (k)))]) [.int (nI (i)), .int (nI (k))] mv_M_128 hm.1 rfl rfl rfl (Nat.le_of_ble_eq_true rfl) (Nat.le_of_ble_eq_true rfl) (by omega) (by omega) (by omega) d_M_become_137 rfl ?_
        refine c_M_tell (v := u) hm (by omega) hk hx hv1 hu hv3 (by omega) (fun I1 hx1 hf1 => ?_)
        show cn_V l en mi_M_become d 0 0 S I1 P Q 140 [(0, .ref 155), (1, .int (nI (k))), (2, .int (s2)), (3, .int (nI (i)))] []
        refine cn_iinc_n (pc' := 143) (lv' := [(0, .ref 155), (1, .int (nI (k))), (2, .int (s2)), (3, .int (nI (i + 1)))]) (k := 3) [1, 2, 3, 0] rfl (Nat.le_of_ble_eq_true rfl) rfl d_M_become_140 rfl ?_
        refine cn_goto (tgt := 116) d_M_become_143 (by decide) ?_
        refine ih (i + 1) I1 (by omega) ((hf1 _ _ (by omega) (by omega) (by omega)).trans h7) ((hf1 _ _ (by omega) (by omega) (by omega)).trans hv1) (fun j hj => (hf1 _ _ (by omega) (by omega) (by omega)).trans (hv3 j hj)) (fun j hj => ?_) (fun a j x => (hf1 a j (by omega) (by omega) (by omega)).trans (hf a j x))
        by_cases e : j = i
        · subst e
          rw [if_pos (Nat.lt_succ_self j)]
          rw [show chx k u (xs.getD j it0) = ((xs.getD j it0).1, (xs.getD j it0).2.1, (xs.getD j it0).2.2.1, nq (xs.getD j it0).2.1 (xs.getD j it0).2.2.1 (xs.getD j it0).2.2.2 u) from if_pos (by omega)]
          exact hx1
        · have h3 := (hL j hj).fQ hf1 e
          by_cases e2 : j < i
          · rw [if_pos (by omega)]; rw [if_pos e2] at h3; exact h3
          · rw [if_neg (by omega)]; rw [if_neg e2] at h3; exact h3
theorem c_M_become_83 {k : Nat} {u : List Int32} {s2 : Int32} (hm : wM S P) (hk : k < 16) (hu : u.length ≤ 61) (I0 : cn_I) (hv0 : mv I0 u) (K : ∀ I', I' 159 k = nI u.length → (∀ j, j < u.length → I' 160 (64 * k + j) = u.getD j 0) → (∀ a j, (a ≠ 159 ∨ j ≠ k) → (a ≠ 160 ∨ j < 64 * k ∨ 64 * k + 64 ≤ j) → I' a j = I0 a j) → cn_V l en mi_M_become d 0 0 S I' P Q 114 [(0, .ref 155), (1, .int (nI k)), (2, .int s2), (3, .int (nI u.length))] []) : ∀ (r i : Nat) (I : cn_I), i + r = u.length → I 159 k = nI u.length → (∀ j, j < i → I 160 (64 * k + j) = u.getD j 0) → (∀ a j, (a ≠ 159 ∨ j ≠ k) → (a ≠ 160 ∨ j < 64 * k ∨ 64 * k + 64 ≤ j) → I a j = I0 a j) → cn_V l en mi_M_become d 0 0 S I P Q 83 [(0, .ref 155), (1, .int (nI k)), (2, .int s2), (3, .int (nI i))] [] := by
  intro r
  induction r with
  | zero =>
    intro i I hir h1 hb hf
    refine cn_iload_n (pc' := 84) (k := 3) rfl rfl d_M_become_83 rfl ?_
    refine cn_aload_n (pc' := 85) (k := 0) rfl rfl d_M_become_84 rfl ?_
    refine cn_getIv (pc' := 88) (v := nI (u.length)) ((hf _ _ (by omega) (by omega)).trans hv0.1) fl_M_125 hm.1 rfl d_M_become_85 rfl ?_
    refine cn_icmp_ge_n (tgt := 114) (pc' := 91) (by omega) (by omega) d_M_become_88 (by decide) rfl (fun hc88 => ?_) (fun hc88 => ?_)
    · obtain rfl : i = u.length := by omega
      exact K I h1 hb hf
    · exact absurd hc88 (by omega)
  | succ r ih =>
    intro i I hir h1 hb hf
    refine cn_iload_n (pc' := 84) (k := 3) rfl rfl d_M_become_83 rfl ?_
    refine cn_aload_n (pc' := 85) (k := 0) rfl rfl d_M_become_84 rfl ?_
    refine cn_getIv (pc' := 88) (v := nI (u.length)) ((hf _ _ (by omega) (by omega)).trans hv0.1) fl_M_125 hm.1 rfl d_M_become_85 rfl ?_
    refine cn_icmp_ge_n (tgt := 114) (pc' := 91) (by omega) (by omega) d_M_become_88 (by decide) rfl (fun hc88 => ?_) (fun hc88 => ?_)
    · exact absurd hc88 (by omega)
    · refine cn_aload_n (pc' := 92) (k := 0) rfl rfl d_M_become_91 rfl ?_
      refine cn_getP (pc' := 95) (b := 160) (hm.2.1 6 160 rfl) fl_M_27 hm.1 rfl d_M_become_92 rfl ?_
      refine cn_bipush (pc' := 97) k_b_64 d_M_become_95 rfl ?_
      refine cn_iload_n (pc' := 98) (k := 1) rfl rfl d_M_become_97 rfl ?_
      refine cn_imul_n (pc' := 99) d_M_become_98 rfl ?_
      refine cn_iload_n (pc' := 100) (k := 3) rfl rfl d_M_become_99 rfl ?_
      refine cn_iadd_n (pc' := 101) d_M_become_100 rfl ?_
      refine cn_aload_n (pc' := 102) (k := 0) rfl rfl d_M_become_101 rfl ?_
      refine cn_getP (pc' := 105) (b := 172) (hm.2.1 31 172 rfl) fl_M_63 hm.1 rfl d_M_become_102 rfl ?_
      refine cn_iload_n (pc' := 106) (k := 3) rfl rfl d_M_become_105 rfl ?_
      refine cn_ialdv (pc' := 107) (v := u.getD i 0) ((hf _ _ (by omega) (by omega)).trans (hv0.2.2 i (by omega))) (hm.2.2 172 0 64 rfl) (by omega) (by decide) d_M_become_106 rfl ?_
      refine cn_iast (pc' := 108) (hm.2.2 160 0 1024 rfl) (by omega) (by decide) d_M_become_107 rfl ?_
      refine cn_iinc_n (pc' := 111) (lv' := [(0, .ref 155), (1, .int (nI (k))), (2, .int (s2)), (3, .int (nI (i + 1)))]) (k := 3) [1, 2, 3, 0] rfl (Nat.le_of_ble_eq_true rfl) rfl d_M_become_108 rfl ?_
      refine cn_goto (tgt := 83) d_M_become_111 (by decide) ?_
      refine ih (i + 1) _ (by omega) (mw_a (by decide) h1) (fun j hj => ?_) (fun a j x y => by rw [mw_o (by omega)]; exact hf a j x y)
      by_cases e : j = i
      · subst e; exact mw_e
      · rw [mw_o (by omega)]; exact hb j (by omega)
theorem c_M_become_21 {k : Nat} {u v : List Int32} (hm : wM S P) (hk : k < 16) (hu : u.length ≤ 61) (hv0 : mv I u) (hvl : v.length ≤ 61) (hv3 : ∀ j, j < v.length → I 160 (64 * k + j) = v.getD j 0) (K1 : v = u → cn_V l en mi_M_become d 0 0 S I P Q 65 [(0, .ref 155), (1, .int (nI k)), (2, .int (nI 1)), (3, .int (nI u.length))] []) (K0 : ¬ v = u → cn_V l en mi_M_become d 0 0 S I P Q 65 [(0, .ref 155), (1, .int (nI k)), (2, .int (nI 0)), (3, .int (nI u.length))] []) : ∀ (r i : Nat) (b : Bool), i + r = u.length → (b = true → v.length = u.length ∧ ∀ j, j < i → v.getD j 0 = u.getD j 0) → (b = false → ¬ v = u) → cn_V l en mi_M_become d 0 0 S I P Q 21 [(0, .ref 155), (1, .int (nI k)), (2, .int (nI b.toNat)), (3, .int (nI i))] [] := by
  intro r
  induction r with
  | zero =>
    intro i b hir hb1 hb0
    cases b with
    | false =>
      show cn_V l en mi_M_become d 0 0 S I P Q 21 [(0, .ref 155), (1, .int (nI (k))), (2, .int (nI (0))), (3, .int (nI (i)))] []
      refine cn_iload_n (pc' := 22) (k := 3) rfl rfl d_M_become_21 rfl ?_
      refine cn_aload_n (pc' := 23) (k := 0) rfl rfl d_M_become_22 rfl ?_
      refine cn_getIv (pc' := 26) (v := nI (u.length)) hv0.1 fl_M_125 hm.1 rfl d_M_become_23 rfl ?_
      refine cn_icmp_ge_n (tgt := 65) (pc' := 29) (by omega) (by omega) d_M_become_26 (by decide) rfl (fun hc26 => ?_) (fun hc26 => ?_)
      · obtain rfl : i = u.length := by omega
        exact K0 (hb0 rfl)
      · exact absurd hc26 (by omega)
    | true =>
      obtain ⟨c1, c2⟩ := hb1 rfl
      show cn_V l en mi_M_become d 0 0 S I P Q 21 [(0, .ref 155), (1, .int (nI (k))), (2, .int (nI (1))), (3, .int (nI (i)))] []
      refine cn_iload_n (pc' := 22) (k := 3) rfl rfl d_M_become_21 rfl ?_
      refine cn_aload_n (pc' := 23) (k := 0) rfl rfl d_M_become_22 rfl ?_
      refine cn_getIv (pc' := 26) (v := nI (u.length)) hv0.1 fl_M_125 hm.1 rfl d_M_become_23 rfl ?_
      refine cn_icmp_ge_n (tgt := 65) (pc' := 29) (by omega) (by omega) d_M_become_26 (by decide) rfl (fun hc26 => ?_) (fun hc26 => ?_)
      · obtain rfl : i = u.length := by omega
        exact K1 (li_eq c1 c2)
      · exact absurd hc26 (by omega)
  | succ r ih =>
    intro i b hir hb1 hb0
    cases b with
    | false =>
      show cn_V l en mi_M_become d 0 0 S I P Q 21 [(0, .ref 155), (1, .int (nI (k))), (2, .int (nI (0))), (3, .int (nI (i)))] []
      refine cn_iload_n (pc' := 22) (k := 3) rfl rfl d_M_become_21 rfl ?_
      refine cn_aload_n (pc' := 23) (k := 0) rfl rfl d_M_become_22 rfl ?_
      refine cn_getIv (pc' := 26) (v := nI (u.length)) hv0.1 fl_M_125 hm.1 rfl d_M_become_23 rfl ?_
      refine cn_icmp_ge_n (tgt := 65) (pc' := 29) (by omega) (by omega) d_M_become_26 (by decide) rfl (fun hc26 => ?_) (fun hc26 => ?_)
      · exact absurd hc26 (by omega)
      · refine cn_iload_n (pc' := 30) (k := 2) rfl rfl d_M_become_29 rfl ?_
        refine cn_if_eq_n (tgt := 57) (pc' := 33) (by omega) d_M_become_30 (by decide) rfl (fun hc30 => ?_) (fun hc30 => ?_)
        · refine cn_iconst (pc' := 58) k_c_0 d_M_become_57 rfl ?_
          refine cn_istore_n (pc' := 59) (lv' := [(0, .ref 155), (1, .int (nI (k))), (2, .int (nI (0))), (3, .int (nI (i)))]) rfl [1, 2, 0, 3] (Nat.le_of_ble_eq_true rfl) rfl d_M_become_58 rfl ?_
          refine cn_iinc_n (pc' := 62) (lv' := [(0, .ref 155), (1, .int (nI (k))), (2, .int (nI (0))), (3, .int (nI (i + 1)))]) (k := 3) [1, 2, 3, 0] rfl (Nat.le_of_ble_eq_true rfl) rfl d_M_become_59 rfl ?_
          refine cn_goto (tgt := 21) d_M_become_62 (by decide) ?_
          exact ih (i + 1) false (by omega) (fun h => by cases h) (fun _ => hb0 rfl)
        · exact False.elim (by omega)
    | true =>
      obtain ⟨c1, c2⟩ := hb1 rfl
      show cn_V l en mi_M_become d 0 0 S I P Q 21 [(0, .ref 155), (1, .int (nI (k))), (2, .int (nI (1))), (3, .int (nI (i)))] []
      refine cn_iload_n (pc' := 22) (k := 3) rfl rfl d_M_become_21 rfl ?_
      refine cn_aload_n (pc' := 23) (k := 0) rfl rfl d_M_become_22 rfl ?_
      refine cn_getIv (pc' := 26) (v := nI (u.length)) hv0.1 fl_M_125 hm.1 rfl d_M_become_23 rfl ?_
      refine cn_icmp_ge_n (tgt := 65) (pc' := 29) (by omega) (by omega) d_M_become_26 (by decide) rfl (fun hc26 => ?_) (fun hc26 => ?_)
      · exact absurd hc26 (by omega)
      · refine cn_iload_n (pc' := 30) (k := 2) rfl rfl d_M_become_29 rfl ?_
        refine cn_if_eq_n (tgt := 57) (pc' := 33) (by omega) d_M_become_30 (by decide) rfl (fun hc30 => ?_) (fun hc30 => ?_)
        · exact False.elim (by omega)
        · refine cn_aload_n (pc' := 34) (k := 0) rfl rfl d_M_become_33 rfl ?_
          refine cn_getP (pc' := 37) (b := 160) (hm.2.1 6 160 rfl) fl_M_27 hm.1 rfl d_M_become_34 rfl ?_
          refine cn_bipush (pc' := 39) k_b_64 d_M_become_37 rfl ?_
          refine cn_iload_n (pc' := 40) (k := 1) rfl rfl d_M_become_39 rfl ?_
          refine cn_imul_n (pc' := 41) d_M_become_40 rfl ?_
          refine cn_iload_n (pc' := 42) (k := 3) rfl rfl d_M_become_41 rfl ?_
          refine cn_iadd_n (pc' := 43) d_M_become_42 rfl ?_
          refine cn_ialdv (pc' := 44) (v := v.getD i 0) (hv3 i (by omega)) (hm.2.2 160 0 1024 rfl) (by omega) (by decide) d_M_become_43 rfl ?_
          refine cn_aload_n (pc' := 45) (k := 0) rfl rfl d_M_become_44 rfl ?_
          refine cn_getP (pc' := 48) (b := 172) (hm.2.1 31 172 rfl) fl_M_63 hm.1 rfl d_M_become_45 rfl ?_
          refine cn_iload_n (pc' := 49) (k := 3) rfl rfl d_M_become_48 rfl ?_
          refine cn_ialdv (pc' := 50) (v := u.getD i 0) (hv0.2.2 i (by omega)) (hm.2.2 172 0 64 rfl) (by omega) (by decide) d_M_become_49 rfl ?_
          refine cn_icmp_ne (tgt := 57) (pc' := 53) d_M_become_50 (by decide) rfl (fun hc50 => ?_) (fun hc50 => ?_)
          · refine cn_iconst (pc' := 58) k_c_0 d_M_become_57 rfl ?_
            refine cn_istore_n (pc' := 59) (lv' := [(0, .ref 155), (1, .int (nI (k))), (2, .int (nI (0))), (3, .int (nI (i)))]) rfl [1, 2, 0, 3] (Nat.le_of_ble_eq_true rfl) rfl d_M_become_58 rfl ?_
            refine cn_iinc_n (pc' := 62) (lv' := [(0, .ref 155), (1, .int (nI (k))), (2, .int (nI (0))), (3, .int (nI (i + 1)))]) (k := 3) [1, 2, 3, 0] rfl (Nat.le_of_ble_eq_true rfl) rfl d_M_become_59 rfl ?_
            refine cn_goto (tgt := 21) d_M_become_62 (by decide) ?_
            exact ih (i + 1) false (by omega) (fun h => by cases h) (fun _ e => hc50 (by rw [e]))
          · refine cn_iconst (pc' := 54) k_c_1 d_M_become_53 rfl ?_
            refine cn_goto (tgt := 58) d_M_become_54 (by decide) ?_
            refine cn_istore_n (pc' := 59) (lv' := [(0, .ref 155), (1, .int (nI (k))), (2, .int (nI (1))), (3, .int (nI (i)))]) rfl [1, 2, 0, 3] (Nat.le_of_ble_eq_true rfl) rfl d_M_become_58 rfl ?_
            refine cn_iinc_n (pc' := 62) (lv' := [(0, .ref 155), (1, .int (nI (k))), (2, .int (nI (1))), (3, .int (nI (i + 1)))]) (k := 3) [1, 2, 3, 0] rfl (Nat.le_of_ble_eq_true rfl) rfl d_M_become_59 rfl ?_
            refine cn_goto (tgt := 21) d_M_become_62 (by decide) ?_
            exact ih (i + 1) true (by omega) (fun _ => ⟨c1, fun j hj => by
              by_cases e : j = i
              · subst e; exact hc50
              · exact c2 j (by omega)⟩) (fun h => by cases h)
theorem c_M_become {k : Nat} {u : List Int32} (hm : wM S P) (hN : mN I ns) (hJ : mI I xs) (hkl : k < ns.length) (hv0 : mv I u) (hu : u.length ≤ 61) (hd1 : 3 ≤ d) (K : ∀ I', mN I' (chg ns xs k u).2.1 → mI I' (chg ns xs k u).2.2 → fB I I' → Q (some (.int (nI (chg ns xs k u).1.toNat))) S I' P) : cn_V l en mi_M_become d 0 0 S I P Q 0 [(0, .ref 155), (1, .int (nI k))] [] := by
  have hl := hN.2.1
  have hl6 := hJ.2.1
  obtain ⟨b1, b2, b3, b4, b5, b6⟩ := hN.2.2.1 k hkl
  refine cn_aload_n (pc' := 1) (k := 0) rfl rfl d_M_become_0 rfl ?_
  refine cn_getP (pc' := 4) (b := 159) (hm.2.1 5 159 rfl) fl_M_24 hm.1 rfl d_M_become_1 rfl ?_
  refine cn_iload_n (pc' := 5) (k := 1) rfl rfl d_M_become_4 rfl ?_
  refine cn_ialdv (pc' := 6) (v := nI ((ns.getD k nd0).2.2.length)) b4 (hm.2.2 159 0 16 rfl) (by omega) (by decide) d_M_become_5 rfl ?_
  refine cn_aload_n (pc' := 7) (k := 0) rfl rfl d_M_become_6 rfl ?_
  refine cn_getIv (pc' := 10) (v := nI (u.length)) hv0.1 fl_M_125 hm.1 rfl d_M_become_7 rfl ?_
  refine cn_icmp_ne_n (tgt := 17) (pc' := 13) (by omega) (by omega) d_M_become_10 (by decide) rfl (fun hc10 => ?_) (fun hc10 => ?_)
  · refine cn_iconst (pc' := 18) k_c_0 d_M_become_17 rfl ?_
    refine cn_istore_n (pc' := 19) (lv' := [(0, .ref 155), (1, .int (nI (k))), (2, .int (nI (0)))]) rfl [1, 2, 0] (Nat.le_of_ble_eq_true rfl) rfl d_M_become_18 rfl ?_
    refine cn_iconst (pc' := 20) k_c_0 d_M_become_19 rfl ?_
    refine cn_istore_n (pc' := 21) (lv' := [(0, .ref 155), (1, .int (nI (k))), (2, .int (nI (0))), (3, .int (nI (0)))]) rfl [1, 2, 3, 0] (Nat.le_of_ble_eq_true rfl) rfl d_M_become_20 rfl ?_
    refine c_M_become_21 (v := (ns.getD k nd0).2.2) hm (by omega) hu hv0 b5 b6 (fun e => ?_) (fun e => ?_) u.length 0 false (by omega) (fun h => by cases h) (fun h => fun e => hc10 (by rw [e]))
    · refine cn_iload_n (pc' := 66) (k := 2) rfl rfl d_M_become_65 rfl ?_
      refine cn_if_eq_n (tgt := 71) (pc' := 69) (by omega) d_M_become_66 (by decide) rfl (fun hc66 => ?_) (fun hc66 => ?_)
      · exact False.elim (by omega)
      · refine cn_iconst (pc' := 70) k_c_0 d_M_become_69 rfl ?_
        refine cn_zret rfl (Or.inl rfl) d_M_become_70 ?_
        rw [show chg ns xs k u = (false, ns, xs) from if_pos e] at K
        exact K I hN hJ (fun _ _ _ _ => rfl)
    · refine cn_iload_n (pc' := 66) (k := 2) rfl rfl d_M_become_65 rfl ?_
      refine cn_if_eq_n (tgt := 71) (pc' := 69) (by omega) d_M_become_66 (by decide) rfl (fun hc66 => ?_) (fun hc66 => ?_)
      · refine cn_aload_n (pc' := 72) (k := 0) rfl rfl d_M_become_71 rfl ?_
        refine cn_getP (pc' := 75) (b := 159) (hm.2.1 5 159 rfl) fl_M_24 hm.1 rfl d_M_become_72 rfl ?_
        refine cn_iload_n (pc' := 76) (k := 1) rfl rfl d_M_become_75 rfl ?_
        refine cn_aload_n (pc' := 77) (k := 0) rfl rfl d_M_become_76 rfl ?_
        refine cn_getIv (pc' := 80) (v := nI (u.length)) hv0.1 fl_M_125 hm.1 rfl d_M_become_77 rfl ?_
        refine cn_iast (pc' := 81) (hm.2.2 159 0 16 rfl) (by omega) (by decide) d_M_become_80 rfl ?_
        refine cn_iconst (pc' := 82) k_c_0 d_M_become_81 rfl ?_
        refine cn_istore_n (pc' := 83) (lv' := [(0, .ref 155), (1, .int (nI (k))), (2, .int (nI (0))), (3, .int (nI (0)))]) rfl [1, 2, 3, 0] (Nat.le_of_ble_eq_true rfl) rfl d_M_become_82 rfl ?_
        rw [show chg ns xs k u = (true, ns.set k ((ns.getD k nd0).1, (ns.getD k nd0).2.1, u), xs.map (chx k u)) from if_neg e] at K
        refine c_M_become_83 (u := u) hm (by omega) hu I hv0 (fun I1 d1 d2 hf1 => ?_) u.length 0 _ (by omega) mw_e (fun j hj => absurd hj (Nat.not_lt_zero j)) (fun a j x y => by rw [mw_o (by omega)])
        refine cn_iconst (pc' := 115) k_c_0 d_M_become_114 rfl ?_
        refine cn_istore_n (pc' := 116) (lv' := [(0, .ref 155), (1, .int (nI (k))), (2, .int (nI (0))), (3, .int (nI (0)))]) rfl [1, 2, 3, 0] (Nat.le_of_ble_eq_true rfl) rfl d_M_become_115 rfl ?_
        refine c_M_become_116 (xs := xs) (u := u) hm (by omega) hl6 hu (by omega) I1 (fun I2 hJ2 hf2 => ?_) xs.length 0 I1 (by omega) ((hf1 _ _ (by omega) (by omega)).trans hJ.1) d1 d2 (fun j hj => ?_) (fun _ _ _ => rfl)
        · refine K I2 (mN_set hN hkl ((hf2 _ _ (by omega)).trans d1) hu (fun j hj => (hf2 _ _ (by omega)).trans (d2 j hj)) (fun a j x => (hf2 _ _ (by omega)).trans (hf1 _ _ (by omega) (by omega)))) hJ2 (fun a j x y => (hf2 _ _ (by omega)).trans (hf1 _ _ (by omega) (by omega)))
        · rw [if_neg (Nat.not_lt_zero j)]
          exact (hJ.2.2 j hj).congr (fun a x y => hf1 _ _ (by omega) (by omega)) (fun j _ => hf1 _ _ (by omega) (by omega)) (fun j _ => hf1 _ _ (by omega) (by omega)) (fun j k _ _ => hf1 _ _ (by omega) (by omega))
      · exact False.elim (by omega)
  · refine cn_iconst (pc' := 14) k_c_1 d_M_become_13 rfl ?_
    refine cn_goto (tgt := 18) d_M_become_14 (by decide) ?_
    refine cn_istore_n (pc' := 19) (lv' := [(0, .ref 155), (1, .int (nI (k))), (2, .int (nI (1)))]) rfl [1, 2, 0] (Nat.le_of_ble_eq_true rfl) rfl d_M_become_18 rfl ?_
    refine cn_iconst (pc' := 20) k_c_0 d_M_become_19 rfl ?_
    refine cn_istore_n (pc' := 21) (lv' := [(0, .ref 155), (1, .int (nI (k))), (2, .int (nI (1))), (3, .int (nI (0)))]) rfl [1, 2, 3, 0] (Nat.le_of_ble_eq_true rfl) rfl d_M_become_20 rfl ?_
    refine c_M_become_21 (v := (ns.getD k nd0).2.2) hm (by omega) hu hv0 b5 b6 (fun e => ?_) (fun e => ?_) u.length 0 true (by omega) (fun h => ⟨by omega, fun j hj => absurd hj (Nat.not_lt_zero j)⟩) (fun h => by cases h)
    · refine cn_iload_n (pc' := 66) (k := 2) rfl rfl d_M_become_65 rfl ?_
      refine cn_if_eq_n (tgt := 71) (pc' := 69) (by omega) d_M_become_66 (by decide) rfl (fun hc66 => ?_) (fun hc66 => ?_)
      · exact False.elim (by omega)
      · refine cn_iconst (pc' := 70) k_c_0 d_M_become_69 rfl ?_
        refine cn_zret rfl (Or.inl rfl) d_M_become_70 ?_
        rw [show chg ns xs k u = (false, ns, xs) from if_pos e] at K
        exact K I hN hJ (fun _ _ _ _ => rfl)
    · refine cn_iload_n (pc' := 66) (k := 2) rfl rfl d_M_become_65 rfl ?_
      refine cn_if_eq_n (tgt := 71) (pc' := 69) (by omega) d_M_become_66 (by decide) rfl (fun hc66 => ?_) (fun hc66 => ?_)
      · refine cn_aload_n (pc' := 72) (k := 0) rfl rfl d_M_become_71 rfl ?_
        refine cn_getP (pc' := 75) (b := 159) (hm.2.1 5 159 rfl) fl_M_24 hm.1 rfl d_M_become_72 rfl ?_
        refine cn_iload_n (pc' := 76) (k := 1) rfl rfl d_M_become_75 rfl ?_
        refine cn_aload_n (pc' := 77) (k := 0) rfl rfl d_M_become_76 rfl ?_
        refine cn_getIv (pc' := 80) (v := nI (u.length)) hv0.1 fl_M_125 hm.1 rfl d_M_become_77 rfl ?_
        refine cn_iast (pc' := 81) (hm.2.2 159 0 16 rfl) (by omega) (by decide) d_M_become_80 rfl ?_
        refine cn_iconst (pc' := 82) k_c_0 d_M_become_81 rfl ?_
        refine cn_istore_n (pc' := 83) (lv' := [(0, .ref 155), (1, .int (nI (k))), (2, .int (nI (0))), (3, .int (nI (0)))]) rfl [1, 2, 3, 0] (Nat.le_of_ble_eq_true rfl) rfl d_M_become_82 rfl ?_
        rw [show chg ns xs k u = (true, ns.set k ((ns.getD k nd0).1, (ns.getD k nd0).2.1, u), xs.map (chx k u)) from if_neg e] at K
        refine c_M_become_83 (u := u) hm (by omega) hu I hv0 (fun I1 d1 d2 hf1 => ?_) u.length 0 _ (by omega) mw_e (fun j hj => absurd hj (Nat.not_lt_zero j)) (fun a j x y => by rw [mw_o (by omega)])
        refine cn_iconst (pc' := 115) k_c_0 d_M_become_114 rfl ?_
        refine cn_istore_n (pc' := 116) (lv' := [(0, .ref 155), (1, .int (nI (k))), (2, .int (nI (0))), (3, .int (nI (0)))]) rfl [1, 2, 3, 0] (Nat.le_of_ble_eq_true rfl) rfl d_M_become_115 rfl ?_
        refine c_M_become_116 (xs := xs) (u := u) hm (by omega) hl6 hu (by omega) I1 (fun I2 hJ2 hf2 => ?_) xs.length 0 I1 (by omega) ((hf1 _ _ (by omega) (by omega)).trans hJ.1) d1 d2 (fun j hj => ?_) (fun _ _ _ => rfl)
        · refine K I2 (mN_set hN hkl ((hf2 _ _ (by omega)).trans d1) hu (fun j hj => (hf2 _ _ (by omega)).trans (d2 j hj)) (fun a j x => (hf2 _ _ (by omega)).trans (hf1 _ _ (by omega) (by omega)))) hJ2 (fun a j x y => (hf2 _ _ (by omega)).trans (hf1 _ _ (by omega) (by omega)))
        · rw [if_neg (Nat.not_lt_zero j)]
          exact (hJ.2.2 j hj).congr (fun a x y => hf1 _ _ (by omega) (by omega)) (fun j _ => hf1 _ _ (by omega) (by omega)) (fun j _ => hf1 _ _ (by omega) (by omega)) (fun j k _ _ => hf1 _ _ (by omega) (by omega))
      · exact False.elim (by omega)
end
