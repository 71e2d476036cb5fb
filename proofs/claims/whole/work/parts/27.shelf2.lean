abbrev sPar : Type := Int32 × List Int32
def pad : sPar := (0, [])
def yh (S : cn_S) (P : cn_P) (sf : Nat) : Prop := cn_ob S sf 7 ∧ P sf 0 = some (sf + 1) ∧ cn_ar S (sf + 1) 6 3 ∧ ∀ q, q < 3 → cn_ob S (sf + 2 + 3 * q) 6 ∧ P (sf + 2 + 3 * q) 1 = some (sf + 3 + 3 * q) ∧ yb S P (sf + 3 + 3 * q) 194
theorem yh.keepP {S : cn_S} {P P' : cn_P} {sf : Nat} (h : yh S P sf) (hf : ∀ a, a ≠ sf + 1 → P' a = P a) : yh S P' sf := by
  refine ⟨h.1, by rw [hf sf (by omega)]; exact h.2.1, h.2.2.1, fun q hq => ?_⟩
  obtain ⟨a1, a2, a3⟩ := h.2.2.2 q hq
  exact ⟨a1, by rw [hf _ (by omega)]; exact a2, a3.1, by rw [hf _ (by omega)]; exact a3.2.1, a3.2.2⟩
def yk (I : cn_I) (P : cn_P) (sf : Nat) (ps : List sPar) (π : Nat → Nat) : Prop := I sf 1 = nI ps.length ∧ ps.length ≤ 3 ∧ ypm P (sf + 1) (sf + 2) 3 π ∧ ∀ j, j < ps.length → I (sf + 2 + 3 * π j) 0 = (ps.getD j pad).1 ∧ ys I (sf + 3 + 3 * π j) (ps.getD j pad).2 ∧ (ps.getD j pad).2.length ≤ 194
theorem pd_erase (ps : List sPar) (k j : Nat) : (ps.eraseIdx k).getD j pad = if j < k then ps.getD j pad else ps.getD (j + 1) pad := by
  rw [List.getD_eq_getElem?_getD, List.getElem?_eraseIdx]
  split
  · rw [List.getD_eq_getElem?_getD]
  · rw [List.getD_eq_getElem?_getD]
theorem yk_erase {I : cn_I} {P : cn_P} {sf k : Nat} {ps : List sPar} {π : Nat → Nat} (h : yk I P sf ps π) (hk : k < ps.length) : yk (cn_wi I sf 1 (nI (ps.length - 1))) (cn_wq P (sf + 1) (rot (P (sf + 1)) k ps.length)) sf (ps.eraseIdx k) (rot π k ps.length) := by
  have hl := h.2.1
  have hle : (ps.eraseIdx k).length = ps.length - 1 := List.length_eraseIdx_of_lt hk
  refine ⟨by rw [hle]; simp [cn_wi, upd], by rw [hle]; omega, ypm_rot h.2.2.1 hk hl, fun j hj => ?_⟩
  rw [hle] at hj
  rw [pd_erase]
  by_cases hjk : j < k
  · have e : rot π k ps.length j = π j := by unfold rot; rw [if_neg (by omega), if_neg (by omega)]
    obtain ⟨a1, a2, a3⟩ := h.2.2.2 j (by omega)
    rw [e, if_pos hjk]
    exact ⟨by rw [cn_wi_ne (by omega)]; exact a1, a2.congr (cn_wi_ne (by omega)) (cn_wi_ne (by omega)), a3⟩
  · have e : rot π k ps.length j = π (j + 1) := if_pos (by omega)
    obtain ⟨a1, a2, a3⟩ := h.2.2.2 (j + 1) (by omega)
    rw [e, if_neg hjk]
    exact ⟨by rw [cn_wi_ne (by omega)]; exact a1, a2.congr (cn_wi_ne (by omega)) (cn_wi_ne (by omega)), a3⟩
theorem pd_l {v w : List sPar} {j : Nat} (h : j < v.length) : (v ++ w).getD j pad = v.getD j pad := by
  rw [List.getD_eq_getElem?_getD, List.getD_eq_getElem?_getD, List.getElem?_append_left h]
theorem pd_last (v : List sPar) (a : sPar) : (v ++ [a]).getD v.length pad = a := by
  rw [List.getD_eq_getElem?_getD, List.getElem?_append_right (Nat.le_refl _), Nat.sub_self]; rfl
theorem yk_push {I I' : cn_I} {P : cn_P} {sf : Nat} {ps : List sPar} {π : Nat → Nat} {n : Int32} {u : List Int32} (h : yk I P sf ps π) (h3 : ps.length < 3) (hn : I' sf 1 = nI (ps.length + 1)) (h0 : I' (sf + 2 + 3 * π ps.length) 0 = n) (hy : ys I' (sf + 3 + 3 * π ps.length) u) (hu : u.length ≤ 194) (hf : ∀ a, a ≠ sf → a ≠ sf + 2 + 3 * π ps.length → a ≠ sf + 3 + 3 * π ps.length → a ≠ sf + 4 + 3 * π ps.length → I' a = I a) : yk I' P sf (ps ++ [(n, u)]) π := by
  refine ⟨by rw [List.length_append]; exact hn, by rw [List.length_append]; exact h3, h.2.2.1, fun j hj => ?_⟩
  rw [List.length_append] at hj
  have hj : j < ps.length + 1 := hj
  by_cases e : j = ps.length
  · subst e
    rw [pd_last]
    exact ⟨h0, hy, hu⟩
  · have hlt : j < ps.length := by omega
    rw [pd_l hlt]
    obtain ⟨a1, a2, a3⟩ := h.2.2.2 j hlt
    have hne : π j ≠ π ps.length := fun z => e (h.2.2.1.2.1 j ps.length (by omega) h3 z)
    exact ⟨by rw [hf _ (by omega) (by omega) (by omega) (by omega)]; exact a1, a2.congr (hf _ (by omega) (by omega) (by omega) (by omega)) (hf _ (by omega) (by omega) (by omega) (by omega)), a3⟩
/-- the last parcel's content has grown -/
theorem yk_last {I I' : cn_I} {P : cn_P} {sf : Nat} {ps : List sPar} {π : Nat → Nat} {n : Int32} {u u' : List Int32} (h : yk I P sf (ps ++ [(n, u)]) π) (hy : ys I' (sf + 3 + 3 * π ps.length) u') (hu : u'.length ≤ 194) (hf : fr2 I I' (sf + 3 + 3 * π ps.length)) : yk I' P sf (ps ++ [(n, u')]) π := by
  have hl : ps.length + 1 ≤ 3 := by have := h.2.1; rw [List.length_append] at this; exact this
  refine ⟨by rw [hf sf (by omega) (by omega)]; have := h.1; rw [List.length_append] at this ⊢; exact this, by rw [List.length_append]; exact hl, h.2.2.1, fun j hj => ?_⟩
  rw [List.length_append] at hj
  have hj : j < ps.length + 1 := hj
  obtain ⟨a1, a2, a3⟩ := h.2.2.2 j (by rw [List.length_append]; exact hj)
  by_cases e : j = ps.length
  · subst e
    rw [pd_last] at a1 ⊢
    exact ⟨by rw [hf _ (by omega) (by omega)]; exact a1, hy, hu⟩
  · have hlt : j < ps.length := by omega
    rw [pd_l hlt] at a1 a2 a3 ⊢
    have hne : π j ≠ π ps.length := fun z => e (h.2.2.1.2.1 j ps.length (by omega) (by omega) z)
    exact ⟨by rw [hf _ (by omega) (by omega)]; exact a1, a2.keep hf (by omega) (by omega) (by omega), a3⟩
/-- the first parcel with a number is kept no more -/
def pdrop : List sPar → Int32 → List sPar
  | [], _ => []
  | a :: t, x => if a.1 = x then t else a :: pdrop t x
theorem pdrop_some {x : Int32} : ∀ (ps : List sPar) (k : Nat), k < ps.length → (ps.getD k pad).1 = x → (∀ j, j < k → (ps.getD j pad).1 ≠ x) → pdrop ps x = ps.eraseIdx k
  | [], k, hk, _, _ => absurd hk (Nat.not_lt_zero k)
  | a :: t, 0, _, h, _ => by unfold pdrop; rw [if_pos (show a.1 = x from h)]; rfl
  | a :: t, k + 1, hk, h, hn => by
    unfold pdrop
    rw [if_neg (show ¬ a.1 = x from hn 0 (by omega))]
    show a :: pdrop t x = a :: t.eraseIdx k
    rw [pdrop_some t k (Nat.lt_of_succ_lt_succ hk) h (fun j hj => hn (j + 1) (by omega))]
theorem pdrop_none {x : Int32} : ∀ ps : List sPar, (∀ j, j < ps.length → (ps.getD j pad).1 ≠ x) → pdrop ps x = ps
  | [], _ => rfl
  | a :: t, h => by
    unfold pdrop
    rw [if_neg (show ¬ a.1 = x from h 0 (Nat.succ_pos _)), pdrop_none t (fun j hj => h (j + 1) (Nat.succ_lt_succ hj))]
/-- nothing changed but the shelf's own cells, and of its fields only 'kept' -/
def frs (I I' : cn_I) (sf : Nat) : Prop := ∀ a, a < sf ∨ sf + 11 ≤ a → I' a = I a
section
variable {l : Launch} {en : cn_E} {d : Nat} {S : cn_S} {I : cn_I} {P : cn_P} {Q : Option Value → cn_S → cn_I → cn_P → Prop}
variable {sf : Nat} {ps : List sPar} {π : Nat → Nat}
theorem c_Sf_restart (hh : yh S P sf) (hk : yk I P sf ps π) (K : ∀ I', yk I' P sf [] π → I' sf 2 = nI 0 → frs I I' sf → Q none S I' P) : cn_V l en mi_Sf_restart d 0 0 S I P Q 0 [(0, .ref sf)] [] := by
  refine cn_aload_n (pc' := 1) (k := 0) rfl rfl d_Sf_restart_0 rfl ?_
  refine cn_iconst (pc' := 2) k_c_0 d_Sf_restart_1 rfl ?_
  refine cn_putI (pc' := 5) fl_Sf_18 hh.1 rfl rfl rfl rfl d_Sf_restart_2 rfl ?_
  refine cn_aload_n (pc' := 6) (k := 0) rfl rfl d_Sf_restart_5 rfl ?_
  refine cn_iconst (pc' := 7) k_c_0 d_Sf_restart_6 rfl ?_
  refine cn_putI (pc' := 10) fl_Sf_22 hh.1 rfl rfl rfl rfl d_Sf_restart_7 rfl ?_
  refine cn_vret rfl d_Sf_restart_10 ?_
  exact K _ ⟨by simp [cn_wi, upd], by decide, hk.2.2.1, fun j hj => absurd hj (Nat.not_lt_zero j)⟩ (by simp [cn_wi, upd]) (fun a h => by rw [cn_wi_ne (by omega), cn_wi_ne (by omega)])
theorem c_Sf_find_loop {x : Int32} (hh : yh S P sf) (hk : yk I P sf ps π) (K1 : ∀ k, k < ps.length → (ps.getD k pad).1 = x → (∀ j, j < k → (ps.getD j pad).1 ≠ x) → Q (some (.int (nI k))) S I P) (K0 : (∀ j, j < ps.length → (ps.getD j pad).1 ≠ x) → Q (some (.int (-1))) S I P) : ∀ k i : Nat, i + k = ps.length → (∀ j, j < i → (ps.getD j pad).1 ≠ x) → cn_V l en mi_Sf_find d 0 0 S I P Q 2 [(0, .ref sf), (1, .int x), (2, .int (nI i))] [] := by
  have hl := hk.2.1
  intro k
  induction k with
  | zero =>
    intro i hik hne
    refine cn_iload_n (pc' := 3) (k := 2) rfl rfl d_Sf_find_2 rfl ?_
    refine cn_aload_n (pc' := 4) (k := 0) rfl rfl d_Sf_find_3 rfl ?_
    refine cn_getIv (pc' := 7) (v := nI (ps.length)) hk.1 fl_Sf_18 hh.1 rfl d_Sf_find_4 rfl ?_
    refine cn_icmp_ge_n (tgt := 31) (pc' := 10) (by omega) (by omega) d_Sf_find_7 (by decide) rfl (fun hc7 => ?_) (fun hc7 => ?_)
    · refine cn_iconst (pc' := 32) k_c_m1 d_Sf_find_31 rfl ?_
      refine cn_iret rfl d_Sf_find_32 ?_
      have e : i = ps.length := by omega
      subst e
      exact K0 hne
    · exact absurd hc7 (by omega)
  | succ k ih =>
    intro i hik hne
    refine cn_iload_n (pc' := 3) (k := 2) rfl rfl d_Sf_find_2 rfl ?_
    refine cn_aload_n (pc' := 4) (k := 0) rfl rfl d_Sf_find_3 rfl ?_
    refine cn_getIv (pc' := 7) (v := nI (ps.length)) hk.1 fl_Sf_18 hh.1 rfl d_Sf_find_4 rfl ?_
    refine cn_icmp_ge_n (tgt := 31) (pc' := 10) (by omega) (by omega) d_Sf_find_7 (by decide) rfl (fun hc7 => ?_) (fun hc7 => ?_)
    · exact absurd hc7 (by omega)
    · refine cn_aload_n (pc' := 11) (k := 0) rfl rfl d_Sf_find_10 rfl ?_
      refine cn_getP (pc' := 14) (b := (sf + 1)) hh.2.1 fl_Sf_11 hh.1 rfl d_Sf_find_11 rfl ?_
      refine cn_iload_n (pc' := 15) (k := 2) rfl rfl d_Sf_find_14 rfl ?_
      refine cn_aald (pc' := 16) (b := (sf + 2 + 3 * π i)) hh.2.2.1 (by decide) (by decide) rfl (by omega) (by decide) (hk.2.2.1.2.2 i (by omega)) d_Sf_find_15 rfl ?_
      refine cn_getIv (pc' := 19) (v := (ps.getD i pad).1) (hk.2.2.2 i (by omega)).1 fl_Sf_25 (hh.2.2.2 _ (hk.2.2.1.1 _ (by omega))).1 rfl d_Sf_find_16 rfl ?_
      refine cn_iload_n (pc' := 20) (k := 1) rfl rfl d_Sf_find_19 rfl ?_
      refine cn_icmp_ne (tgt := 25) (pc' := 23) d_Sf_find_20 (by decide) rfl (fun hc20 => ?_) (fun hc20 => ?_)
      · refine cn_iinc_n (pc' := 28) (lv' := [(0, .ref sf), (1, .int (x)), (2, .int (nI (i + 1)))]) (k := 2) [1, 2, 0] rfl (Nat.le_of_ble_eq_true rfl) rfl d_Sf_find_25 rfl ?_
        refine cn_goto (tgt := 2) d_Sf_find_28 (by decide) ?_
        exact ih (i + 1) (by omega) (lt_s hne hc20)
      · refine cn_iload_n (pc' := 24) (k := 2) rfl rfl d_Sf_find_23 rfl ?_
        refine cn_iret rfl d_Sf_find_24 ?_
        exact K1 i (by omega) hc20 hne
theorem c_Sf_find {x : Int32} (hh : yh S P sf) (hk : yk I P sf ps π) (K1 : ∀ k, k < ps.length → (ps.getD k pad).1 = x → (∀ j, j < k → (ps.getD j pad).1 ≠ x) → Q (some (.int (nI k))) S I P) (K0 : (∀ j, j < ps.length → (ps.getD j pad).1 ≠ x) → Q (some (.int (-1))) S I P) : cn_V l en mi_Sf_find d 0 0 S I P Q 0 [(0, .ref sf), (1, .int x)] [] := by
  refine cn_iconst (pc' := 1) k_c_0 d_Sf_find_0 rfl ?_
  refine cn_istore_n (pc' := 2) (lv' := [(0, .ref sf), (1, .int (x)), (2, .int (nI (0)))]) rfl [1, 2, 0] (Nat.le_of_ble_eq_true rfl) rfl d_Sf_find_1 rfl ?_
  exact c_Sf_find_loop hh hk K1 K0 ps.length 0 (by omega) (fun j h => absurd h (Nat.not_lt_zero j))
theorem c_Sf_removeAt_loop {k0 : Nat} (hh : yh S P sf) (hk : yk I P sf ps π) (h0 : k0 < ps.length) (K : Q none S (cn_wi I sf 1 (nI (ps.length - 1))) (cn_wq P (sf + 1) (rot (P (sf + 1)) k0 ps.length))) : ∀ (k i : Nat) (P' : cn_P), i + k = ps.length → k0 + 1 ≤ i → P' = cn_wq P (sf + 1) (shf (P (sf + 1)) k0 i) → cn_V l en mi_Sf_removeAt d 0 0 S I P' Q 11 [(0, .ref sf), (1, .int (nI k0)), (2, .ref (sf + 2 + 3 * π k0)), (3, .int (nI i))] [] := by
  have hl := hk.2.1
  intro k
  induction k with
  | zero =>
    intro i P' hik hi1 hP'
    have hh' : yh S P' sf := hh.keepP (fun a ha => by rw [hP']; exact cn_wq_ne ha)
    have hrow : P' (sf + 1) i = P (sf + 1) i := by rw [hP', cn_wq_row]; unfold shf; rw [if_neg (by omega)]
    refine cn_iload_n (pc' := 12) (k := 3) rfl rfl d_Sf_removeAt_11 rfl ?_
    refine cn_aload_n (pc' := 13) (k := 0) rfl rfl d_Sf_removeAt_12 rfl ?_
    refine cn_getIv (pc' := 16) (v := nI (ps.length)) hk.1 fl_Sf_18 hh'.1 rfl d_Sf_removeAt_13 rfl ?_
    refine cn_icmp_ge_n (tgt := 39) (pc' := 19) (by omega) (by omega) d_Sf_removeAt_16 (by decide) rfl (fun hc16 => ?_) (fun hc16 => ?_)
    · refine cn_aload_n (pc' := 40) (k := 0) rfl rfl d_Sf_removeAt_39 rfl ?_
      refine cn_dup (pc' := 41) rfl d_Sf_removeAt_40 rfl ?_
      refine cn_getIv (pc' := 44) (v := nI (ps.length)) hk.1 fl_Sf_18 hh'.1 rfl d_Sf_removeAt_41 rfl ?_
      refine cn_iconst (pc' := 45) k_c_1 d_Sf_removeAt_44 rfl ?_
      refine cn_isub_n (pc' := 46) (by omega) d_Sf_removeAt_45 rfl ?_
      refine cn_putI (pc' := 49) fl_Sf_18 hh'.1 rfl rfl rfl rfl d_Sf_removeAt_46 rfl ?_
      refine cn_aload_n (pc' := 50) (k := 0) rfl rfl d_Sf_removeAt_49 rfl ?_
      refine cn_getP (pc' := 53) (b := (sf + 1)) hh'.2.1 fl_Sf_11 hh'.1 rfl d_Sf_removeAt_50 rfl ?_
      refine cn_aload_n (pc' := 54) (k := 0) rfl rfl d_Sf_removeAt_53 rfl ?_
      refine cn_getIv (pc' := 57) (v := nI (ps.length - 1)) (by simp [cn_wi, upd]) fl_Sf_18 hh'.1 rfl d_Sf_removeAt_54 rfl ?_
      refine cn_aload_n (pc' := 58) (k := 2) rfl rfl d_Sf_removeAt_57 rfl ?_
      refine cn_aast (pc' := 59) hh'.2.2.1 (by decide) (by decide) (hh'.2.2.2 _ (hk.2.2.1.1 _ (by omega))).1 rfl rfl (by omega) (by decide) d_Sf_removeAt_58 rfl ?_
      refine cn_vret rfl d_Sf_removeAt_59 ?_
      have e : i = ps.length := by omega
      subst e
      rw [hP', ← hk.2.2.1.2.2 k0 (by omega), shf_end P (sf + 1) k0 ps.length h0]
      exact K
    · exact absurd hc16 (by omega)
  | succ k ih =>
    intro i P' hik hi1 hP'
    have hh' : yh S P' sf := hh.keepP (fun a ha => by rw [hP']; exact cn_wq_ne ha)
    have hrow : P' (sf + 1) i = P (sf + 1) i := by rw [hP', cn_wq_row]; unfold shf; rw [if_neg (by omega)]
    refine cn_iload_n (pc' := 12) (k := 3) rfl rfl d_Sf_removeAt_11 rfl ?_
    refine cn_aload_n (pc' := 13) (k := 0) rfl rfl d_Sf_removeAt_12 rfl ?_
    refine cn_getIv (pc' := 16) (v := nI (ps.length)) hk.1 fl_Sf_18 hh'.1 rfl d_Sf_removeAt_13 rfl ?_
    refine cn_icmp_ge_n (tgt := 39) (pc' := 19) (by omega) (by omega) d_Sf_removeAt_16 (by decide) rfl (fun hc16 => ?_) (fun hc16 => ?_)
    · exact absurd hc16 (by omega)
    · refine cn_aload_n (pc' := 20) (k := 0) rfl rfl d_Sf_removeAt_19 rfl ?_
      refine cn_getP (pc' := 23) (b := (sf + 1)) hh'.2.1 fl_Sf_11 hh'.1 rfl d_Sf_removeAt_20 rfl ?_
      refine cn_iload_n (pc' := 24) (k := 3) rfl rfl d_Sf_removeAt_23 rfl ?_
      refine cn_iconst (pc' := 25) k_c_1 d_Sf_removeAt_24 rfl ?_
      refine cn_isub_n (pc' := 26) (by omega) d_Sf_removeAt_25 rfl ?_
      refine cn_aload_n (pc' := 27) (k := 0) rfl rfl d_Sf_removeAt_26 rfl ?_
      refine cn_getP (pc' := 30) (b := (sf + 1)) hh'.2.1 fl_Sf_11 hh'.1 rfl d_Sf_removeAt_27 rfl ?_
      refine cn_iload_n (pc' := 31) (k := 3) rfl rfl d_Sf_removeAt_30 rfl ?_
      refine cn_aald (pc' := 32) (b := (sf + 2 + 3 * π i)) hh'.2.2.1 (by decide) (by decide) rfl (by omega) (by decide) (hrow.trans (hk.2.2.1.2.2 i (by omega))) d_Sf_removeAt_31 rfl ?_
      refine cn_aast (pc' := 33) hh'.2.2.1 (by decide) (by decide) (hh'.2.2.2 _ (hk.2.2.1.1 _ (by omega))).1 rfl rfl (by omega) (by decide) d_Sf_removeAt_32 rfl ?_
      refine cn_iinc_n (pc' := 36) (lv' := [(0, .ref sf), (1, .int (nI (k0))), (2, .ref ((sf + 2 + 3 * π k0))), (3, .int (nI (i + 1)))]) (k := 3) [1, 2, 3, 0] rfl (Nat.le_of_ble_eq_true rfl) rfl d_Sf_removeAt_33 rfl ?_
      refine cn_goto (tgt := 11) d_Sf_removeAt_36 (by decide) ?_
      refine ih (i + 1) _ (by omega) (by omega) ?_
      rw [hP', ← hk.2.2.1.2.2 i (by omega)]
      exact shf_step P (sf + 1) k0 i (by omega)
theorem c_Sf_removeAt {k0 : Nat} (hh : yh S P sf) (hk : yk I P sf ps π) (h0 : k0 < ps.length) (K : Q none S (cn_wi I sf 1 (nI (ps.length - 1))) (cn_wq P (sf + 1) (rot (P (sf + 1)) k0 ps.length))) : cn_V l en mi_Sf_removeAt d 0 0 S I P Q 0 [(0, .ref sf), (1, .int (nI k0))] [] := by
  have hl := hk.2.1
  refine cn_aload_n (pc' := 1) (k := 0) rfl rfl d_Sf_removeAt_0 rfl ?_
  refine cn_getP (pc' := 4) (b := (sf + 1)) hh.2.1 fl_Sf_11 hh.1 rfl d_Sf_removeAt_1 rfl ?_
  refine cn_iload_n (pc' := 5) (k := 1) rfl rfl d_Sf_removeAt_4 rfl ?_
  refine cn_aald (pc' := 6) (b := (sf + 2 + 3 * π k0)) hh.2.2.1 (by decide) (by decide) rfl (by omega) (by decide) (hk.2.2.1.2.2 k0 (by omega)) d_Sf_removeAt_5 rfl ?_
  refine cn_astore_n (pc' := 7) (lv' := [(0, .ref sf), (1, .int (nI (k0))), (2, .ref ((sf + 2 + 3 * π k0)))]) rfl [1, 2, 0] (Nat.le_of_ble_eq_true rfl) rfl d_Sf_removeAt_6 rfl ?_
  refine cn_iload_n (pc' := 8) (k := 1) rfl rfl d_Sf_removeAt_7 rfl ?_
  refine cn_iconst (pc' := 9) k_c_1 d_Sf_removeAt_8 rfl ?_
  refine cn_iadd_n (pc' := 10) d_Sf_removeAt_9 rfl ?_
  refine cn_istore_n (pc' := 11) (lv' := [(0, .ref sf), (1, .int (nI (k0))), (2, .ref ((sf + 2 + 3 * π k0))), (3, .int (nI (k0 + 1)))]) rfl [1, 2, 3, 0] (Nat.le_of_ble_eq_true rfl) rfl d_Sf_removeAt_10 rfl ?_
  exact c_Sf_removeAt_loop hh hk h0 K (ps.length - (k0 + 1)) (k0 + 1) P (by omega) (by omega) (shf_start P (sf + 1) k0)
theorem c_Sf_drop {x : Int32} (hh : yh S P sf) (hk : yk I P sf ps π) (hd1 : 1 ≤ d) (K : ∀ (I' : cn_I) (P' : cn_P) (π' : Nat → Nat), yk I' P' sf (pdrop ps x) π' → I' sf 2 = I sf 2 → frs I I' sf → frP P P' (sf + 1) → Q none S I' P') : cn_V l en mi_Sf_drop d 0 0 S I P Q 0 [(0, .ref sf), (1, .int x)] [] := by
  have hl := hk.2.1
  refine cn_aload_n (pc' := 1) (k := 0) rfl rfl d_Sf_drop_0 rfl ?_
  refine cn_iload_n (pc' := 2) (k := 1) rfl rfl d_Sf_drop_1 rfl ?_
  refine cn_callV (pc' := 5) (kc1 := 0) (ks1 := 0) (kc2 := 0) (ks2 := 0) (rest := []) (lvj := [(0, .ref sf), (1, .int (x))]) [.int (x)] mv_Sf_28 hh.1 rfl rfl rfl (Nat.le_of_ble_eq_true rfl) (Nat.le_of_ble_eq_true rfl) (by omega) (by omega) (by omega) d_Sf_drop_2 rfl ?_
  refine c_Sf_find hh hk (fun k hkl hkx hkn => ?_) (fun hno => ?_)
  · show cn_V l en mi_Sf_drop d 0 0 S I P Q 5 [(0, .ref sf), (1, .int (x))] [.int (nI (k))]
    refine cn_istore_n (pc' := 6) (lv' := [(0, .ref sf), (1, .int (x)), (2, .int (nI (k)))]) rfl [1, 2, 0] (Nat.le_of_ble_eq_true rfl) rfl d_Sf_drop_5 rfl ?_
    refine cn_iload_n (pc' := 7) (k := 2) rfl rfl d_Sf_drop_6 rfl ?_
    refine cn_if_lt_n (tgt := 15) (pc' := 10) (by omega) d_Sf_drop_7 (by decide) rfl (fun hc7 => ?_) (fun hc7 => ?_)
    · exact absurd hc7 (by omega)
    · refine cn_aload_n (pc' := 11) (k := 0) rfl rfl d_Sf_drop_10 rfl ?_
      refine cn_iload_n (pc' := 12) (k := 2) rfl rfl d_Sf_drop_11 rfl ?_
      refine cn_callV (pc' := 15) (kc1 := 0) (ks1 := 0) (kc2 := 0) (ks2 := 0) (rest := []) (lvj := [(0, .ref sf), (1, .int (nI (k)))]) [.int (nI (k))] mv_Sf_32 hh.1 rfl rfl rfl (Nat.le_of_ble_eq_true rfl) (Nat.le_of_ble_eq_true rfl) (by omega) (by omega) (by omega) d_Sf_drop_12 rfl ?_
      refine c_Sf_removeAt hh hk hkl ?_
      show cn_V l en mi_Sf_drop d 0 0 S ((cn_wi I sf 1 (nI (ps.length - 1)))) ((cn_wq P (sf + 1) (rot (P (sf + 1)) k ps.length))) Q 15 [(0, .ref sf), (1, .int (x)), (2, .int (nI (k)))] []
      refine cn_vret rfl d_Sf_drop_15 ?_
      exact K _ _ _ (by rw [pdrop_some ps k hkl hkx hkn]; exact yk_erase hk hkl) (by simp [cn_wi, upd]) (fun a h => cn_wi_ne (by omega)) (fun a h => cn_wq_ne h)
  · show cn_V l en mi_Sf_drop d 0 0 S I P Q 5 [(0, .ref sf), (1, .int (x))] [.int (-1)]
    refine cn_istore_n (pc' := 6) (lv' := [(0, .ref sf), (1, .int (x)), (2, .int (-1))]) rfl [1, 2, 0] (Nat.le_of_ble_eq_true rfl) rfl d_Sf_drop_5 rfl ?_
    refine cn_iload_n (pc' := 7) (k := 2) rfl rfl d_Sf_drop_6 rfl ?_
    refine cn_if_lt (tgt := 15) (pc' := 10) d_Sf_drop_7 (by decide) rfl (fun hc7 => ?_) (fun hc7 => ?_)
    · refine cn_vret rfl d_Sf_drop_15 ?_
      exact K _ _ _ (by rw [pdrop_none ps hno]; exact hk) rfl (fun a h => rfl) (fun a h => rfl)
    · exact absurd (by decide) hc7
theorem c_Sf_keepAnother {nn : Int32} (hh : yh S P sf) (hk : yk I P sf ps π) (hn : I sf 2 = nn) (hd1 : 2 ≤ d) (K : ∀ (I' : cn_I) (P' : cn_P) (π' : Nat → Nat), yk I' P' sf ((if ps.length = 3 then ps.eraseIdx 0 else ps) ++ [(nn + nI 1, lbs (nn + nI 1).toInt64 4)]) π' → I' sf 2 = nn + nI 1 → frs I I' sf → frP P P' (sf + 1) → Q (some (.ref (sf + 2 + 3 * π' (if ps.length = 3 then ps.eraseIdx 0 else ps).length))) S I' P') : cn_V l en mi_Sf_keepAnother d 0 0 S I P Q 0 [(0, .ref sf)] [] := by
  have hl := hk.2.1
  have key : ∀ (I1 : cn_I) (P1 : cn_P) (π1 : Nat → Nat) (p1 : List sPar), yh S P1 sf → yk I1 P1 sf p1 π1 → p1.length < 3 → I1 sf 2 = nn → (∀ I', yk I' P1 sf (p1 ++ [(nn + nI 1, lbs (nn + nI 1).toInt64 4)]) π1 → I' sf 2 = nn + nI 1 → frs I1 I' sf → Q (some (.ref (sf + 2 + 3 * π1 p1.length))) S I' P1) → cn_V l en mi_Sf_keepAnother d 0 0 S I1 P1 Q 13 [(0, .ref sf)] [] := by
    intro I1 P1 π1 p1 hh hk h3 hn K
    have hπ : π1 p1.length < 3 := hk.2.2.1.1 _ h3
    obtain ⟨hN1, hN2, hN3⟩ := hh.2.2.2 _ hπ
    refine cn_aload_n (pc' := 14) (k := 0) rfl rfl d_Sf_keepAnother_13 rfl ?_
    refine cn_dup (pc' := 15) rfl d_Sf_keepAnother_14 rfl ?_
    refine cn_getIv (pc' := 18) (v := nn) hn fl_Sf_22 hh.1 rfl d_Sf_keepAnother_15 rfl ?_
    refine cn_iconst (pc' := 19) k_c_1 d_Sf_keepAnother_18 rfl ?_
    refine cn_iadd (pc' := 20) d_Sf_keepAnother_19 rfl ?_
    refine cn_putI (pc' := 23) fl_Sf_22 hh.1 rfl rfl rfl rfl d_Sf_keepAnother_20 rfl ?_
    refine cn_aload_n (pc' := 24) (k := 0) rfl rfl d_Sf_keepAnother_23 rfl ?_
    refine cn_getP (pc' := 27) (b := (sf + 1)) hh.2.1 fl_Sf_11 hh.1 rfl d_Sf_keepAnother_24 rfl ?_
    refine cn_aload_n (pc' := 28) (k := 0) rfl rfl d_Sf_keepAnother_27 rfl ?_
    refine cn_getIv (pc' := 31) (v := nI (p1.length)) (by simp [cn_wi, upd, hk.1]) fl_Sf_18 hh.1 rfl d_Sf_keepAnother_28 rfl ?_
    refine cn_aald (pc' := 32) (b := (sf + 2 + 3 * π1 p1.length)) hh.2.2.1 (by decide) (by decide) rfl (by omega) (by decide) (hk.2.2.1.2.2 _ h3) d_Sf_keepAnother_31 rfl ?_
    refine cn_astore_n (pc' := 33) (lv' := [(0, .ref sf), (1, .ref ((sf + 2 + 3 * π1 p1.length)))]) rfl [1, 0] (Nat.le_of_ble_eq_true rfl) rfl d_Sf_keepAnother_32 rfl ?_
    refine cn_aload_n (pc' := 34) (k := 1) rfl rfl d_Sf_keepAnother_33 rfl ?_
    refine cn_aload_n (pc' := 35) (k := 0) rfl rfl d_Sf_keepAnother_34 rfl ?_
    refine cn_getIv (pc' := 38) (v := nn + nI 1) (by simp [cn_wi, upd]) fl_Sf_22 hh.1 rfl d_Sf_keepAnother_35 rfl ?_
    refine cn_putI (pc' := 41) fl_Sf_25 hN1 rfl rfl rfl rfl d_Sf_keepAnother_38 rfl ?_
    refine cn_aload_n (pc' := 42) (k := 1) rfl rfl d_Sf_keepAnother_41 rfl ?_
    refine cn_getP (pc' := 45) (b := (sf + 3 + 3 * π1 p1.length)) hN2 fl_Sf_36 hN1 rfl d_Sf_keepAnother_42 rfl ?_
    refine cn_callV (pc' := 48) (kc1 := 0) (ks1 := 0) (kc2 := 0) (ks2 := 0) (rest := []) (lvj := [(0, .ref ((sf + 3 + 3 * π1 p1.length)))]) [] mv_Sf_40 hN3.1 rfl rfl rfl (Nat.le_of_ble_eq_true rfl) (Nat.le_of_ble_eq_true rfl) (by omega) (by omega) (by omega) d_Sf_keepAnother_45 rfl ?_
    refine c_By_clear (b := sf + 3 + 3 * π1 p1.length) (cap := 194) hN3 (fun I2 hy2 hf2 => ?_)
    show cn_V l en mi_Sf_keepAnother d 0 0 S I2 P1 Q 48 [(0, .ref sf), (1, .ref ((sf + 2 + 3 * π1 p1.length)))] []
    refine cn_aload_n (pc' := 49) (k := 1) rfl rfl d_Sf_keepAnother_48 rfl ?_
    refine cn_getP (pc' := 52) (b := (sf + 3 + 3 * π1 p1.length)) hN2 fl_Sf_36 hN1 rfl d_Sf_keepAnother_49 rfl ?_
    refine cn_aload_n (pc' := 53) (k := 0) rfl rfl d_Sf_keepAnother_52 rfl ?_
    refine cn_getIv (pc' := 56) (v := nn + nI 1) (by rw [hf2 sf (by omega) (by omega), cn_wi_ne (by omega)]; simp [cn_wi, upd]) fl_Sf_22 hh.1 rfl d_Sf_keepAnother_53 rfl ?_
    refine cn_i2l (pc' := 57) d_Sf_keepAnother_56 rfl ?_
    refine cn_iconst (pc' := 58) k_c_4 d_Sf_keepAnother_57 rfl ?_
    refine cn_callV (pc' := 61) (kc1 := 0) (ks1 := 0) (kc2 := 0) (ks2 := 0) (rest := []) (lvj := [(0, .ref ((sf + 3 + 3 * π1 p1.length))), (1, .long ((nn + nI 1).toInt64)), (3, .int (nI (4)))]) [.long ((nn + nI 1).toInt64), .int (nI (4))] mv_Sf_45 hN3.1 rfl rfl rfl (Nat.le_of_ble_eq_true rfl) (Nat.le_of_ble_eq_true rfl) (by omega) (by omega) (by omega) d_Sf_keepAnother_58 rfl ?_
    refine c_By_addNumber (b := sf + 3 + 3 * π1 p1.length) (cap := 194) hN3 hy2 (Nat.zero_le _) (by omega) (by omega) (fun I3 hy3 hf3 => ?_)
    rw [List.nil_append, List.take_of_length_le (by rw [lbs_len]; omega)] at hy3
    show cn_V l en mi_Sf_keepAnother d 0 0 S I3 P1 Q 61 [(0, .ref sf), (1, .ref ((sf + 2 + 3 * π1 p1.length)))] []
    refine cn_aload_n (pc' := 62) (k := 0) rfl rfl d_Sf_keepAnother_61 rfl ?_
    refine cn_dup (pc' := 63) rfl d_Sf_keepAnother_62 rfl ?_
    refine cn_getIv (pc' := 66) (v := nI (p1.length)) (by rw [hf3 sf (by omega) (by omega), hf2 sf (by omega) (by omega), cn_wi_ne (by omega)]; simp [cn_wi, upd, hk.1]) fl_Sf_18 hh.1 rfl d_Sf_keepAnother_63 rfl ?_
    refine cn_iconst (pc' := 67) k_c_1 d_Sf_keepAnother_66 rfl ?_
    refine cn_iadd_n (pc' := 68) d_Sf_keepAnother_67 rfl ?_
    refine cn_putI (pc' := 71) fl_Sf_18 hh.1 rfl rfl rfl rfl d_Sf_keepAnother_68 rfl ?_
    refine cn_aload_n (pc' := 72) (k := 1) rfl rfl d_Sf_keepAnother_71 rfl ?_
    refine cn_aret rfl d_Sf_keepAnother_72 ?_
    have hrow : ∀ a, a ≠ sf → a ≠ sf + 2 + 3 * π1 p1.length → a ≠ sf + 3 + 3 * π1 p1.length → a ≠ sf + 4 + 3 * π1 p1.length → I3 a = I1 a := fun a x1 x2 x3 x4 => by rw [hf3 a x3 (by omega), hf2 a x3 (by omega), cn_wi_ne x2, cn_wi_ne x1]
    refine K _ (yk_push hk h3 (by simp [cn_wi, upd]) ?_ (ys_cong1 hy3 (by omega) (by omega)) (by rw [lbs_len]; omega) (fun a x1 x2 x3 x4 => by rw [cn_wi_ne x1]; exact hrow a x1 x2 x3 x4)) ?_ (fun a h => by rw [cn_wi_ne (by omega)]; exact hrow a (by omega) (by omega) (by omega) (by omega))
    · rw [cn_wi_ne (by omega), hf3 _ (by omega) (by omega), hf2 _ (by omega) (by omega)]; simp [cn_wi, upd]
    · rw [cn_wi_row, show upd (I3 sf) 1 (nI (p1.length + 1)) 2 = I3 sf 2 from rfl, hf3 sf (by omega) (by omega), hf2 sf (by omega) (by omega), cn_wi_ne (by omega)]; simp [cn_wi, upd]
  refine cn_aload_n (pc' := 1) (k := 0) rfl rfl d_Sf_keepAnother_0 rfl ?_
  refine cn_getIv (pc' := 4) (v := nI (ps.length)) hk.1 fl_Sf_18 hh.1 rfl d_Sf_keepAnother_1 rfl ?_
  refine cn_iconst (pc' := 5) k_c_3 d_Sf_keepAnother_4 rfl ?_
  refine cn_icmp_ne_n (tgt := 13) (pc' := 8) (by omega) (by omega) d_Sf_keepAnother_5 (by decide) rfl (fun hc5 => ?_) (fun hc5 => ?_)
  · rw [if_neg hc5] at K
    exact key I P π ps hh hk (by omega) hn (fun I' a1 a2 a3 => K I' P π a1 a2 a3 (fun a h => rfl))
  · refine cn_aload_n (pc' := 9) (k := 0) rfl rfl d_Sf_keepAnother_8 rfl ?_
    refine cn_iconst (pc' := 10) k_c_0 d_Sf_keepAnother_9 rfl ?_
    refine cn_callV (pc' := 13) (kc1 := 0) (ks1 := 0) (kc2 := 0) (ks2 := 0) (rest := []) (lvj := [(0, .ref sf), (1, .int (nI (0)))]) [.int (nI (0))] mv_Sf_32 hh.1 rfl rfl rfl (Nat.le_of_ble_eq_true rfl) (Nat.le_of_ble_eq_true rfl) (by omega) (by omega) (by omega) d_Sf_keepAnother_10 rfl ?_
    refine c_Sf_removeAt hh hk (by omega) ?_
    show cn_V l en mi_Sf_keepAnother d 0 0 S ((cn_wi I sf 1 (nI (ps.length - 1)))) ((cn_wq P (sf + 1) (rot (P (sf + 1)) 0 ps.length))) Q 13 [(0, .ref sf)] []
    rw [if_pos hc5] at K
    have hle : (ps.eraseIdx 0).length = ps.length - 1 := List.length_eraseIdx_of_lt (by omega)
    exact key _ _ _ (ps.eraseIdx 0) (hh.keepP (fun a h => cn_wq_ne h)) (yk_erase hk (by omega)) (by omega) (by simp [cn_wi, upd, hn]) (fun I' a1 a2 a3 => K I' _ _ a1 a2 (fun a h => (a3 a h).trans (cn_wi_ne (by omega))) (fun a h => cn_wq_ne h))
end
