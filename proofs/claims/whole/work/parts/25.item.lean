/-- the row k goes behind the others up to w -/
def rot {α : Type} (f : Nat → α) (k w : Nat) : Nat → α := fun j => if k ≤ j ∧ j + 1 < w then f (j + 1) else if j + 1 = w then f k else f j
def shf {α : Type} (f : Nat → α) (k i : Nat) : Nat → α := fun j => if k ≤ j ∧ j + 1 < i then f (j + 1) else f j
theorem shf_start (P : cn_P) (r k : Nat) : P = cn_wq P r (shf (P r) k (k + 1)) := by
  funext a j
  by_cases ha : a = r
  · subst ha
    rw [cn_wq_row]
    unfold shf
    rw [if_neg (by omega)]
  · rw [cn_wq_ne ha]
theorem shf_step (P : cn_P) (r k i : Nat) (hk : k < i) : cn_wp (cn_wq P r (shf (P r) k i)) r (i - 1) (P r i) = cn_wq P r (shf (P r) k (i + 1)) := by
  funext a
  by_cases ha : a = r
  · subst ha
    rw [cn_wp_row, cn_wq_row, cn_wq_row]
    funext j
    unfold va_up shf
    by_cases hj : j = i - 1
    · subst hj
      rw [if_pos rfl, if_pos (by omega)]
      congr 1; omega
    · rw [if_neg hj]
      by_cases h : k ≤ j ∧ j + 1 < i
      · rw [if_pos h, if_pos (by omega)]
      · rw [if_neg h, if_neg (by omega)]
  · rw [cn_wp_ne ha, cn_wq_ne ha, cn_wq_ne ha]
theorem shf_end (P : cn_P) (r k w : Nat) (hk : k < w) : cn_wp (cn_wq P r (shf (P r) k w)) r (w - 1) (P r k) = cn_wq P r (rot (P r) k w) := by
  funext a
  by_cases ha : a = r
  · subst ha
    rw [cn_wp_row, cn_wq_row, cn_wq_row]
    funext j
    unfold va_up shf rot
    by_cases hj : j = w - 1
    · subst hj
      rw [if_pos rfl, if_neg (by omega), if_pos (by omega)]
    · rw [if_neg hj]
      by_cases h : k ≤ j ∧ j + 1 < w
      · rw [if_pos h, if_pos h]
      · rw [if_neg h, if_neg h, if_neg (by omega)]
  · rw [cn_wp_ne ha, cn_wq_ne ha, cn_wq_ne ha]
def ypm (P : cn_P) (r base n : Nat) (π : Nat → Nat) : Prop := (∀ j, j < n → π j < n) ∧ (∀ i j, i < n → j < n → π i = π j → i = j) ∧ ∀ j, j < n → P r j = some (base + 3 * π j)
theorem rot_lt {k w j n : Nat} (hk : k < w) (hw : w ≤ n) (hj : j < n) : ∃ i, i < n ∧ (∀ {α : Type} (f : Nat → α), rot f k w j = f i) ∧ ((k ≤ j ∧ j + 1 < w ∧ i = j + 1) ∨ (j + 1 = w ∧ i = k) ∨ (¬ (k ≤ j ∧ j + 1 < w) ∧ ¬ j + 1 = w ∧ i = j)) := by
  by_cases h : k ≤ j ∧ j + 1 < w
  · exact ⟨j + 1, by omega, fun f => if_pos h, Or.inl ⟨h.1, h.2, rfl⟩⟩
  · by_cases h2 : j + 1 = w
    · exact ⟨k, by omega, fun f => by unfold rot; rw [if_neg h, if_pos h2], Or.inr (Or.inl ⟨h2, rfl⟩)⟩
    · exact ⟨j, hj, fun f => by unfold rot; rw [if_neg h, if_neg h2], Or.inr (Or.inr ⟨h, h2, rfl⟩)⟩
theorem ypm_rot {P : cn_P} {r base n k w : Nat} {π : Nat → Nat} (h : ypm P r base n π) (hk : k < w) (hw : w ≤ n) : ypm (cn_wq P r (rot (P r) k w)) r base n (rot π k w) := by
  refine ⟨fun j hj => ?_, fun i j hi hj e => ?_, fun j hj => ?_⟩
  · obtain ⟨i, hi, e, -⟩ := rot_lt hk hw hj
    rw [e π]
    exact h.1 i hi
  · obtain ⟨a, ha, e1, c1⟩ := rot_lt hk hw hi
    obtain ⟨b, hb, e2, c2⟩ := rot_lt hk hw hj
    rw [e1 π, e2 π] at e
    have hab := h.2.1 a b ha hb e
    omega
  · obtain ⟨i, hi, e, -⟩ := rot_lt hk hw hj
    rw [cn_wq_row, e (P r), e π]
    exact h.2.2 i hi
abbrev sNt : Type := List Int32 × Int32
def ntd : sNt := ([], 0)
def yi (S : cn_S) (P : cn_P) (it : Nat) : Prop := cn_ob S it 2 ∧ P it 0 = some (it + 1) ∧ cn_ar S (it + 1) 5 4 ∧ ∀ q, q < 4 → cn_ob S (it + 2 + 3 * q) 5 ∧ P (it + 2 + 3 * q) 0 = some (it + 3 + 3 * q) ∧ yb S P (it + 3 + 3 * q) 61
theorem yi.keepP {S : cn_S} {P P' : cn_P} {it : Nat} (h : yi S P it) (hf : ∀ a, a ≠ it + 1 → P' a = P a) : yi S P' it := by
  refine ⟨h.1, by rw [hf it (by omega)]; exact h.2.1, h.2.2.1, fun q hq => ?_⟩
  obtain ⟨a1, a2, a3⟩ := h.2.2.2 q hq
  exact ⟨a1, by rw [hf _ (by omega)]; exact a2, a3.1, by rw [hf _ (by omega)]; exact a3.2.1, a3.2.2⟩
def yq (I : cn_I) (P : cn_P) (it : Nat) (q : List sNt) (π : Nat → Nat) : Prop := I it 4 = nI q.length ∧ q.length ≤ 4 ∧ ypm P (it + 1) (it + 2) 4 π ∧ ∀ j, j < q.length → ys I (it + 3 + 3 * π j) (q.getD j ntd).1 ∧ (q.getD j ntd).1.length ≤ 61 ∧ I (it + 2 + 3 * π j) 1 = (q.getD j ntd).2
theorem nt_l {v w : List sNt} {j : Nat} (h : j < v.length) : (v ++ w).getD j ntd = v.getD j ntd := by
  rw [List.getD_eq_getElem?_getD, List.getD_eq_getElem?_getD, List.getElem?_append_left h]
theorem nt_tail (q : List sNt) (j : Nat) : q.tail.getD j ntd = q.getD (j + 1) ntd := by
  rw [List.getD_eq_getElem?_getD, List.getD_eq_getElem?_getD, List.getElem?_tail]
theorem nt_drop {q : List sNt} {j : Nat} (h : j < q.length - 1) : q.dropLast.getD j ntd = q.getD j ntd := by
  rw [List.getD_eq_getElem?_getD, List.getD_eq_getElem?_getD, List.getElem?_dropLast, if_pos h]
theorem yq_tail {I : cn_I} {P : cn_P} {it : Nat} {q : List sNt} {π : Nat → Nat} (h : yq I P it q π) (h0 : 0 < q.length) : yq (cn_wi I it 4 (nI (q.length - 1))) (cn_wq P (it + 1) (rot (P (it + 1)) 0 q.length)) it q.tail (rot π 0 q.length) := by
  have hl := h.2.1
  refine ⟨by rw [List.length_tail]; simp [cn_wi, upd], by rw [List.length_tail]; omega, ypm_rot h.2.2.1 h0 hl, fun j hj => ?_⟩
  rw [List.length_tail] at hj
  have e : rot π 0 q.length j = π (j + 1) := if_pos (by omega)
  obtain ⟨a1, a2, a3⟩ := h.2.2.2 (j + 1) (by omega)
  rw [e, nt_tail]
  exact ⟨a1.congr (cn_wi_ne (by omega)) (cn_wi_ne (by omega)), a2, by rw [cn_wi_ne (by omega)]; exact a3⟩
theorem yq_drop {I : cn_I} {P : cn_P} {it : Nat} {q : List sNt} {π : Nat → Nat} (h : yq I P it q π) : yq (cn_wi I it 4 (nI (q.length - 1))) P it q.dropLast π := by
  have hl := h.2.1
  refine ⟨by rw [List.length_dropLast]; simp [cn_wi, upd], by rw [List.length_dropLast]; omega, h.2.2.1, fun j hj => ?_⟩
  rw [List.length_dropLast] at hj
  obtain ⟨a1, a2, a3⟩ := h.2.2.2 j (by omega)
  rw [nt_drop hj]
  exact ⟨a1.congr (cn_wi_ne (by omega)) (cn_wi_ne (by omega)), a2, by rw [cn_wi_ne (by omega)]; exact a3⟩
/-- a notice more: it stands where the next row is -/
theorem yq_push {I I' : cn_I} {P : cn_P} {it : Nat} {q : List sNt} {π : Nat → Nat} {v : List Int32} {mk : Int32} (h : yq I P it q π) (h4 : q.length < 4) (hn : I' it 4 = nI (q.length + 1)) (hy : ys I' (it + 3 + 3 * π q.length) v) (hv : v.length ≤ 61) (hm : I' (it + 2 + 3 * π q.length) 1 = mk) (hf : ∀ a, a ≠ it → a ≠ it + 2 + 3 * π q.length → a ≠ it + 3 + 3 * π q.length → a ≠ it + 4 + 3 * π q.length → I' a = I a) : yq I' P it (q ++ [(v, mk)]) π := by
  refine ⟨by rw [List.length_append]; exact hn, by rw [List.length_append]; exact h4, h.2.2.1, fun j hj => ?_⟩
  rw [List.length_append] at hj
  have hj : j < q.length + 1 := hj
  by_cases e : j = q.length
  · subst e
    have e1 : (q ++ [(v, mk)]).getD q.length ntd = (v, mk) := by
      rw [List.getD_eq_getElem?_getD, List.getElem?_append_right (Nat.le_refl _), Nat.sub_self]; rfl
    rw [e1]
    exact ⟨hy, hv, hm⟩
  · have hlt : j < q.length := by omega
    rw [nt_l hlt]
    obtain ⟨a1, a2, a3⟩ := h.2.2.2 j hlt
    have hne : π j ≠ π q.length := fun z => e (h.2.2.1.2.1 j q.length (by omega) h4 z)
    exact ⟨a1.congr (hf _ (by omega) (by omega) (by omega) (by omega)) (hf _ (by omega) (by omega) (by omega) (by omega)), a2, by rw [hf _ (by omega) (by omega) (by omega) (by omega)]; exact a3⟩
def mk1 (q : List sNt) : List sNt := match q with
  | [] => []
  | a :: t => (a.1, nI 1) :: t
/-- a queue behind a new value: cap, whether the oldest go -/
def nq (cap : Nat) (old : Bool) (q : List sNt) (v : List Int32) : List sNt :=
  if q.length = cap then
    (if old = true then (if 1 < cap then mk1 (q.tail ++ [(v, nI 0)]) else q.tail ++ [(v, nI 0)])
     else (if 1 < cap then q.dropLast ++ [(v, nI 1)] else q.dropLast ++ [(v, nI 0)]))
  else q ++ [(v, nI 0)]
theorem nq_len {cap : Nat} {old : Bool} {q : List sNt} {v : List Int32} (h : q.length ≤ cap) (h1 : 1 ≤ cap) : (nq cap old q v).length ≤ cap := by
  unfold nq
  by_cases e : q.length = cap
  · rw [if_pos e]
    cases old
    · rw [if_neg (by decide)]
      split <;> simp <;> omega
    · rw [if_pos rfl]
      have hl : (q.tail ++ [(v, nI 0)]).length = cap := by simp; omega
      split
      · unfold mk1
        split
        · exact Nat.zero_le _
        · rename_i a t hq
          rw [hq] at hl
          simpa using Nat.le_of_eq hl
      · omega
  · rw [if_neg e]
    simp
    omega
theorem yq_mk1 {I : cn_I} {P : cn_P} {it : Nat} {q : List sNt} {π : Nat → Nat} (h : yq I P it q π) (h0 : 0 < q.length) : yq (cn_wi I (it + 2 + 3 * π 0) 1 (nI 1)) P it (mk1 q) π := by
  cases q with
  | nil => exact absurd h0 (Nat.lt_irrefl 0)
  | cons a t =>
    refine ⟨by rw [cn_wi_ne (by omega)]; exact h.1, h.2.1, h.2.2.1, fun j hj => ?_⟩
    have hj : j < t.length + 1 := hj
    obtain ⟨a1, a2, a3⟩ := h.2.2.2 j hj
    have hl := h.2.1
    have hl : t.length + 1 ≤ 4 := hl
    refine ⟨?_, ?_, ?_⟩
    · have e : ((mk1 (a :: t)).getD j ntd).1 = ((a :: t).getD j ntd).1 := by cases j <;> rfl
      rw [e]
      exact a1.congr (cn_wi_ne (by omega)) (cn_wi_ne (by omega))
    · have e : ((mk1 (a :: t)).getD j ntd).1 = ((a :: t).getD j ntd).1 := by cases j <;> rfl
      rw [e]
      exact a2
    · cases j with
      | zero => simp [cn_wi, upd, mk1]
      | succ j =>
        have hne : π (j + 1) ≠ π 0 := fun z => absurd (h.2.2.1.2.1 (j + 1) 0 (by omega) (by omega) z) (by omega)
        rw [cn_wi_ne (by omega), a3]
        rfl
/-- nothing changed but the item's own cells, and of its fields only 'waiting' -/
def fri (I I' : cn_I) (it : Nat) : Prop := (∀ a, a < it ∨ it + 14 ≤ a → I' a = I a) ∧ I' it 1 = I it 1 ∧ I' it 2 = I it 2 ∧ I' it 3 = I it 3
def frP (P P' : cn_P) (r : Nat) : Prop := ∀ a, a ≠ r → P' a = P a
section
variable {l : Launch} {en : cn_E} {d : Nat} {S : cn_S} {I : cn_I} {P : cn_P} {Q : Option Value → cn_S → cn_I → cn_P → Prop}
variable {it : Nat} {q : List sNt} {π : Nat → Nat}
theorem c_It_watch {nd cap : Nat} {old : Bool} (hi : yi S P it) (K : ∀ I', I' it 1 = nI nd → I' it 2 = nI cap → I' it 3 = nI old.toNat → I' it 4 = nI 0 → (∀ a, a ≠ it → I' a = I a) → Q none S I' P) : cn_V l en mi_It_watch d 0 0 S I P Q 0 [(0, .ref it), (1, .int (nI nd)), (2, .int (nI cap)), (3, .int (nI old.toNat))] [] := by
  refine cn_aload_n (pc' := 1) (k := 0) rfl rfl d_It_watch_0 rfl ?_
  refine cn_iload_n (pc' := 2) (k := 1) rfl rfl d_It_watch_1 rfl ?_
  refine cn_putI (pc' := 5) fl_It_22 hi.1 rfl rfl rfl rfl d_It_watch_2 rfl ?_
  refine cn_aload_n (pc' := 6) (k := 0) rfl rfl d_It_watch_5 rfl ?_
  refine cn_iload_n (pc' := 7) (k := 2) rfl rfl d_It_watch_6 rfl ?_
  refine cn_putI (pc' := 10) fl_It_17 hi.1 rfl rfl rfl rfl d_It_watch_7 rfl ?_
  refine cn_aload_n (pc' := 11) (k := 0) rfl rfl d_It_watch_10 rfl ?_
  refine cn_iload_n (pc' := 12) (k := 3) rfl rfl d_It_watch_11 rfl ?_
  refine cn_putI (pc' := 15) fl_It_25 hi.1 rfl rfl (by cases old <;> rfl) (by cases old <;> rfl) d_It_watch_12 rfl ?_
  refine cn_aload_n (pc' := 16) (k := 0) rfl rfl d_It_watch_15 rfl ?_
  refine cn_iconst (pc' := 17) k_c_0 d_It_watch_16 rfl ?_
  refine cn_putI (pc' := 20) fl_It_29 hi.1 rfl rfl rfl rfl d_It_watch_17 rfl ?_
  refine cn_vret rfl d_It_watch_20 ?_
  exact K _ (by simp [cn_wi, upd]) (by simp [cn_wi, upd]) (by simp [cn_wi, upd]) (by simp [cn_wi, upd]) (fun a h => by simp [cn_wi, h])
theorem c_It_removeFirst_loop (hi : yi S P it) (hq : yq I P it q π) (h0 : 0 < q.length) (K : Q (some (.ref (it + 2 + 3 * π 0))) S (cn_wi I it 4 (nI (q.length - 1))) (cn_wq P (it + 1) (rot (P (it + 1)) 0 q.length))) : ∀ (k i : Nat) (P' : cn_P), i + k = q.length → 1 ≤ i → P' = cn_wq P (it + 1) (shf (P (it + 1)) 0 i) → cn_V l en mi_It_removeFirst d 0 0 S I P' Q 9 [(0, .ref it), (1, .ref (it + 2 + 3 * π 0)), (2, .int (nI i))] [] := by
  have hl := hq.2.1
  intro k
  induction k with
  | zero =>
    intro i P' hik hi1 hP'
    have hi' : yi S P' it := hi.keepP (fun a ha => by rw [hP']; exact cn_wq_ne ha)
    have hrow : P' (it + 1) i = P (it + 1) i := by rw [hP', cn_wq_row]; unfold shf; rw [if_neg (by omega)]
    refine cn_iload_n (pc' := 10) (k := 2) rfl rfl d_It_removeFirst_9 rfl ?_
    refine cn_aload_n (pc' := 11) (k := 0) rfl rfl d_It_removeFirst_10 rfl ?_
    refine cn_getIv (pc' := 14) (v := nI (q.length)) hq.1 fl_It_29 hi'.1 rfl d_It_removeFirst_11 rfl ?_
    refine cn_icmp_ge_n (tgt := 37) (pc' := 17) (by omega) (by omega) d_It_removeFirst_14 (by decide) rfl (fun hc14 => ?_) (fun hc14 => ?_)
    · refine cn_aload_n (pc' := 38) (k := 0) rfl rfl d_It_removeFirst_37 rfl ?_
      refine cn_dup (pc' := 39) rfl d_It_removeFirst_38 rfl ?_
      refine cn_getIv (pc' := 42) (v := nI (q.length)) hq.1 fl_It_29 hi'.1 rfl d_It_removeFirst_39 rfl ?_
      refine cn_iconst (pc' := 43) k_c_1 d_It_removeFirst_42 rfl ?_
      refine cn_isub_n (pc' := 44) (by omega) d_It_removeFirst_43 rfl ?_
      refine cn_putI (pc' := 47) fl_It_29 hi'.1 rfl rfl rfl rfl d_It_removeFirst_44 rfl ?_
      refine cn_aload_n (pc' := 48) (k := 0) rfl rfl d_It_removeFirst_47 rfl ?_
      refine cn_getP (pc' := 51) (b := (it + 1)) hi'.2.1 fl_It_11 hi'.1 rfl d_It_removeFirst_48 rfl ?_
      refine cn_aload_n (pc' := 52) (k := 0) rfl rfl d_It_removeFirst_51 rfl ?_
      refine cn_getIv (pc' := 55) (v := nI (q.length - 1)) (by simp [cn_wi, upd]) fl_It_29 hi'.1 rfl d_It_removeFirst_52 rfl ?_
      refine cn_aload_n (pc' := 56) (k := 1) rfl rfl d_It_removeFirst_55 rfl ?_
      refine cn_aast (pc' := 57) hi'.2.2.1 (by decide) (by decide) (hi'.2.2.2 _ (hq.2.2.1.1 _ (by omega))).1 rfl rfl (by omega) (by decide) d_It_removeFirst_56 rfl ?_
      refine cn_aload_n (pc' := 58) (k := 1) rfl rfl d_It_removeFirst_57 rfl ?_
      refine cn_aret rfl d_It_removeFirst_58 ?_
      have e : i = q.length := by omega
      subst e
      rw [hP', ← hq.2.2.1.2.2 0 (by omega), shf_end P (it + 1) 0 q.length h0]
      exact K
    · exact absurd hc14 (by omega)
  | succ k ih =>
    intro i P' hik hi1 hP'
    have hi' : yi S P' it := hi.keepP (fun a ha => by rw [hP']; exact cn_wq_ne ha)
    have hrow : P' (it + 1) i = P (it + 1) i := by rw [hP', cn_wq_row]; unfold shf; rw [if_neg (by omega)]
    refine cn_iload_n (pc' := 10) (k := 2) rfl rfl d_It_removeFirst_9 rfl ?_
    refine cn_aload_n (pc' := 11) (k := 0) rfl rfl d_It_removeFirst_10 rfl ?_
    refine cn_getIv (pc' := 14) (v := nI (q.length)) hq.1 fl_It_29 hi'.1 rfl d_It_removeFirst_11 rfl ?_
    refine cn_icmp_ge_n (tgt := 37) (pc' := 17) (by omega) (by omega) d_It_removeFirst_14 (by decide) rfl (fun hc14 => ?_) (fun hc14 => ?_)
    · exact absurd hc14 (by omega)
    · refine cn_aload_n (pc' := 18) (k := 0) rfl rfl d_It_removeFirst_17 rfl ?_
      refine cn_getP (pc' := 21) (b := (it + 1)) hi'.2.1 fl_It_11 hi'.1 rfl d_It_removeFirst_18 rfl ?_
      refine cn_iload_n (pc' := 22) (k := 2) rfl rfl d_It_removeFirst_21 rfl ?_
      refine cn_iconst (pc' := 23) k_c_1 d_It_removeFirst_22 rfl ?_
      refine cn_isub_n (pc' := 24) (by omega) d_It_removeFirst_23 rfl ?_
      refine cn_aload_n (pc' := 25) (k := 0) rfl rfl d_It_removeFirst_24 rfl ?_
      refine cn_getP (pc' := 28) (b := (it + 1)) hi'.2.1 fl_It_11 hi'.1 rfl d_It_removeFirst_25 rfl ?_
      refine cn_iload_n (pc' := 29) (k := 2) rfl rfl d_It_removeFirst_28 rfl ?_
      refine cn_aald (pc' := 30) (b := (it + 2 + 3 * π i)) hi'.2.2.1 (by decide) (by decide) rfl (by omega) (by decide) (hrow.trans (hq.2.2.1.2.2 i (by omega))) d_It_removeFirst_29 rfl ?_
      refine cn_aast (pc' := 31) hi'.2.2.1 (by decide) (by decide) (hi'.2.2.2 _ (hq.2.2.1.1 _ (by omega))).1 rfl rfl (by omega) (by decide) d_It_removeFirst_30 rfl ?_
      refine cn_iinc_n (pc' := 34) (lv' := [(0, .ref it), (1, .ref ((it + 2 + 3 * π 0))), (2, .int (nI (i + 1)))]) (k := 2) [1, 2, 0] rfl (Nat.le_of_ble_eq_true rfl) rfl d_It_removeFirst_31 rfl ?_
      refine cn_goto (tgt := 9) d_It_removeFirst_34 (by decide) ?_
      refine ih (i + 1) _ (by omega) (by omega) ?_
      rw [hP', ← hq.2.2.1.2.2 i (by omega)]
      exact shf_step P (it + 1) 0 i (by omega)
theorem c_It_removeFirst (hi : yi S P it) (hq : yq I P it q π) (h0 : 0 < q.length) (K : Q (some (.ref (it + 2 + 3 * π 0))) S (cn_wi I it 4 (nI (q.length - 1))) (cn_wq P (it + 1) (rot (P (it + 1)) 0 q.length))) : cn_V l en mi_It_removeFirst d 0 0 S I P Q 0 [(0, .ref it)] [] := by
  have hl := hq.2.1
  refine cn_aload_n (pc' := 1) (k := 0) rfl rfl d_It_removeFirst_0 rfl ?_
  refine cn_getP (pc' := 4) (b := (it + 1)) hi.2.1 fl_It_11 hi.1 rfl d_It_removeFirst_1 rfl ?_
  refine cn_iconst (pc' := 5) k_c_0 d_It_removeFirst_4 rfl ?_
  refine cn_aald (pc' := 6) (b := (it + 2 + 3 * π 0)) hi.2.2.1 (by decide) (by decide) rfl (by omega) (by decide) (hq.2.2.1.2.2 0 (by omega)) d_It_removeFirst_5 rfl ?_
  refine cn_astore_n (pc' := 7) (lv' := [(0, .ref it), (1, .ref ((it + 2 + 3 * π 0)))]) rfl [1, 0] (Nat.le_of_ble_eq_true rfl) rfl d_It_removeFirst_6 rfl ?_
  refine cn_iconst (pc' := 8) k_c_1 d_It_removeFirst_7 rfl ?_
  refine cn_istore_n (pc' := 9) (lv' := [(0, .ref it), (1, .ref ((it + 2 + 3 * π 0))), (2, .int (nI (1)))]) rfl [1, 2, 0] (Nat.le_of_ble_eq_true rfl) rfl d_It_removeFirst_8 rfl ?_
  exact c_It_removeFirst_loop hi hq h0 K (q.length - 1) 1 P (by omega) (by omega) (shf_start P (it + 1) 0)
theorem c_It_discard {old : Bool} (hi : yi S P it) (hq : yq I P it q π) (h0 : 0 < q.length) (ho : I it 3 = nI old.toNat) (hd1 : 1 ≤ d) (K : ∀ (I' : cn_I) (P' : cn_P) (π' : Nat → Nat), yq I' P' it (if old = true then q.tail else q.dropLast) π' → fri I I' it → frP P P' (it + 1) → Q none S I' P') : cn_V l en mi_It_discard d 0 0 S I P Q 0 [(0, .ref it)] [] := by
  have hl := hq.2.1
  have hob := tn_le old
  refine cn_aload_n (pc' := 1) (k := 0) rfl rfl d_It_discard_0 rfl ?_
  refine cn_getIv (pc' := 4) (v := nI (old.toNat)) ho fl_It_25 hi.1 rfl d_It_discard_1 rfl ?_
  refine cn_if_eq_n (tgt := 15) (pc' := 7) (by omega) d_It_discard_4 (by decide) rfl (fun hc4 => ?_) (fun hc4 => ?_)
  · refine cn_aload_n (pc' := 16) (k := 0) rfl rfl d_It_discard_15 rfl ?_
    refine cn_dup (pc' := 17) rfl d_It_discard_16 rfl ?_
    refine cn_getIv (pc' := 20) (v := nI (q.length)) hq.1 fl_It_29 hi.1 rfl d_It_discard_17 rfl ?_
    refine cn_iconst (pc' := 21) k_c_1 d_It_discard_20 rfl ?_
    refine cn_isub_n (pc' := 22) (by omega) d_It_discard_21 rfl ?_
    refine cn_putI (pc' := 25) fl_It_29 hi.1 rfl rfl rfl rfl d_It_discard_22 rfl ?_
    refine cn_vret rfl d_It_discard_25 ?_
    have e : ¬ old = true := by rw [tn_0 hc4]; decide
    exact K _ _ _ (by rw [if_neg e]; exact yq_drop hq) ⟨fun a h => cn_wi_ne (by omega), by simp [cn_wi, upd], by simp [cn_wi, upd], by simp [cn_wi, upd]⟩ (fun a ha => rfl)
  · refine cn_aload_n (pc' := 8) (k := 0) rfl rfl d_It_discard_7 rfl ?_
    refine cn_callV (pc' := 11) (kc1 := 0) (ks1 := 0) (kc2 := 0) (ks2 := 0) (rest := []) (lvj := [(0, .ref it)]) [] mv_It_51 hi.1 rfl rfl rfl (Nat.le_of_ble_eq_true rfl) (Nat.le_of_ble_eq_true rfl) (by omega) (by omega) (by omega) d_It_discard_8 rfl ?_
    refine c_It_removeFirst hi hq h0 ?_
    show cn_V l en mi_It_discard d 0 0 S ((cn_wi I it 4 (nI (q.length - 1)))) ((cn_wq P (it + 1) (rot (P (it + 1)) 0 q.length))) Q 11 [(0, .ref it)] [.ref ((it + 2 + 3 * π 0))]
    refine cn_pop (pc' := 12) rfl d_It_discard_11 rfl ?_
    refine cn_goto (tgt := 25) d_It_discard_12 (by decide) ?_
    refine cn_vret rfl d_It_discard_25 ?_
    have e : old = true := tn_1 hc4
    exact K _ _ _ (by rw [if_pos e]; exact yq_tail hq h0) ⟨fun a h => cn_wi_ne (by omega), by simp [cn_wi, upd], by simp [cn_wi, upd], by simp [cn_wi, upd]⟩ (fun a ha => cn_wq_ne ha)
end
