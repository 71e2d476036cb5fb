/-- n bytes from p on -/
def mvb (g : List Int32) (p n : Nat) : List Int32 := (List.range n).map (fun k => g.getD (p + k) 0)
theorem mvb_succ (g : List Int32) (p n : Nat) : mvb g p (n + 1) = mvb g p n ++ [g.getD (p + n) 0] := by simp [mvb, List.range_succ]
theorem mvb_add (g : List Int32) (p n : Nat) : ∀ k, mvb g p (n + k) = mvb g p n ++ mvb g (p + n) k
  | 0 => by simp [mvb]
  | k + 1 => by
    rw [← Nat.add_assoc, mvb_succ, mvb_add g p n k, mvb_succ, List.append_assoc, Nat.add_assoc]
theorem mvb_1 (g : List Int32) (p : Nat) : mvb g p 1 = [g.getD p 0] := rfl
theorem tk_app (v u t : List Int32) (cap : Nat) : ((v ++ u).take cap ++ t).take cap = (v ++ (u ++ t)).take cap := by
  rw [← List.append_assoc]
  by_cases h : (v ++ u).length ≤ cap
  · rw [List.take_of_length_le h]
  · have h2 : ((v ++ u).take cap).length = cap := by rw [List.length_take]; omega
    rw [tk_ge h2]
    exact (List.take_append_of_le_length (by omega)).symm
theorem tk_len (v : List Int32) (cap : Nat) : (v.take cap).length ≤ cap := by rw [List.length_take]; omega
/-- as many values as told, one behind the other -/
def pvs (f : Nat → Option (List Int32 × Nat)) : Nat → Nat → Option (List Int32 × Nat)
  | 0, p => some ([], p)
  | n + 1, p => match f p with
    | none => none
    | some a => match pvs f n a.2 with
      | none => none
      | some b => some (a.1 ++ b.1, b.2)
/-- a value from p on; lst: what a list there reads as -/
def pvc (g : List Int32) (lst : Nat → Option (List Int32 × Nat)) (p : Nat) : Option (List Int32 × Nat) :=
  if p + 1 ≤ g.length then
    if g.getD p 0 = nI 0 then some (mvb g p 1, p + 1)
    else if g.getD p 0 = nI 1 then (if p + 2 ≤ g.length then some ([nI 1, if g.getD (p + 1) 0 = 0 then nI 0 else nI 1], p + 2) else none)
    else if g.getD p 0 = nI 6 then (if p + 5 ≤ g.length then some (mvb g p 5, p + 5) else none)
    else if g.getD p 0 = nI 8 then (if p + 9 ≤ g.length then some (mvb g p 9, p + 9) else none)
    else if g.getD p 0 = nI 12 then (if p + 5 ≤ g.length then
        (if rn4 g (p + 1) = -1 then some (mvb g p 5, p + 5) else if rn4 g (p + 1) < 0 then none
         else if p + 5 + (rn4 g (p + 1)).toNatClampNeg ≤ g.length then some (mvb g p (5 + (rn4 g (p + 1)).toNatClampNeg), p + 5 + (rn4 g (p + 1)).toNatClampNeg) else none) else none)
    else if g.getD p 0 = nI 152 then (if p + 5 ≤ g.length then lst p else none)
    else none
  else none
def pvl (g : List Int32) (f : Nat → Option (List Int32 × Nat)) (p : Nat) : Option (List Int32 × Nat) :=
  if rn4 g (p + 1) < 0 then none else match pvs f (rn4 g (p + 1)).toNatClampNeg (p + 5) with
    | none => none
    | some b => some (mvb g p 5 ++ b.1, b.2)
/-- a value from p on that is at most k deep: its bytes as they are written, and the place behind it -/
def pv (g : List Int32) : Nat → Nat → Option (List Int32 × Nat)
  | 0 => pvc g (fun _ => none)
  | k + 1 => pvc g (pvl g (pv g k))
theorem pvs_len {f : Nat → Option (List Int32 × Nat)} {L : Nat} (hf : ∀ p a, f p = some a → p + 1 ≤ a.2 ∧ a.2 ≤ L) : ∀ (n p : Nat) (b : List Int32 × Nat), pvs f n p = some b → p + n ≤ b.2 ∧ (0 < n → b.2 ≤ L)
  | 0, p, b, h => by
    simp only [pvs, Option.some.injEq] at h
    subst h
    exact ⟨Nat.le_refl _, fun h => absurd h (Nat.not_lt_zero 0)⟩
  | n + 1, p, b, h => by
    simp only [pvs] at h
    cases h1 : f p with
    | none => simp [h1] at h
    | some a =>
      simp only [h1] at h
      cases h2 : pvs f n a.2 with
      | none => simp [h2] at h
      | some c =>
        simp only [h2, Option.some.injEq] at h
        subst h
        have q1 := hf p a h1
        have q2 := pvs_len hf n a.2 c h2
        refine ⟨by have := q2.1; show p + (n + 1) ≤ c.2; omega, fun _ => ?_⟩
        show c.2 ≤ L
        by_cases hn : 0 < n
        · exact q2.2 hn
        · have hn0 : n = 0 := by omega
          subst hn0
          simp only [pvs, Option.some.injEq] at h2
          rw [← h2]
          exact q1.2
theorem pvc_len {g : List Int32} {lst : Nat → Option (List Int32 × Nat)} (hl : ∀ p a, p + 5 ≤ g.length → lst p = some a → p + 1 ≤ a.2 ∧ a.2 ≤ g.length) (p : Nat) (a : List Int32 × Nat) (h : pvc g lst p = some a) : p + 1 ≤ a.2 ∧ a.2 ≤ g.length := by
  unfold pvc at h
  repeat' split at h
  all_goals first
    | (cases h; done)
    | exact hl p a (by assumption) h
    | (cases h; refine ⟨?_, ?_⟩ <;> dsimp only <;> omega)
theorem pvl_len {g : List Int32} {f : Nat → Option (List Int32 × Nat)} (hf : ∀ p a, f p = some a → p + 1 ≤ a.2 ∧ a.2 ≤ g.length) (p : Nat) (a : List Int32 × Nat) (h5 : p + 5 ≤ g.length) (h : pvl g f p = some a) : p + 1 ≤ a.2 ∧ a.2 ≤ g.length := by
  unfold pvl at h
  split at h
  · cases h
  · cases h1 : pvs f (rn4 g (p + 1)).toNatClampNeg (p + 5) with
    | none => simp [h1] at h
    | some b =>
      simp only [h1, Option.some.injEq] at h
      subst h
      have q := pvs_len hf _ _ b h1
      have q1 := q.1
      refine ⟨by show p + 1 ≤ b.2; omega, ?_⟩
      show b.2 ≤ g.length
      by_cases hn : 0 < (rn4 g (p + 1)).toNatClampNeg
      · exact q.2 hn
      · have hn0 : (rn4 g (p + 1)).toNatClampNeg = 0 := by omega
        rw [hn0] at h1
        simp only [pvs, Option.some.injEq] at h1
        rw [← h1]
        exact h5
theorem pv_len (g : List Int32) : ∀ (k p : Nat) (a : List Int32 × Nat), pv g k p = some a → p + 1 ≤ a.2 ∧ a.2 ≤ g.length
  | 0, p, a, h => pvc_len (fun _ _ _ h => by cases h) p a h
  | k + 1, p, a, h => pvc_len (fun q b h5 h => pvl_len (pv_len g k) q b h5 h) p a h
def fr3 (I I' : cn_I) (m b : Nat) : Prop := ∀ a, a ≠ m → a ≠ b → a ≠ b + 1 → I' a = I a
theorem fr3.rf {I : cn_I} {m b : Nat} : fr3 I I m b := fun _ _ _ _ => rfl
theorem fr3.tr {I I1 I2 : cn_I} {m b : Nat} (h1 : fr3 I I1 m b) (h2 : fr3 I1 I2 m b) : fr3 I I2 m b := fun a x y z => (h2 a x y z).trans (h1 a x y z)
theorem fr1.to3 {I I' : cn_I} {m b : Nat} (h : fr1 I I' m) : fr3 I I' m b := fun a x _ _ => h a x
theorem fr2.to3 {I I' : cn_I} {m b : Nat} (h : fr2 I I' b) : fr3 I I' m b := fun a _ y z => h a y z
/-- the four bytes of a number are the bytes that it was read from -/
theorem num4_bytes {a b c e : Int32} (ha : a &&& 255 = a) (hb : b &&& 255 = b) (hc : c &&& 255 = c) (he : e &&& 255 = e) : lbs (num4 a b c e).toInt64 4 = [a, b, c, e] := by
  have key : ∀ (i : Nat) (z : Int32), i < 4 → z &&& 255 = z → (∀ j, j < 8 → bt (num4 a b c e) (8 * i + j) = bt z j) → lby (num4 a b c e).toInt64 i = z := by
    intro i z hi hz h
    apply b_ext
    intro j hj
    by_cases h8 : j < 8
    · rw [lby_bit (by omega) h8, bi_l (by omega), h j h8]
    · rw [lby_hi (by omega), b_hi hz (by omega)]
  have bits : ∀ j, j < 32 → bt (num4 a b c e) j = (((bt a j || (decide (8 ≤ j) && bt b (j - 8))) || (decide (16 ≤ j) && bt c (j - 16))) || (decide (24 ≤ j) && bt e (j - 24))) := by
    intro j hj
    unfold num4
    rw [b_or, b_or, b_or, b_shl 8 (by omega) _ hj, b_shl 16 (by omega) _ hj, b_shl 24 (by omega) _ hj]
  have e0 := key 0 a (by omega) ha (fun j hj => by
    rw [bits _ (by omega), decide_eq_false (show ¬ 8 ≤ 8 * 0 + j by omega), decide_eq_false (show ¬ 16 ≤ 8 * 0 + j by omega), decide_eq_false (show ¬ 24 ≤ 8 * 0 + j by omega)]
    simp)
  have e1 := key 1 b (by omega) hb (fun j hj => by
    rw [bits _ (by omega), decide_eq_true (show 8 ≤ 8 * 1 + j by omega), decide_eq_false (show ¬ 16 ≤ 8 * 1 + j by omega), decide_eq_false (show ¬ 24 ≤ 8 * 1 + j by omega), b_hi ha (by omega), show 8 * 1 + j - 8 = j by omega]
    simp)
  have e2 := key 2 c (by omega) hc (fun j hj => by
    rw [bits _ (by omega), decide_eq_true (show 16 ≤ 8 * 2 + j by omega), decide_eq_false (show ¬ 24 ≤ 8 * 2 + j by omega), b_hi ha (by omega), b_hi hb (show 8 ≤ 8 * 2 + j - 8 by omega), show 8 * 2 + j - 16 = j by omega]
    simp)
  have e3 := key 3 e (by omega) he (fun j hj => by
    rw [bits _ (by omega), decide_eq_true (show 24 ≤ 8 * 3 + j by omega), b_hi ha (by omega), b_hi hb (show 8 ≤ 8 * 3 + j - 8 by omega), b_hi hc (show 8 ≤ 8 * 3 + j - 16 by omega), show 8 * 3 + j - 24 = j by omega]
    simp)
  show [lby _ 0, lby _ 1, lby _ 2, lby _ 3] = _
  rw [e0, e1, e2, e3]
section
variable {l : Launch} {en : cn_E} {d : Nat} {S : cn_S} {I : cn_I} {P : cn_P} {Q : Option Value → cn_S → cn_I → cn_P → Prop}
variable {m b cap : Nat} {g v : List Int32} {p : Nat} {w : Bool}
theorem c_Me_moveBytes_loop (hm : ym S P m) (hb : yb S P b cap) (hdis : b + 1 < m ∨ m + 2 < b) {n : Nat} (hn : n ≤ 64) (hd1 : 1 ≤ d) (I0 : cn_I) (K : ∀ I', rd I' m g (rp g p n) (rw_ g p n w) → ys I' b ((v ++ mvb g p n).take cap) → fr3 I0 I' m b → Q none S I' P) : ∀ (k i : Nat) (I : cn_I), i + k = n → rd I m g (rp g p i) (rw_ g p i w) → ys I b ((v ++ mvb g p i).take cap) → fr3 I0 I m b → cn_V l en mi_Me_moveBytes d 0 0 S I P Q 2 [(0, .ref m), (1, .ref b), (2, .int (nI n)), (3, .int (nI i))] [] := by
  intro k
  induction k with
  | zero =>
    intro i I hik hr hy hf
    refine cn_iload_n (pc' := 3) (k := 3) rfl rfl d_Me_moveBytes_2 rfl ?_
    refine cn_iload_n (pc' := 4) (k := 2) rfl rfl d_Me_moveBytes_3 rfl ?_
    refine cn_icmp_ge_n (tgt := 21) (pc' := 7) (by omega) (by omega) d_Me_moveBytes_4 (by decide) rfl (fun hc4 => ?_) (fun hc4 => ?_)
    · refine cn_vret rfl d_Me_moveBytes_21 ?_
      have e : i = n := by omega
      subst e
      exact K _ hr hy hf
    · exact absurd hc4 (by omega)
  | succ k ih =>
    intro i I hik hr hy hf
    refine cn_iload_n (pc' := 3) (k := 3) rfl rfl d_Me_moveBytes_2 rfl ?_
    refine cn_iload_n (pc' := 4) (k := 2) rfl rfl d_Me_moveBytes_3 rfl ?_
    refine cn_icmp_ge_n (tgt := 21) (pc' := 7) (by omega) (by omega) d_Me_moveBytes_4 (by decide) rfl (fun hc4 => ?_) (fun hc4 => ?_)
    · exact absurd hc4 (by omega)
    · refine cn_aload_n (pc' := 8) (k := 1) rfl rfl d_Me_moveBytes_7 rfl ?_
      refine cn_aload_n (pc' := 9) (k := 0) rfl rfl d_Me_moveBytes_8 rfl ?_
      refine cn_callV (pc' := 12) (kc1 := 0) (ks1 := 0) (kc2 := 0) (ks2 := 0) (rest := [.ref b]) (lvj := [(0, .ref m)]) [] mv_Me_39 hm.1 rfl rfl rfl (Nat.le_of_ble_eq_true rfl) (Nat.le_of_ble_eq_true rfl) (by omega) (by omega) (by omega) d_Me_moveBytes_9 rfl ?_
      refine c_Me_readByte hm hr (fun I1 hr1 hf1 => ?_)
      rw [rp_add, rw_add] at hr1
      rw [gd_rp]
      have hy1 := hy.keep1 hf1 (by omega) (by omega)
      show cn_V l en mi_Me_moveBytes d 0 0 S I1 P Q 12 [(0, .ref m), (1, .ref b), (2, .int (nI (n))), (3, .int (nI (i)))] [.int (g.getD (p + i) 0), .ref b]
      refine cn_callV (pc' := 15) (kc1 := 0) (ks1 := 0) (kc2 := 0) (ks2 := 0) (rest := []) (lvj := [(0, .ref b), (1, .int (g.getD (p + i) 0))]) [.int (g.getD (p + i) 0)] mv_Me_42 hb.1 rfl rfl rfl (Nat.le_of_ble_eq_true rfl) (Nat.le_of_ble_eq_true rfl) (by omega) (by omega) (by omega) d_Me_moveBytes_12 rfl ?_
      refine c_By_add (cap := cap) hb hy1 (tk_len _ _) (fun I2 hy2 hf2 => ?_)
      rw [hr.g8, tk_app, ← mvb_succ] at hy2
      have hr2 := hr1.keep hf2 (by omega) (by omega) (by omega) (by omega)
      show cn_V l en mi_Me_moveBytes d 0 0 S I2 P Q 15 [(0, .ref m), (1, .ref b), (2, .int (nI (n))), (3, .int (nI (i)))] []
      refine cn_iinc_n (pc' := 18) (lv' := [(0, .ref m), (1, .ref b), (2, .int (nI (n))), (3, .int (nI (i + 1)))]) (k := 3) [1, 2, 3, 0] rfl (Nat.le_of_ble_eq_true rfl) rfl d_Me_moveBytes_15 rfl ?_
      refine cn_goto (tgt := 2) d_Me_moveBytes_18 (by decide) ?_
      exact ih (i + 1) I2 (by omega) hr2 hy2 ((hf.tr hf1.to3).tr hf2.to3)
theorem c_Me_moveBytes (hm : ym S P m) (hb : yb S P b cap) (hdis : b + 1 < m ∨ m + 2 < b) {n : Nat} (hn : n ≤ 64) (hd1 : 1 ≤ d) (hr : rd I m g p w) (hy : ys I b v) (hc : v.length ≤ cap) (K : ∀ I', rd I' m g (rp g p n) (rw_ g p n w) → ys I' b ((v ++ mvb g p n).take cap) → fr3 I I' m b → Q none S I' P) : cn_V l en mi_Me_moveBytes d 0 0 S I P Q 0 [(0, .ref m), (1, .ref b), (2, .int (nI n))] [] := by
  have e1 : rp g p 0 = p := by have := hr.2.2.2.1; unfold rp; omega
  have e2 : rw_ g p 0 w = w := by have := hr.2.2.2.1; unfold rw_; rw [decide_eq_true (by omega), Bool.and_true]
  refine cn_iconst (pc' := 1) k_c_0 d_Me_moveBytes_0 rfl ?_
  refine cn_istore_n (pc' := 2) (lv' := [(0, .ref m), (1, .ref b), (2, .int (nI (n))), (3, .int (nI (0)))]) rfl [1, 2, 3, 0] (Nat.le_of_ble_eq_true rfl) rfl d_Me_moveBytes_1 rfl ?_
  exact c_Me_moveBytes_loop hm hb hdis hn hd1 I K n 0 I (by omega) (by rw [e1, e2]; exact hr) (by rw [show mvb g p 0 = [] from rfl, List.append_nil, List.take_of_length_le hc]; exact hy) fr3.rf
theorem c_Me_moveBytes_m1 (K : Q none S I P) : cn_V l en mi_Me_moveBytes d 0 0 S I P Q 0 [(0, .ref m), (1, .ref b), (2, .int (-1))] [] := by
  refine cn_iconst (pc' := 1) k_c_0 d_Me_moveBytes_0 rfl ?_
  refine cn_istore_n (pc' := 2) (lv' := [(0, .ref m), (1, .ref b), (2, .int (-1)), (3, .int (nI (0)))]) rfl [1, 2, 3, 0] (Nat.le_of_ble_eq_true rfl) rfl d_Me_moveBytes_1 rfl ?_
  refine cn_iload_n (pc' := 3) (k := 3) rfl rfl d_Me_moveBytes_2 rfl ?_
  refine cn_iload_n (pc' := 4) (k := 2) rfl rfl d_Me_moveBytes_3 rfl ?_
  refine cn_icmp_ge (tgt := 21) (pc' := 7) d_Me_moveBytes_4 (by decide) rfl (fun hc4 => ?_) (fun hc4 => ?_)
  · refine cn_vret rfl d_Me_moveBytes_21 ?_
    exact K
  · exact absurd (by decide +kernel) hc4
end
