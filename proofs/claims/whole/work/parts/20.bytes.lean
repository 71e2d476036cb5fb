theorem bp_b (x : Int32) : x.toInt8.toInt32 &&& 255 = x &&& 255 := by
  apply Int32.toBitVec_inj.mp
  rw [Int32.toBitVec_and, Int32.toBitVec_and, Int8.toBitVec_toInt32, Int32.toBitVec_toInt8]
  apply BitVec.eq_of_getLsbD_eq
  intro i hi
  rw [BitVec.getLsbD_and, BitVec.getLsbD_and]
  have hm : ∀ i < 32, 8 ≤ i → (255 : Int32).toBitVec.getLsbD i = false := by decide
  rcases Nat.lt_or_ge i 8 with z | z
  · rw [BitVec.getLsbD_signExtend, BitVec.getLsbD_signExtend, if_pos z, if_pos hi]
    simp only [z, hi, decide_true, Bool.true_and]
  · rw [hm i hi z]; simp
theorem b8_low (x : Int32) : (x &&& 255).toInt8 = x.toInt8 := by
  apply Int8.toBitVec_inj.mp
  rw [Int32.toBitVec_toInt8, Int32.toBitVec_toInt8, Int32.toBitVec_and]
  apply BitVec.eq_of_getLsbD_eq
  intro i hi
  rw [BitVec.getLsbD_signExtend, BitVec.getLsbD_signExtend, if_pos (by omega), if_pos (by omega), BitVec.getLsbD_and]
  have hm : ∀ i < 8, (255 : Int32).toBitVec.getLsbD i = true := by decide
  rw [hm i hi, Bool.and_true]
theorem b8_nar (x : Int32) : vp_nar .byte (x.toInt8.toInt32) = vp_nar .byte (x &&& 255) := by
  rw [pk_vb, vp_nar_byte, b8_low]
theorem b8_and {x : Int32} (h : x &&& 255 = x) : vp_nar .byte x &&& 255 = x := by
  rw [vp_nar_byte, bp_b, h]
theorem b8_idem (x : Int32) : x &&& 255 &&& 255 = x &&& 255 := by
  rw [Int32.and_assoc]; rfl
theorem b8_inj {x y : Int32} (hx : x &&& 255 = x) (hy : y &&& 255 = y) (h : vp_nar .byte x = vp_nar .byte y) : x = y := by
  rw [← b8_and hx, ← b8_and hy, h]
theorem gd_l {v w : List Int32} {j : Nat} (h : j < v.length) : (v ++ w).getD j 0 = v.getD j 0 := by
  rw [List.getD_eq_getElem?_getD, List.getD_eq_getElem?_getD, List.getElem?_append_left h]
theorem gd_r {v w : List Int32} {j : Nat} (h : v.length ≤ j) : (v ++ w).getD j 0 = w.getD (j - v.length) 0 := by
  rw [List.getD_eq_getElem?_getD, List.getD_eq_getElem?_getD, List.getElem?_append_right h]
def yb (S : cn_S) (P : cn_P) (b cap : Nat) : Prop := cn_ob S b 0 ∧ P b 0 = some (b + 1) ∧ cn_ar S (b + 1) 1 cap ∧ cap ≤ 1000
def ys (I : cn_I) (b : Nat) (v : List Int32) : Prop := I b 1 = nI v.length ∧ (∀ j, j < v.length → I (b + 1) j = vp_nar .byte (v.getD j 0)) ∧ ∀ x ∈ v, x &&& 255 = x
def fr2 (I I' : cn_I) (b : Nat) : Prop := ∀ a, a ≠ b → a ≠ b + 1 → I' a = I a
theorem fr2.rf {I : cn_I} {b : Nat} : fr2 I I b := fun _ _ _ => rfl
theorem fr2.tr {I I1 I2 : cn_I} {b : Nat} (h1 : fr2 I I1 b) (h2 : fr2 I1 I2 b) : fr2 I I2 b := fun a x y => (h2 a x y).trans (h1 a x y)
theorem ys.congr {I I' : cn_I} {b : Nat} {v : List Int32} (h : ys I b v) (e1 : I' b = I b) (e2 : I' (b + 1) = I (b + 1)) : ys I' b v := ⟨by rw [e1]; exact h.1, fun j hj => by rw [e2]; exact h.2.1 j hj, h.2.2⟩
theorem ys.keep {I I' : cn_I} {b c : Nat} {v : List Int32} (h : ys I b v) (hf : fr2 I I' c) (h1 : b ≠ c) (h2 : b ≠ c + 1) (h3 : b + 1 ≠ c) : ys I' b v := h.congr (hf b h1 h2) (hf (b + 1) h3 (by omega))
theorem ys.by8 {I : cn_I} {b j : Nat} {v : List Int32} (h : ys I b v) (hj : j < v.length) : v.getD j 0 &&& 255 = v.getD j 0 := by
  apply h.2.2
  rw [List.getD_eq_getElem?_getD, List.getElem?_eq_getElem hj]
  exact List.getElem_mem hj
theorem ys_clear {I : cn_I} {b : Nat} : ys (cn_wi I b 1 (nI 0)) b [] := ⟨by simp [cn_wi, upd], fun j hj => absurd hj (Nat.not_lt_zero j), fun x hx => absurd hx List.not_mem_nil⟩
theorem fr2_clear {I : cn_I} {b k : Nat} {w : Int32} : fr2 I (cn_wi I b k w) b := fun _ h1 _ => cn_wi_ne h1
theorem ys_push {I : cn_I} {b : Nat} {v : List Int32} {x : Int32} (h : ys I b v) : ys (cn_wi (cn_wi I (b + 1) v.length (vp_nar .byte x.toInt8.toInt32)) b 1 (nI (v.length + 1))) b (v ++ [x &&& 255]) := by
  refine ⟨by simp [cn_wi, upd], fun j hj => ?_, fun y hy => ?_⟩
  · rw [cn_wi_ne (by omega), cn_wi_row]
    rw [List.length_append] at hj
    have hj : j < v.length + 1 := hj
    by_cases e : j = v.length
    · subst e
      simp [upd, b8_nar]
    · have hl : j < v.length := by omega
      simp only [upd, if_neg e]
      rw [h.2.1 j hl, gd_l hl]
  · rcases List.mem_append.mp hy with h1 | h1
    · exact h.2.2 y h1
    · rw [List.mem_singleton.mp h1]
      exact b8_idem x
theorem fr2_push {I : cn_I} {b k j : Nat} {w z : Int32} : fr2 I (cn_wi (cn_wi I (b + 1) j w) b k z) b := fun a h1 h2 => by rw [cn_wi_ne h1, cn_wi_ne h2]
theorem tk_lt {v : List Int32} {x : Int32} {cap : Nat} (h : v.length < cap) : (v ++ [x]).take cap = v ++ [x] := List.take_of_length_le (by simp; omega)
theorem tk_ge {v w : List Int32} {cap : Nat} (h : v.length = cap) : (v ++ w).take cap = v := by rw [← h, List.take_left']; rfl
def lbs (x : Int64) (n : Nat) : List Int32 := (List.range n).map (lby x)
theorem lbs_succ (x : Int64) (n : Nat) : lbs x (n + 1) = lbs x n ++ [lby x n] := by simp [lbs, List.range_succ]
theorem tk_tk (v w : List Int32) (x : Int32) (cap : Nat) : ((v ++ w).take cap ++ [x]).take cap = (v ++ (w ++ [x])).take cap := by
  rw [← List.append_assoc]
  by_cases h : (v ++ w).length ≤ cap
  · rw [List.take_of_length_le h]
  · have h2 : ((v ++ w).take cap).length = cap := by rw [List.length_take]; omega
    rw [tk_ge h2]
    exact (List.take_append_of_le_length (by omega)).symm
/-- place i, 0 where there is none -/
def ya (v : List Int32) (i : Int32) : Int32 := if i < 0 then 0 else v.getD i.toNatClampNeg 0
def yset (v : List Int32) (i x : Int32) : List Int32 := if i < 0 then v else v.set i.toNatClampNeg (x &&& 255)
theorem ys_set {I : cn_I} {b j : Nat} {v : List Int32} {x : Int32} (h : ys I b v) (hj : j < v.length) : ys (cn_wi I (b + 1) j (vp_nar .byte x.toInt8.toInt32)) b (v.set j (x &&& 255)) := by
  refine ⟨by rw [cn_wi_ne (by omega), List.length_set]; exact h.1, fun i hi => ?_, fun y hy => ?_⟩
  · rw [List.length_set] at hi
    rw [cn_wi_row]
    by_cases e : i = j
    · subst e
      simp only [upd, if_true]
      rw [b8_nar, List.getD_eq_getElem?_getD, List.getElem?_set_self hj]
      rfl
    · simp only [upd, if_neg e]
      rw [h.2.1 i hi, List.getD_eq_getElem?_getD, List.getD_eq_getElem?_getD, List.getElem?_set_ne (Ne.symm e)]
  · rcases List.mem_or_eq_of_mem_set hy with h1 | h1
    · exact h.2.2 y h1
    · rw [h1]
      exact b8_idem x
theorem ys_app {I : cn_I} {b c n : Nat} {v w : List Int32} (h : ys I b v) (hw : ys I c w) (hn : n ≤ w.length) (hbc : c + 1 ≠ b) (hbc' : c ≠ b) : ys (cn_wi (cn_wr I (b + 1) (va_cpy (I (c + 1)) (I (b + 1)) 0 v.length n)) b 1 (nI (v.length + n))) b (v ++ w.take n) := by
  have hl : (v ++ w.take n).length = v.length + n := by rw [List.length_append, List.length_take]; omega
  refine ⟨by rw [hl]; simp [cn_wi, upd], fun j hj => ?_, fun y hy => ?_⟩
  · rw [hl] at hj
    rw [cn_wi_ne (by omega), cn_wr_row]
    by_cases e : j < v.length
    · rw [pk_cpy_out (Or.inl e), h.2.1 j e, gd_l e]
    · rw [pk_cpy_in (by omega) (by omega), Nat.zero_add, hw.2.1 _ (by omega)]
      rw [gd_r (by omega)]
      rw [List.getD_eq_getElem?_getD, List.getD_eq_getElem?_getD, List.getElem?_take_of_lt (by omega)]
  · rcases List.mem_append.mp hy with h1 | h1
    · exact h.2.2 y h1
    · exact hw.2.2 y (List.mem_of_mem_take h1)
theorem fr2_app {I : cn_I} {b k : Nat} {f : Nat → Int32} {z : Int32} : fr2 I (cn_wi (cn_wr I (b + 1) f) b k z) b := fun a h1 h2 => by rw [cn_wi_ne h1, cn_wr_ne h2]
section
variable {l : Launch} {en : cn_E} {d : Nat} {S : cn_S} {I : cn_I} {P : cn_P} {Q : Option Value → cn_S → cn_I → cn_P → Prop}
theorem c_By_clear {b cap : Nat} (hb : yb S P b cap) (K : ∀ I', ys I' b [] → fr2 I I' b → Q none S I' P) : cn_V l en mi_By_clear d 0 0 S I P Q 0 [(0, .ref b)] [] := by
  obtain ⟨ho, hp, ha, hcap⟩ := hb
  refine cn_aload_n (pc' := 1) (k := 0) rfl rfl d_By_clear_0 rfl ?_
  refine cn_iconst (pc' := 2) k_c_0 d_By_clear_1 rfl ?_
  refine cn_putI (pc' := 5) fl_By_13 ho rfl rfl rfl rfl d_By_clear_2 rfl ?_
  refine cn_vret rfl d_By_clear_5 ?_
  exact K _ ys_clear fr2_clear
theorem c_By_add {b cap : Nat} {v : List Int32} {x : Int32} (hb : yb S P b cap) (hy : ys I b v) (hc : v.length ≤ cap) (K : ∀ I', ys I' b ((v ++ [x &&& 255]).take cap) → fr2 I I' b → Q none S I' P) : cn_V l en mi_By_add d 0 0 S I P Q 0 [(0, .ref b), (1, .int x)] [] := by
  obtain ⟨ho, hp, ha, hcap⟩ := hb
  refine cn_aload_n (pc' := 1) (k := 0) rfl rfl d_By_add_0 rfl ?_
  refine cn_getIv (pc' := 4) (v := nI (v.length)) hy.1 fl_By_13 ho rfl d_By_add_1 rfl ?_
  refine cn_aload_n (pc' := 5) (k := 0) rfl rfl d_By_add_4 rfl ?_
  refine cn_getP (pc' := 8) (b := (b + 1)) hp fl_By_7 ho rfl d_By_add_5 rfl ?_
  refine cn_alen (pc' := 9) ha (by decide) d_By_add_8 rfl ?_
  refine cn_icmp_ge_n (tgt := 33) (pc' := 12) (by omega) (by omega) d_By_add_9 (by decide) rfl (fun hc9 => ?_) (fun hc9 => ?_)
  · refine cn_vret rfl d_By_add_33 ?_
    exact K _ (by rw [tk_ge (by omega)]; exact hy) fr2.rf
  · refine cn_aload_n (pc' := 13) (k := 0) rfl rfl d_By_add_12 rfl ?_
    refine cn_getP (pc' := 16) (b := (b + 1)) hp fl_By_7 ho rfl d_By_add_13 rfl ?_
    refine cn_aload_n (pc' := 17) (k := 0) rfl rfl d_By_add_16 rfl ?_
    refine cn_getIv (pc' := 20) (v := nI (v.length)) hy.1 fl_By_13 ho rfl d_By_add_17 rfl ?_
    refine cn_iload_n (pc' := 21) (k := 1) rfl rfl d_By_add_20 rfl ?_
    refine cn_i2b (pc' := 22) d_By_add_21 rfl ?_
    refine cn_bast (pc' := 23) ha (by omega) (by omega) d_By_add_22 rfl ?_
    refine cn_aload_n (pc' := 24) (k := 0) rfl rfl d_By_add_23 rfl ?_
    refine cn_dup (pc' := 25) rfl d_By_add_24 rfl ?_
    refine cn_getIv (pc' := 28) (v := nI (v.length)) (by simp [cn_wi, cn_wr, upd, hy.1]) fl_By_13 ho rfl d_By_add_25 rfl ?_
    refine cn_iconst (pc' := 29) k_c_1 d_By_add_28 rfl ?_
    refine cn_iadd_n (pc' := 30) d_By_add_29 rfl ?_
    refine cn_putI (pc' := 33) fl_By_13 ho rfl rfl rfl rfl d_By_add_30 rfl ?_
    refine cn_vret rfl d_By_add_33 ?_
    exact K _ (by rw [tk_lt (by omega)]; exact ys_push hy) fr2_push
theorem c_By_at {b cap : Nat} {v : List Int32} {i : Int32} (hb : yb S P b cap) (hy : ys I b v) (hc : v.length ≤ cap) (K : Q (some (.int (ya v i))) S I P) : cn_V l en mi_By_at d 0 0 S I P Q 0 [(0, .ref b), (1, .int i)] [] := by
  obtain ⟨ho, hp, ha, hcap⟩ := hb
  refine cn_iload_n (pc' := 1) (k := 1) rfl rfl d_By_at_0 rfl ?_
  refine cn_if_lt (tgt := 25) (pc' := 4) d_By_at_1 (by decide) rfl (fun hc1 => ?_) (fun hc1 => ?_)
  · refine cn_iconst (pc' := 26) k_c_0 d_By_at_25 rfl ?_
    refine cn_iret rfl d_By_at_26 ?_
    exact (show ya v i = nI 0 by unfold ya; rw [if_pos hc1]; rfl) ▸ K
  · obtain ⟨j, hj, rfl⟩ := nI_of hc1
    refine cn_iload_n (pc' := 5) (k := 1) rfl rfl d_By_at_4 rfl ?_
    refine cn_aload_n (pc' := 6) (k := 0) rfl rfl d_By_at_5 rfl ?_
    refine cn_getIv (pc' := 9) (v := nI (v.length)) hy.1 fl_By_13 ho rfl d_By_at_6 rfl ?_
    refine cn_icmp_ge_n (tgt := 25) (pc' := 12) (by omega) (by omega) d_By_at_9 (by decide) rfl (fun hc9 => ?_) (fun hc9 => ?_)
    · refine cn_iconst (pc' := 26) k_c_0 d_By_at_25 rfl ?_
      refine cn_iret rfl d_By_at_26 ?_
      exact (show ya v (nI j) = nI 0 by unfold ya; rw [if_neg (nI_pos hj), nI_clamp hj, List.getD_eq_getElem?_getD, List.getElem?_eq_none (by omega)]; rfl) ▸ K
    · refine cn_aload_n (pc' := 13) (k := 0) rfl rfl d_By_at_12 rfl ?_
      refine cn_getP (pc' := 16) (b := (b + 1)) hp fl_By_7 ho rfl d_By_at_13 rfl ?_
      refine cn_iload_n (pc' := 17) (k := 1) rfl rfl d_By_at_16 rfl ?_
      refine cn_baldv (pc' := 18) (v := vp_nar .byte (v.getD j 0)) (hy.2.1 _ (by omega)) ha (by omega) (by omega) d_By_at_17 rfl ?_
      refine cn_sipush (pc' := 21) k_s_255 d_By_at_18 rfl ?_
      refine cn_iand (pc' := 22) d_By_at_21 rfl ?_
      refine cn_goto (tgt := 26) d_By_at_22 (by decide) ?_
      refine cn_iret rfl d_By_at_26 ?_
      exact (show ya v (nI j) = (vp_nar .byte (v.getD j 0)) &&& (nI (255)) by unfold ya; rw [if_neg (nI_pos hj), nI_clamp hj]; exact (b8_and (hy.by8 (by omega))).symm) ▸ K
theorem c_By_set {b cap : Nat} {v : List Int32} {i x : Int32} (hb : yb S P b cap) (hy : ys I b v) (hc : v.length ≤ cap) (K : ∀ I', ys I' b (yset v i x) → fr2 I I' b → Q none S I' P) : cn_V l en mi_By_set d 0 0 S I P Q 0 [(0, .ref b), (1, .int i), (2, .int x)] [] := by
  obtain ⟨ho, hp, ha, hcap⟩ := hb
  refine cn_iload_n (pc' := 1) (k := 1) rfl rfl d_By_set_0 rfl ?_
  refine cn_if_lt (tgt := 20) (pc' := 4) d_By_set_1 (by decide) rfl (fun hc1 => ?_) (fun hc1 => ?_)
  · refine cn_vret rfl d_By_set_20 ?_
    exact K _ (by unfold yset; rw [if_pos hc1]; exact hy) fr2.rf
  · obtain ⟨j, hj, rfl⟩ := nI_of hc1
    refine cn_iload_n (pc' := 5) (k := 1) rfl rfl d_By_set_4 rfl ?_
    refine cn_aload_n (pc' := 6) (k := 0) rfl rfl d_By_set_5 rfl ?_
    refine cn_getIv (pc' := 9) (v := nI (v.length)) hy.1 fl_By_13 ho rfl d_By_set_6 rfl ?_
    refine cn_icmp_ge_n (tgt := 20) (pc' := 12) (by omega) (by omega) d_By_set_9 (by decide) rfl (fun hc9 => ?_) (fun hc9 => ?_)
    · refine cn_vret rfl d_By_set_20 ?_
      exact K _ (by unfold yset; rw [if_neg (nI_pos hj), nI_clamp hj, List.set_eq_of_length_le (by omega)]; exact hy) fr2.rf
    · refine cn_aload_n (pc' := 13) (k := 0) rfl rfl d_By_set_12 rfl ?_
      refine cn_getP (pc' := 16) (b := (b + 1)) hp fl_By_7 ho rfl d_By_set_13 rfl ?_
      refine cn_iload_n (pc' := 17) (k := 1) rfl rfl d_By_set_16 rfl ?_
      refine cn_iload_n (pc' := 18) (k := 2) rfl rfl d_By_set_17 rfl ?_
      refine cn_i2b (pc' := 19) d_By_set_18 rfl ?_
      refine cn_bast (pc' := 20) ha (by omega) (by omega) d_By_set_19 rfl ?_
      refine cn_vret rfl d_By_set_20 ?_
      exact K _ (by unfold yset; rw [if_neg (nI_pos hj), nI_clamp hj]; exact ys_set hy (by omega)) (fun _ _ h2 => cn_wi_ne h2)
theorem c_By_addNumber_loop {b cap : Nat} {v : List Int32} {x : Int64} {n : Nat} (hb : yb S P b cap) (hn : n ≤ 8) (hd1 : 1 ≤ d) (hc0 : v.length ≤ cap) (I0 : cn_I) (K : ∀ I', ys I' b ((v ++ lbs x n).take cap) → fr2 I0 I' b → Q none S I' P) : ∀ (k i : Nat) (I : cn_I), i + k = n → ys I b ((v ++ lbs x i).take cap) → fr2 I0 I b → cn_V l en mi_By_addNumber d 0 0 S I P Q 3 [(0, .ref b), (1, .long x), (3, .int (nI n)), (4, .int (nI i))] [] := by
  intro k
  induction k with
  | zero =>
    intro i I hik hyi hf0
    have hb0 := hb
    obtain ⟨ho, hp, ha, hcap⟩ := hb0
    refine cn_iload (pc' := 5) (k := 3) rfl d_By_addNumber_3 rfl ?_
    refine cn_iload_n (pc' := 6) (k := 2) rfl rfl d_By_addNumber_5 rfl ?_
    refine cn_icmp_ge_n (tgt := 27) (pc' := 9) (by omega) (by omega) d_By_addNumber_6 (by decide) rfl (fun hc6 => ?_) (fun hc6 => ?_)
    · refine cn_vret rfl d_By_addNumber_27 ?_
      have e : i = n := by omega
      subst e
      exact K _ hyi hf0
    · exact absurd hc6 (by omega)
  | succ k ih =>
    intro i I hik hyi hf0
    have hb0 := hb
    obtain ⟨ho, hp, ha, hcap⟩ := hb0
    refine cn_iload (pc' := 5) (k := 3) rfl d_By_addNumber_3 rfl ?_
    refine cn_iload_n (pc' := 6) (k := 2) rfl rfl d_By_addNumber_5 rfl ?_
    refine cn_icmp_ge_n (tgt := 27) (pc' := 9) (by omega) (by omega) d_By_addNumber_6 (by decide) rfl (fun hc6 => ?_) (fun hc6 => ?_)
    · exact absurd hc6 (by omega)
    · refine cn_aload_n (pc' := 10) (k := 0) rfl rfl d_By_addNumber_9 rfl ?_
      refine cn_lload_n (pc' := 11) (k := 1) rfl rfl d_By_addNumber_10 rfl ?_
      refine cn_bipush (pc' := 13) k_b_8 d_By_addNumber_11 rfl ?_
      refine cn_iload (pc' := 15) (k := 3) rfl d_By_addNumber_13 rfl ?_
      refine cn_imul_n (pc' := 16) d_By_addNumber_15 rfl ?_
      refine cn_lshr (pc' := 17) d_By_addNumber_16 rfl ?_
      refine cn_l2i (pc' := 18) d_By_addNumber_17 rfl ?_
      refine cn_callV (pc' := 21) (kc1 := 0) (ks1 := 0) (kc2 := 0) (ks2 := 0) (rest := []) (lvj := [(0, .ref b), (1, .int (((x) >>> (((nI (8 * i))).toInt64 &&& 63)).toInt32))]) [.int (((x) >>> (((nI (8 * i))).toInt64 &&& 63)).toInt32)] mv_By_17 ho rfl rfl rfl (Nat.le_of_ble_eq_true rfl) (Nat.le_of_ble_eq_true rfl) (by omega) (by omega) (by omega) d_By_addNumber_18 rfl ?_
      refine c_By_add (cap := cap) hb hyi (by rw [List.length_take]; omega) (fun I1 hy1 hf1 => ?_)
      show cn_V l en mi_By_addNumber d 0 0 S I1 P Q 21 [(0, .ref b), (1, .long (x)), (3, .int (nI (n))), (4, .int (nI (i)))] []
      refine cn_iinc_n (pc' := 24) (lv' := [(0, .ref b), (1, .long (x)), (3, .int (nI (n))), (4, .int (nI (i + 1)))]) (k := 3) [1, 2, 3, 0] rfl (Nat.le_of_ble_eq_true rfl) rfl d_By_addNumber_21 rfl ?_
      refine cn_goto (tgt := 3) d_By_addNumber_24 (by decide) ?_
      refine ih (i + 1) I1 (by omega) ?_ (hf0.tr hf1)
      rw [lbs_succ, ← tk_tk]
      exact hy1
theorem c_By_addNumber {b cap : Nat} {v : List Int32} {x : Int64} {n : Nat} (hb : yb S P b cap) (hy : ys I b v) (hc : v.length ≤ cap) (hn : n ≤ 8) (hd1 : 1 ≤ d) (K : ∀ I', ys I' b ((v ++ lbs x n).take cap) → fr2 I I' b → Q none S I' P) : cn_V l en mi_By_addNumber d 0 0 S I P Q 0 [(0, .ref b), (1, .long x), (3, .int (nI n))] [] := by
  refine cn_iconst (pc' := 1) k_c_0 d_By_addNumber_0 rfl ?_
  refine cn_istore (pc' := 3) (lv' := [(0, .ref b), (1, .long (x)), (3, .int (nI (n))), (4, .int (nI (0)))]) [1, 2, 3, 0] (Nat.le_of_ble_eq_true rfl) rfl d_By_addNumber_1 rfl ?_
  exact c_By_addNumber_loop hb hn hd1 hc I K n 0 I (by omega) (by rw [show lbs x 0 = [] from rfl, List.append_nil, List.take_of_length_le hc]; exact hy) fr2.rf
theorem c_By_append {b c cap cap2 : Nat} {v w : List Int32} (hb : yb S P b cap) (hy : ys I b v) (hc : v.length ≤ cap) (hb2 : yb S P c cap2) (hy2 : ys I c w) (hc2 : w.length ≤ cap2) (hbc : c ≠ b) (hbc1 : c + 1 ≠ b) (hd1 : 1 ≤ d) (K : ∀ I', ys I' b ((v ++ w).take cap) → fr2 I I' b → Q none S I' P) : cn_V l en mi_By_append d 0 0 S I P Q 0 [(0, .ref b), (1, .ref c)] [] := by
  obtain ⟨ho, hp, ha, hcap⟩ := hb
  obtain ⟨ho2, hp2, ha2, hcap2⟩ := hb2
  obtain ⟨n, hn⟩ : ∃ n, n = min w.length (cap - v.length) := ⟨_, rfl⟩
  have hmin : (if nI (cap - v.length) < nI w.length then nI (cap - v.length) else nI w.length) = nI n := by
    by_cases h : cap - v.length < w.length
    · rw [if_pos ((nI_ltI (by omega) (by omega)).mpr h), hn]; congr 1; omega
    · rw [if_neg (fun q => h ((nI_ltI (by omega) (by omega)).mp q)), hn]; congr 1; omega
  refine cn_aload_n (pc' := 1) (k := 1) rfl rfl d_By_append_0 rfl ?_
  refine cn_getIv (pc' := 4) (v := nI (w.length)) hy2.1 fl_By_13 ho2 rfl d_By_append_1 rfl ?_
  refine cn_aload_n (pc' := 5) (k := 0) rfl rfl d_By_append_4 rfl ?_
  refine cn_getP (pc' := 8) (b := (b + 1)) hp fl_By_7 ho rfl d_By_append_5 rfl ?_
  refine cn_alen (pc' := 9) ha (by decide) d_By_append_8 rfl ?_
  refine cn_aload_n (pc' := 10) (k := 0) rfl rfl d_By_append_9 rfl ?_
  refine cn_getIv (pc' := 13) (v := nI (v.length)) hy.1 fl_By_13 ho rfl d_By_append_10 rfl ?_
  refine cn_isub_n (pc' := 14) (by omega) d_By_append_13 rfl ?_
  refine cn_mmin (pc' := 17) w_st_By_21 w_min_s w_math w_min_c (by omega) (Nat.le_of_ble_eq_true rfl) d_By_append_14 rfl ?_
  rw [hmin]
  refine cn_istore_n (pc' := 18) (lv' := [(0, .ref b), (1, .ref c), (2, .int (nI (n)))]) rfl [1, 2, 0] (Nat.le_of_ble_eq_true rfl) rfl d_By_append_17 rfl ?_
  refine cn_aload_n (pc' := 19) (k := 1) rfl rfl d_By_append_18 rfl ?_
  refine cn_getP (pc' := 22) (b := (c + 1)) hp2 fl_By_7 ho2 rfl d_By_append_19 rfl ?_
  refine cn_iconst (pc' := 23) k_c_0 d_By_append_22 rfl ?_
  refine cn_aload_n (pc' := 24) (k := 0) rfl rfl d_By_append_23 rfl ?_
  refine cn_getP (pc' := 27) (b := (b + 1)) hp fl_By_7 ho rfl d_By_append_24 rfl ?_
  refine cn_aload_n (pc' := 28) (k := 0) rfl rfl d_By_append_27 rfl ?_
  refine cn_getIv (pc' := 31) (v := nI (v.length)) hy.1 fl_By_13 ho rfl d_By_append_28 rfl ?_
  refine cn_iload_n (pc' := 32) (k := 2) rfl rfl d_By_append_31 rfl ?_
  refine cn_copy (pc' := 35) w_st_By_27 w_ac_n w_ac_s w_sys ha2 ha (by omega) (by omega) (by omega) (by omega) (by omega) (Nat.le_of_ble_eq_true rfl) d_By_append_32 rfl ?_
  refine cn_aload_n (pc' := 36) (k := 0) rfl rfl d_By_append_35 rfl ?_
  refine cn_dup (pc' := 37) rfl d_By_append_36 rfl ?_
  refine cn_getIv (pc' := 40) (v := nI (v.length)) (by simp [cn_wi, cn_wr, upd, hy.1]) fl_By_13 ho rfl d_By_append_37 rfl ?_
  refine cn_iload_n (pc' := 41) (k := 2) rfl rfl d_By_append_40 rfl ?_
  refine cn_iadd_n (pc' := 42) d_By_append_41 rfl ?_
  refine cn_putI (pc' := 45) fl_By_13 ho rfl rfl rfl rfl d_By_append_42 rfl ?_
  refine cn_vret rfl d_By_append_45 ?_
  refine K _ ?_ fr2_app
  have e : (v ++ w).take cap = v ++ w.take n := by
    rw [List.take_append, List.take_of_length_le hc]
    congr 1
    rw [hn]
    by_cases h : w.length ≤ cap - v.length
    · rw [List.take_of_length_le h, List.take_of_length_le (by omega)]
    · congr 1; omega
  rw [e]
  exact ys_app hy hy2 (by omega) hbc1 hbc
theorem c_By_isSameAs_loop {b c cap cap2 : Nat} {v w : List Int32} (hb : yb S P b cap) (hy : ys I b v) (hc : v.length ≤ cap) (hb2 : yb S P c cap2) (hy2 : ys I c w) (hc2 : w.length ≤ cap2) (hlen : v.length = w.length) (K1 : v = w → Q (some (.int (nI 1))) S I P) (K0 : v ≠ w → Q (some (.int (nI 0))) S I P) : ∀ k i : Nat, i + k = v.length → (∀ j, j < i → v.getD j 0 = w.getD j 0) → cn_V l en mi_By_isSameAs d 0 0 S I P Q 15 [(0, .ref b), (1, .ref c), (2, .int (nI i))] [] := by
  obtain ⟨ho, hp, ha, hcap⟩ := hb
  obtain ⟨ho2, hp2, ha2, hcap2⟩ := hb2
  intro k
  induction k with
  | zero =>
    intro i hik heq
    refine cn_iload_n (pc' := 16) (k := 2) rfl rfl d_By_isSameAs_15 rfl ?_
    refine cn_aload_n (pc' := 17) (k := 0) rfl rfl d_By_isSameAs_16 rfl ?_
    refine cn_getIv (pc' := 20) (v := nI (v.length)) hy.1 fl_By_13 ho rfl d_By_isSameAs_17 rfl ?_
    refine cn_icmp_ge_n (tgt := 46) (pc' := 23) (by omega) (by omega) d_By_isSameAs_20 (by decide) rfl (fun hc20 => ?_) (fun hc20 => ?_)
    · refine cn_iconst (pc' := 47) k_c_1 d_By_isSameAs_46 rfl ?_
      refine cn_zret rfl (Or.inr rfl) d_By_isSameAs_47 ?_
      refine K1 (List.ext_getElem? (fun j => ?_))
      by_cases hj : j < v.length
      · have h := heq j (by omega)
        rw [List.getD_eq_getElem?_getD, List.getD_eq_getElem?_getD, List.getElem?_eq_getElem hj, List.getElem?_eq_getElem (by omega)] at h
        rw [List.getElem?_eq_getElem hj, List.getElem?_eq_getElem (by omega)]
        exact congrArg some h
      · rw [List.getElem?_eq_none (by omega), List.getElem?_eq_none (by omega)]
    · exact absurd hc20 (by omega)
  | succ k ih =>
    intro i hik heq
    refine cn_iload_n (pc' := 16) (k := 2) rfl rfl d_By_isSameAs_15 rfl ?_
    refine cn_aload_n (pc' := 17) (k := 0) rfl rfl d_By_isSameAs_16 rfl ?_
    refine cn_getIv (pc' := 20) (v := nI (v.length)) hy.1 fl_By_13 ho rfl d_By_isSameAs_17 rfl ?_
    refine cn_icmp_ge_n (tgt := 46) (pc' := 23) (by omega) (by omega) d_By_isSameAs_20 (by decide) rfl (fun hc20 => ?_) (fun hc20 => ?_)
    · exact absurd hc20 (by omega)
    · refine cn_aload_n (pc' := 24) (k := 0) rfl rfl d_By_isSameAs_23 rfl ?_
      refine cn_getP (pc' := 27) (b := (b + 1)) hp fl_By_7 ho rfl d_By_isSameAs_24 rfl ?_
      refine cn_iload_n (pc' := 28) (k := 2) rfl rfl d_By_isSameAs_27 rfl ?_
      refine cn_baldv (pc' := 29) (v := vp_nar .byte (v.getD i 0)) (hy.2.1 _ (by omega)) ha (by omega) (by omega) d_By_isSameAs_28 rfl ?_
      refine cn_aload_n (pc' := 30) (k := 1) rfl rfl d_By_isSameAs_29 rfl ?_
      refine cn_getP (pc' := 33) (b := (c + 1)) hp2 fl_By_7 ho2 rfl d_By_isSameAs_30 rfl ?_
      refine cn_iload_n (pc' := 34) (k := 2) rfl rfl d_By_isSameAs_33 rfl ?_
      refine cn_baldv (pc' := 35) (v := vp_nar .byte (w.getD i 0)) (hy2.2.1 _ (by omega)) ha2 (by omega) (by omega) d_By_isSameAs_34 rfl ?_
      refine cn_icmp_eq (tgt := 40) (pc' := 38) d_By_isSameAs_35 (by decide) rfl (fun hc35 => ?_) (fun hc35 => ?_)
      · refine cn_iinc_n (pc' := 43) (lv' := [(0, .ref b), (1, .ref c), (2, .int (nI (i + 1)))]) (k := 2) [1, 2, 0] rfl (Nat.le_of_ble_eq_true rfl) rfl d_By_isSameAs_40 rfl ?_
        refine cn_goto (tgt := 15) d_By_isSameAs_43 (by decide) ?_
        exact ih (i + 1) (by omega) (lt_s heq (b8_inj (hy.by8 (by omega)) (hy2.by8 (by omega)) hc35))
      · refine cn_iconst (pc' := 39) k_c_0 d_By_isSameAs_38 rfl ?_
        refine cn_zret rfl (Or.inl rfl) d_By_isSameAs_39 ?_
        exact K0 (fun e => hc35 (by rw [e]))
theorem c_By_isSameAs {b c cap cap2 : Nat} {v w : List Int32} (hb : yb S P b cap) (hy : ys I b v) (hc : v.length ≤ cap) (hb2 : yb S P c cap2) (hy2 : ys I c w) (hc2 : w.length ≤ cap2) (K1 : v = w → Q (some (.int (nI 1))) S I P) (K0 : v ≠ w → Q (some (.int (nI 0))) S I P) : cn_V l en mi_By_isSameAs d 0 0 S I P Q 0 [(0, .ref b), (1, .ref c)] [] := by
  have hb0 := hb
  have hb20 := hb2
  obtain ⟨ho, hp, ha, hcap⟩ := hb0
  obtain ⟨ho2, hp2, ha2, hcap2⟩ := hb20
  refine cn_aload_n (pc' := 1) (k := 0) rfl rfl d_By_isSameAs_0 rfl ?_
  refine cn_getIv (pc' := 4) (v := nI (v.length)) hy.1 fl_By_13 ho rfl d_By_isSameAs_1 rfl ?_
  refine cn_aload_n (pc' := 5) (k := 1) rfl rfl d_By_isSameAs_4 rfl ?_
  refine cn_getIv (pc' := 8) (v := nI (w.length)) hy2.1 fl_By_13 ho2 rfl d_By_isSameAs_5 rfl ?_
  refine cn_icmp_eq_n (tgt := 13) (pc' := 11) (by omega) (by omega) d_By_isSameAs_8 (by decide) rfl (fun hc8 => ?_) (fun hc8 => ?_)
  · refine cn_iconst (pc' := 14) k_c_0 d_By_isSameAs_13 rfl ?_
    refine cn_istore_n (pc' := 15) (lv' := [(0, .ref b), (1, .ref c), (2, .int (nI (0)))]) rfl [1, 2, 0] (Nat.le_of_ble_eq_true rfl) rfl d_By_isSameAs_14 rfl ?_
    exact c_By_isSameAs_loop hb hy hc hb2 hy2 hc2 hc8 K1 K0 v.length 0 (by omega) (fun j h => absurd h (Nat.not_lt_zero j))
  · refine cn_iconst (pc' := 12) k_c_0 d_By_isSameAs_11 rfl ?_
    refine cn_zret rfl (Or.inl rfl) d_By_isSameAs_12 ?_
    exact K0 (fun e => hc8 (by rw [e]))
end
