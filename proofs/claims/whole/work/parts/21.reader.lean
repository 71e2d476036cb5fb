def ym (S : cn_S) (P : cn_P) (m : Nat) : Prop := cn_ob S m 3 ∧ P m 0 = some (m + 1) ∧ yb S P (m + 1) 64
/-- the message holds the bytes g of which p have been read; w: well formed so far -/
def rd (I : cn_I) (m : Nat) (g : List Int32) (p : Nat) (w : Bool) : Prop := ys I (m + 1) g ∧ I m 1 = nI p ∧ I m 2 = nI w.toNat ∧ p ≤ g.length ∧ g.length ≤ 64
def fr1 (I I' : cn_I) (m : Nat) : Prop := ∀ a, a ≠ m → I' a = I a
theorem fr1.rf {I : cn_I} {m : Nat} : fr1 I I m := fun _ _ => rfl
theorem fr1.tr {I I1 I2 : cn_I} {b : Nat} (h1 : fr1 I I1 b) (h2 : fr1 I1 I2 b) : fr1 I I2 b := fun a x => (h2 a x).trans (h1 a x)
theorem rd.keep {I I' : cn_I} {m b : Nat} {g : List Int32} {p : Nat} {w : Bool} (h : rd I m g p w) (hf : fr2 I I' b) (h1 : m ≠ b) (h2 : m ≠ b + 1) (h3 : m + 1 ≠ b) (h4 : m + 2 ≠ b) : rd I' m g p w :=
  ⟨h.1.keep hf h3 (by omega) h4, by rw [hf m h1 h2]; exact h.2.1, by rw [hf m h1 h2]; exact h.2.2.1, h.2.2.2⟩
theorem ys.keep1 {I I' : cn_I} {b m : Nat} {v : List Int32} (h : ys I b v) (hf : fr1 I I' m) (h1 : b ≠ m) (h2 : b + 1 ≠ m) : ys I' b v := h.congr (hf b h1) (hf (b + 1) h2)
theorem rd.g8 {I : cn_I} {m : Nat} {g : List Int32} {p : Nat} {w : Bool} (h : rd I m g p w) (j : Nat) : g.getD j 0 &&& 255 = g.getD j 0 := by
  by_cases hj : j < g.length
  · exact h.1.by8 hj
  · rw [List.getD_eq_getElem?_getD, List.getElem?_eq_none (by omega)]; rfl
abbrev rp (g : List Int32) (p k : Nat) : Nat := min (p + k) g.length
abbrev rw_ (g : List Int32) (p k : Nat) (w : Bool) : Bool := w && decide (p + k ≤ g.length)
theorem rp_add (g : List Int32) (p j k : Nat) : rp g (rp g p j) k = rp g p (j + k) := by unfold rp; omega
theorem rw_add (g : List Int32) (p j k : Nat) (w : Bool) : rw_ g (rp g p j) k (rw_ g p j w) = rw_ g p (j + k) w := by
  unfold rw_ rp
  cases w
  · rfl
  · by_cases h : p + j ≤ g.length
    · rw [Nat.min_eq_left h]
      simp [h, Nat.add_assoc]
    · have h2 : ¬ p + (j + k) ≤ g.length := by omega
      simp [h, h2]
theorem gd_rp (g : List Int32) (p k : Nat) : g.getD (rp g p k) 0 = g.getD (p + k) 0 := by
  unfold rp
  by_cases h : p + k ≤ g.length
  · rw [Nat.min_eq_left h]
  · rw [Nat.min_eq_right (by omega), List.getD_eq_getElem?_getD, List.getD_eq_getElem?_getD, List.getElem?_eq_none (by omega), List.getElem?_eq_none (by omega)]
def num2 (a b : Int32) : Int32 := a ||| b <<< (nI 8 &&& 31)
def num4 (a b c e : Int32) : Int32 := ((a ||| b <<< (nI 8 &&& 31)) ||| c <<< (nI 16 &&& 31)) ||| e <<< (nI 24 &&& 31)
def rn2 (g : List Int32) (p : Nat) : Int32 := num2 (g.getD p 0) (g.getD (p + 1) 0)
def rn4 (g : List Int32) (p : Nat) : Int32 := num4 (g.getD p 0) (g.getD (p + 1) 0) (g.getD (p + 2) 0) (g.getD (p + 3) 0)
theorem rd_bad {I : cn_I} {m : Nat} {g : List Int32} {p : Nat} {w : Bool} (h : rd I m g p w) : rd (cn_wi I m 2 (nI 0)) m g p false := by
  refine ⟨h.1.congr (cn_wi_ne (by omega)) (cn_wi_ne (by omega)), ?_, ?_, h.2.2.2⟩
  · rw [cn_wi_row]; exact h.2.1
  · rw [cn_wi_row]; rfl
theorem rd_next {I : cn_I} {m : Nat} {g : List Int32} {p : Nat} {w : Bool} (h : rd I m g p w) (hp : p < g.length) : rd (cn_wi I m 1 (nI (p + 1))) m g (p + 1) w := by
  refine ⟨h.1.congr (cn_wi_ne (by omega)) (cn_wi_ne (by omega)), ?_, ?_, by omega, h.2.2.2.2⟩
  · rw [cn_wi_row]; rfl
  · rw [cn_wi_row]; exact h.2.2.1
section
variable {l : Launch} {en : cn_E} {d : Nat} {S : cn_S} {I : cn_I} {P : cn_P} {Q : Option Value → cn_S → cn_I → cn_P → Prop}
variable {m : Nat} {g : List Int32} {p : Nat} {w : Bool}
theorem c_Me_startReading (hm : ym S P m) (hy : ys I (m + 1) g) (hg : g.length ≤ 64) (K : ∀ I', rd I' m g 0 true → fr1 I I' m → Q none S I' P) : cn_V l en mi_Me_startReading d 0 0 S I P Q 0 [(0, .ref m)] [] := by
  refine cn_aload_n (pc' := 1) (k := 0) rfl rfl d_Me_startReading_0 rfl ?_
  refine cn_iconst (pc' := 2) k_c_0 d_Me_startReading_1 rfl ?_
  refine cn_putI (pc' := 5) fl_Me_20 hm.1 rfl rfl rfl rfl d_Me_startReading_2 rfl ?_
  refine cn_aload_n (pc' := 6) (k := 0) rfl rfl d_Me_startReading_5 rfl ?_
  refine cn_iconst (pc' := 7) k_c_1 d_Me_startReading_6 rfl ?_
  refine cn_putI (pc' := 10) fl_Me_24 hm.1 rfl rfl rfl rfl d_Me_startReading_7 rfl ?_
  refine cn_vret rfl d_Me_startReading_10 ?_
  exact K _ ⟨hy.congr (by rw [cn_wi_ne (by omega), cn_wi_ne (by omega)]) (by rw [cn_wi_ne (by omega), cn_wi_ne (by omega)]), by simp [cn_wi, upd], by simp [cn_wi, upd], Nat.zero_le _, hg⟩ (fun a h => by rw [cn_wi_ne h, cn_wi_ne h])
theorem c_Me_left (hm : ym S P m) (hr : rd I m g p w) (K : Q (some (.int (nI (g.length - p)))) S I P) : cn_V l en mi_Me_left d 0 0 S I P Q 0 [(0, .ref m)] [] := by
  have hlen := hr.2.2.2.1
  have hlen2 := hr.2.2.2.2
  refine cn_aload_n (pc' := 1) (k := 0) rfl rfl d_Me_left_0 rfl ?_
  refine cn_getP (pc' := 4) (b := (m + 1)) hm.2.1 fl_Me_14 hm.1 rfl d_Me_left_1 rfl ?_
  refine cn_getIv (pc' := 7) (v := nI (g.length)) hr.1.1 fl_Me_28 hm.2.2.1 rfl d_Me_left_4 rfl ?_
  refine cn_aload_n (pc' := 8) (k := 0) rfl rfl d_Me_left_7 rfl ?_
  refine cn_getIv (pc' := 11) (v := nI (p)) hr.2.1 fl_Me_20 hm.1 rfl d_Me_left_8 rfl ?_
  refine cn_isub_n (pc' := 12) (by omega) d_Me_left_11 rfl ?_
  refine cn_iret rfl d_Me_left_12 ?_
  exact K
theorem c_Me_isReadWhole (hm : ym S P m) (hr : rd I m g p w) (hd1 : 1 ≤ d) (K : Q (some (.int (nI (w && decide (p = g.length)).toNat))) S I P) : cn_V l en mi_Me_isReadWhole d 0 0 S I P Q 0 [(0, .ref m)] [] := by
  have hlen := hr.2.2.2.1
  have hlen2 := hr.2.2.2.2
  have hw1 : w.toNat ≤ 1 := by cases w <;> decide
  refine cn_aload_n (pc' := 1) (k := 0) rfl rfl d_Me_isReadWhole_0 rfl ?_
  refine cn_getIv (pc' := 4) (v := nI (w.toNat)) hr.2.2.1 fl_Me_24 hm.1 rfl d_Me_isReadWhole_1 rfl ?_
  refine cn_if_eq_n (tgt := 18) (pc' := 7) (by omega) d_Me_isReadWhole_4 (by decide) rfl (fun hc4 => ?_) (fun hc4 => ?_)
  · refine cn_iconst (pc' := 19) k_c_0 d_Me_isReadWhole_18 rfl ?_
    refine cn_zret rfl (Or.inl rfl) d_Me_isReadWhole_19 ?_
    rw [show w = false by cases w <;> simp_all] at K
    exact K
  · refine cn_aload_n (pc' := 8) (k := 0) rfl rfl d_Me_isReadWhole_7 rfl ?_
    refine cn_callV (pc' := 11) (kc1 := 0) (ks1 := 0) (kc2 := 0) (ks2 := 0) (rest := []) (lvj := [(0, .ref m)]) [] mv_Me_31 hm.1 rfl rfl rfl (Nat.le_of_ble_eq_true rfl) (Nat.le_of_ble_eq_true rfl) (by omega) (by omega) (by omega) d_Me_isReadWhole_8 rfl ?_
    refine c_Me_left hm hr ?_
    show cn_V l en mi_Me_isReadWhole d 0 0 S I P Q 11 [(0, .ref m)] [.int (nI (g.length - p))]
    refine cn_if_ne_n (tgt := 18) (pc' := 14) (by omega) d_Me_isReadWhole_11 (by decide) rfl (fun hc11 => ?_) (fun hc11 => ?_)
    · refine cn_iconst (pc' := 19) k_c_0 d_Me_isReadWhole_18 rfl ?_
      refine cn_zret rfl (Or.inl rfl) d_Me_isReadWhole_19 ?_
      rw [show decide (p = g.length) = false from decide_eq_false (by omega), Bool.and_false] at K
      exact K
    · refine cn_iconst (pc' := 15) k_c_1 d_Me_isReadWhole_14 rfl ?_
      refine cn_goto (tgt := 19) d_Me_isReadWhole_15 (by decide) ?_
      refine cn_zret rfl (Or.inr rfl) d_Me_isReadWhole_19 ?_
      rw [show w = true by cases w <;> simp_all, show decide (p = g.length) = true from decide_eq_true (by omega)] at K
      exact K
theorem c_Me_readByte (hm : ym S P m) (hr : rd I m g p w) (K : ∀ I', rd I' m g (rp g p 1) (rw_ g p 1 w) → fr1 I I' m → Q (some (.int (g.getD p 0))) S I' P) : cn_V l en mi_Me_readByte d 0 0 S I P Q 0 [(0, .ref m)] [] := by
  have hlen := hr.2.2.2.1
  have hlen2 := hr.2.2.2.2
  refine cn_aload_n (pc' := 1) (k := 0) rfl rfl d_Me_readByte_0 rfl ?_
  refine cn_getIv (pc' := 4) (v := nI (p)) hr.2.1 fl_Me_20 hm.1 rfl d_Me_readByte_1 rfl ?_
  refine cn_aload_n (pc' := 5) (k := 0) rfl rfl d_Me_readByte_4 rfl ?_
  refine cn_getP (pc' := 8) (b := (m + 1)) hm.2.1 fl_Me_14 hm.1 rfl d_Me_readByte_5 rfl ?_
  refine cn_getIv (pc' := 11) (v := nI (g.length)) hr.1.1 fl_Me_28 hm.2.2.1 rfl d_Me_readByte_8 rfl ?_
  refine cn_icmp_lt_n (tgt := 21) (pc' := 14) (by omega) (by omega) d_Me_readByte_11 (by decide) rfl (fun hc11 => ?_) (fun hc11 => ?_)
  · refine cn_aload_n (pc' := 22) (k := 0) rfl rfl d_Me_readByte_21 rfl ?_
    refine cn_dup (pc' := 23) rfl d_Me_readByte_22 rfl ?_
    refine cn_getIv (pc' := 26) (v := nI (p)) hr.2.1 fl_Me_20 hm.1 rfl d_Me_readByte_23 rfl ?_
    refine cn_iconst (pc' := 27) k_c_1 d_Me_readByte_26 rfl ?_
    refine cn_iadd_n (pc' := 28) d_Me_readByte_27 rfl ?_
    refine cn_putI (pc' := 31) fl_Me_20 hm.1 rfl rfl rfl rfl d_Me_readByte_28 rfl ?_
    refine cn_aload_n (pc' := 32) (k := 0) rfl rfl d_Me_readByte_31 rfl ?_
    refine cn_getP (pc' := 35) (b := (m + 1)) hm.2.1 fl_Me_14 hm.1 rfl d_Me_readByte_32 rfl ?_
    refine cn_getP (pc' := 38) (b := (m + 1 + 1)) hm.2.2.2.1 fl_Me_35 hm.2.2.1 rfl d_Me_readByte_35 rfl ?_
    refine cn_aload_n (pc' := 39) (k := 0) rfl rfl d_Me_readByte_38 rfl ?_
    refine cn_getIv (pc' := 42) (v := nI (p + 1)) (by simp [cn_wi, upd]) fl_Me_20 hm.1 rfl d_Me_readByte_39 rfl ?_
    refine cn_iconst (pc' := 43) k_c_1 d_Me_readByte_42 rfl ?_
    refine cn_isub_n (pc' := 44) (by omega) d_Me_readByte_43 rfl ?_
    refine cn_baldv (pc' := 45) (v := vp_nar .byte (g.getD ((p + 1) - 1) 0)) (by rw [cn_wi_ne (by omega)]; exact hr.1.2.1 _ (by omega)) hm.2.2.2.2.1 (by omega) (by omega) d_Me_readByte_44 rfl ?_
    refine cn_sipush (pc' := 48) k_s_255 d_Me_readByte_45 rfl ?_
    refine cn_iand (pc' := 49) d_Me_readByte_48 rfl ?_
    refine cn_iret rfl d_Me_readByte_49 ?_
    have e1 : (vp_nar .byte (g.getD ((p + 1) - 1) 0)) &&& (nI (255)) = g.getD p 0 := by rw [Nat.add_sub_cancel]; exact b8_and (hr.g8 p)
    rw [e1]
    refine K _ ?_ (fun a h => cn_wi_ne h)
    have e2 : rp g p 1 = p + 1 := by unfold rp; omega
    have e3 : rw_ g p 1 w = w := by unfold rw_; rw [decide_eq_true (by omega), Bool.and_true]
    rw [e2, e3]
    exact rd_next hr (by omega)
  · refine cn_aload_n (pc' := 15) (k := 0) rfl rfl d_Me_readByte_14 rfl ?_
    refine cn_iconst (pc' := 16) k_c_0 d_Me_readByte_15 rfl ?_
    refine cn_putI (pc' := 19) fl_Me_24 hm.1 rfl rfl rfl rfl d_Me_readByte_16 rfl ?_
    refine cn_iconst (pc' := 20) k_c_0 d_Me_readByte_19 rfl ?_
    refine cn_iret rfl d_Me_readByte_20 ?_
    have e1 : g.getD p 0 = nI 0 := by rw [List.getD_eq_getElem?_getD, List.getElem?_eq_none (by omega)]; rfl
    rw [e1] at K
    refine K _ ?_ (fun a h => cn_wi_ne h)
    have e2 : rp g p 1 = p := by unfold rp; omega
    have e3 : rw_ g p 1 w = false := by unfold rw_; rw [decide_eq_false (by omega), Bool.and_false]
    rw [e2, e3]
    exact rd_bad hr
theorem c_Me_readNumber (hm : ym S P m) (hr : rd I m g p w) (hd1 : 1 ≤ d) (K : ∀ I', rd I' m g (rp g p 4) (rw_ g p 4 w) → fr1 I I' m → Q (some (.int (rn4 g p))) S I' P) : cn_V l en mi_Me_readNumber d 0 0 S I P Q 0 [(0, .ref m)] [] := by
  refine cn_aload_n (pc' := 1) (k := 0) rfl rfl d_Me_readNumber_0 rfl ?_
  refine cn_callV (pc' := 4) (kc1 := 0) (ks1 := 0) (kc2 := 0) (ks2 := 0) (rest := []) (lvj := [(0, .ref m)]) [] mv_Me_39 hm.1 rfl rfl rfl (Nat.le_of_ble_eq_true rfl) (Nat.le_of_ble_eq_true rfl) (by omega) (by omega) (by omega) d_Me_readNumber_1 rfl ?_
  refine c_Me_readByte hm hr (fun I1 hr1 hf1 => ?_)
  show cn_V l en mi_Me_readNumber d 0 0 S I1 P Q 4 [(0, .ref m)] [.int (g.getD p 0)]
  refine cn_aload_n (pc' := 5) (k := 0) rfl rfl d_Me_readNumber_4 rfl ?_
  refine cn_callV (pc' := 8) (kc1 := 0) (ks1 := 0) (kc2 := 0) (ks2 := 0) (rest := [.int (g.getD p 0)]) (lvj := [(0, .ref m)]) [] mv_Me_39 hm.1 rfl rfl rfl (Nat.le_of_ble_eq_true rfl) (Nat.le_of_ble_eq_true rfl) (by omega) (by omega) (by omega) d_Me_readNumber_5 rfl ?_
  refine c_Me_readByte hm hr1 (fun I2 hr2 hf2 => ?_)
  rw [rp_add, rw_add] at hr2
  rw [gd_rp]
  show cn_V l en mi_Me_readNumber d 0 0 S I2 P Q 8 [(0, .ref m)] [.int (g.getD (p + 1) 0), .int (g.getD p 0)]
  refine cn_bipush (pc' := 10) k_b_8 d_Me_readNumber_8 rfl ?_
  refine cn_ishl (pc' := 11) d_Me_readNumber_10 rfl ?_
  refine cn_ior (pc' := 12) d_Me_readNumber_11 rfl ?_
  refine cn_istore_n (pc' := 13) (lv' := [(0, .ref m), (1, .int ((g.getD p 0) ||| ((g.getD (p + 1) 0) <<< ((nI (8)) &&& 31))))]) rfl [1, 0] (Nat.le_of_ble_eq_true rfl) rfl d_Me_readNumber_12 rfl ?_
  refine cn_iload_n (pc' := 14) (k := 1) rfl rfl d_Me_readNumber_13 rfl ?_
  refine cn_aload_n (pc' := 15) (k := 0) rfl rfl d_Me_readNumber_14 rfl ?_
  refine cn_callV (pc' := 18) (kc1 := 0) (ks1 := 0) (kc2 := 0) (ks2 := 0) (rest := [.int ((g.getD p 0) ||| ((g.getD (p + 1) 0) <<< ((nI (8)) &&& 31)))]) (lvj := [(0, .ref m)]) [] mv_Me_39 hm.1 rfl rfl rfl (Nat.le_of_ble_eq_true rfl) (Nat.le_of_ble_eq_true rfl) (by omega) (by omega) (by omega) d_Me_readNumber_15 rfl ?_
  refine c_Me_readByte hm hr2 (fun I3 hr3 hf3 => ?_)
  rw [rp_add, rw_add] at hr3
  rw [gd_rp]
  show cn_V l en mi_Me_readNumber d 0 0 S I3 P Q 18 [(0, .ref m), (1, .int ((g.getD p 0) ||| ((g.getD (p + 1) 0) <<< ((nI (8)) &&& 31))))] [.int (g.getD (p + 2) 0), .int ((g.getD p 0) ||| ((g.getD (p + 1) 0) <<< ((nI (8)) &&& 31)))]
  refine cn_bipush (pc' := 20) k_b_16 d_Me_readNumber_18 rfl ?_
  refine cn_ishl (pc' := 21) d_Me_readNumber_20 rfl ?_
  refine cn_ior (pc' := 22) d_Me_readNumber_21 rfl ?_
  refine cn_aload_n (pc' := 23) (k := 0) rfl rfl d_Me_readNumber_22 rfl ?_
  refine cn_callV (pc' := 26) (kc1 := 0) (ks1 := 0) (kc2 := 0) (ks2 := 0) (rest := [.int (((g.getD p 0) ||| ((g.getD (p + 1) 0) <<< ((nI (8)) &&& 31))) ||| ((g.getD (p + 2) 0) <<< ((nI (16)) &&& 31)))]) (lvj := [(0, .ref m)]) [] mv_Me_39 hm.1 rfl rfl rfl (Nat.le_of_ble_eq_true rfl) (Nat.le_of_ble_eq_true rfl) (by omega) (by omega) (by omega) d_Me_readNumber_23 rfl ?_
  refine c_Me_readByte hm hr3 (fun I4 hr4 hf4 => ?_)
  rw [rp_add, rw_add] at hr4
  rw [gd_rp]
  show cn_V l en mi_Me_readNumber d 0 0 S I4 P Q 26 [(0, .ref m), (1, .int ((g.getD p 0) ||| ((g.getD (p + 1) 0) <<< ((nI (8)) &&& 31))))] [.int (g.getD (p + 3) 0), .int (((g.getD p 0) ||| ((g.getD (p + 1) 0) <<< ((nI (8)) &&& 31))) ||| ((g.getD (p + 2) 0) <<< ((nI (16)) &&& 31)))]
  refine cn_bipush (pc' := 28) k_b_24 d_Me_readNumber_26 rfl ?_
  refine cn_ishl (pc' := 29) d_Me_readNumber_28 rfl ?_
  refine cn_ior (pc' := 30) d_Me_readNumber_29 rfl ?_
  refine cn_iret rfl d_Me_readNumber_30 ?_
  exact K _ hr4 ((((hf1).tr hf2).tr hf3).tr hf4)
end
/-- what a name that begins at p reads as: a number (-1 for none), how far, whether it is well formed -/
def rnm (g : List Int32) (p : Nat) : Int32 := if g.getD p 0 = 0 then g.getD (p + 1) 0 else if g.getD p 0 = 1 then (if g.getD (p + 1) 0 = 0 then rn2 g (p + 2) else -1) else -1
def rnk (g : List Int32) (p : Nat) : Nat := if g.getD p 0 = 0 then 2 else if g.getD p 0 = 1 then 4 else 1
def rnw (g : List Int32) (p : Nat) (w : Bool) : Bool := rw_ g p (rnk g p) w && (decide (g.getD p 0 = 0) || decide (g.getD p 0 = 1))
section
variable {l : Launch} {en : cn_E} {d : Nat} {S : cn_S} {I : cn_I} {P : cn_P} {Q : Option Value → cn_S → cn_I → cn_P → Prop}
variable {m : Nat} {g : List Int32} {p : Nat} {w : Bool}
theorem c_Me_readName (hm : ym S P m) (hr : rd I m g p w) (hd1 : 1 ≤ d) (K : ∀ I', rd I' m g (rp g p (rnk g p)) (rnw g p w) → fr1 I I' m → Q (some (.int (rnm g p))) S I' P) : cn_V l en mi_Me_readName d 0 0 S I P Q 0 [(0, .ref m)] [] := by
  refine cn_aload_n (pc' := 1) (k := 0) rfl rfl d_Me_readName_0 rfl ?_
  refine cn_callV (pc' := 4) (kc1 := 0) (ks1 := 0) (kc2 := 0) (ks2 := 0) (rest := []) (lvj := [(0, .ref m)]) [] mv_Me_39 hm.1 rfl rfl rfl (Nat.le_of_ble_eq_true rfl) (Nat.le_of_ble_eq_true rfl) (by omega) (by omega) (by omega) d_Me_readName_1 rfl ?_
  refine c_Me_readByte hm hr (fun I1 hr1 hf1 => ?_)
  show cn_V l en mi_Me_readName d 0 0 S I1 P Q 4 [(0, .ref m)] [.int (g.getD p 0)]
  refine cn_istore_n (pc' := 5) (lv' := [(0, .ref m), (1, .int (g.getD p 0))]) rfl [1, 0] (Nat.le_of_ble_eq_true rfl) rfl d_Me_readName_4 rfl ?_
  refine cn_iload_n (pc' := 6) (k := 1) rfl rfl d_Me_readName_5 rfl ?_
  refine cn_if_ne (tgt := 14) (pc' := 9) d_Me_readName_6 (by decide) rfl (fun hc6 => ?_) (fun hc6 => ?_)
  · refine cn_iload_n (pc' := 15) (k := 1) rfl rfl d_Me_readName_14 rfl ?_
    refine cn_iconst (pc' := 16) k_c_1 d_Me_readName_15 rfl ?_
    refine cn_icmp_eq (tgt := 26) (pc' := 19) d_Me_readName_16 (by decide) rfl (fun hc16 => ?_) (fun hc16 => ?_)
    · refine cn_aload_n (pc' := 27) (k := 0) rfl rfl d_Me_readName_26 rfl ?_
      refine cn_callV (pc' := 30) (kc1 := 0) (ks1 := 0) (kc2 := 0) (ks2 := 0) (rest := []) (lvj := [(0, .ref m)]) [] mv_Me_39 hm.1 rfl rfl rfl (Nat.le_of_ble_eq_true rfl) (Nat.le_of_ble_eq_true rfl) (by omega) (by omega) (by omega) d_Me_readName_27 rfl ?_
      refine c_Me_readByte hm hr1 (fun I2 hr2 hf2 => ?_)
      rw [rp_add, rw_add] at hr2
      rw [gd_rp]
      show cn_V l en mi_Me_readName d 0 0 S I2 P Q 30 [(0, .ref m), (1, .int (g.getD p 0))] [.int (g.getD (p + 1) 0)]
      refine cn_istore_n (pc' := 31) (lv' := [(0, .ref m), (1, .int (g.getD p 0)), (2, .int (g.getD (p + 1) 0))]) rfl [1, 2, 0] (Nat.le_of_ble_eq_true rfl) rfl d_Me_readName_30 rfl ?_
      refine cn_aload_n (pc' := 32) (k := 0) rfl rfl d_Me_readName_31 rfl ?_
      refine cn_callV (pc' := 35) (kc1 := 0) (ks1 := 0) (kc2 := 0) (ks2 := 0) (rest := []) (lvj := [(0, .ref m)]) [] mv_Me_39 hm.1 rfl rfl rfl (Nat.le_of_ble_eq_true rfl) (Nat.le_of_ble_eq_true rfl) (by omega) (by omega) (by omega) d_Me_readName_32 rfl ?_
      refine c_Me_readByte hm hr2 (fun I3 hr3 hf3 => ?_)
      rw [rp_add, rw_add] at hr3
      rw [gd_rp]
      show cn_V l en mi_Me_readName d 0 0 S I3 P Q 35 [(0, .ref m), (1, .int (g.getD p 0)), (2, .int (g.getD (p + 1) 0))] [.int (g.getD (p + 2) 0)]
      refine cn_aload_n (pc' := 36) (k := 0) rfl rfl d_Me_readName_35 rfl ?_
      refine cn_callV (pc' := 39) (kc1 := 0) (ks1 := 0) (kc2 := 0) (ks2 := 0) (rest := [.int (g.getD (p + 2) 0)]) (lvj := [(0, .ref m)]) [] mv_Me_39 hm.1 rfl rfl rfl (Nat.le_of_ble_eq_true rfl) (Nat.le_of_ble_eq_true rfl) (by omega) (by omega) (by omega) d_Me_readName_36 rfl ?_
      refine c_Me_readByte hm hr3 (fun I4 hr4 hf4 => ?_)
      rw [rp_add, rw_add] at hr4
      rw [gd_rp]
      show cn_V l en mi_Me_readName d 0 0 S I4 P Q 39 [(0, .ref m), (1, .int (g.getD p 0)), (2, .int (g.getD (p + 1) 0))] [.int (g.getD (p + 3) 0), .int (g.getD (p + 2) 0)]
      refine cn_bipush (pc' := 41) k_b_8 d_Me_readName_39 rfl ?_
      refine cn_ishl (pc' := 42) d_Me_readName_41 rfl ?_
      refine cn_ior (pc' := 43) d_Me_readName_42 rfl ?_
      refine cn_istore_n (pc' := 44) (lv' := [(0, .ref m), (1, .int (g.getD p 0)), (2, .int (g.getD (p + 1) 0)), (3, .int ((g.getD (p + 2) 0) ||| ((g.getD (p + 3) 0) <<< ((nI (8)) &&& 31))))]) rfl [1, 2, 3, 0] (Nat.le_of_ble_eq_true rfl) rfl d_Me_readName_43 rfl ?_
      refine cn_iload_n (pc' := 45) (k := 2) rfl rfl d_Me_readName_44 rfl ?_
      refine cn_if_ne (tgt := 52) (pc' := 48) d_Me_readName_45 (by decide) rfl (fun hc45 => ?_) (fun hc45 => ?_)
      · refine cn_iconst (pc' := 53) k_c_m1 d_Me_readName_52 rfl ?_
        refine cn_iret rfl d_Me_readName_53 ?_
        have h0 : ¬ g.getD p 0 = 0 := hc6
        have h1 : g.getD p 0 = 1 := hc16
        have e2 : rnk g p = 4 := by unfold rnk; rw [if_neg h0, if_pos h1]
        have e3 : rnw g p w = rw_ g p 4 w := by unfold rnw; rw [e2, decide_eq_true h1, Bool.or_true, Bool.and_true]
        have e1 : rnm g p = -1 := by unfold rnm; rw [if_neg h0, if_pos h1, if_neg hc45]
        rw [e1] at K
        exact K _ (by rw [e2, e3]; exact hr4) ((((hf1).tr hf2).tr hf3).tr hf4)
      · refine cn_iload_n (pc' := 49) (k := 3) rfl rfl d_Me_readName_48 rfl ?_
        refine cn_goto (tgt := 53) d_Me_readName_49 (by decide) ?_
        refine cn_iret rfl d_Me_readName_53 ?_
        have h0 : ¬ g.getD p 0 = 0 := hc6
        have h1 : g.getD p 0 = 1 := hc16
        have e2 : rnk g p = 4 := by unfold rnk; rw [if_neg h0, if_pos h1]
        have e3 : rnw g p w = rw_ g p 4 w := by unfold rnw; rw [e2, decide_eq_true h1, Bool.or_true, Bool.and_true]
        have e1 : rnm g p = rn2 g (p + 2) := by unfold rnm; rw [if_neg h0, if_pos h1, if_pos hc45]
        rw [e1] at K
        exact K _ (by rw [e2, e3]; exact hr4) ((((hf1).tr hf2).tr hf3).tr hf4)
    · refine cn_aload_n (pc' := 20) (k := 0) rfl rfl d_Me_readName_19 rfl ?_
      refine cn_iconst (pc' := 21) k_c_0 d_Me_readName_20 rfl ?_
      refine cn_putI (pc' := 24) fl_Me_24 hm.1 rfl rfl rfl rfl d_Me_readName_21 rfl ?_
      refine cn_iconst (pc' := 25) k_c_m1 d_Me_readName_24 rfl ?_
      refine cn_iret rfl d_Me_readName_25 ?_
      have h0 : ¬ g.getD p 0 = 0 := hc6
      have h1 : ¬ g.getD p 0 = 1 := hc16
      have e1 : rnm g p = -1 := by unfold rnm; rw [if_neg h0, if_neg h1]
      have e2 : rnk g p = 1 := by unfold rnk; rw [if_neg h0, if_neg h1]
      have e3 : rnw g p w = false := by unfold rnw; rw [decide_eq_false h0, decide_eq_false h1]; simp
      rw [← e1]; exact K _ (by rw [e2, e3]; exact rd_bad hr1) ((hf1).tr (fun a h => cn_wi_ne h))
  · refine cn_aload_n (pc' := 10) (k := 0) rfl rfl d_Me_readName_9 rfl ?_
    refine cn_callV (pc' := 13) (kc1 := 0) (ks1 := 0) (kc2 := 0) (ks2 := 0) (rest := []) (lvj := [(0, .ref m)]) [] mv_Me_39 hm.1 rfl rfl rfl (Nat.le_of_ble_eq_true rfl) (Nat.le_of_ble_eq_true rfl) (by omega) (by omega) (by omega) d_Me_readName_10 rfl ?_
    refine c_Me_readByte hm hr1 (fun I2 hr2 hf2 => ?_)
    rw [rp_add, rw_add] at hr2
    rw [gd_rp]
    show cn_V l en mi_Me_readName d 0 0 S I2 P Q 13 [(0, .ref m), (1, .int (g.getD p 0))] [.int (g.getD (p + 1) 0)]
    refine cn_iret rfl d_Me_readName_13 ?_
    have h0 : g.getD p 0 = 0 := hc6
    have e1 : rnm g p = g.getD (p + 1) 0 := by unfold rnm; rw [if_pos h0]
    have e2 : rnk g p = 2 := by unfold rnk; rw [if_pos h0]
    have e3 : rnw g p w = rw_ g p 2 w := by unfold rnw; rw [e2, decide_eq_true h0, Bool.true_or, Bool.and_true]
    rw [← e1]; exact K _ (by rw [e2, e3]; exact hr2) ((hf1).tr hf2)
end
