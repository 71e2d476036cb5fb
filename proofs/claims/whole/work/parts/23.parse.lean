/-- one reading behind another -/
def pb (r : Option (List Int32 × Nat)) (f : Nat → Option (List Int32 × Nat)) : Option (List Int32 × Nat) := match r with
  | none => none
  | some a => match f a.2 with
    | none => none
    | some b => some (a.1 ++ b.1, b.2)
/-- what a reader's end has to do with what was to be read: r, put behind v -/
def pq (r : Option (List Int32 × Nat)) (v : List Int32) (cap : Nat) (w : Bool) (p' : Nat) (w' : Bool) (v' : List Int32) : Prop :=
  (w = false → w' = false) ∧ (w = true → r = none → w' = false) ∧ (w = true → ∀ a, r = some a → w' = true ∧ p' = a.2 ∧ v' = (v ++ a.1).take cap)
theorem pq_seq {r : Option (List Int32 × Nat)} {f : Nat → Option (List Int32 × Nat)} {v v1 v2 : List Int32} {cap p1 p2 : Nat} {w w1 w2 : Bool} (h1 : pq r v cap w p1 w1 v1) (h2 : pq (f p1) v1 cap w1 p2 w2 v2) : pq (pb r f) v cap w p2 w2 v2 := by
  obtain ⟨a1, a2, a3⟩ := h1
  obtain ⟨b1, b2, b3⟩ := h2
  refine ⟨fun h => b1 (a1 h), fun h hn => ?_, fun h c hc => ?_⟩
  · cases hr : r with
    | none => exact b1 (a2 h hr)
    | some a =>
      obtain ⟨e1, e2, e3⟩ := a3 h a hr
      rw [hr] at hn
      simp only [pb] at hn
      cases hf : f a.2 with
      | none => exact b2 e1 (by rw [e2]; exact hf)
      | some b => rw [hf] at hn; cases hn
  · cases hr : r with
    | none => rw [hr] at hc; cases hc
    | some a =>
      obtain ⟨e1, e2, e3⟩ := a3 h a hr
      rw [hr] at hc
      simp only [pb] at hc
      cases hf : f a.2 with
      | none => rw [hf] at hc; cases hc
      | some b =>
        rw [hf] at hc
        cases hc
        obtain ⟨d1, d2, d3⟩ := b3 e1 b (by rw [e2]; exact hf)
        exact ⟨d1, d2, by rw [d3, e3, tk_app]⟩
theorem pq_bad {v v' : List Int32} {cap p' : Nat} {w : Bool} : pq none v cap w p' false v' := ⟨fun _ => rfl, fun _ _ => rfl, fun _ _ h => by cases h⟩
theorem pq_no {r : Option (List Int32 × Nat)} {v v' : List Int32} {cap p' : Nat} : pq r v cap false p' false v' := ⟨fun _ => rfl, fun h => (by cases h), fun h => (by cases h)⟩
theorem pq_of {r r' : Option (List Int32 × Nat)} {v v' : List Int32} {cap p' : Nat} {w w' : Bool} (h : pq r v cap w p' w' v') (e : r = r') : pq r' v cap w p' w' v' := e ▸ h
theorem pq_nil {v : List Int32} {cap p : Nat} {w : Bool} (hc : v.length ≤ cap) : pq (some ([], p)) v cap w p w v := ⟨fun h => h, fun _ h => (by cases h), fun h a e => (by cases e; exact ⟨h, rfl, by rw [List.append_nil, List.take_of_length_le hc]⟩)⟩
theorem nI_nm1 {j : Nat} (hj : j < 2 ^ 31) : ¬ nI j = -1 := fun e => nI_pos hj (by rw [e]; decide)
def pmv (g : List Int32) (n p : Nat) : Option (List Int32 × Nat) := if p + n ≤ g.length then some (mvb g p n, p + n) else none
theorem pq_mv (g v : List Int32) (cap p n : Nat) (w : Bool) : pq (pmv g n p) v cap w (rp g p n) (rw_ g p n w) ((v ++ mvb g p n).take cap) := by
  unfold pmv rw_ rp
  refine ⟨fun h => by rw [h]; rfl, fun h hn => ?_, fun h a ha => ?_⟩
  · by_cases hl : p + n ≤ g.length
    · rw [if_pos hl] at hn; cases hn
    · rw [h, decide_eq_false hl]; rfl
  · by_cases hl : p + n ≤ g.length
    · rw [if_pos hl] at ha
      cases ha
      exact ⟨by rw [h, decide_eq_true hl]; rfl, Nat.min_eq_left hl, rfl⟩
    · rw [if_neg hl] at ha; cases ha
def ptx (g : List Int32) (p : Nat) : Option (List Int32 × Nat) := pb (pmv g 4 p) (fun q => if rn4 g p = -1 then some ([], q) else if rn4 g p < 0 then none else pmv g (rn4 g p).toNatClampNeg q)
def plx (g : List Int32) (f : Nat → Option (List Int32 × Nat)) (p : Nat) : Option (List Int32 × Nat) := pb (pmv g 4 p) (fun q => if rn4 g p < 0 then none else pvs f (rn4 g p).toNatClampNeg q)
theorem lbs_rn4 {I : cn_I} {m : Nat} {g : List Int32} {p q : Nat} {w : Bool} (h : rd I m g q w) : lbs (rn4 g p).toInt64 4 = mvb g p 4 := num4_bytes (h.g8 _) (h.g8 _) (h.g8 _) (h.g8 _)
theorem pvs_succ (f : Nat → Option (List Int32 × Nat)) (n p : Nat) : pvs f (n + 1) p = pb (f p) (pvs f n) := rfl
theorem i_lt_m1 {x : Int32} (h : ¬ x < -1) (h2 : x < 0) : x = -1 := by
  have a1 : ¬ x.toInt < (-1 : Int32).toInt := fun q => h (Int32.lt_iff_toInt_lt.mpr q)
  have a2 := Int32.lt_iff_toInt_lt.mp h2
  apply Int32.toInt_inj.mp
  have e1 : (-1 : Int32).toInt = -1 := rfl
  have e2 : (0 : Int32).toInt = 0 := rfl
  rw [e1] at a1 ⊢
  rw [e2] at a2
  omega
section
variable {l : Launch} {en : cn_E} {d : Nat} {S : cn_S} {I : cn_I} {P : cn_P} {Q : Option Value → cn_S → cn_I → cn_P → Prop}
variable {m b cap : Nat} {g v : List Int32} {p : Nat} {w : Bool}
theorem c_Me_readText (hm : ym S P m) (hb : yb S P b cap) (hdis : b + 1 < m ∨ m + 2 < b) (hr : rd I m g p w) (hy : ys I b v) (hc : v.length ≤ cap) (hd1 : 2 ≤ d) (K : ∀ (I' : cn_I) (p' : Nat) (w' : Bool) (v' : List Int32), rd I' m g p' w' → ys I' b v' → v'.length ≤ cap → fr3 I I' m b → pq (ptx g p) v cap w p' w' v' → Q none S I' P) : cn_V l en mi_Me_readText d 0 0 S I P Q 0 [(0, .ref m), (1, .ref b)] [] := by
  have hl2 := hr.2.2.2.2
  obtain ⟨x, hx⟩ : ∃ x, x = rn4 g p := ⟨_, rfl⟩
  refine cn_aload_n (pc' := 1) (k := 0) rfl rfl d_Me_readText_0 rfl ?_
  refine cn_callV (pc' := 4) (kc1 := 0) (ks1 := 0) (kc2 := 0) (ks2 := 0) (rest := []) (lvj := [(0, .ref m)]) [] mv_Me_56 hm.1 rfl rfl rfl (Nat.le_of_ble_eq_true rfl) (Nat.le_of_ble_eq_true rfl) (by omega) (by omega) (by omega) d_Me_readText_1 rfl ?_
  refine c_Me_readNumber hm hr (by omega) (fun I1 hr1 hf1 => ?_)
  have hy1 := hy.keep1 hf1 (by omega) (by omega)
  rw [← hx]
  show cn_V l en mi_Me_readText d 0 0 S I1 P Q 4 [(0, .ref m), (1, .ref b)] [.int (x)]
  refine cn_istore_n (pc' := 5) (lv' := [(0, .ref m), (1, .ref b), (2, .int (x))]) rfl [1, 2, 0] (Nat.le_of_ble_eq_true rfl) rfl d_Me_readText_4 rfl ?_
  refine cn_aload_n (pc' := 6) (k := 1) rfl rfl d_Me_readText_5 rfl ?_
  refine cn_iload_n (pc' := 7) (k := 2) rfl rfl d_Me_readText_6 rfl ?_
  refine cn_i2l (pc' := 8) d_Me_readText_7 rfl ?_
  refine cn_iconst (pc' := 9) k_c_4 d_Me_readText_8 rfl ?_
  refine cn_callV (pc' := 12) (kc1 := 0) (ks1 := 0) (kc2 := 0) (ks2 := 0) (rest := []) (lvj := [(0, .ref b), (1, .long ((x).toInt64)), (3, .int (nI (4)))]) [.long ((x).toInt64), .int (nI (4))] mv_Me_59 hb.1 rfl rfl rfl (Nat.le_of_ble_eq_true rfl) (Nat.le_of_ble_eq_true rfl) (by omega) (by omega) (by omega) d_Me_readText_9 rfl ?_
  refine c_By_addNumber (cap := cap) hb hy1 hc (by omega) (by omega) (fun I2 hy2 hf2 => ?_)
  rw [hx, lbs_rn4 hr] at hy2
  have hr2 := hr1.keep hf2 (by omega) (by omega) (by omega) (by omega)
  have hpq := pq_mv g v cap p 4 w
  have hf12 : fr3 I I2 m b := (hf1.to3).tr hf2.to3
  show cn_V l en mi_Me_readText d 0 0 S I2 P Q 12 [(0, .ref m), (1, .ref b), (2, .int (x))] []
  refine cn_iload_n (pc' := 13) (k := 2) rfl rfl d_Me_readText_12 rfl ?_
  refine cn_iconst (pc' := 14) k_c_m1 d_Me_readText_13 rfl ?_
  refine cn_icmp_lt (tgt := 25) (pc' := 17) d_Me_readText_14 (by decide) rfl (fun hc14 => ?_) (fun hc14 => ?_)
  · refine cn_aload_n (pc' := 26) (k := 0) rfl rfl d_Me_readText_25 rfl ?_
    refine cn_iconst (pc' := 27) k_c_0 d_Me_readText_26 rfl ?_
    refine cn_putI (pc' := 30) fl_Me_24 hm.1 rfl rfl rfl rfl d_Me_readText_27 rfl ?_
    refine cn_vret rfl d_Me_readText_30 ?_
    refine K _ _ _ _ (rd_bad hr2) (hy2.keep1 (fun a h => cn_wi_ne h) (by omega) (by omega)) (tk_len _ _) (hf12.tr (fr1.to3 (fun a h => cn_wi_ne h))) ?_
    refine pq_seq hpq (pq_of pq_bad ?_)
    have h0 : x < 0 := Int32.lt_of_lt_of_le hc14 (by decide)
    have h1 : ¬ x = -1 := fun e => by rw [e] at hc14; exact absurd hc14 (by decide)
    rw [← hx, if_neg h1, if_pos h0]
  · by_cases hneg : x < 0
    · have hm1 := i_lt_m1 hc14 hneg
      subst hm1
      refine cn_iload_n (pc' := 18) (k := 2) rfl rfl d_Me_readText_17 rfl ?_
      refine cn_aload_n (pc' := 19) (k := 0) rfl rfl d_Me_readText_18 rfl ?_
      refine cn_callV (pc' := 22) (kc1 := 0) (ks1 := 0) (kc2 := 0) (ks2 := 0) (rest := [.int (-1)]) (lvj := [(0, .ref m)]) [] mv_Me_31 hm.1 rfl rfl rfl (Nat.le_of_ble_eq_true rfl) (Nat.le_of_ble_eq_true rfl) (by omega) (by omega) (by omega) d_Me_readText_19 rfl ?_
      refine c_Me_left hm hr2 ?_
      show cn_V l en mi_Me_readText d 0 0 S I2 P Q 22 [(0, .ref m), (1, .ref b), (2, .int (-1))] [.int (nI (g.length - rp g p 4)), .int (-1)]
      refine cn_icmp_le (tgt := 31) (pc' := 25) d_Me_readText_22 (by decide) rfl (fun hc22 => ?_) (fun hc22 => ?_)
      · refine cn_aload_n (pc' := 32) (k := 0) rfl rfl d_Me_readText_31 rfl ?_
        refine cn_aload_n (pc' := 33) (k := 1) rfl rfl d_Me_readText_32 rfl ?_
        refine cn_iload_n (pc' := 34) (k := 2) rfl rfl d_Me_readText_33 rfl ?_
        refine cn_callV (pc' := 37) (kc1 := 0) (ks1 := 0) (kc2 := 0) (ks2 := 0) (rest := []) (lvj := [(0, .ref m), (1, .ref b), (2, .int (-1))]) [.ref b, .int (-1)] mv_Me_45 hm.1 rfl rfl rfl (Nat.le_of_ble_eq_true rfl) (Nat.le_of_ble_eq_true rfl) (by omega) (by omega) (by omega) d_Me_readText_34 rfl ?_
        refine c_Me_moveBytes_m1 ?_
        show cn_V l en mi_Me_readText d 0 0 S I2 P Q 37 [(0, .ref m), (1, .ref b), (2, .int (-1))] []
        refine cn_vret rfl d_Me_readText_37 ?_
        exact K _ _ _ _ hr2 hy2 (tk_len _ _) hf12 (pq_seq hpq (pq_of (r := some ([], rp g p 4)) (pq_nil (tk_len _ _)) (by rw [← hx, if_pos rfl])))
      · exact absurd (Int32.le_trans (show (-1 : Int32) ≤ 0 by decide) (nI_pos' (by omega))) (fun h => hc22 h)
    · obtain ⟨j, hj, rfl⟩ := nI_of hneg
      refine cn_iload_n (pc' := 18) (k := 2) rfl rfl d_Me_readText_17 rfl ?_
      refine cn_aload_n (pc' := 19) (k := 0) rfl rfl d_Me_readText_18 rfl ?_
      refine cn_callV (pc' := 22) (kc1 := 0) (ks1 := 0) (kc2 := 0) (ks2 := 0) (rest := [.int (nI (j))]) (lvj := [(0, .ref m)]) [] mv_Me_31 hm.1 rfl rfl rfl (Nat.le_of_ble_eq_true rfl) (Nat.le_of_ble_eq_true rfl) (by omega) (by omega) (by omega) d_Me_readText_19 rfl ?_
      refine c_Me_left hm hr2 ?_
      show cn_V l en mi_Me_readText d 0 0 S I2 P Q 22 [(0, .ref m), (1, .ref b), (2, .int (nI (j)))] [.int (nI (g.length - rp g p 4)), .int (nI (j))]
      refine cn_icmp_le_n (tgt := 31) (pc' := 25) (by omega) (by omega) d_Me_readText_22 (by decide) rfl (fun hc22 => ?_) (fun hc22 => ?_)
      · refine cn_aload_n (pc' := 32) (k := 0) rfl rfl d_Me_readText_31 rfl ?_
        refine cn_aload_n (pc' := 33) (k := 1) rfl rfl d_Me_readText_32 rfl ?_
        refine cn_iload_n (pc' := 34) (k := 2) rfl rfl d_Me_readText_33 rfl ?_
        refine cn_callV (pc' := 37) (kc1 := 0) (ks1 := 0) (kc2 := 0) (ks2 := 0) (rest := []) (lvj := [(0, .ref m), (1, .ref b), (2, .int (nI (j)))]) [.ref b, .int (nI (j))] mv_Me_45 hm.1 rfl rfl rfl (Nat.le_of_ble_eq_true rfl) (Nat.le_of_ble_eq_true rfl) (by omega) (by omega) (by omega) d_Me_readText_34 rfl ?_
        refine c_Me_moveBytes hm hb hdis (by omega) (by omega) hr2 hy2 (tk_len _ _) (fun I3 hr3 hy3 hf3 => ?_)
        show cn_V l en mi_Me_readText d 0 0 S I3 P Q 37 [(0, .ref m), (1, .ref b), (2, .int (nI (j)))] []
        refine cn_vret rfl d_Me_readText_37 ?_
        refine K _ _ _ _ hr3 hy3 (tk_len _ _) (hf12.tr hf3) ?_
        refine pq_seq hpq (pq_of (pq_mv g _ cap (rp g p 4) j _) ?_)
        rw [← hx, if_neg (nI_nm1 hj), if_neg (nI_pos hj), nI_clamp hj]
      · refine cn_aload_n (pc' := 26) (k := 0) rfl rfl d_Me_readText_25 rfl ?_
        refine cn_iconst (pc' := 27) k_c_0 d_Me_readText_26 rfl ?_
        refine cn_putI (pc' := 30) fl_Me_24 hm.1 rfl rfl rfl rfl d_Me_readText_27 rfl ?_
        refine cn_vret rfl d_Me_readText_30 ?_
        refine K _ _ _ _ (rd_bad hr2) (hy2.keep1 (fun a h => cn_wi_ne h) (by omega) (by omega)) (tk_len _ _) (hf12.tr (fr1.to3 (fun a h => cn_wi_ne h))) ?_
        refine pq_seq hpq (pq_of pq_bad ?_)
        have hp2 := hr2.2.2.2.1
        rw [← hx, if_neg (nI_nm1 hj), if_neg (nI_pos hj), nI_clamp hj]
        exact (if_neg (by omega)).symm
/-- the contract of readValue where lists may still be k deep -/
def cn_RV (l : Launch) (en : cn_E) (S : cn_S) (P : cn_P) (m b cap : Nat) (g : List Int32) (k : Nat) : Prop := ∀ (d : Nat) (I : cn_I) (Q : Option Value → cn_S → cn_I → cn_P → Prop) (p : Nat) (w : Bool) (v : List Int32), 4 + 2 * k ≤ d → rd I m g p w → ys I b v → v.length ≤ cap → (∀ (I' : cn_I) (p' : Nat) (w' : Bool) (v' : List Int32), rd I' m g p' w' → ys I' b v' → v'.length ≤ cap → fr3 I I' m b → pq (pv g k p) v cap w p' w' v' → Q none S I' P) → cn_V l en mi_Me_readValue d 0 0 S I P Q 0 [(0, .ref m), (1, .ref b), (2, .int (nI (3 - k)))] []
theorem c_Me_readList_0 (hm : ym S P m) (hb : yb S P b cap) (hdis : b + 1 < m ∨ m + 2 < b) (hr : rd I m g p w) (hy : ys I b v) (hc : v.length ≤ cap) {x : Nat} (hx3 : 3 < x) (hxb : x ≤ 10) (hd1 : 2 ≤ d) (K : ∀ (I' : cn_I) (p' : Nat) (w' : Bool) (v' : List Int32), rd I' m g p' w' → ys I' b v' → v'.length ≤ cap → fr3 I I' m b → pq (pb (pmv g 4 p) (fun _ => none)) v cap w p' w' v' → Q none S I' P) : cn_V l en mi_Me_readList d 0 0 S I P Q 0 [(0, .ref m), (1, .ref b), (2, .int (nI x))] [] := by
  obtain ⟨y, hx⟩ : ∃ y, y = rn4 g p := ⟨_, rfl⟩
  refine cn_aload_n (pc' := 1) (k := 0) rfl rfl d_Me_readList_0 rfl ?_
  refine cn_callV (pc' := 4) (kc1 := 0) (ks1 := 0) (kc2 := 0) (ks2 := 0) (rest := []) (lvj := [(0, .ref m)]) [] mv_Me_56 hm.1 rfl rfl rfl (Nat.le_of_ble_eq_true rfl) (Nat.le_of_ble_eq_true rfl) (by omega) (by omega) (by omega) d_Me_readList_1 rfl ?_
  refine c_Me_readNumber hm hr (by omega) (fun I1 hr1 hf1 => ?_)
  have hy1 := hy.keep1 hf1 (by omega) (by omega)
  rw [← hx]
  show cn_V l en mi_Me_readList d 0 0 S I1 P Q 4 [(0, .ref m), (1, .ref b), (2, .int (nI (x)))] [.int (y)]
  refine cn_istore_n (pc' := 5) (lv' := [(0, .ref m), (1, .ref b), (2, .int (nI (x))), (3, .int (y))]) rfl [1, 2, 3, 0] (Nat.le_of_ble_eq_true rfl) rfl d_Me_readList_4 rfl ?_
  refine cn_aload_n (pc' := 6) (k := 1) rfl rfl d_Me_readList_5 rfl ?_
  refine cn_iload_n (pc' := 7) (k := 3) rfl rfl d_Me_readList_6 rfl ?_
  refine cn_i2l (pc' := 8) d_Me_readList_7 rfl ?_
  refine cn_iconst (pc' := 9) k_c_4 d_Me_readList_8 rfl ?_
  refine cn_callV (pc' := 12) (kc1 := 0) (ks1 := 0) (kc2 := 0) (ks2 := 0) (rest := []) (lvj := [(0, .ref b), (1, .long ((y).toInt64)), (3, .int (nI (4)))]) [.long ((y).toInt64), .int (nI (4))] mv_Me_59 hb.1 rfl rfl rfl (Nat.le_of_ble_eq_true rfl) (Nat.le_of_ble_eq_true rfl) (by omega) (by omega) (by omega) d_Me_readList_9 rfl ?_
  refine c_By_addNumber (cap := cap) hb hy1 hc (by omega) (by omega) (fun I2 hy2 hf2 => ?_)
  rw [hx, lbs_rn4 hr] at hy2
  have hr2 := hr1.keep hf2 (by omega) (by omega) (by omega) (by omega)
  have hpq := pq_mv g v cap p 4 w
  have hf12 : fr3 I I2 m b := (hf1.to3).tr hf2.to3
  show cn_V l en mi_Me_readList d 0 0 S I2 P Q 12 [(0, .ref m), (1, .ref b), (2, .int (nI (x))), (3, .int (y))] []
  refine cn_iload_n (pc' := 13) (k := 2) rfl rfl d_Me_readList_12 rfl ?_
  refine cn_iconst (pc' := 14) k_c_3 d_Me_readList_13 rfl ?_
  refine cn_icmp_gt_n (tgt := 29) (pc' := 17) (by omega) (by omega) d_Me_readList_14 (by decide) rfl (fun hc14 => ?_) (fun hc14 => ?_)
  · refine cn_aload_n (pc' := 30) (k := 0) rfl rfl d_Me_readList_29 rfl ?_
    refine cn_iconst (pc' := 31) k_c_0 d_Me_readList_30 rfl ?_
    refine cn_putI (pc' := 34) fl_Me_24 hm.1 rfl rfl rfl rfl d_Me_readList_31 rfl ?_
    refine cn_vret rfl d_Me_readList_34 ?_
    refine K _ _ _ _ (rd_bad hr2) (hy2.keep1 (fun a h => cn_wi_ne h) (by omega) (by omega)) (tk_len _ _) (hf12.tr (fr1.to3 (fun a h => cn_wi_ne h))) ?_
    exact pq_seq hpq pq_bad
  · exact absurd hx3 hc14
theorem c_Me_readList_loop (hm : ym S P m) {k n : Nat} (hk : k ≤ 3) (hn : n ≤ 64) (hV : cn_RV l en S P m b cap g k) (hd1 : 5 + 2 * k ≤ d) : ∀ (r i : Nat) (I : cn_I) (p : Nat) (w : Bool) (v : List Int32), i + r = n → rd I m g p w → ys I b v → v.length ≤ cap → (∀ (I' : cn_I) (p' : Nat) (w' : Bool) (v' : List Int32), rd I' m g p' w' → ys I' b v' → v'.length ≤ cap → fr3 I I' m b → pq (pvs (pv g k) r p) v cap w p' w' v' → Q none S I' P) → cn_V l en mi_Me_readList d 0 0 S I P Q 38 [(0, .ref m), (1, .ref b), (2, .int (nI (3 - k))), (3, .int (nI n)), (4, .int (nI i))] [] := by
  intro r
  induction r with
  | zero =>
    intro i I p w v hik hr hy hc K
    have hw1 : w.toNat ≤ 1 := by cases w <;> decide
    refine cn_iload (pc' := 40) (k := 4) rfl d_Me_readList_38 rfl ?_
    refine cn_iload_n (pc' := 41) (k := 3) rfl rfl d_Me_readList_40 rfl ?_
    refine cn_icmp_ge_n (tgt := 63) (pc' := 44) (by omega) (by omega) d_Me_readList_41 (by decide) rfl (fun hc41 => ?_) (fun hc41 => ?_)
    · refine cn_vret rfl d_Me_readList_63 ?_
      exact K I p w v hr hy hc fr3.rf (pq_nil hc)
    · exact absurd hc41 (by omega)
  | succ r ih =>
    intro i I p w v hik hr hy hc K
    have hw1 : w.toNat ≤ 1 := by cases w <;> decide
    refine cn_iload (pc' := 40) (k := 4) rfl d_Me_readList_38 rfl ?_
    refine cn_iload_n (pc' := 41) (k := 3) rfl rfl d_Me_readList_40 rfl ?_
    refine cn_icmp_ge_n (tgt := 63) (pc' := 44) (by omega) (by omega) d_Me_readList_41 (by decide) rfl (fun hc41 => ?_) (fun hc41 => ?_)
    · exact absurd hc41 (by omega)
    · refine cn_aload_n (pc' := 45) (k := 0) rfl rfl d_Me_readList_44 rfl ?_
      refine cn_getIv (pc' := 48) (v := nI (w.toNat)) hr.2.2.1 fl_Me_24 hm.1 rfl d_Me_readList_45 rfl ?_
      refine cn_if_eq_n (tgt := 63) (pc' := 51) (by omega) d_Me_readList_48 (by decide) rfl (fun hc48 => ?_) (fun hc48 => ?_)
      · refine cn_vret rfl d_Me_readList_63 ?_
        have hwf : w = false := by cases w <;> simp_all
        subst hwf
        exact K I p false v hr hy hc fr3.rf pq_no
      · refine cn_aload_n (pc' := 52) (k := 0) rfl rfl d_Me_readList_51 rfl ?_
        refine cn_aload_n (pc' := 53) (k := 1) rfl rfl d_Me_readList_52 rfl ?_
        refine cn_iload_n (pc' := 54) (k := 2) rfl rfl d_Me_readList_53 rfl ?_
        refine cn_callV (pc' := 57) (kc1 := 0) (ks1 := 0) (kc2 := 0) (ks2 := 0) (rest := []) (lvj := [(0, .ref m), (1, .ref b), (2, .int (nI (3 - k)))]) [.ref b, .int (nI (3 - k))] mv_Me_63 hm.1 rfl rfl rfl (Nat.le_of_ble_eq_true rfl) (Nat.le_of_ble_eq_true rfl) (by omega) (by omega) (by omega) d_Me_readList_54 rfl ?_
        refine hV _ I _ p w v (by omega) hr hy hc (fun I1 p1 w1 v1 hr1 hy1 hc1 hf1 hq1 => ?_)
        show cn_V l en mi_Me_readList d 0 0 S I1 P Q 57 [(0, .ref m), (1, .ref b), (2, .int (nI (3 - k))), (3, .int (nI (n))), (4, .int (nI (i)))] []
        refine cn_iinc_n (pc' := 60) (lv' := [(0, .ref m), (1, .ref b), (2, .int (nI (3 - k))), (3, .int (nI (n))), (4, .int (nI (i + 1)))]) (k := 4) [1, 2, 3, 4, 0] rfl (Nat.le_of_ble_eq_true rfl) rfl d_Me_readList_57 rfl ?_
        refine cn_goto (tgt := 38) d_Me_readList_60 (by decide) ?_
        refine ih (i + 1) I1 p1 w1 v1 (by omega) hr1 hy1 hc1 (fun I2 p2 w2 v2 hr2 hy2 hc2 hf2 hq2 => ?_)
        exact K I2 p2 w2 v2 hr2 hy2 hc2 (hf1.tr hf2) (pq_seq hq1 hq2)
theorem c_Me_readList_S (hm : ym S P m) (hb : yb S P b cap) (hdis : b + 1 < m ∨ m + 2 < b) (hr : rd I m g p w) (hy : ys I b v) (hc : v.length ≤ cap) {k : Nat} (hk : k ≤ 3) (hV : cn_RV l en S P m b cap g k) (hd1 : 5 + 2 * k ≤ d) (K : ∀ (I' : cn_I) (p' : Nat) (w' : Bool) (v' : List Int32), rd I' m g p' w' → ys I' b v' → v'.length ≤ cap → fr3 I I' m b → pq (plx g (pv g k) p) v cap w p' w' v' → Q none S I' P) : cn_V l en mi_Me_readList d 0 0 S I P Q 0 [(0, .ref m), (1, .ref b), (2, .int (nI (3 - k)))] [] := by
  have hl2 := hr.2.2.2.2
  obtain ⟨y, hx⟩ : ∃ y, y = rn4 g p := ⟨_, rfl⟩
  refine cn_aload_n (pc' := 1) (k := 0) rfl rfl d_Me_readList_0 rfl ?_
  refine cn_callV (pc' := 4) (kc1 := 0) (ks1 := 0) (kc2 := 0) (ks2 := 0) (rest := []) (lvj := [(0, .ref m)]) [] mv_Me_56 hm.1 rfl rfl rfl (Nat.le_of_ble_eq_true rfl) (Nat.le_of_ble_eq_true rfl) (by omega) (by omega) (by omega) d_Me_readList_1 rfl ?_
  refine c_Me_readNumber hm hr (by omega) (fun I1 hr1 hf1 => ?_)
  have hy1 := hy.keep1 hf1 (by omega) (by omega)
  rw [← hx]
  show cn_V l en mi_Me_readList d 0 0 S I1 P Q 4 [(0, .ref m), (1, .ref b), (2, .int (nI (3 - k)))] [.int (y)]
  refine cn_istore_n (pc' := 5) (lv' := [(0, .ref m), (1, .ref b), (2, .int (nI (3 - k))), (3, .int (y))]) rfl [1, 2, 3, 0] (Nat.le_of_ble_eq_true rfl) rfl d_Me_readList_4 rfl ?_
  refine cn_aload_n (pc' := 6) (k := 1) rfl rfl d_Me_readList_5 rfl ?_
  refine cn_iload_n (pc' := 7) (k := 3) rfl rfl d_Me_readList_6 rfl ?_
  refine cn_i2l (pc' := 8) d_Me_readList_7 rfl ?_
  refine cn_iconst (pc' := 9) k_c_4 d_Me_readList_8 rfl ?_
  refine cn_callV (pc' := 12) (kc1 := 0) (ks1 := 0) (kc2 := 0) (ks2 := 0) (rest := []) (lvj := [(0, .ref b), (1, .long ((y).toInt64)), (3, .int (nI (4)))]) [.long ((y).toInt64), .int (nI (4))] mv_Me_59 hb.1 rfl rfl rfl (Nat.le_of_ble_eq_true rfl) (Nat.le_of_ble_eq_true rfl) (by omega) (by omega) (by omega) d_Me_readList_9 rfl ?_
  refine c_By_addNumber (cap := cap) hb hy1 hc (by omega) (by omega) (fun I2 hy2 hf2 => ?_)
  rw [hx, lbs_rn4 hr] at hy2
  have hr2 := hr1.keep hf2 (by omega) (by omega) (by omega) (by omega)
  have hpq := pq_mv g v cap p 4 w
  have hf12 : fr3 I I2 m b := (hf1.to3).tr hf2.to3
  show cn_V l en mi_Me_readList d 0 0 S I2 P Q 12 [(0, .ref m), (1, .ref b), (2, .int (nI (3 - k))), (3, .int (y))] []
  refine cn_iload_n (pc' := 13) (k := 2) rfl rfl d_Me_readList_12 rfl ?_
  refine cn_iconst (pc' := 14) k_c_3 d_Me_readList_13 rfl ?_
  refine cn_icmp_gt_n (tgt := 29) (pc' := 17) (by omega) (by omega) d_Me_readList_14 (by decide) rfl (fun hc14 => ?_) (fun hc14 => ?_)
  · exact absurd hc14 (by omega)
  · refine cn_iload_n (pc' := 18) (k := 3) rfl rfl d_Me_readList_17 rfl ?_
    refine cn_if_lt (tgt := 29) (pc' := 21) d_Me_readList_18 (by decide) rfl (fun hc18 => ?_) (fun hc18 => ?_)
    · refine cn_aload_n (pc' := 30) (k := 0) rfl rfl d_Me_readList_29 rfl ?_
      refine cn_iconst (pc' := 31) k_c_0 d_Me_readList_30 rfl ?_
      refine cn_putI (pc' := 34) fl_Me_24 hm.1 rfl rfl rfl rfl d_Me_readList_31 rfl ?_
      refine cn_vret rfl d_Me_readList_34 ?_
      refine K _ _ _ _ (rd_bad hr2) (hy2.keep1 (fun a h => cn_wi_ne h) (by omega) (by omega)) (tk_len _ _) (hf12.tr (fr1.to3 (fun a h => cn_wi_ne h))) ?_
      refine pq_seq hpq (pq_of pq_bad ?_)
      rw [← hx, if_pos hc18]
    · obtain ⟨j, hj, rfl⟩ := nI_of hc18
      refine cn_iload_n (pc' := 22) (k := 3) rfl rfl d_Me_readList_21 rfl ?_
      refine cn_aload_n (pc' := 23) (k := 0) rfl rfl d_Me_readList_22 rfl ?_
      refine cn_callV (pc' := 26) (kc1 := 0) (ks1 := 0) (kc2 := 0) (ks2 := 0) (rest := [.int (nI (j))]) (lvj := [(0, .ref m)]) [] mv_Me_31 hm.1 rfl rfl rfl (Nat.le_of_ble_eq_true rfl) (Nat.le_of_ble_eq_true rfl) (by omega) (by omega) (by omega) d_Me_readList_23 rfl ?_
      refine c_Me_left hm hr2 ?_
      show cn_V l en mi_Me_readList d 0 0 S I2 P Q 26 [(0, .ref m), (1, .ref b), (2, .int (nI (3 - k))), (3, .int (nI (j)))] [.int (nI (g.length - rp g p 4)), .int (nI (j))]
      refine cn_icmp_le_n (tgt := 35) (pc' := 29) (by omega) (by omega) d_Me_readList_26 (by decide) rfl (fun hc26 => ?_) (fun hc26 => ?_)
      · refine cn_iconst (pc' := 36) k_c_0 d_Me_readList_35 rfl ?_
        refine cn_istore (pc' := 38) (lv' := [(0, .ref m), (1, .ref b), (2, .int (nI (3 - k))), (3, .int (nI (j))), (4, .int (nI (0)))]) [1, 2, 3, 4, 0] (Nat.le_of_ble_eq_true rfl) rfl d_Me_readList_36 rfl ?_
        refine c_Me_readList_loop hm hk (by omega) hV hd1 j 0 I2 _ _ _ (by omega) hr2 hy2 (tk_len _ _) (fun I3 p3 w3 v3 hr3 hy3 hc3 hf3 hq3 => ?_)
        exact K I3 p3 w3 v3 hr3 hy3 hc3 (hf12.tr hf3) (pq_seq hpq (pq_of hq3 (by rw [← hx, if_neg (nI_pos hj), nI_clamp hj])))
      · refine cn_aload_n (pc' := 30) (k := 0) rfl rfl d_Me_readList_29 rfl ?_
        refine cn_iconst (pc' := 31) k_c_0 d_Me_readList_30 rfl ?_
        refine cn_putI (pc' := 34) fl_Me_24 hm.1 rfl rfl rfl rfl d_Me_readList_31 rfl ?_
        refine cn_vret rfl d_Me_readList_34 ?_
        refine K _ _ _ _ (rd_bad hr2) (hy2.keep1 (fun a h => cn_wi_ne h) (by omega) (by omega)) (tk_len _ _) (hf12.tr (fr1.to3 (fun a h => cn_wi_ne h))) ?_
        refine pq_seq hpq (pq_of pq_bad ?_)
        have hp2 := hr2.2.2.2.1
        rw [← hx, if_neg (nI_pos hj), nI_clamp hj]
        cases hpv : pvs (pv g k) j (rp g p 4) with
        | none => rfl
        | some a =>
          have q := pvs_len (pv_len g k) j _ a hpv
          have q1 := q.1
          have q2 := q.2 (by omega)
          omega
theorem pvc_lt {g : List Int32} {lst : Nat → Option (List Int32 × Nat)} {p : Nat} (h : ¬ p + 1 ≤ g.length) : pvc g lst p = none := if_neg h
theorem pby {g : List Int32} {p : Nat} (h : p + 1 ≤ g.length) (f : Nat → Option (List Int32 × Nat)) : pb (pmv g 1 p) f = match f (p + 1) with
    | none => none
    | some b => some (mvb g p 1 ++ b.1, b.2) := by unfold pmv pb; rw [if_pos h]
theorem pby_no {g : List Int32} {p : Nat} (h : ¬ p + 1 ≤ g.length) (f : Nat → Option (List Int32 × Nat)) : pb (pmv g 1 p) f = none := by unfold pmv pb; rw [if_neg h]
theorem pby_mv {g : List Int32} {p : Nat} (h : p + 1 ≤ g.length) (n : Nat) : pb (pmv g 1 p) (pmv g n) = if p + (1 + n) ≤ g.length then some (mvb g p (1 + n), p + (1 + n)) else none := by
  rw [pby h]
  unfold pmv
  by_cases h2 : p + 1 + n ≤ g.length
  · rw [if_pos h2, if_pos (by omega), mvb_add, Nat.add_assoc]
  · rw [if_neg h2, if_neg (by omega)]
theorem pby_tx {g : List Int32} {p : Nat} (h : p + 1 ≤ g.length) : pb (pmv g 1 p) (ptx g) = if p + 5 ≤ g.length then
        (if rn4 g (p + 1) = -1 then some (mvb g p 5, p + 5) else if rn4 g (p + 1) < 0 then none
         else if p + 5 + (rn4 g (p + 1)).toNatClampNeg ≤ g.length then some (mvb g p (5 + (rn4 g (p + 1)).toNatClampNeg), p + 5 + (rn4 g (p + 1)).toNatClampNeg) else none) else none := by
  have e5 : mvb g p 1 ++ mvb g (p + 1) 4 = mvb g p 5 := (mvb_add g p 1 4).symm
  rw [pby h]
  unfold ptx pmv pb
  by_cases h5 : p + 5 ≤ g.length
  · rw [if_pos (show p + 1 + 4 ≤ g.length by omega), if_pos h5]
    dsimp only
    by_cases hm1 : rn4 g (p + 1) = -1
    · rw [if_pos hm1, if_pos hm1]
      dsimp only
      rw [List.append_nil, e5]
    · rw [if_neg hm1, if_neg hm1]
      by_cases hn : rn4 g (p + 1) < 0
      · rw [if_pos hn, if_pos hn]
      · rw [if_neg hn, if_neg hn]
        by_cases hj : p + 5 + (rn4 g (p + 1)).toNatClampNeg ≤ g.length
        · rw [if_pos (show p + 1 + 4 + (rn4 g (p + 1)).toNatClampNeg ≤ g.length by omega), if_pos hj]
          dsimp only
          rw [← List.append_assoc, e5, show p + 1 + 4 = p + 5 from rfl, ← mvb_add]
        · rw [if_neg (show ¬ p + 1 + 4 + (rn4 g (p + 1)).toNatClampNeg ≤ g.length by omega), if_neg hj]
  · rw [if_neg (show ¬ p + 1 + 4 ≤ g.length by omega), if_neg h5]
theorem pby_ls {g : List Int32} {p : Nat} (h : p + 1 ≤ g.length) (f : Nat → Option (List Int32 × Nat)) : pb (pmv g 1 p) (plx g f) = if p + 5 ≤ g.length then pvl g f p else none := by
  have e5 : mvb g p 1 ++ mvb g (p + 1) 4 = mvb g p 5 := (mvb_add g p 1 4).symm
  rw [pby h]
  unfold plx pmv pb pvl
  by_cases h5 : p + 5 ≤ g.length
  · rw [if_pos (show p + 1 + 4 ≤ g.length by omega), if_pos h5]
    dsimp only
    by_cases hn : rn4 g (p + 1) < 0
    · rw [if_pos hn, if_pos hn]
    · rw [if_neg hn, if_neg hn, show p + 1 + 4 = p + 5 from rfl]
      cases pvs f (rn4 g (p + 1)).toNatClampNeg (p + 5) with
      | none => rfl
      | some a =>
        dsimp only
        rw [← List.append_assoc, e5]
  · rw [if_neg (show ¬ p + 1 + 4 ≤ g.length by omega), if_neg h5]
theorem pby_l0 {g : List Int32} {p : Nat} (h : p + 1 ≤ g.length) : pb (pmv g 1 p) (fun q => pb (pmv g 4 q) (fun _ => none)) = if p + 5 ≤ g.length then (fun _ => none) p else none := by
  rw [pby h]
  unfold pmv pb
  by_cases h5 : p + 5 ≤ g.length
  · rw [if_pos (show p + 1 + 4 ≤ g.length by omega), if_pos h5]
  · rw [if_neg (show ¬ p + 1 + 4 ≤ g.length by omega), if_neg h5]
theorem c_Me_readValue_k (hm : ym S P m) (hb : yb S P b cap) (hdis : b + 1 < m ∨ m + 2 < b) (k : Nat) (hk : k ≤ 3) (L : Nat → Option (List Int32 × Nat)) (hL : ∀ (d : Nat) (I : cn_I) (Q : Option Value → cn_S → cn_I → cn_P → Prop) (p : Nat) (w : Bool) (v : List Int32), 3 + 2 * k ≤ d → rd I m g p w → ys I b v → v.length ≤ cap → (∀ (I' : cn_I) (p' : Nat) (w' : Bool) (v' : List Int32), rd I' m g p' w' → ys I' b v' → v'.length ≤ cap → fr3 I I' m b → pq (L p) v cap w p' w' v' → Q none S I' P) → cn_V l en mi_Me_readList d 0 0 S I P Q 0 [(0, .ref m), (1, .ref b), (2, .int (nI (3 - k + 1)))] []) (lst : Nat → Option (List Int32 × Nat)) (hlst : ∀ p, p + 1 ≤ g.length → pb (pmv g 1 p) L = if p + 5 ≤ g.length then lst p else none) (hpv : ∀ p, pv g k p = pvc g lst p) : cn_RV l en S P m b cap g k := by
  intro d I Q p w v hd1 hr hy hc K
  have hl2 := hr.2.2.2.2
  obtain ⟨c, hcx⟩ : ∃ c, c = g.getD p 0 := ⟨_, rfl⟩
  have hk0 : ∀ n, n < 256 → ∀ n2, n2 < 256 → n ≠ n2 → ¬ nI n = nI n2 := fun n h1 n2 h2 hne e => hne ((nI_eq (by omega) (by omega)).mp e)
  refine cn_aload_n (pc' := 1) (k := 0) rfl rfl d_Me_readValue_0 rfl ?_
  refine cn_callV (pc' := 4) (kc1 := 0) (ks1 := 0) (kc2 := 0) (ks2 := 0) (rest := []) (lvj := [(0, .ref m)]) [] mv_Me_39 hm.1 rfl rfl rfl (Nat.le_of_ble_eq_true rfl) (Nat.le_of_ble_eq_true rfl) (by omega) (by omega) (by omega) d_Me_readValue_1 rfl ?_
  refine c_Me_readByte hm hr (fun I1 hr1 hf1 => ?_)
  have hy1 := hy.keep1 hf1 (by omega) (by omega)
  rw [← hcx]
  show cn_V l en mi_Me_readValue d 0 0 S I1 P Q 4 [(0, .ref m), (1, .ref b), (2, .int (nI (3 - k)))] [.int (c)]
  refine cn_istore_n (pc' := 5) (lv' := [(0, .ref m), (1, .ref b), (2, .int (nI (3 - k))), (3, .int (c))]) rfl [1, 2, 3, 0] (Nat.le_of_ble_eq_true rfl) rfl d_Me_readValue_4 rfl ?_
  refine cn_aload_n (pc' := 6) (k := 1) rfl rfl d_Me_readValue_5 rfl ?_
  refine cn_iload_n (pc' := 7) (k := 3) rfl rfl d_Me_readValue_6 rfl ?_
  refine cn_callV (pc' := 10) (kc1 := 0) (ks1 := 0) (kc2 := 0) (ks2 := 0) (rest := []) (lvj := [(0, .ref b), (1, .int (c))]) [.int (c)] mv_Me_42 hb.1 rfl rfl rfl (Nat.le_of_ble_eq_true rfl) (Nat.le_of_ble_eq_true rfl) (by omega) (by omega) (by omega) d_Me_readValue_7 rfl ?_
  refine c_By_add (cap := cap) hb hy1 hc (fun I2 hy2 hf2 => ?_)
  rw [hcx, hr.g8, ← mvb_1] at hy2
  have hr2 := hr1.keep hf2 (by omega) (by omega) (by omega) (by omega)
  have hpq := pq_mv g v cap p 1 w
  have hf12 : fr3 I I2 m b := (hf1.to3).tr hf2.to3
  show cn_V l en mi_Me_readValue d 0 0 S I2 P Q 10 [(0, .ref m), (1, .ref b), (2, .int (nI (3 - k))), (3, .int (c))] []
  refine cn_iload_n (pc' := 11) (k := 3) rfl rfl d_Me_readValue_10 rfl ?_
  by_cases hk11_0 : c = nI 0
  · refine cn_lookup (tgt := 68) (off := 57) d_Me_readValue_11 (by decide) (by rw [hk11_0] <;> decide +kernel) (by decide) ?_
    refine cn_goto (tgt := 133) d_Me_readValue_68 (by decide) ?_
    refine cn_vret rfl d_Me_readValue_133 ?_
    refine K I2 _ _ _ hr2 hy2 (tk_len _ _) hf12 (pq_of hpq ?_)
    by_cases hp1 : p + 1 ≤ g.length
    · rw [hpv]; unfold pvc; rw [if_pos hp1, if_pos (hcx.symm.trans hk11_0)]; exact if_pos hp1
    · rw [hpv, pvc_lt hp1]; exact if_neg hp1
  by_cases hk11_1 : c = nI 1
  · refine cn_lookup (tgt := 71) (off := 60) d_Me_readValue_11 (by decide) (by rw [hk11_1] <;> decide +kernel) (by decide) ?_
    refine cn_aload_n (pc' := 72) (k := 1) rfl rfl d_Me_readValue_71 rfl ?_
    refine cn_aload_n (pc' := 73) (k := 0) rfl rfl d_Me_readValue_72 rfl ?_
    refine cn_callV (pc' := 76) (kc1 := 0) (ks1 := 0) (kc2 := 0) (ks2 := 0) (rest := [.ref b]) (lvj := [(0, .ref m)]) [] mv_Me_39 hm.1 rfl rfl rfl (Nat.le_of_ble_eq_true rfl) (Nat.le_of_ble_eq_true rfl) (by omega) (by omega) (by omega) d_Me_readValue_73 rfl ?_
    refine c_Me_readByte hm hr2 (fun I3 hr3 hf3 => ?_)
    rw [rp_add, rw_add] at hr3
    rw [gd_rp]
    have hy3 := hy2.keep1 hf3 (by omega) (by omega)
    show cn_V l en mi_Me_readValue d 0 0 S I3 P Q 76 [(0, .ref m), (1, .ref b), (2, .int (nI (3 - k))), (3, .int (c))] [.int (g.getD (p + 1) 0), .ref b]
    refine cn_if_ne (tgt := 83) (pc' := 79) d_Me_readValue_76 (by decide) rfl (fun hc76 => ?_) (fun hc76 => ?_)
    · refine cn_iconst (pc' := 84) k_c_1 d_Me_readValue_83 rfl ?_
      refine cn_callV (pc' := 87) (kc1 := 0) (ks1 := 0) (kc2 := 0) (ks2 := 0) (rest := []) (lvj := [(0, .ref b), (1, .int (nI (1)))]) [.int (nI (1))] mv_Me_42 hb.1 rfl rfl rfl (Nat.le_of_ble_eq_true rfl) (Nat.le_of_ble_eq_true rfl) (by omega) (by omega) (by omega) d_Me_readValue_84 rfl ?_
      refine c_By_add (cap := cap) hb hy3 (tk_len _ _) (fun I4 hy4 hf4 => ?_)
      have hr4 := hr3.keep hf4 (by omega) (by omega) (by omega) (by omega)
      show cn_V l en mi_Me_readValue d 0 0 S I4 P Q 87 [(0, .ref m), (1, .ref b), (2, .int (nI (3 - k))), (3, .int (c))] []
      refine cn_goto (tgt := 133) d_Me_readValue_87 (by decide) ?_
      refine cn_vret rfl d_Me_readValue_133 ?_
      refine K I4 _ _ _ hr4 hy4 (tk_len _ _) ((hf12.tr hf3.to3).tr hf4.to3) ?_
      have e1 : mvb g p 1 = [nI 1] := by rw [mvb_1, ← hcx, hk11_1]
      rw [tk_app, e1]
      refine ⟨fun h => (by rw [h]; rfl), fun h hn => ?_, fun h a ha => ?_⟩
      · rw [hpv] at hn
        unfold pvc at hn
        by_cases hp1 : p + 1 ≤ g.length
        · rw [if_pos hp1, if_neg (fun e => hk11_0 (hcx.trans e)), if_pos (hcx.symm.trans hk11_1)] at hn
          by_cases hp2 : p + 2 ≤ g.length
          · rw [if_pos hp2] at hn; cases hn
          · unfold rw_; rw [h, decide_eq_false hp2]; rfl
        · unfold rw_; rw [h, decide_eq_false (by omega)]; rfl
      · rw [hpv] at ha
        unfold pvc at ha
        by_cases hp1 : p + 1 ≤ g.length
        · rw [if_pos hp1, if_neg (fun e => hk11_0 (hcx.trans e)), if_pos (hcx.symm.trans hk11_1)] at ha
          by_cases hp2 : p + 2 ≤ g.length
          · rw [if_pos hp2, if_neg hc76] at ha
            cases ha
            exact ⟨by unfold rw_; rw [h, decide_eq_true hp2]; rfl, Nat.min_eq_left hp2, rfl⟩
          · rw [if_neg hp2] at ha; cases ha
        · rw [if_neg hp1] at ha; cases ha
    · refine cn_iconst (pc' := 80) k_c_0 d_Me_readValue_79 rfl ?_
      refine cn_goto (tgt := 84) d_Me_readValue_80 (by decide) ?_
      refine cn_callV (pc' := 87) (kc1 := 0) (ks1 := 0) (kc2 := 0) (ks2 := 0) (rest := []) (lvj := [(0, .ref b), (1, .int (nI (0)))]) [.int (nI (0))] mv_Me_42 hb.1 rfl rfl rfl (Nat.le_of_ble_eq_true rfl) (Nat.le_of_ble_eq_true rfl) (by omega) (by omega) (by omega) d_Me_readValue_84 rfl ?_
      refine c_By_add (cap := cap) hb hy3 (tk_len _ _) (fun I4 hy4 hf4 => ?_)
      have hr4 := hr3.keep hf4 (by omega) (by omega) (by omega) (by omega)
      show cn_V l en mi_Me_readValue d 0 0 S I4 P Q 87 [(0, .ref m), (1, .ref b), (2, .int (nI (3 - k))), (3, .int (c))] []
      refine cn_goto (tgt := 133) d_Me_readValue_87 (by decide) ?_
      refine cn_vret rfl d_Me_readValue_133 ?_
      refine K I4 _ _ _ hr4 hy4 (tk_len _ _) ((hf12.tr hf3.to3).tr hf4.to3) ?_
      have e1 : mvb g p 1 = [nI 1] := by rw [mvb_1, ← hcx, hk11_1]
      rw [tk_app, e1]
      refine ⟨fun h => (by rw [h]; rfl), fun h hn => ?_, fun h a ha => ?_⟩
      · rw [hpv] at hn
        unfold pvc at hn
        by_cases hp1 : p + 1 ≤ g.length
        · rw [if_pos hp1, if_neg (fun e => hk11_0 (hcx.trans e)), if_pos (hcx.symm.trans hk11_1)] at hn
          by_cases hp2 : p + 2 ≤ g.length
          · rw [if_pos hp2] at hn; cases hn
          · unfold rw_; rw [h, decide_eq_false hp2]; rfl
        · unfold rw_; rw [h, decide_eq_false (by omega)]; rfl
      · rw [hpv] at ha
        unfold pvc at ha
        by_cases hp1 : p + 1 ≤ g.length
        · rw [if_pos hp1, if_neg (fun e => hk11_0 (hcx.trans e)), if_pos (hcx.symm.trans hk11_1)] at ha
          by_cases hp2 : p + 2 ≤ g.length
          · rw [if_pos hp2, if_pos hc76] at ha
            cases ha
            exact ⟨by unfold rw_; rw [h, decide_eq_true hp2]; rfl, Nat.min_eq_left hp2, rfl⟩
          · rw [if_neg hp2] at ha; cases ha
        · rw [if_neg hp1] at ha; cases ha
  by_cases hk11_6 : c = nI 6
  · refine cn_lookup (tgt := 90) (off := 79) d_Me_readValue_11 (by decide) (by rw [hk11_6] <;> decide +kernel) (by decide) ?_
    refine cn_aload_n (pc' := 91) (k := 0) rfl rfl d_Me_readValue_90 rfl ?_
    refine cn_aload_n (pc' := 92) (k := 1) rfl rfl d_Me_readValue_91 rfl ?_
    refine cn_iconst (pc' := 93) k_c_4 d_Me_readValue_92 rfl ?_
    refine cn_callV (pc' := 96) (kc1 := 0) (ks1 := 0) (kc2 := 0) (ks2 := 0) (rest := []) (lvj := [(0, .ref m), (1, .ref b), (2, .int (nI (4)))]) [.ref b, .int (nI (4))] mv_Me_45 hm.1 rfl rfl rfl (Nat.le_of_ble_eq_true rfl) (Nat.le_of_ble_eq_true rfl) (by omega) (by omega) (by omega) d_Me_readValue_93 rfl ?_
    refine c_Me_moveBytes hm hb hdis (by omega) (by omega) hr2 hy2 (tk_len _ _) (fun I3 hr3 hy3 hf3 => ?_)
    show cn_V l en mi_Me_readValue d 0 0 S I3 P Q 96 [(0, .ref m), (1, .ref b), (2, .int (nI (3 - k))), (3, .int (c))] []
    refine cn_goto (tgt := 133) d_Me_readValue_96 (by decide) ?_
    refine cn_vret rfl d_Me_readValue_133 ?_
    refine K I3 _ _ _ hr3 hy3 (tk_len _ _) (hf12.tr hf3) (pq_of (pq_seq hpq (pq_mv g _ cap (rp g p 1) 4 _)) ?_)
    by_cases hp1 : p + 1 ≤ g.length
    · rw [pby_mv hp1]; rw [hpv]; unfold pvc; rw [if_pos hp1, if_neg (fun e => hk11_0 (hcx.trans e)), if_neg (fun e => hk11_1 (hcx.trans e)), if_pos (hcx.symm.trans hk11_6)]
    · rw [hpv, pvc_lt hp1, pby_no hp1]
  by_cases hk11_8 : c = nI 8
  · refine cn_lookup (tgt := 99) (off := 88) d_Me_readValue_11 (by decide) (by rw [hk11_8] <;> decide +kernel) (by decide) ?_
    refine cn_aload_n (pc' := 100) (k := 0) rfl rfl d_Me_readValue_99 rfl ?_
    refine cn_aload_n (pc' := 101) (k := 1) rfl rfl d_Me_readValue_100 rfl ?_
    refine cn_bipush (pc' := 103) k_b_8 d_Me_readValue_101 rfl ?_
    refine cn_callV (pc' := 106) (kc1 := 0) (ks1 := 0) (kc2 := 0) (ks2 := 0) (rest := []) (lvj := [(0, .ref m), (1, .ref b), (2, .int (nI (8)))]) [.ref b, .int (nI (8))] mv_Me_45 hm.1 rfl rfl rfl (Nat.le_of_ble_eq_true rfl) (Nat.le_of_ble_eq_true rfl) (by omega) (by omega) (by omega) d_Me_readValue_103 rfl ?_
    refine c_Me_moveBytes hm hb hdis (by omega) (by omega) hr2 hy2 (tk_len _ _) (fun I3 hr3 hy3 hf3 => ?_)
    show cn_V l en mi_Me_readValue d 0 0 S I3 P Q 106 [(0, .ref m), (1, .ref b), (2, .int (nI (3 - k))), (3, .int (c))] []
    refine cn_goto (tgt := 133) d_Me_readValue_106 (by decide) ?_
    refine cn_vret rfl d_Me_readValue_133 ?_
    refine K I3 _ _ _ hr3 hy3 (tk_len _ _) (hf12.tr hf3) (pq_of (pq_seq hpq (pq_mv g _ cap (rp g p 1) 8 _)) ?_)
    by_cases hp1 : p + 1 ≤ g.length
    · rw [pby_mv hp1]; rw [hpv]; unfold pvc; rw [if_pos hp1, if_neg (fun e => hk11_0 (hcx.trans e)), if_neg (fun e => hk11_1 (hcx.trans e)), if_neg (fun e => hk11_6 (hcx.trans e)), if_pos (hcx.symm.trans hk11_8)]
    · rw [hpv, pvc_lt hp1, pby_no hp1]
  by_cases hk11_12 : c = nI 12
  · refine cn_lookup (tgt := 109) (off := 98) d_Me_readValue_11 (by decide) (by rw [hk11_12] <;> decide +kernel) (by decide) ?_
    refine cn_aload_n (pc' := 110) (k := 0) rfl rfl d_Me_readValue_109 rfl ?_
    refine cn_aload_n (pc' := 111) (k := 1) rfl rfl d_Me_readValue_110 rfl ?_
    refine cn_callV (pc' := 114) (kc1 := 0) (ks1 := 0) (kc2 := 0) (ks2 := 0) (rest := []) (lvj := [(0, .ref m), (1, .ref b)]) [.ref b] mv_Me_49 hm.1 rfl rfl rfl (Nat.le_of_ble_eq_true rfl) (Nat.le_of_ble_eq_true rfl) (by omega) (by omega) (by omega) d_Me_readValue_111 rfl ?_
    refine c_Me_readText hm hb hdis hr2 hy2 (tk_len _ _) (by omega) (fun I3 p3 w3 v3 hr3 hy3 hc3 hf3 hq3 => ?_)
    show cn_V l en mi_Me_readValue d 0 0 S I3 P Q 114 [(0, .ref m), (1, .ref b), (2, .int (nI (3 - k))), (3, .int (c))] []
    refine cn_goto (tgt := 133) d_Me_readValue_114 (by decide) ?_
    refine cn_vret rfl d_Me_readValue_133 ?_
    refine K I3 _ _ _ hr3 hy3 hc3 (hf12.tr hf3) (pq_of (pq_seq (f := ptx g) hpq hq3) ?_)
    by_cases hp1 : p + 1 ≤ g.length
    · rw [pby_tx hp1]; rw [hpv]; unfold pvc; rw [if_pos hp1, if_neg (fun e => hk11_0 (hcx.trans e)), if_neg (fun e => hk11_1 (hcx.trans e)), if_neg (fun e => hk11_6 (hcx.trans e)), if_neg (fun e => hk11_8 (hcx.trans e)), if_pos (hcx.symm.trans hk11_12)]
    · rw [hpv, pvc_lt hp1, pby_no hp1]
  by_cases hk11_152 : c = nI 152
  · refine cn_lookup (tgt := 117) (off := 106) d_Me_readValue_11 (by decide) (by rw [hk11_152] <;> decide +kernel) (by decide) ?_
    refine cn_aload_n (pc' := 118) (k := 0) rfl rfl d_Me_readValue_117 rfl ?_
    refine cn_aload_n (pc' := 119) (k := 1) rfl rfl d_Me_readValue_118 rfl ?_
    refine cn_iload_n (pc' := 120) (k := 2) rfl rfl d_Me_readValue_119 rfl ?_
    refine cn_iconst (pc' := 121) k_c_1 d_Me_readValue_120 rfl ?_
    refine cn_iadd_n (pc' := 122) d_Me_readValue_121 rfl ?_
    refine cn_callV (pc' := 125) (kc1 := 0) (ks1 := 0) (kc2 := 0) (ks2 := 0) (rest := []) (lvj := [(0, .ref m), (1, .ref b), (2, .int (nI ((3 - k) + 1)))]) [.ref b, .int (nI ((3 - k) + 1))] mv_Me_53 hm.1 rfl rfl rfl (Nat.le_of_ble_eq_true rfl) (Nat.le_of_ble_eq_true rfl) (by omega) (by omega) (by omega) d_Me_readValue_122 rfl ?_
    refine hL _ I2 _ _ _ _ (by omega) hr2 hy2 (tk_len _ _) (fun I3 p3 w3 v3 hr3 hy3 hc3 hf3 hq3 => ?_)
    show cn_V l en mi_Me_readValue d 0 0 S I3 P Q 125 [(0, .ref m), (1, .ref b), (2, .int (nI (3 - k))), (3, .int (c))] []
    refine cn_goto (tgt := 133) d_Me_readValue_125 (by decide) ?_
    refine cn_vret rfl d_Me_readValue_133 ?_
    refine K I3 _ _ _ hr3 hy3 hc3 (hf12.tr hf3) (pq_of (pq_seq (f := L) hpq hq3) ?_)
    by_cases hp1 : p + 1 ≤ g.length
    · rw [hlst p hp1]; rw [hpv]; unfold pvc; rw [if_pos hp1, if_neg (fun e => hk11_0 (hcx.trans e)), if_neg (fun e => hk11_1 (hcx.trans e)), if_neg (fun e => hk11_6 (hcx.trans e)), if_neg (fun e => hk11_8 (hcx.trans e)), if_neg (fun e => hk11_12 (hcx.trans e)), if_pos (hcx.symm.trans hk11_152)]
    · rw [hpv, pvc_lt hp1, pby_no hp1]
  · refine cn_lookup (tgt := 128) (off := 117) d_Me_readValue_11 (by decide) (by rw [show (#[(0, 57), (1, 60), (6, 79), (8, 88), (12, 98), (152, 106)] : Array (Int × Int)).toList = [(0, 57), (1, 60), (6, 79), (8, 88), (12, 98), (152, 106)] from rfl, lv_osw hk11_0 (by decide +kernel), lv_osw hk11_1 (by decide +kernel), lv_osw hk11_6 (by decide +kernel), lv_osw hk11_8 (by decide +kernel), lv_osw hk11_12 (by decide +kernel), lv_osw hk11_152 (by decide +kernel)] <;> rfl) (by decide) ?_
    refine cn_aload_n (pc' := 129) (k := 0) rfl rfl d_Me_readValue_128 rfl ?_
    refine cn_iconst (pc' := 130) k_c_0 d_Me_readValue_129 rfl ?_
    refine cn_putI (pc' := 133) fl_Me_24 hm.1 rfl rfl rfl rfl d_Me_readValue_130 rfl ?_
    refine cn_vret rfl d_Me_readValue_133 ?_
    refine K _ _ _ _ (rd_bad hr2) (hy2.keep1 (fun a h => cn_wi_ne h) (by omega) (by omega)) (tk_len _ _) (hf12.tr (fr1.to3 (fun a h => cn_wi_ne h))) (pq_of pq_bad ?_)
    by_cases hp1 : p + 1 ≤ g.length
    · rw [hpv]; unfold pvc; rw [if_pos hp1, if_neg (fun e => hk11_0 (hcx.trans e)), if_neg (fun e => hk11_1 (hcx.trans e)), if_neg (fun e => hk11_6 (hcx.trans e)), if_neg (fun e => hk11_8 (hcx.trans e)), if_neg (fun e => hk11_12 (hcx.trans e)), if_neg (fun e => hk11_152 (hcx.trans e))]
    · rw [hpv, pvc_lt hp1]
theorem c_RV (hm : ym S P m) (hb : yb S P b cap) (hdis : b + 1 < m ∨ m + 2 < b) : ∀ k, k ≤ 3 → cn_RV l en S P m b cap g k
  | 0, hk => c_Me_readValue_k hm hb hdis 0 hk (fun q => pb (pmv g 4 q) (fun _ => none)) (fun d I Q p w v hd hr hy hc K => c_Me_readList_0 hm hb hdis hr hy hc (by omega) (by omega) (by omega) K) (fun _ => none) (fun p h => pby_l0 h) (fun _ => rfl)
  | k + 1, hk => c_Me_readValue_k hm hb hdis (k + 1) hk (plx g (pv g k)) (fun d I Q p w v hd hr hy hc K => by
      rw [show 3 - (k + 1) + 1 = 3 - k by omega]
      exact c_Me_readList_S hm hb hdis hr hy hc (by omega) (c_RV hm hb hdis k (by omega)) (by omega) K) (pvl g (pv g k)) (fun p h => pby_ls h _) (fun _ => rfl)
end
