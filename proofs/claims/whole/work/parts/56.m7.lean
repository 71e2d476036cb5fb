theorem m1_lt {x : Int32} (h : x < 0) (h2 : ¬ x = -1) : x < -1 := by
  rw [Int32.lt_iff_toInt_lt] at h ⊢
  have h3 : x.toInt ≠ (-1 : Int32).toInt := fun e => h2 (Int32.toInt_inj.mp e)
  rw [show (0 : Int32).toInt = 0 from rfl] at h
  rw [show (-1 : Int32).toInt = -1 from by decide] at h3 ⊢
  omega
theorem m1_ge {x : Int32} (h : x < 0) : x ≤ nI 0 := by
  rw [Int32.lt_iff_toInt_lt] at h
  rw [Int32.le_iff_toInt_le]
  exact Int.le_of_lt h
theorem nI_m1l {n : Nat} (h : n < 2 ^ 31) : ¬ nI n < -1 := fun e => nI_pos h (by
  rw [Int32.lt_iff_toInt_lt] at e ⊢
  rw [show (-1 : Int32).toInt = -1 from by decide] at e
  rw [show (0 : Int32).toInt = 0 from rfl]
  omega)
def fW (I I' : cn_I) : Prop := ∀ a k, (a ≠ 155 ∨ (k ≠ 27 ∧ k ≠ 28 ∧ k ≠ 30)) → a ≠ 172 → I' a k = I a k
theorem fW.rf {I : cn_I} : fW I I := fun _ _ _ _ => rfl
theorem fW.tr {I I1 I2 : cn_I} (h1 : fW I I1) (h2 : fW I1 I2) : fW I I2 := fun a k x y => (h2 a k x y).trans (h1 a k x y)
theorem fN.toW {I I' : cn_I} (h : fN I I') : fW I I' := fun a k x _ => h a k (by omega)
theorem fP.toW {I I' : cn_I} (h : fP I I') : fW I I' := fun a k x y => h a k (by omega) y
def fX (D : Nat) (I I' : cn_I) : Prop := ∀ a k, (a ≠ 155 ∨ (k ≠ 27 ∧ k ≠ 28 ∧ k ≠ 30)) → a ≠ 172 → (a ≠ 173 ∨ k < D) → I' a k = I a k
theorem fX.rf {I : cn_I} {D : Nat} : fX D I I := fun _ _ _ _ _ => rfl
theorem fX.tr {I I1 I2 : cn_I} {D : Nat} (h1 : fX D I I1) (h2 : fX D I1 I2) : fX D I I2 := fun a k x y z => (h2 a k x y z).trans (h1 a k x y z)
theorem fX.le {I I' : cn_I} {D D' : Nat} (h : fX D' I I') (hD : D ≤ D') : fX D I I' := fun a k x y z => h a k x y (by omega)
theorem fW.toX {I I' : cn_I} {D : Nat} (h : fW I I') : fX D I I' := fun a k x y _ => h a k x y
theorem fX.toR {I I' : cn_I} {D : Nat} (h : fX D I I') : fR I I' := fun a k x y z => h a k (by omega) y (by omega)
theorem kdc (x : Int32) : x = nI 0 ∨ x = nI 1 ∨ x = nI 6 ∨ x = nI 8 ∨ x = nI 12 ∨ (¬ x = nI 0 ∧ ¬ x = nI 1 ∧ ¬ x = nI 6 ∧ ¬ x = nI 8 ∧ ¬ x = nI 12) := by
  by_cases h0 : x = nI 0
  · exact Or.inl h0
  by_cases h1 : x = nI 1
  · exact Or.inr (Or.inl h1)
  by_cases h6 : x = nI 6
  · exact Or.inr (Or.inr (Or.inl h6))
  by_cases h8 : x = nI 8
  · exact Or.inr (Or.inr (Or.inr (Or.inl h8)))
  by_cases h12 : x = nI 12
  · exact Or.inr (Or.inr (Or.inr (Or.inr (Or.inl h12))))
  · exact Or.inr (Or.inr (Or.inr (Or.inr (Or.inr ⟨h0, h1, h6, h8, h12⟩))))
theorem mvb_c (g : List Int32) (p n : Nat) : mvb g p (1 + n) = g.getD p 0 :: mvb g (p + 1) n := by
  rw [mvb_add g p 1 n, mvb_1]; rfl
section
variable {l : Launch} {en : cn_E} {d : Nat} {S : cn_S} {I : cn_I} {P : cn_P} {Q : Option Value → cn_S → cn_I → cn_P → Prop}
variable {g v : List Int32} {p : Nat} {w : Bool}
theorem c_M_putNumber_loop {n : Nat} (hm : wM S P) (hn : n ≤ 8) (hd1 : 1 ≤ d) (I0 : cn_I) (K : ∀ I', mg I' g (rp g p n) (rw_ g p n w) → mv I' ((v ++ mvb g p n).take 64) → fW I0 I' → Q (some (.int (nmk g p (min n 4)))) S I' P) : ∀ (k i : Nat) (I : cn_I), i + k = n → mg I g (rp g p i) (rw_ g p i w) → mv I ((v ++ mvb g p i).take 64) → fW I0 I → cn_V l en mi_M_putNumber d 0 0 S I P Q 4 [(0, .ref 155), (1, .int (nI n)), (2, .int (nmk g p (min i 4))), (3, .int (nI i))] [] := by
  intro k
  induction k with
  | zero =>
    intro i I hik hr hv hf
    refine cn_iload_n (pc' := 5) (k := 3) rfl rfl d_M_putNumber_4 rfl ?_
    refine cn_iload_n (pc' := 6) (k := 1) rfl rfl d_M_putNumber_5 rfl ?_
    refine cn_icmp_ge_n (tgt := 46) (pc' := 9) (by omega) (by omega) d_M_putNumber_6 (by decide) rfl (fun hc6 => ?_) (fun hc6 => ?_)
    · refine cn_iload_n (pc' := 47) (k := 2) rfl rfl d_M_putNumber_46 rfl ?_
      refine cn_iret rfl d_M_putNumber_47 ?_
      obtain rfl : i = n := by omega
      exact K I hr hv hf
    · exact absurd hc6 (by omega)
  | succ k ih =>
    intro i I hik hr hv hf
    refine cn_iload_n (pc' := 5) (k := 3) rfl rfl d_M_putNumber_4 rfl ?_
    refine cn_iload_n (pc' := 6) (k := 1) rfl rfl d_M_putNumber_5 rfl ?_
    refine cn_icmp_ge_n (tgt := 46) (pc' := 9) (by omega) (by omega) d_M_putNumber_6 (by decide) rfl (fun hc6 => ?_) (fun hc6 => ?_)
    · exact absurd hc6 (by omega)
    · refine cn_aload_n (pc' := 10) (k := 0) rfl rfl d_M_putNumber_9 rfl ?_
      refine cn_callV (pc' := 13) (kc1 := 0) (ks1 := 0) (kc2 := 0) (ks2 := 0) (rest := []) (lvj := [(0, .ref 155)]) [] mv_M_164 hm.1 rfl rfl rfl (Nat.le_of_ble_eq_true rfl) (Nat.le_of_ble_eq_true rfl) (by omega) (by omega) (by omega) d_M_putNumber_10 rfl ?_
      refine c_M_next hm hr (fun I1 hr1 hf1 => ?_)
      rw [rp_add, rw_add] at hr1
      rw [gd_rp]
      show cn_V l en mi_M_putNumber d 0 0 S I1 P Q 13 [(0, .ref 155), (1, .int (nI (n))), (2, .int (nmk g p (min i 4))), (3, .int (nI (i)))] [.int (g.getD (p + i) 0)]
      refine cn_istore (pc' := 15) (lv' := [(0, .ref 155), (1, .int (nI (n))), (2, .int (nmk g p (min i 4))), (3, .int (nI (i))), (4, .int (g.getD (p + i) 0))]) [1, 2, 3, 4, 0] (Nat.le_of_ble_eq_true rfl) rfl d_M_putNumber_13 rfl ?_
      refine cn_aload_n (pc' := 16) (k := 0) rfl rfl d_M_putNumber_15 rfl ?_
      refine cn_iload (pc' := 18) (k := 4) rfl d_M_putNumber_16 rfl ?_
      refine cn_callV (pc' := 21) (kc1 := 0) (ks1 := 0) (kc2 := 0) (ks2 := 0) (rest := []) (lvj := [(0, .ref 155), (1, .int (g.getD (p + i) 0))]) [.int (g.getD (p + i) 0)] mv_M_175 hm.1 rfl rfl rfl (Nat.le_of_ble_eq_true rfl) (Nat.le_of_ble_eq_true rfl) (by omega) (by omega) (by omega) d_M_putNumber_18 rfl ?_
      refine c_M_put hm (hv.fN hf1) (fun I2 hv2 hf2 => ?_)
      rw [tk_app, ← mvb_succ] at hv2
      show cn_V l en mi_M_putNumber d 0 0 S I2 P Q 21 [(0, .ref 155), (1, .int (nI (n))), (2, .int (nmk g p (min i 4))), (3, .int (nI (i))), (4, .int (g.getD (p + i) 0))] []
      refine cn_iload_n (pc' := 22) (k := 3) rfl rfl d_M_putNumber_21 rfl ?_
      refine cn_iconst (pc' := 23) k_c_4 d_M_putNumber_22 rfl ?_
      refine cn_icmp_ge_n (tgt := 38) (pc' := 26) (by omega) (by omega) d_M_putNumber_23 (by decide) rfl (fun hc23 => ?_) (fun hc23 => ?_)
      · refine cn_iload_n (pc' := 39) (k := 2) rfl rfl d_M_putNumber_38 rfl ?_
        refine cn_istore_n (pc' := 40) (lv' := [(0, .ref 155), (1, .int (nI (n))), (2, .int (nmk g p (min i 4))), (3, .int (nI (i))), (4, .int (g.getD (p + i) 0))]) rfl [1, 2, 0, 3, 4] (Nat.le_of_ble_eq_true rfl) rfl d_M_putNumber_39 rfl ?_
        refine cn_iinc_n (pc' := 43) (lv' := [(0, .ref 155), (1, .int (nI (n))), (2, .int (nmk g p (min i 4))), (3, .int (nI (i + 1))), (4, .int (g.getD (p + i) 0))]) (k := 3) [1, 2, 3, 0, 4] rfl (Nat.le_of_ble_eq_true rfl) rfl d_M_putNumber_40 rfl ?_
        refine cn_goto (tgt := 4) d_M_putNumber_43 (by decide) ?_
        refine cn_fewer (lv := [(0, .ref 155), (1, .int (nI (n))), (2, .int (nmk g p (min i 4))), (3, .int (nI (i + 1)))]) (fun q hq => by simp only [List.mem_cons, List.not_mem_nil, or_false] at hq ⊢; rcases hq with h | h | h | h <;> simp only [h, true_or, or_true]) ?_
        have e : nmk g p (min i 4) = nmk g p (min (i + 1) 4) := by rw [show min i 4 = min (i + 1) 4 by omega]
        have ih := ih (i + 1) I2 (by omega) (hr1.fP hf2) hv2 (hf.tr (hf1.toW.tr hf2.toW))
        rw [← e] at ih
        exact ih
      · refine cn_iload_n (pc' := 27) (k := 2) rfl rfl d_M_putNumber_26 rfl ?_
        refine cn_iload (pc' := 29) (k := 4) rfl d_M_putNumber_27 rfl ?_
        refine cn_bipush (pc' := 31) k_b_8 d_M_putNumber_29 rfl ?_
        refine cn_iload_n (pc' := 32) (k := 3) rfl rfl d_M_putNumber_31 rfl ?_
        refine cn_imul_n (pc' := 33) d_M_putNumber_32 rfl ?_
        refine cn_ishl (pc' := 34) d_M_putNumber_33 rfl ?_
        refine cn_ior (pc' := 35) d_M_putNumber_34 rfl ?_
        refine cn_goto (tgt := 39) d_M_putNumber_35 (by decide) ?_
        refine cn_istore_n (pc' := 40) (lv' := [(0, .ref 155), (1, .int (nI (n))), (2, .int ((nmk g p (min i 4)) ||| ((g.getD (p + i) 0) <<< ((nI (8 * i)) &&& 31)))), (3, .int (nI (i))), (4, .int (g.getD (p + i) 0))]) rfl [1, 2, 0, 3, 4] (Nat.le_of_ble_eq_true rfl) rfl d_M_putNumber_39 rfl ?_
        refine cn_iinc_n (pc' := 43) (lv' := [(0, .ref 155), (1, .int (nI (n))), (2, .int ((nmk g p (min i 4)) ||| ((g.getD (p + i) 0) <<< ((nI (8 * i)) &&& 31)))), (3, .int (nI (i + 1))), (4, .int (g.getD (p + i) 0))]) (k := 3) [1, 2, 3, 0, 4] rfl (Nat.le_of_ble_eq_true rfl) rfl d_M_putNumber_40 rfl ?_
        refine cn_goto (tgt := 4) d_M_putNumber_43 (by decide) ?_
        refine cn_fewer (lv := [(0, .ref 155), (1, .int (nI (n))), (2, .int ((nmk g p (min i 4)) ||| ((g.getD (p + i) 0) <<< ((nI (8 * i)) &&& 31)))), (3, .int (nI (i + 1)))]) (fun q hq => by simp only [List.mem_cons, List.not_mem_nil, or_false] at hq ⊢; rcases hq with h | h | h | h <;> simp only [h, true_or, or_true]) ?_
        have e : nmk g p (min i 4) ||| g.getD (p + i) 0 <<< (nI (8 * i) &&& 31) = nmk g p (min (i + 1) 4) := by rw [show min i 4 = i by omega, show min (i + 1) 4 = i + 1 by omega]; rfl
        have ih := ih (i + 1) I2 (by omega) (hr1.fP hf2) hv2 (hf.tr (hf1.toW.tr hf2.toW))
        rw [← e] at ih
        exact ih
theorem c_M_putNumber {n : Nat} (hm : wM S P) (hn : n ≤ 8) (hd1 : 1 ≤ d) (hr : mg I g p w) (hv : mv I v) (K : ∀ I', mg I' g (rp g p n) (rw_ g p n w) → mv I' ((v ++ mvb g p n).take 64) → fW I I' → Q (some (.int (nmk g p (min n 4)))) S I' P) : cn_V l en mi_M_putNumber d 0 0 S I P Q 0 [(0, .ref 155), (1, .int (nI n))] [] := by
  refine cn_iconst (pc' := 1) k_c_0 d_M_putNumber_0 rfl ?_
  refine cn_istore_n (pc' := 2) (lv' := [(0, .ref 155), (1, .int (nI (n))), (2, .int (nI (0)))]) rfl [1, 2, 0] (Nat.le_of_ble_eq_true rfl) rfl d_M_putNumber_1 rfl ?_
  refine cn_iconst (pc' := 3) k_c_0 d_M_putNumber_2 rfl ?_
  refine cn_istore_n (pc' := 4) (lv' := [(0, .ref 155), (1, .int (nI (n))), (2, .int (nI (0))), (3, .int (nI (0)))]) rfl [1, 2, 3, 0] (Nat.le_of_ble_eq_true rfl) rfl d_M_putNumber_3 rfl ?_
  exact c_M_putNumber_loop hm hn hd1 I K n 0 I (by omega) hr.z (by rw [show mvb g p 0 = [] from rfl, List.append_nil, List.take_of_length_le hv.2.1]; exact hv) fW.rf
theorem c_M_readPlain_94 {q n : Nat} (hm : wM S P) (hn : n < 2 ^ 31) (hg64 : g.length ≤ 64) (hd1 : 1 ≤ d) (I0 : cn_I) (K1 : q + n ≤ g.length → ∀ I', mg I' g (q + n) true → mv I' ((v ++ mvb g q n).take 64) → fW I0 I' → Q none S I' P) (K0 : g.length < q + n → ∀ I' p' v', mg I' g p' false → mv I' v' → fW I0 I' → Q none S I' P) : ∀ (r i : Nat) (I : cn_I), q + i + r = g.length → i ≤ n → mg I g (q + i) true → mv I ((v ++ mvb g q i).take 64) → fW I0 I → cn_V l en mi_M_readPlain d 0 0 S I P Q 94 [(0, .ref 155), (1, .int (nI 12)), (2, .int (nI n)), (3, .int (nI i))] [] := by
  intro r
  induction r with
  | zero =>
    intro i I hir hin hr hv hf
    refine cn_iload_n (pc' := 95) (k := 3) rfl rfl d_M_readPlain_94 rfl ?_
    refine cn_iload_n (pc' := 96) (k := 2) rfl rfl d_M_readPlain_95 rfl ?_
    refine cn_icmp_ge_n (tgt := 120) (pc' := 99) (by omega) (by omega) d_M_readPlain_96 (by decide) rfl (fun hc96 => ?_) (fun hc96 => ?_)
    · refine cn_goto (tgt := 143) d_M_readPlain_120 (by decide) ?_
      refine cn_vret rfl d_M_readPlain_143 ?_
      obtain rfl : i = n := by omega
      exact K1 (by omega) I hr hv hf
    · refine cn_aload_n (pc' := 100) (k := 0) rfl rfl d_M_readPlain_99 rfl ?_
      refine cn_getIv (pc' := 103) (v := nI (1)) hr.2.2.1 fl_M_161 hm.1 rfl d_M_readPlain_100 rfl ?_
      refine cn_if_eq_n (tgt := 120) (pc' := 106) (by omega) d_M_readPlain_103 (by decide) rfl (fun hc103 => ?_) (fun hc103 => ?_)
      · exact False.elim (by omega)
      · refine cn_aload_n (pc' := 107) (k := 0) rfl rfl d_M_readPlain_106 rfl ?_
        refine cn_aload_n (pc' := 108) (k := 0) rfl rfl d_M_readPlain_107 rfl ?_
        refine cn_callV (pc' := 111) (kc1 := 0) (ks1 := 0) (kc2 := 0) (ks2 := 0) (rest := [.ref 155]) (lvj := [(0, .ref 155)]) [] mv_M_164 hm.1 rfl rfl rfl (Nat.le_of_ble_eq_true rfl) (Nat.le_of_ble_eq_true rfl) (by omega) (by omega) (by omega) d_M_readPlain_108 rfl ?_
        refine c_M_next hm hr (fun I1 hr1 hf1 => ?_)
        show cn_V l en mi_M_readPlain d 0 0 S I1 P Q 111 [(0, .ref 155), (1, .int (nI (12))), (2, .int (nI (n))), (3, .int (nI (i)))] [.int (g.getD (q + i) 0), .ref 155]
        refine cn_callV (pc' := 114) (kc1 := 0) (ks1 := 0) (kc2 := 0) (ks2 := 0) (rest := []) (lvj := [(0, .ref 155), (1, .int (g.getD (q + i) 0))]) [.int (g.getD (q + i) 0)] mv_M_175 hm.1 rfl rfl rfl (Nat.le_of_ble_eq_true rfl) (Nat.le_of_ble_eq_true rfl) (by omega) (by omega) (by omega) d_M_readPlain_111 rfl ?_
        refine c_M_put hm (hv.fN hf1) (fun I2 hv2 hf2 => ?_)
        have hr2 := hr1.fP hf2
        have hf2 := hf.tr (hf1.toW.tr hf2.toW)
        rw [show rw_ g (q + i) 1 true = false by unfold rw_; rw [decide_eq_false (by omega)]; rfl] at hr2
        show cn_V l en mi_M_readPlain d 0 0 S I2 P Q 114 [(0, .ref 155), (1, .int (nI (12))), (2, .int (nI (n))), (3, .int (nI (i)))] []
        refine cn_iinc_n (pc' := 117) (lv' := [(0, .ref 155), (1, .int (nI (12))), (2, .int (nI (n))), (3, .int (nI (i + 1)))]) (k := 3) [1, 2, 3, 0] rfl (Nat.le_of_ble_eq_true rfl) rfl d_M_readPlain_114 rfl ?_
        refine cn_goto (tgt := 94) d_M_readPlain_117 (by decide) ?_
        refine cn_iload_n (pc' := 95) (k := 3) rfl rfl d_M_readPlain_94 rfl ?_
        refine cn_iload_n (pc' := 96) (k := 2) rfl rfl d_M_readPlain_95 rfl ?_
        refine cn_icmp_ge_n (tgt := 120) (pc' := 99) (by omega) (by omega) d_M_readPlain_96 (by decide) rfl (fun hd96 => ?_) (fun hd96 => ?_)
        · refine cn_goto (tgt := 143) d_M_readPlain_120 (by decide) ?_
          refine cn_vret rfl d_M_readPlain_143 ?_
          exact K0 (by omega) I2 _ _ hr2 hv2 hf2
        · refine cn_aload_n (pc' := 100) (k := 0) rfl rfl d_M_readPlain_99 rfl ?_
          refine cn_getIv (pc' := 103) (v := nI (0)) hr2.2.2.1 fl_M_161 hm.1 rfl d_M_readPlain_100 rfl ?_
          refine cn_if_eq_n (tgt := 120) (pc' := 106) (by omega) d_M_readPlain_103 (by decide) rfl (fun hc103 => ?_) (fun hc103 => ?_)
          · refine cn_goto (tgt := 143) d_M_readPlain_120 (by decide) ?_
            refine cn_vret rfl d_M_readPlain_143 ?_
            exact K0 (by omega) I2 _ _ hr2 hv2 hf2
          · exact False.elim (by omega)
  | succ r ih =>
    intro i I hir hin hr hv hf
    refine cn_iload_n (pc' := 95) (k := 3) rfl rfl d_M_readPlain_94 rfl ?_
    refine cn_iload_n (pc' := 96) (k := 2) rfl rfl d_M_readPlain_95 rfl ?_
    refine cn_icmp_ge_n (tgt := 120) (pc' := 99) (by omega) (by omega) d_M_readPlain_96 (by decide) rfl (fun hc96 => ?_) (fun hc96 => ?_)
    · refine cn_goto (tgt := 143) d_M_readPlain_120 (by decide) ?_
      refine cn_vret rfl d_M_readPlain_143 ?_
      obtain rfl : i = n := by omega
      exact K1 (by omega) I hr hv hf
    · refine cn_aload_n (pc' := 100) (k := 0) rfl rfl d_M_readPlain_99 rfl ?_
      refine cn_getIv (pc' := 103) (v := nI (1)) hr.2.2.1 fl_M_161 hm.1 rfl d_M_readPlain_100 rfl ?_
      refine cn_if_eq_n (tgt := 120) (pc' := 106) (by omega) d_M_readPlain_103 (by decide) rfl (fun hc103 => ?_) (fun hc103 => ?_)
      · exact False.elim (by omega)
      · refine cn_aload_n (pc' := 107) (k := 0) rfl rfl d_M_readPlain_106 rfl ?_
        refine cn_aload_n (pc' := 108) (k := 0) rfl rfl d_M_readPlain_107 rfl ?_
        refine cn_callV (pc' := 111) (kc1 := 0) (ks1 := 0) (kc2 := 0) (ks2 := 0) (rest := [.ref 155]) (lvj := [(0, .ref 155)]) [] mv_M_164 hm.1 rfl rfl rfl (Nat.le_of_ble_eq_true rfl) (Nat.le_of_ble_eq_true rfl) (by omega) (by omega) (by omega) d_M_readPlain_108 rfl ?_
        refine c_M_next hm hr (fun I1 hr1 hf1 => ?_)
        show cn_V l en mi_M_readPlain d 0 0 S I1 P Q 111 [(0, .ref 155), (1, .int (nI (12))), (2, .int (nI (n))), (3, .int (nI (i)))] [.int (g.getD (q + i) 0), .ref 155]
        refine cn_callV (pc' := 114) (kc1 := 0) (ks1 := 0) (kc2 := 0) (ks2 := 0) (rest := []) (lvj := [(0, .ref 155), (1, .int (g.getD (q + i) 0))]) [.int (g.getD (q + i) 0)] mv_M_175 hm.1 rfl rfl rfl (Nat.le_of_ble_eq_true rfl) (Nat.le_of_ble_eq_true rfl) (by omega) (by omega) (by omega) d_M_readPlain_111 rfl ?_
        refine c_M_put hm (hv.fN hf1) (fun I2 hv2 hf2 => ?_)
        have hr2 := hr1.fP hf2
        have hf2 := hf.tr (hf1.toW.tr hf2.toW)
        rw [tk_app, ← mvb_succ] at hv2
        rw [show rp g (q + i) 1 = q + (i + 1) by unfold rp; omega, show rw_ g (q + i) 1 true = true by unfold rw_; rw [decide_eq_true (by omega)]; rfl] at hr2
        show cn_V l en mi_M_readPlain d 0 0 S I2 P Q 114 [(0, .ref 155), (1, .int (nI (12))), (2, .int (nI (n))), (3, .int (nI (i)))] []
        refine cn_iinc_n (pc' := 117) (lv' := [(0, .ref 155), (1, .int (nI (12))), (2, .int (nI (n))), (3, .int (nI (i + 1)))]) (k := 3) [1, 2, 3, 0] rfl (Nat.le_of_ble_eq_true rfl) rfl d_M_readPlain_114 rfl ?_
        refine cn_goto (tgt := 94) d_M_readPlain_117 (by decide) ?_
        exact ih (i + 1) I2 (by omega) (by omega) hr2 hv2 hf2
theorem c_M_readPlain {lst : Nat → Option (List Int32 × Nat)} (hm : wM S P) (hr : mg I g (rp g p 1) (rw_ g p 1 true)) (hp : p ≤ g.length) (hv : mv I ((v ++ [g.getD p 0]).take 64)) (h152 : ¬ g.getD p 0 = nI 152) (hd1 : 2 ≤ d) (K0 : pvc g lst p = none → ∀ I' p' v', mg I' g p' false → mv I' v' → fW I I' → Q none S I' P) (K1 : ∀ a, pvc g lst p = some a → ∀ I', mg I' g a.2 true → mv I' ((v ++ a.1).take 64) → fW I I' → Q none S I' P) : cn_V l en mi_M_readPlain d 0 0 S I P Q 0 [(0, .ref 155), (1, .int (g.getD p 0))] [] := by
  have hg64 := hr.2.2.2.2.1
  by_cases hp1 : p + 1 ≤ g.length
  · rw [show rp g p 1 = p + 1 by unfold rp; omega, show rw_ g p 1 true = true by unfold rw_; rw [decide_eq_true hp1]; rfl] at hr
    rcases kdc (g.getD p 0) with hk | hk | hk | hk | hk | ⟨hk0, hk1, hk6, hk8, hk12⟩
    · rw [hk]
      refine cn_iload_n (pc' := 1) (k := 1) rfl rfl d_M_readPlain_0 rfl ?_
      refine cn_iconst (pc' := 2) k_c_1 d_M_readPlain_1 rfl ?_
      refine cn_icmp_ne_n (tgt := 27) (pc' := 5) (by omega) (by omega) d_M_readPlain_2 (by decide) rfl (fun hc2 => ?_) (fun hc2 => ?_)
      · refine cn_iload_n (pc' := 28) (k := 1) rfl rfl d_M_readPlain_27 rfl ?_
        refine cn_bipush (pc' := 30) k_b_6 d_M_readPlain_28 rfl ?_
        refine cn_icmp_eq_n (tgt := 39) (pc' := 33) (by omega) (by omega) d_M_readPlain_30 (by decide) rfl (fun hc30 => ?_) (fun hc30 => ?_)
        · exact False.elim (by omega)
        · refine cn_iload_n (pc' := 34) (k := 1) rfl rfl d_M_readPlain_33 rfl ?_
          refine cn_bipush (pc' := 36) k_b_8 d_M_readPlain_34 rfl ?_
          refine cn_icmp_ne_n (tgt := 59) (pc' := 39) (by omega) (by omega) d_M_readPlain_36 (by decide) rfl (fun hc36 => ?_) (fun hc36 => ?_)
          · refine cn_iload_n (pc' := 60) (k := 1) rfl rfl d_M_readPlain_59 rfl ?_
            refine cn_bipush (pc' := 62) k_b_12 d_M_readPlain_60 rfl ?_
            refine cn_icmp_ne_n (tgt := 123) (pc' := 65) (by omega) (by omega) d_M_readPlain_62 (by decide) rfl (fun hc62 => ?_) (fun hc62 => ?_)
            · refine cn_aload_n (pc' := 124) (k := 0) rfl rfl d_M_readPlain_123 rfl ?_
              refine cn_aload_n (pc' := 125) (k := 0) rfl rfl d_M_readPlain_124 rfl ?_
              refine cn_getIv (pc' := 128) (v := nI (1)) hr.2.2.1 fl_M_161 hm.1 rfl d_M_readPlain_125 rfl ?_
              refine cn_if_eq_n (tgt := 139) (pc' := 131) (by omega) d_M_readPlain_128 (by decide) rfl (fun hc128 => ?_) (fun hc128 => ?_)
              · exact False.elim (by omega)
              · refine cn_iload_n (pc' := 132) (k := 1) rfl rfl d_M_readPlain_131 rfl ?_
                refine cn_if_ne_n (tgt := 139) (pc' := 135) (by omega) d_M_readPlain_132 (by decide) rfl (fun hc132 => ?_) (fun hc132 => ?_)
                · exact False.elim (by omega)
                · refine cn_iconst (pc' := 136) k_c_1 d_M_readPlain_135 rfl ?_
                  refine cn_goto (tgt := 140) d_M_readPlain_136 (by decide) ?_
                  refine cn_putI (pc' := 143) fl_M_161 hm.1 rfl rfl rfl rfl d_M_readPlain_140 rfl ?_
                  refine cn_vret rfl d_M_readPlain_143 ?_
                  have e : pvc g lst p = some (mvb g p 1, p + 1) := by unfold pvc; rw [if_pos hp1, if_pos hk]
                  refine K1 _ e _ (hr.congr (mw_o (by omega)) (mw_o (by omega)) (mw_e.trans hr.2.2.1.symm) (fun j => mw_o (by omega))) (hv.congr (mw_o (by omega)) (fun j => mw_o (by omega))) (fun a k x y => mw_o (by omega))
            · exact False.elim (by omega)
          · exact False.elim (by omega)
      · exact False.elim (by omega)
    · rw [hk]
      refine cn_iload_n (pc' := 1) (k := 1) rfl rfl d_M_readPlain_0 rfl ?_
      refine cn_iconst (pc' := 2) k_c_1 d_M_readPlain_1 rfl ?_
      refine cn_icmp_ne_n (tgt := 27) (pc' := 5) (by omega) (by omega) d_M_readPlain_2 (by decide) rfl (fun hc2 => ?_) (fun hc2 => ?_)
      · exact False.elim (by omega)
      · refine cn_aload_n (pc' := 6) (k := 0) rfl rfl d_M_readPlain_5 rfl ?_
        refine cn_callV (pc' := 9) (kc1 := 0) (ks1 := 0) (kc2 := 0) (ks2 := 0) (rest := []) (lvj := [(0, .ref 155)]) [] mv_M_164 hm.1 rfl rfl rfl (Nat.le_of_ble_eq_true rfl) (Nat.le_of_ble_eq_true rfl) (by omega) (by omega) (by omega) d_M_readPlain_6 rfl ?_
        refine c_M_next hm hr (fun I1 hr1 hf1 => ?_)
        obtain ⟨b, hb256, hbb⟩ := b8_nat (hr.2.2.2.2.2.2 (p + 1))
        rw [hbb]
        show cn_V l en mi_M_readPlain d 0 0 S I1 P Q 9 [(0, .ref 155), (1, .int (nI (1)))] [.int (nI (b))]
        refine cn_istore_n (pc' := 10) (lv' := [(0, .ref 155), (1, .int (nI (1))), (2, .int (nI (b)))]) rfl [1, 2, 0] (Nat.le_of_ble_eq_true rfl) rfl d_M_readPlain_9 rfl ?_
        refine cn_aload_n (pc' := 11) (k := 0) rfl rfl d_M_readPlain_10 rfl ?_
        refine cn_iload_n (pc' := 12) (k := 2) rfl rfl d_M_readPlain_11 rfl ?_
        refine cn_iconst (pc' := 13) k_c_1 d_M_readPlain_12 rfl ?_
        refine cn_icmp_le_n (tgt := 20) (pc' := 16) (by omega) (by omega) d_M_readPlain_13 (by decide) rfl (fun hc13 => ?_) (fun hc13 => ?_)
        · refine cn_iload_n (pc' := 21) (k := 2) rfl rfl d_M_readPlain_20 rfl ?_
          refine cn_callV (pc' := 24) (kc1 := 0) (ks1 := 0) (kc2 := 0) (ks2 := 0) (rest := []) (lvj := [(0, .ref 155), (1, .int (nI (b)))]) [.int (nI (b))] mv_M_175 hm.1 rfl rfl rfl (Nat.le_of_ble_eq_true rfl) (Nat.le_of_ble_eq_true rfl) (by omega) (by omega) (by omega) d_M_readPlain_21 rfl ?_
          refine c_M_put hm (hv.fN hf1) (fun I2 hv2 hf2 => ?_)
          rw [tk_app] at hv2
          have hr2 := hr1.fP hf2
          show cn_V l en mi_M_readPlain d 0 0 S I2 P Q 24 [(0, .ref 155), (1, .int (nI (1))), (2, .int (nI (b)))] []
          refine cn_goto (tgt := 143) d_M_readPlain_24 (by decide) ?_
          refine cn_vret rfl d_M_readPlain_143 ?_
          by_cases hp2 : p + 2 ≤ g.length
          · have e : pvc g lst p = some ([nI 1, if g.getD (p + 1) 0 = 0 then nI 0 else nI 1], p + 2) := by unfold pvc; rw [if_pos hp1, if_neg (by rw [hk]; decide), if_pos hk, if_pos hp2]
            have eb : (if g.getD (p + 1) 0 = 0 then nI 0 else nI 1) = nI (b) := by
              rw [hbb]
              have h01 : b = 0 ∨ b = 1 := by omega
              rcases h01 with rfl | rfl
              · exact if_pos rfl
              · exact if_neg (by decide)
            rw [eb] at e
            rw [show rp g (p + 1) 1 = p + 2 by unfold rp; omega, show rw_ g (p + 1) 1 true = true by unfold rw_; rw [decide_eq_true (by omega)]; rfl] at hr2
            refine K1 _ e I2 hr2 ?_ (hf1.toW.tr hf2.toW)
            rw [hk] at hv2; exact hv2
          · have e : pvc g lst p = none := by unfold pvc; rw [if_pos hp1, if_neg (by rw [hk]; decide), if_pos hk, if_neg hp2]
            rw [show rw_ g (p + 1) 1 true = false by unfold rw_; rw [decide_eq_false (by omega)]; rfl] at hr2
            exact K0 e I2 _ _ hr2 hv2 (hf1.toW.tr hf2.toW)
        · refine cn_iconst (pc' := 17) k_c_1 d_M_readPlain_16 rfl ?_
          refine cn_goto (tgt := 21) d_M_readPlain_17 (by decide) ?_
          refine cn_callV (pc' := 24) (kc1 := 0) (ks1 := 0) (kc2 := 0) (ks2 := 0) (rest := []) (lvj := [(0, .ref 155), (1, .int (nI (1)))]) [.int (nI (1))] mv_M_175 hm.1 rfl rfl rfl (Nat.le_of_ble_eq_true rfl) (Nat.le_of_ble_eq_true rfl) (by omega) (by omega) (by omega) d_M_readPlain_21 rfl ?_
          refine c_M_put hm (hv.fN hf1) (fun I2 hv2 hf2 => ?_)
          rw [tk_app] at hv2
          have hr2 := hr1.fP hf2
          show cn_V l en mi_M_readPlain d 0 0 S I2 P Q 24 [(0, .ref 155), (1, .int (nI (1))), (2, .int (nI (b)))] []
          refine cn_goto (tgt := 143) d_M_readPlain_24 (by decide) ?_
          refine cn_vret rfl d_M_readPlain_143 ?_
          by_cases hp2 : p + 2 ≤ g.length
          · have e : pvc g lst p = some ([nI 1, if g.getD (p + 1) 0 = 0 then nI 0 else nI 1], p + 2) := by unfold pvc; rw [if_pos hp1, if_neg (by rw [hk]; decide), if_pos hk, if_pos hp2]
            have eb : (if g.getD (p + 1) 0 = 0 then nI 0 else nI 1) = nI (1) := by
              rw [hbb]
              exact if_neg (fun h => absurd ((nI_eq (by omega) (by omega)).mp (show nI b = nI 0 from h)) (by omega))
            rw [eb] at e
            rw [show rp g (p + 1) 1 = p + 2 by unfold rp; omega, show rw_ g (p + 1) 1 true = true by unfold rw_; rw [decide_eq_true (by omega)]; rfl] at hr2
            refine K1 _ e I2 hr2 ?_ (hf1.toW.tr hf2.toW)
            rw [hk] at hv2; exact hv2
          · have e : pvc g lst p = none := by unfold pvc; rw [if_pos hp1, if_neg (by rw [hk]; decide), if_pos hk, if_neg hp2]
            rw [show rw_ g (p + 1) 1 true = false by unfold rw_; rw [decide_eq_false (by omega)]; rfl] at hr2
            exact K0 e I2 _ _ hr2 hv2 (hf1.toW.tr hf2.toW)
    · rw [hk]
      refine cn_iload_n (pc' := 1) (k := 1) rfl rfl d_M_readPlain_0 rfl ?_
      refine cn_iconst (pc' := 2) k_c_1 d_M_readPlain_1 rfl ?_
      refine cn_icmp_ne_n (tgt := 27) (pc' := 5) (by omega) (by omega) d_M_readPlain_2 (by decide) rfl (fun hc2 => ?_) (fun hc2 => ?_)
      · refine cn_iload_n (pc' := 28) (k := 1) rfl rfl d_M_readPlain_27 rfl ?_
        refine cn_bipush (pc' := 30) k_b_6 d_M_readPlain_28 rfl ?_
        refine cn_icmp_eq_n (tgt := 39) (pc' := 33) (by omega) (by omega) d_M_readPlain_30 (by decide) rfl (fun hc30 => ?_) (fun hc30 => ?_)
        · refine cn_aload_n (pc' := 40) (k := 0) rfl rfl d_M_readPlain_39 rfl ?_
          refine cn_iload_n (pc' := 41) (k := 1) rfl rfl d_M_readPlain_40 rfl ?_
          refine cn_bipush (pc' := 43) k_b_6 d_M_readPlain_41 rfl ?_
          refine cn_icmp_ne_n (tgt := 50) (pc' := 46) (by omega) (by omega) d_M_readPlain_43 (by decide) rfl (fun hc43 => ?_) (fun hc43 => ?_)
          · exact False.elim (by omega)
          · refine cn_iconst (pc' := 47) k_c_4 d_M_readPlain_46 rfl ?_
            refine cn_goto (tgt := 52) d_M_readPlain_47 (by decide) ?_
            refine cn_callV (pc' := 55) (kc1 := 0) (ks1 := 0) (kc2 := 0) (ks2 := 0) (rest := []) (lvj := [(0, .ref 155), (1, .int (nI (4)))]) [.int (nI (4))] mv_M_178 hm.1 rfl rfl rfl (Nat.le_of_ble_eq_true rfl) (Nat.le_of_ble_eq_true rfl) (by omega) (by omega) (by omega) d_M_readPlain_52 rfl ?_
            refine c_M_putNumber (n := 4) hm (by decide) (by omega) hr hv (fun I1 hr1 hv1 hf1 => ?_)
            rw [tk_app, List.singleton_append, ← mvb_c] at hv1
            show cn_V l en mi_M_readPlain d 0 0 S I1 P Q 55 [(0, .ref 155), (1, .int (nI (6)))] [.int (nmk g (p + 1) (min 4 4))]
            refine cn_pop (pc' := 56) rfl d_M_readPlain_55 rfl ?_
            refine cn_goto (tgt := 143) d_M_readPlain_56 (by decide) ?_
            refine cn_vret rfl d_M_readPlain_143 ?_
            by_cases hp5 : p + 5 ≤ g.length
            · have e : pvc g lst p = some (mvb g p 5, p + 5) := by unfold pvc; rw [if_pos hp1, if_neg (by rw [hk]; decide), if_neg (by rw [hk]; decide), if_pos hk, if_pos hp5]
              rw [show rp g (p + 1) 4 = p + 5 by unfold rp; omega, show rw_ g (p + 1) 4 true = true by unfold rw_; rw [decide_eq_true (by omega)]; rfl] at hr1
              exact K1 _ e I1 hr1 hv1 hf1
            · have e : pvc g lst p = none := by unfold pvc; rw [if_pos hp1, if_neg (by rw [hk]; decide), if_neg (by rw [hk]; decide), if_pos hk, if_neg hp5]
              rw [show rw_ g (p + 1) 4 true = false by unfold rw_; rw [decide_eq_false (by omega)]; rfl] at hr1
              exact K0 e I1 _ _ hr1 hv1 hf1
        · exact False.elim (by omega)
      · exact False.elim (by omega)
    · rw [hk]
      refine cn_iload_n (pc' := 1) (k := 1) rfl rfl d_M_readPlain_0 rfl ?_
      refine cn_iconst (pc' := 2) k_c_1 d_M_readPlain_1 rfl ?_
      refine cn_icmp_ne_n (tgt := 27) (pc' := 5) (by omega) (by omega) d_M_readPlain_2 (by decide) rfl (fun hc2 => ?_) (fun hc2 => ?_)
      · refine cn_iload_n (pc' := 28) (k := 1) rfl rfl d_M_readPlain_27 rfl ?_
        refine cn_bipush (pc' := 30) k_b_6 d_M_readPlain_28 rfl ?_
        refine cn_icmp_eq_n (tgt := 39) (pc' := 33) (by omega) (by omega) d_M_readPlain_30 (by decide) rfl (fun hc30 => ?_) (fun hc30 => ?_)
        · exact False.elim (by omega)
        · refine cn_iload_n (pc' := 34) (k := 1) rfl rfl d_M_readPlain_33 rfl ?_
          refine cn_bipush (pc' := 36) k_b_8 d_M_readPlain_34 rfl ?_
          refine cn_icmp_ne_n (tgt := 59) (pc' := 39) (by omega) (by omega) d_M_readPlain_36 (by decide) rfl (fun hc36 => ?_) (fun hc36 => ?_)
          · exact False.elim (by omega)
          · refine cn_aload_n (pc' := 40) (k := 0) rfl rfl d_M_readPlain_39 rfl ?_
            refine cn_iload_n (pc' := 41) (k := 1) rfl rfl d_M_readPlain_40 rfl ?_
            refine cn_bipush (pc' := 43) k_b_6 d_M_readPlain_41 rfl ?_
            refine cn_icmp_ne_n (tgt := 50) (pc' := 46) (by omega) (by omega) d_M_readPlain_43 (by decide) rfl (fun hc43 => ?_) (fun hc43 => ?_)
            · refine cn_bipush (pc' := 52) k_b_8 d_M_readPlain_50 rfl ?_
              refine cn_callV (pc' := 55) (kc1 := 0) (ks1 := 0) (kc2 := 0) (ks2 := 0) (rest := []) (lvj := [(0, .ref 155), (1, .int (nI (8)))]) [.int (nI (8))] mv_M_178 hm.1 rfl rfl rfl (Nat.le_of_ble_eq_true rfl) (Nat.le_of_ble_eq_true rfl) (by omega) (by omega) (by omega) d_M_readPlain_52 rfl ?_
              refine c_M_putNumber (n := 8) hm (by decide) (by omega) hr hv (fun I1 hr1 hv1 hf1 => ?_)
              rw [tk_app, List.singleton_append, ← mvb_c] at hv1
              show cn_V l en mi_M_readPlain d 0 0 S I1 P Q 55 [(0, .ref 155), (1, .int (nI (8)))] [.int (nmk g (p + 1) (min 8 4))]
              refine cn_pop (pc' := 56) rfl d_M_readPlain_55 rfl ?_
              refine cn_goto (tgt := 143) d_M_readPlain_56 (by decide) ?_
              refine cn_vret rfl d_M_readPlain_143 ?_
              by_cases hp5 : p + 9 ≤ g.length
              · have e : pvc g lst p = some (mvb g p 9, p + 9) := by unfold pvc; rw [if_pos hp1, if_neg (by rw [hk]; decide), if_neg (by rw [hk]; decide), if_neg (by rw [hk]; decide), if_pos hk, if_pos hp5]
                rw [show rp g (p + 1) 8 = p + 9 by unfold rp; omega, show rw_ g (p + 1) 8 true = true by unfold rw_; rw [decide_eq_true (by omega)]; rfl] at hr1
                exact K1 _ e I1 hr1 hv1 hf1
              · have e : pvc g lst p = none := by unfold pvc; rw [if_pos hp1, if_neg (by rw [hk]; decide), if_neg (by rw [hk]; decide), if_neg (by rw [hk]; decide), if_pos hk, if_neg hp5]
                rw [show rw_ g (p + 1) 8 true = false by unfold rw_; rw [decide_eq_false (by omega)]; rfl] at hr1
                exact K0 e I1 _ _ hr1 hv1 hf1
            · exact False.elim (by omega)
      · exact False.elim (by omega)
    · rw [hk]
      refine cn_iload_n (pc' := 1) (k := 1) rfl rfl d_M_readPlain_0 rfl ?_
      refine cn_iconst (pc' := 2) k_c_1 d_M_readPlain_1 rfl ?_
      refine cn_icmp_ne_n (tgt := 27) (pc' := 5) (by omega) (by omega) d_M_readPlain_2 (by decide) rfl (fun hc2 => ?_) (fun hc2 => ?_)
      · refine cn_iload_n (pc' := 28) (k := 1) rfl rfl d_M_readPlain_27 rfl ?_
        refine cn_bipush (pc' := 30) k_b_6 d_M_readPlain_28 rfl ?_
        refine cn_icmp_eq_n (tgt := 39) (pc' := 33) (by omega) (by omega) d_M_readPlain_30 (by decide) rfl (fun hc30 => ?_) (fun hc30 => ?_)
        · exact False.elim (by omega)
        · refine cn_iload_n (pc' := 34) (k := 1) rfl rfl d_M_readPlain_33 rfl ?_
          refine cn_bipush (pc' := 36) k_b_8 d_M_readPlain_34 rfl ?_
          refine cn_icmp_ne_n (tgt := 59) (pc' := 39) (by omega) (by omega) d_M_readPlain_36 (by decide) rfl (fun hc36 => ?_) (fun hc36 => ?_)
          · refine cn_iload_n (pc' := 60) (k := 1) rfl rfl d_M_readPlain_59 rfl ?_
            refine cn_bipush (pc' := 62) k_b_12 d_M_readPlain_60 rfl ?_
            refine cn_icmp_ne_n (tgt := 123) (pc' := 65) (by omega) (by omega) d_M_readPlain_62 (by decide) rfl (fun hc62 => ?_) (fun hc62 => ?_)
            · exact False.elim (by omega)
            · refine cn_aload_n (pc' := 66) (k := 0) rfl rfl d_M_readPlain_65 rfl ?_
              refine cn_iconst (pc' := 67) k_c_4 d_M_readPlain_66 rfl ?_
              refine cn_callV (pc' := 70) (kc1 := 0) (ks1 := 0) (kc2 := 0) (ks2 := 0) (rest := []) (lvj := [(0, .ref 155), (1, .int (nI (4)))]) [.int (nI (4))] mv_M_178 hm.1 rfl rfl rfl (Nat.le_of_ble_eq_true rfl) (Nat.le_of_ble_eq_true rfl) (by omega) (by omega) (by omega) d_M_readPlain_67 rfl ?_
              refine c_M_putNumber (n := 4) hm (by decide) (by omega) hr hv (fun I1 hr1 hv1 hf1 => ?_)
              rw [tk_app, List.singleton_append, ← mvb_c] at hv1
              rw [show min 4 4 = 4 from rfl, nmk_4]
              by_cases hp5 : p + 5 ≤ g.length
              · rw [show rp g (p + 1) 4 = p + 5 by unfold rp; omega, show rw_ g (p + 1) 4 true = true by unfold rw_; rw [decide_eq_true (by omega)]; rfl] at hr1
                by_cases hneg : rn4 g (p + 1) < 0
                · by_cases hm1 : rn4 g (p + 1) = -1
                  · rw [hm1]
                    show cn_V l en mi_M_readPlain d 0 0 S I1 P Q 70 [(0, .ref 155), (1, .int (nI (12)))] [.int (-1)]
                    refine cn_istore_n (pc' := 71) (lv' := [(0, .ref 155), (1, .int (nI (12))), (2, .int (-1))]) rfl [1, 2, 0] (Nat.le_of_ble_eq_true rfl) rfl d_M_readPlain_70 rfl ?_
                    refine cn_aload_n (pc' := 72) (k := 0) rfl rfl d_M_readPlain_71 rfl ?_
                    refine cn_aload_n (pc' := 73) (k := 0) rfl rfl d_M_readPlain_72 rfl ?_
                    refine cn_getIv (pc' := 76) (v := nI (1)) hr1.2.2.1 fl_M_161 hm.1 rfl d_M_readPlain_73 rfl ?_
                    refine cn_if_eq_n (tgt := 88) (pc' := 79) (by omega) d_M_readPlain_76 (by decide) rfl (fun hc76 => ?_) (fun hc76 => ?_)
                    · exact False.elim (by omega)
                    · refine cn_iload_n (pc' := 80) (k := 2) rfl rfl d_M_readPlain_79 rfl ?_
                      refine cn_iconst (pc' := 81) k_c_m1 d_M_readPlain_80 rfl ?_
                      refine cn_icmp_lt (tgt := 88) (pc' := 84) d_M_readPlain_81 (by decide) rfl (fun hc81 => ?_) (fun hc81 => ?_)
                      · exact absurd hc81 (by decide)
                      · refine cn_iconst (pc' := 85) k_c_1 d_M_readPlain_84 rfl ?_
                        refine cn_goto (tgt := 89) d_M_readPlain_85 (by decide) ?_
                        refine cn_putI (pc' := 92) fl_M_161 hm.1 rfl rfl rfl rfl d_M_readPlain_89 rfl ?_
                        refine cn_iconst (pc' := 93) k_c_0 d_M_readPlain_92 rfl ?_
                        refine cn_istore_n (pc' := 94) (lv' := [(0, .ref 155), (1, .int (nI (12))), (2, .int (-1)), (3, .int (nI (0)))]) rfl [1, 2, 3, 0] (Nat.le_of_ble_eq_true rfl) rfl d_M_readPlain_93 rfl ?_
                        refine cn_iload_n (pc' := 95) (k := 3) rfl rfl d_M_readPlain_94 rfl ?_
                        refine cn_iload_n (pc' := 96) (k := 2) rfl rfl d_M_readPlain_95 rfl ?_
                        refine cn_icmp_ge (tgt := 120) (pc' := 99) d_M_readPlain_96 (by decide) rfl (fun hc96 => ?_) (fun hc96 => ?_)
                        · refine cn_goto (tgt := 143) d_M_readPlain_120 (by decide) ?_
                          refine cn_vret rfl d_M_readPlain_143 ?_
                          have e : pvc g lst p = some (mvb g p 5, p + 5) := by unfold pvc; rw [if_pos hp1, if_neg (by rw [hk]; decide), if_neg (by rw [hk]; decide), if_neg (by rw [hk]; decide), if_neg (by rw [hk]; decide), if_pos hk, if_pos hp5, if_pos hm1]
                          exact K1 _ e _ (hr1.congr (mw_o (by omega)) (mw_o (by omega)) (mw_e.trans hr1.2.2.1.symm) (fun j => mw_o (by omega))) (hv1.congr (mw_o (by omega)) (fun j => mw_o (by omega))) (hf1.tr (fun a k x y => mw_o (by omega)))
                        · exact absurd (by decide) hc96
                  · show cn_V l en mi_M_readPlain d 0 0 S I1 P Q 70 [(0, .ref 155), (1, .int (nI (12)))] [.int (rn4 g (p + 1))]
                    refine cn_istore_n (pc' := 71) (lv' := [(0, .ref 155), (1, .int (nI (12))), (2, .int (rn4 g (p + 1)))]) rfl [1, 2, 0] (Nat.le_of_ble_eq_true rfl) rfl d_M_readPlain_70 rfl ?_
                    refine cn_aload_n (pc' := 72) (k := 0) rfl rfl d_M_readPlain_71 rfl ?_
                    refine cn_aload_n (pc' := 73) (k := 0) rfl rfl d_M_readPlain_72 rfl ?_
                    refine cn_getIv (pc' := 76) (v := nI (1)) hr1.2.2.1 fl_M_161 hm.1 rfl d_M_readPlain_73 rfl ?_
                    refine cn_if_eq_n (tgt := 88) (pc' := 79) (by omega) d_M_readPlain_76 (by decide) rfl (fun hc76 => ?_) (fun hc76 => ?_)
                    · exact False.elim (by omega)
                    · refine cn_iload_n (pc' := 80) (k := 2) rfl rfl d_M_readPlain_79 rfl ?_
                      refine cn_iconst (pc' := 81) k_c_m1 d_M_readPlain_80 rfl ?_
                      refine cn_icmp_lt (tgt := 88) (pc' := 84) d_M_readPlain_81 (by decide) rfl (fun hc81 => ?_) (fun hc81 => ?_)
                      · refine cn_iconst (pc' := 89) k_c_0 d_M_readPlain_88 rfl ?_
                        refine cn_putI (pc' := 92) fl_M_161 hm.1 rfl rfl rfl rfl d_M_readPlain_89 rfl ?_
                        refine cn_iconst (pc' := 93) k_c_0 d_M_readPlain_92 rfl ?_
                        refine cn_istore_n (pc' := 94) (lv' := [(0, .ref 155), (1, .int (nI (12))), (2, .int (rn4 g (p + 1))), (3, .int (nI (0)))]) rfl [1, 2, 3, 0] (Nat.le_of_ble_eq_true rfl) rfl d_M_readPlain_93 rfl ?_
                        refine cn_iload_n (pc' := 95) (k := 3) rfl rfl d_M_readPlain_94 rfl ?_
                        refine cn_iload_n (pc' := 96) (k := 2) rfl rfl d_M_readPlain_95 rfl ?_
                        refine cn_icmp_ge (tgt := 120) (pc' := 99) d_M_readPlain_96 (by decide) rfl (fun hc96 => ?_) (fun hc96 => ?_)
                        · refine cn_goto (tgt := 143) d_M_readPlain_120 (by decide) ?_
                          refine cn_vret rfl d_M_readPlain_143 ?_
                          have e : pvc g lst p = none := by unfold pvc; rw [if_pos hp1, if_neg (by rw [hk]; decide), if_neg (by rw [hk]; decide), if_neg (by rw [hk]; decide), if_neg (by rw [hk]; decide), if_pos hk, if_pos hp5, if_neg hm1, if_pos hneg]
                          exact K0 e _ (rp g (p + 1) 4) _ ⟨mw_k (by decide) hr1.1, mw_k (by decide) (hr1.2.1.trans (by rw [show rp g (p + 1) 4 = p + 5 by unfold rp; omega])), mw_e, by unfold rp; omega, hg64, fun j hj => mw_a (by decide) (hr1.2.2.2.2.2.1 j hj), hr1.2.2.2.2.2.2⟩ (hv1.congr (mw_o (by omega)) (fun j => mw_o (by omega))) (hf1.tr (fun a k x y => mw_o (by omega)))
                        · exact absurd (m1_ge hneg) hc96
                      · exact absurd (m1_lt hneg hm1) hc81
                · obtain ⟨n, hn31, hnn⟩ := nI_of hneg
                  rw [hnn]
                  show cn_V l en mi_M_readPlain d 0 0 S I1 P Q 70 [(0, .ref 155), (1, .int (nI (12)))] [.int (nI (n))]
                  refine cn_istore_n (pc' := 71) (lv' := [(0, .ref 155), (1, .int (nI (12))), (2, .int (nI (n)))]) rfl [1, 2, 0] (Nat.le_of_ble_eq_true rfl) rfl d_M_readPlain_70 rfl ?_
                  refine cn_aload_n (pc' := 72) (k := 0) rfl rfl d_M_readPlain_71 rfl ?_
                  refine cn_aload_n (pc' := 73) (k := 0) rfl rfl d_M_readPlain_72 rfl ?_
                  refine cn_getIv (pc' := 76) (v := nI (1)) hr1.2.2.1 fl_M_161 hm.1 rfl d_M_readPlain_73 rfl ?_
                  refine cn_if_eq_n (tgt := 88) (pc' := 79) (by omega) d_M_readPlain_76 (by decide) rfl (fun hc76 => ?_) (fun hc76 => ?_)
                  · exact False.elim (by omega)
                  · refine cn_iload_n (pc' := 80) (k := 2) rfl rfl d_M_readPlain_79 rfl ?_
                    refine cn_iconst (pc' := 81) k_c_m1 d_M_readPlain_80 rfl ?_
                    refine cn_icmp_lt (tgt := 88) (pc' := 84) d_M_readPlain_81 (by decide) rfl (fun hc81 => ?_) (fun hc81 => ?_)
                    · exact absurd hc81 (nI_m1l hn31)
                    · refine cn_iconst (pc' := 85) k_c_1 d_M_readPlain_84 rfl ?_
                      refine cn_goto (tgt := 89) d_M_readPlain_85 (by decide) ?_
                      refine cn_putI (pc' := 92) fl_M_161 hm.1 rfl rfl rfl rfl d_M_readPlain_89 rfl ?_
                      refine cn_iconst (pc' := 93) k_c_0 d_M_readPlain_92 rfl ?_
                      refine cn_istore_n (pc' := 94) (lv' := [(0, .ref 155), (1, .int (nI (12))), (2, .int (nI (n))), (3, .int (nI (0)))]) rfl [1, 2, 3, 0] (Nat.le_of_ble_eq_true rfl) rfl d_M_readPlain_93 rfl ?_
                      have hr3 : mg ((cn_wi I1 155 28 (nI (1)))) g (p + 5 + 0) true := hr1.congr (mw_o (by omega)) (mw_o (by omega)) (mw_e.trans hr1.2.2.1.symm) (fun j => mw_o (by omega))
                      have hv3 : mv ((cn_wi I1 155 28 (nI (1)))) ((((v ++ mvb g p (1 + 4)).take 64) ++ mvb g (p + 5) 0).take 64) := by rw [show mvb g (p + 5) 0 = [] from rfl, List.append_nil, List.take_of_length_le hv1.2.1]; exact hv1.congr (mw_o (by omega)) (fun j => mw_o (by omega))
                      have hf3 : fW I ((cn_wi I1 155 28 (nI (1)))) := hf1.tr (fun a k x y => mw_o (by omega))
                      refine c_M_readPlain_94 (q := p + 5) (n := n) (v := (v ++ mvb g p (1 + 4)).take 64) hm hn31 hg64 (by omega) I (fun hle I4 hr4 hv4 hf4 => ?_) (fun hlt I4 p4 v4 hr4 hv4 hf4 => ?_) (g.length - (p + 5)) 0 _ (by omega) (Nat.zero_le _) hr3 hv3 hf3
                      · have e : pvc g lst p = some (mvb g p (5 + n), p + 5 + n) := by
                          unfold pvc
                          rw [if_pos hp1, if_neg (by rw [hk]; decide), if_neg (by rw [hk]; decide), if_neg (by rw [hk]; decide), if_neg (by rw [hk]; decide), if_pos hk, if_pos hp5, if_neg (fun h => hneg (by rw [h]; decide)), if_neg hneg, hnn, nI_clamp hn31, if_pos hle]
                        rw [tk_app, ← mvb_add g p 5 n] at hv4
                        exact K1 _ e I4 hr4 hv4 hf4
                      · have e : pvc g lst p = none := by
                          unfold pvc
                          rw [if_pos hp1, if_neg (by rw [hk]; decide), if_neg (by rw [hk]; decide), if_neg (by rw [hk]; decide), if_neg (by rw [hk]; decide), if_pos hk, if_pos hp5, if_neg (fun h => hneg (by rw [h]; decide)), if_neg hneg, hnn, nI_clamp hn31, if_neg (by omega)]
                        exact K0 e I4 _ _ hr4 hv4 hf4
              · rw [show rw_ g (p + 1) 4 true = false by unfold rw_; rw [decide_eq_false (by omega)]; rfl] at hr1
                show cn_V l en mi_M_readPlain d 0 0 S I1 P Q 70 [(0, .ref 155), (1, .int (nI (12)))] [.int (rn4 g (p + 1))]
                refine cn_istore_n (pc' := 71) (lv' := [(0, .ref 155), (1, .int (nI (12))), (2, .int (rn4 g (p + 1)))]) rfl [1, 2, 0] (Nat.le_of_ble_eq_true rfl) rfl d_M_readPlain_70 rfl ?_
                refine cn_aload_n (pc' := 72) (k := 0) rfl rfl d_M_readPlain_71 rfl ?_
                refine cn_aload_n (pc' := 73) (k := 0) rfl rfl d_M_readPlain_72 rfl ?_
                refine cn_getIv (pc' := 76) (v := nI (0)) hr1.2.2.1 fl_M_161 hm.1 rfl d_M_readPlain_73 rfl ?_
                refine cn_if_eq_n (tgt := 88) (pc' := 79) (by omega) d_M_readPlain_76 (by decide) rfl (fun hc76 => ?_) (fun hc76 => ?_)
                · refine cn_iconst (pc' := 89) k_c_0 d_M_readPlain_88 rfl ?_
                  refine cn_putI (pc' := 92) fl_M_161 hm.1 rfl rfl rfl rfl d_M_readPlain_89 rfl ?_
                  refine cn_iconst (pc' := 93) k_c_0 d_M_readPlain_92 rfl ?_
                  refine cn_istore_n (pc' := 94) (lv' := [(0, .ref 155), (1, .int (nI (12))), (2, .int (rn4 g (p + 1))), (3, .int (nI (0)))]) rfl [1, 2, 3, 0] (Nat.le_of_ble_eq_true rfl) rfl d_M_readPlain_93 rfl ?_
                  refine cn_iload_n (pc' := 95) (k := 3) rfl rfl d_M_readPlain_94 rfl ?_
                  refine cn_iload_n (pc' := 96) (k := 2) rfl rfl d_M_readPlain_95 rfl ?_
                  refine cn_icmp_ge (tgt := 120) (pc' := 99) d_M_readPlain_96 (by decide) rfl (fun hc96 => ?_) (fun hc96 => ?_)
                  · refine cn_goto (tgt := 143) d_M_readPlain_120 (by decide) ?_
                    refine cn_vret rfl d_M_readPlain_143 ?_
                    have e : pvc g lst p = none := by unfold pvc; rw [if_pos hp1, if_neg (by rw [hk]; decide), if_neg (by rw [hk]; decide), if_neg (by rw [hk]; decide), if_neg (by rw [hk]; decide), if_pos hk, if_neg hp5]
                    exact K0 e _ (rp g (p + 1) 4) _ ⟨mw_k (by decide) hr1.1, mw_k (by decide) (hr1.2.1.trans (by rw [show rp g (p + 1) 4 = rp g (p + 1) 4 by unfold rp; omega])), mw_e, by unfold rp; omega, hg64, fun j hj => mw_a (by decide) (hr1.2.2.2.2.2.1 j hj), hr1.2.2.2.2.2.2⟩ (hv1.congr (mw_o (by omega)) (fun j => mw_o (by omega))) (hf1.tr (fun a k x y => mw_o (by omega)))
                  · refine cn_aload_n (pc' := 100) (k := 0) rfl rfl d_M_readPlain_99 rfl ?_
                    refine cn_getIv (pc' := 103) (v := nI (0)) mw_e fl_M_161 hm.1 rfl d_M_readPlain_100 rfl ?_
                    refine cn_if_eq_n (tgt := 120) (pc' := 106) (by omega) d_M_readPlain_103 (by decide) rfl (fun hc103 => ?_) (fun hc103 => ?_)
                    · refine cn_goto (tgt := 143) d_M_readPlain_120 (by decide) ?_
                      refine cn_vret rfl d_M_readPlain_143 ?_
                      have e : pvc g lst p = none := by unfold pvc; rw [if_pos hp1, if_neg (by rw [hk]; decide), if_neg (by rw [hk]; decide), if_neg (by rw [hk]; decide), if_neg (by rw [hk]; decide), if_pos hk, if_neg hp5]
                      exact K0 e _ (rp g (p + 1) 4) _ ⟨mw_k (by decide) hr1.1, mw_k (by decide) (hr1.2.1.trans (by rw [show rp g (p + 1) 4 = rp g (p + 1) 4 by unfold rp; omega])), mw_e, by unfold rp; omega, hg64, fun j hj => mw_a (by decide) (hr1.2.2.2.2.2.1 j hj), hr1.2.2.2.2.2.2⟩ (hv1.congr (mw_o (by omega)) (fun j => mw_o (by omega))) (hf1.tr (fun a k x y => mw_o (by omega)))
                    · exact False.elim (by omega)
                · exact False.elim (by omega)
          · exact False.elim (by omega)
      · exact False.elim (by omega)
    · refine cn_iload_n (pc' := 1) (k := 1) rfl rfl d_M_readPlain_0 rfl ?_
      refine cn_iconst (pc' := 2) k_c_1 d_M_readPlain_1 rfl ?_
      refine cn_icmp_ne (tgt := 27) (pc' := 5) d_M_readPlain_2 (by decide) rfl (fun hc2 => ?_) (fun hc2 => ?_)
      · refine cn_iload_n (pc' := 28) (k := 1) rfl rfl d_M_readPlain_27 rfl ?_
        refine cn_bipush (pc' := 30) k_b_6 d_M_readPlain_28 rfl ?_
        refine cn_icmp_eq (tgt := 39) (pc' := 33) d_M_readPlain_30 (by decide) rfl (fun hc30 => ?_) (fun hc30 => ?_)
        · exact absurd hc30 hk6
        · refine cn_iload_n (pc' := 34) (k := 1) rfl rfl d_M_readPlain_33 rfl ?_
          refine cn_bipush (pc' := 36) k_b_8 d_M_readPlain_34 rfl ?_
          refine cn_icmp_ne (tgt := 59) (pc' := 39) d_M_readPlain_36 (by decide) rfl (fun hc36 => ?_) (fun hc36 => ?_)
          · refine cn_iload_n (pc' := 60) (k := 1) rfl rfl d_M_readPlain_59 rfl ?_
            refine cn_bipush (pc' := 62) k_b_12 d_M_readPlain_60 rfl ?_
            refine cn_icmp_ne (tgt := 123) (pc' := 65) d_M_readPlain_62 (by decide) rfl (fun hc62 => ?_) (fun hc62 => ?_)
            · refine cn_aload_n (pc' := 124) (k := 0) rfl rfl d_M_readPlain_123 rfl ?_
              refine cn_aload_n (pc' := 125) (k := 0) rfl rfl d_M_readPlain_124 rfl ?_
              refine cn_getIv (pc' := 128) (v := nI (1)) hr.2.2.1 fl_M_161 hm.1 rfl d_M_readPlain_125 rfl ?_
              refine cn_if_eq_n (tgt := 139) (pc' := 131) (by omega) d_M_readPlain_128 (by decide) rfl (fun hc128 => ?_) (fun hc128 => ?_)
              · exact False.elim (by omega)
              · refine cn_iload_n (pc' := 132) (k := 1) rfl rfl d_M_readPlain_131 rfl ?_
                refine cn_if_ne (tgt := 139) (pc' := 135) d_M_readPlain_132 (by decide) rfl (fun hc132 => ?_) (fun hc132 => ?_)
                · refine cn_iconst (pc' := 140) k_c_0 d_M_readPlain_139 rfl ?_
                  refine cn_putI (pc' := 143) fl_M_161 hm.1 rfl rfl rfl rfl d_M_readPlain_140 rfl ?_
                  refine cn_vret rfl d_M_readPlain_143 ?_
                  have e : pvc g lst p = none := by unfold pvc; rw [if_pos hp1, if_neg hk0, if_neg hk1, if_neg hk6, if_neg hk8, if_neg hk12, if_neg h152]
                  exact K0 e _ (p + 1) _ ⟨mw_k (by decide) hr.1, mw_k (by decide) hr.2.1, mw_e, by omega, hg64, fun j hj => mw_a (by decide) (hr.2.2.2.2.2.1 j hj), hr.2.2.2.2.2.2⟩ (hv.congr (mw_o (by omega)) (fun j => mw_o (by omega))) (fun a k x y => mw_o (by omega))
                · exact absurd (show g.getD p 0 = nI 0 from hc132) hk0
            · exact absurd hc62 hk12
          · exact absurd hc36 hk8
      · exact absurd hc2 hk1
  · rw [show rp g p 1 = p by unfold rp; omega, show rw_ g p 1 true = false by unfold rw_; rw [decide_eq_false hp1]; rfl] at hr
    have e : pvc g lst p = none := by unfold pvc; rw [if_neg hp1]
    rw [gd_out (by omega)]
    show cn_V l en mi_M_readPlain d 0 0 S I P Q 0 [(0, .ref 155), (1, .int (nI (0)))] []
    refine cn_iload_n (pc' := 1) (k := 1) rfl rfl d_M_readPlain_0 rfl ?_
    refine cn_iconst (pc' := 2) k_c_1 d_M_readPlain_1 rfl ?_
    refine cn_icmp_ne_n (tgt := 27) (pc' := 5) (by omega) (by omega) d_M_readPlain_2 (by decide) rfl (fun hc2 => ?_) (fun hc2 => ?_)
    · refine cn_iload_n (pc' := 28) (k := 1) rfl rfl d_M_readPlain_27 rfl ?_
      refine cn_bipush (pc' := 30) k_b_6 d_M_readPlain_28 rfl ?_
      refine cn_icmp_eq_n (tgt := 39) (pc' := 33) (by omega) (by omega) d_M_readPlain_30 (by decide) rfl (fun hc30 => ?_) (fun hc30 => ?_)
      · exact False.elim (by omega)
      · refine cn_iload_n (pc' := 34) (k := 1) rfl rfl d_M_readPlain_33 rfl ?_
        refine cn_bipush (pc' := 36) k_b_8 d_M_readPlain_34 rfl ?_
        refine cn_icmp_ne_n (tgt := 59) (pc' := 39) (by omega) (by omega) d_M_readPlain_36 (by decide) rfl (fun hc36 => ?_) (fun hc36 => ?_)
        · refine cn_iload_n (pc' := 60) (k := 1) rfl rfl d_M_readPlain_59 rfl ?_
          refine cn_bipush (pc' := 62) k_b_12 d_M_readPlain_60 rfl ?_
          refine cn_icmp_ne_n (tgt := 123) (pc' := 65) (by omega) (by omega) d_M_readPlain_62 (by decide) rfl (fun hc62 => ?_) (fun hc62 => ?_)
          · refine cn_aload_n (pc' := 124) (k := 0) rfl rfl d_M_readPlain_123 rfl ?_
            refine cn_aload_n (pc' := 125) (k := 0) rfl rfl d_M_readPlain_124 rfl ?_
            refine cn_getIv (pc' := 128) (v := nI (0)) hr.2.2.1 fl_M_161 hm.1 rfl d_M_readPlain_125 rfl ?_
            refine cn_if_eq_n (tgt := 139) (pc' := 131) (by omega) d_M_readPlain_128 (by decide) rfl (fun hc128 => ?_) (fun hc128 => ?_)
            · refine cn_iconst (pc' := 140) k_c_0 d_M_readPlain_139 rfl ?_
              refine cn_putI (pc' := 143) fl_M_161 hm.1 rfl rfl rfl rfl d_M_readPlain_140 rfl ?_
              refine cn_vret rfl d_M_readPlain_143 ?_
              exact K0 e _ _ _ (hr.congr (mw_o (by omega)) (mw_o (by omega)) (mw_e.trans hr.2.2.1.symm) (fun j => mw_o (by omega))) (hv.congr (mw_o (by omega)) (fun j => mw_o (by omega))) (fun a k x y => mw_o (by omega))
            · exact False.elim (by omega)
          · exact False.elim (by omega)
        · exact False.elim (by omega)
    · exact False.elim (by omega)
end
