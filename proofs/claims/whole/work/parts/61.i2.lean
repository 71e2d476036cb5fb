def s0 : sSt := ([(-1, -1, [])], [], ([], nI 0), (true, false, 0, none, []), (-1, []))
def iX (S : cn_S) (I : cn_I) (P : cn_P) : Prop := cn_ob S 0 8 ∧ (P 0 0 = some 1 ∧ P 0 2 = some 2 ∧ P 0 4 = some 3 ∧ P 0 5 = some 14 ∧ P 0 6 = some 18 ∧ P 0 8 = some 20 ∧ P 0 9 = some 22) ∧ cn_ar S 1 3 16 ∧ cn_ar S 2 4 6 ∧ (yh S P 3 ∧ yk I P 3 [] (fun j => j) ∧ I 3 2 = 0) ∧ (yc S P 14 ∧ chs I 14 (true, false, 0, none, [])) ∧ (yb S P 18 195 ∧ ys I 18 []) ∧ (yb S P 20 61 ∧ ys I 20 []) ∧ cn_ar S 22 0 4 ∧ I 0 = (fun _ => 0)
theorem yh.ext {S S' : cn_S} {P P' : cn_P} {a : Nat} (h : yh S P a) (hx : ext S S') (hP : ∀ b, a ≤ b → b < a + 11 → P' b = P b) : yh S' P' a :=
  ⟨h.1.ext hx, by rw [hP a (by omega) (by omega)]; exact h.2.1, h.2.2.1.ext hx, fun q hq => ⟨(h.2.2.2 q hq).1.ext hx, by rw [hP _ (by omega) (by omega)]; exact (h.2.2.2 q hq).2.1, (h.2.2.2 q hq).2.2.ext hx (hP _ (by omega) (by omega))⟩⟩
theorem yc.ext {S S' : cn_S} {P P' : cn_P} {a : Nat} (h : yc S P a) (hx : ext S S') (hP : ∀ b, a ≤ b → b < a + 4 → P' b = P b) : yc S' P' a :=
  ⟨h.1.ext hx, by rw [hP a (by omega) (by omega)]; exact h.2.1, h.2.2.1.ext hx, by rw [hP _ (by omega) (by omega)]; exact h.2.2.2.1, h.2.2.2.2.ext hx (hP _ (by omega) (by omega))⟩
theorem yn.ext {S S' : cn_S} {P P' : cn_P} {a : Nat} (h : yn S P a) (hx : ext S S') (hP : ∀ b, a ≤ b → b < a + 3 → P' b = P b) : yn S' P' a :=
  ⟨h.1.ext hx, by rw [hP a (by omega) (by omega)]; exact h.2.1, h.2.2.ext hx (hP _ (by omega) (by omega))⟩
theorem yi.ext {S S' : cn_S} {P P' : cn_P} {a : Nat} (h : yi S P a) (hx : ext S S') (hP : ∀ b, a ≤ b → b < a + 14 → P' b = P b) : yi S' P' a :=
  ⟨h.1.ext hx, by rw [hP a (by omega) (by omega)]; exact h.2.1, h.2.2.1.ext hx, fun q hq => ⟨(h.2.2.2 q hq).1.ext hx, by rw [hP _ (by omega) (by omega)]; exact (h.2.2.2 q hq).2.1, (h.2.2.2 q hq).2.2.ext hx (hP _ (by omega) (by omega))⟩⟩
theorem iX.ext {S S' : cn_S} {I I' : cn_I} {P P' : cn_P} (h : iX S I P) (hx : ext S S') (hI : ∀ b, b < 23 → I' b = I b) (hP : ∀ b, b < 23 → b ≠ 1 → b ≠ 2 → P' b = P b) : iX S' I' P' := by
  obtain ⟨h1, h2, h3, h4, ⟨h5, h6, h7⟩, ⟨h8, h9⟩, ⟨h10, h11⟩, ⟨h12, h13⟩, h14, h15⟩ := h
  have e0 := hP 0 (by omega) (by omega) (by omega)
  exact ⟨h1.ext hx, by rw [e0]; exact h2, h3.ext hx, h4.ext hx, ⟨h5.ext hx (fun b x y => hP b (by omega) (by omega) (by omega)), h6.congr (fun b x y => hI b (by omega)) (hP _ (by omega) (by omega) (by omega)), by rw [hI 3 (by omega)]; exact h7⟩, ⟨h8.ext hx (fun b x y => hP b (by omega) (by omega) (by omega)), h9.congr (hI _ (by omega)) (hI _ (by omega)) (hI _ (by omega))⟩, ⟨h10.ext hx (hP _ (by omega) (by omega) (by omega)), h11.congr (hI _ (by omega)) (hI _ (by omega))⟩, ⟨h12.ext hx (hP _ (by omega) (by omega) (by omega)), h13.congr (hI _ (by omega)) (hI _ (by omega))⟩, h14.ext hx, by rw [hI 0 (by omega)]; exact h15⟩
def iN (S : cn_S) (I : cn_I) (P : cn_P) (n : Nat) : Prop := ∀ q, q < n → P 1 q = some (23 + 3 * q) ∧ yn S P (23 + 3 * q) ∧ ys I (24 + 3 * q) []
def iI (S : cn_S) (P : cn_P) (n : Nat) : Prop := ∀ q, q < n → P 2 q = some (71 + 14 * q) ∧ yi S P (71 + 14 * q) ∧ ypm P (72 + 14 * q) (73 + 14 * q) 4 (fun j => j)
section
variable {l : Launch} {en : cn_E} {d : Nat} {S : cn_S} {I : cn_I} {P : cn_P} {Q : Option Value → cn_S → cn_I → cn_P → Prop}
theorem i_X_80 (hd1 : 4 ≤ d) (S0 : cn_S) (K : ∀ (S' : cn_S) (I' : cn_I) (P' : cn_P), S'.1 = 71 → iX S' I' P' → iN S' I' P' 16 → cn_V l en mi_X_init d 84 1614 S' I' P' Q 105 [(0, .ref 0), (1, .int (nI 16))] []) : ∀ (r i : Nat) (S : cn_S) (I : cn_I) (P : cn_P), i + r = 16 → S.1 = 23 + 3 * i → iX S I P → iN S I P i → cn_V l en mi_X_init d (84 + 3 * r) (1614 + 66 * r) S I P Q 80 [(0, .ref 0), (1, .int (nI i))] [] := by
  intro r
  induction r with
  | zero =>
    intro i S I P hir hS hiX hiN
    refine cn_iload_n (pc' := 81) (k := 1) rfl rfl d_X_init_80 rfl ?_
    refine cn_bipush (pc' := 83) k_b_16 d_X_init_81 rfl ?_
    refine cn_icmp_ge_n (tgt := 105) (pc' := 86) (by omega) (by omega) d_X_init_83 (by decide) rfl (fun hc83 => ?_) (fun hc83 => ?_)
    · obtain rfl : i = 16 := by omega
      exact K S I P hS hiX hiN
    · exact absurd hc83 (by omega)
  | succ r ih =>
    intro i S I P hir hS hiX hiN
    refine cn_iload_n (pc' := 81) (k := 1) rfl rfl d_X_init_80 rfl ?_
    refine cn_bipush (pc' := 83) k_b_16 d_X_init_81 rfl ?_
    refine cn_icmp_ge_n (tgt := 105) (pc' := 86) (by omega) (by omega) d_X_init_83 (by decide) rfl (fun hc83 => ?_) (fun hc83 => ?_)
    · exact absurd hc83 (by omega)
    · refine cn_aload_n (pc' := 87) (k := 0) rfl rfl d_X_init_86 rfl ?_
      refine cn_getP (pc' := 90) (b := 1) hiX.2.1.1 fl_X_11 hiX.1 rfl d_X_init_87 rfl ?_
      refine cn_iload_n (pc' := 91) (k := 1) rfl rfl d_X_init_90 rfl ?_
      refine ci_new (pc' := 94) (N := 23 + 3 * i) (kc' := 84 + 3 * r + 2) (ks' := 1614 + 66 * r + 63) (by omega) (by omega) nw_X_9 (by decide) (by first | omega | decide) (by first | (show _ + 3 ≤ _; omega) | decide) d_X_init_91 rfl (fun S1 I1 P1 hn1 hx1 ho1 hz1 hI1 hP1 => ?_)
      refine cn_dup (pc' := 95) rfl d_X_init_94 rfl ?_
      refine cn_callI (pc' := 98) (kc1 := 2) (ks1 := 63) (kc2 := 84 + 3 * r + 0) (ks2 := 1614 + 66 * r + 0) (a := 23 + 3 * i) (rest := [.ref (23 + 3 * i), .int (nI (i)), .ref 1]) (lvj := [(0, .ref (23 + 3 * i))]) [] mn_X_51 (by omega) rfl rfl rfl (Nat.le_of_ble_eq_true rfl) (Nat.le_of_ble_eq_true rfl) (by omega) (by first | omega | decide) (by first | omega | decide) d_X_init_95 rfl ?_
      refine i_No (a := 23 + 3 * i) (by omega) (by omega) ho1 hz1 (by omega) (fun S2 I2 P2 hn2 hx2 hI2 hP2 hyn hys => ?_)
      have hx := hx1.tr hx2
      have hPa : ∀ b, b < 23 + 3 * i → P2 b = P b := fun b hb => (hP2 b (by omega)).trans (hP1 b (by omega))
      have hIa : ∀ b, b < 23 + 3 * i → I2 b = I b := fun b hb => (hI2 b (by omega)).trans (hI1 b (by omega))
      show cn_V l en mi_X_init d (84 + 3 * r + 0) (1614 + 66 * r + 0) S2 I2 P2 Q 98 [(0, .ref 0), (1, .int (nI (i)))] [.ref (23 + 3 * i), .int (nI (i)), .ref 1]
      refine cn_aast (pc' := 99) (hiX.2.2.1.ext hx) (by decide) (by decide) hyn.1 rfl rfl (by omega) (by decide) d_X_init_98 rfl ?_
      refine cn_iinc_n (pc' := 102) (lv' := [(0, .ref 0), (1, .int (nI (i + 1)))]) (k := 1) [1, 0] rfl (Nat.le_of_ble_eq_true rfl) rfl d_X_init_99 rfl ?_
      refine cn_goto (tgt := 80) d_X_init_102 (by decide) ?_
      show cn_V l en mi_X_init d (84 + 3 * r) (1614 + 66 * r) S2 I2 _ Q 80 _ _
      refine ih (i + 1) S2 I2 _ (by omega) (by omega) (hiX.ext hx (fun b hb => hIa b (by omega)) (fun b hb h1 h2 => by rw [cn_wp_ne (by omega)]; exact hPa b (by omega))) (fun q hq => ?_)
      by_cases e : q = i
      · subst e
        rw [show 23 + 3 * q + 1 = 24 + 3 * q by omega] at hys
        exact ⟨wp_e, hyn.ext ext.rf (fun b x y => cn_wp_ne (by omega)), hys⟩
      · obtain ⟨c1, c2, c3⟩ := hiN q (by omega)
        exact ⟨by rw [wp_o (by omega), hPa 1 (by omega)]; exact c1, c2.ext hx (fun b x y => by rw [cn_wp_ne (by omega)]; exact hPa b (by omega)), c3.congr (hIa _ (by omega)) (hIa _ (by omega))⟩
theorem i_X_107 (hd1 : 4 ≤ d) (K : ∀ (S' : cn_S) (I' : cn_I) (P' : cn_P), S'.1 = 155 → iX S' I' P' → iN S' I' P' 16 → iI S' P' 6 → cn_V l en mi_X_init d 0 0 S' I' P' Q 132 [(0, .ref 0), (1, .int (nI 6))] []) : ∀ (r i : Nat) (S : cn_S) (I : cn_I) (P : cn_P), i + r = 6 → S.1 = 71 + 14 * i → iX S I P → iN S I P 16 → iI S P i → cn_V l en mi_X_init d (0 + 14 * r) (0 + 269 * r) S I P Q 107 [(0, .ref 0), (1, .int (nI i))] [] := by
  intro r
  induction r with
  | zero =>
    intro i S I P hir hS hiX hiN hiI
    refine cn_iload_n (pc' := 108) (k := 1) rfl rfl d_X_init_107 rfl ?_
    refine cn_bipush (pc' := 110) k_b_6 d_X_init_108 rfl ?_
    refine cn_icmp_ge_n (tgt := 132) (pc' := 113) (by omega) (by omega) d_X_init_110 (by decide) rfl (fun hc110 => ?_) (fun hc110 => ?_)
    · obtain rfl : i = 6 := by omega
      exact K S I P hS hiX hiN hiI
    · exact absurd hc110 (by omega)
  | succ r ih =>
    intro i S I P hir hS hiX hiN hiI
    refine cn_iload_n (pc' := 108) (k := 1) rfl rfl d_X_init_107 rfl ?_
    refine cn_bipush (pc' := 110) k_b_6 d_X_init_108 rfl ?_
    refine cn_icmp_ge_n (tgt := 132) (pc' := 113) (by omega) (by omega) d_X_init_110 (by decide) rfl (fun hc110 => ?_) (fun hc110 => ?_)
    · exact absurd hc110 (by omega)
    · refine cn_aload_n (pc' := 114) (k := 0) rfl rfl d_X_init_113 rfl ?_
      refine cn_getP (pc' := 117) (b := 2) hiX.2.1.2.1 fl_X_17 hiX.1 rfl d_X_init_114 rfl ?_
      refine cn_iload_n (pc' := 118) (k := 1) rfl rfl d_X_init_117 rfl ?_
      refine ci_new (pc' := 121) (N := 71 + 14 * i) (kc' := 0 + 14 * r + 13) (ks' := 0 + 269 * r + 264) (by omega) (by omega) nw_X_15 (by decide) (by first | omega | decide) (by first | (show _ + 5 ≤ _; omega) | decide) d_X_init_118 rfl (fun S1 I1 P1 hn1 hx1 ho1 hz1 hI1 hP1 => ?_)
      refine cn_dup (pc' := 122) rfl d_X_init_121 rfl ?_
      refine cn_callI (pc' := 125) (kc1 := 13) (ks1 := 264) (kc2 := 0 + 14 * r + 0) (ks2 := 0 + 269 * r + 0) (a := 71 + 14 * i) (rest := [.ref (71 + 14 * i), .int (nI (i)), .ref 2]) (lvj := [(0, .ref (71 + 14 * i))]) [] mn_X_52 (by omega) rfl rfl rfl (Nat.le_of_ble_eq_true rfl) (Nat.le_of_ble_eq_true rfl) (by omega) (by first | omega | decide) (by first | omega | decide) d_X_init_122 rfl ?_
      refine i_It (a := 71 + 14 * i) (by omega) (by omega) ho1 hz1 (by omega) (fun S2 I2 P2 hn2 hx2 hI2 hP2 hyi hpm => ?_)
      have hx := hx1.tr hx2
      have hPa : ∀ b, b < 71 + 14 * i → P2 b = P b := fun b hb => (hP2 b (by omega)).trans (hP1 b (by omega))
      have hIa : ∀ b, b < 71 + 14 * i → I2 b = I b := fun b hb => (hI2 b (by omega)).trans (hI1 b (by omega))
      show cn_V l en mi_X_init d (0 + 14 * r + 0) (0 + 269 * r + 0) S2 I2 P2 Q 125 [(0, .ref 0), (1, .int (nI (i)))] [.ref (71 + 14 * i), .int (nI (i)), .ref 2]
      refine cn_aast (pc' := 126) (hiX.2.2.2.1.ext hx) (by decide) (by decide) hyi.1 rfl rfl (by omega) (by decide) d_X_init_125 rfl ?_
      refine cn_iinc_n (pc' := 129) (lv' := [(0, .ref 0), (1, .int (nI (i + 1)))]) (k := 1) [1, 0] rfl (Nat.le_of_ble_eq_true rfl) rfl d_X_init_126 rfl ?_
      refine cn_goto (tgt := 107) d_X_init_129 (by decide) ?_
      show cn_V l en mi_X_init d (0 + 14 * r) (0 + 269 * r) S2 I2 _ Q 107 _ _
      refine ih (i + 1) S2 I2 _ (by omega) (by omega) (hiX.ext hx (fun b hb => hIa b (by omega)) (fun b hb h1 h2 => by rw [cn_wp_ne (by omega)]; exact hPa b (by omega))) (fun q hq => ?_) (fun q hq => ?_)
      · obtain ⟨c1, c2, c3⟩ := hiN q hq
        exact ⟨by rw [wp_o (by omega), hPa 1 (by omega)]; exact c1, c2.ext hx (fun b x y => by rw [cn_wp_ne (by omega)]; exact hPa b (by omega)), c3.congr (hIa _ (by omega)) (hIa _ (by omega))⟩
      by_cases e : q = i
      · subst e
        rw [show 71 + 14 * q + 1 = 72 + 14 * q by omega, show 71 + 14 * q + 2 = 73 + 14 * q by omega] at hpm
        exact ⟨wp_e, hyi.ext ext.rf (fun b x y => cn_wp_ne (by omega)), hpm.1, hpm.2.1, fun j hj => by rw [cn_wp_ne (by omega)]; exact hpm.2.2 j hj⟩
      · obtain ⟨c1, c2, c3⟩ := hiI q (by omega)
        exact ⟨by rw [wp_o (by omega), hPa 2 (by omega)]; exact c1, c2.ext hx (fun b x y => by rw [cn_wp_ne (by omega)]; exact hPa b (by omega)), c3.1, c3.2.1, fun j hj => by rw [cn_wp_ne (by omega), hPa _ (by omega)]; exact c3.2.2 j hj⟩
theorem i_X (hS : S.1 = 1) (ho : cn_ob S 0 8) (hz : I 0 = fun _ => 0) (hd1 : 5 ≤ d) (K : ∀ (S' : cn_S) (I' : cn_I) (P' : cn_P), S'.1 = 155 → RC S' I' P' s0 → Q none S' I' P') : cn_V l en mi_X_init d 154 3632 S I P Q 0 [(0, .ref 0)] [] := by
  refine cn_aload_n (pc' := 1) (k := 0) rfl rfl d_X_init_0 rfl ?_
  refine cn_objInit (pc' := 4) w_obj_X w_oi w_oc (by omega) (Nat.le_of_ble_eq_true rfl) d_X_init_1 rfl ?_
  refine cn_aload_n (pc' := 5) (k := 0) rfl rfl d_X_init_4 rfl ?_
  refine cn_bipush (pc' := 7) k_b_16 d_X_init_5 rfl ?_
  refine ci_newq (pc' := 10) (t := 3) (n := 16) (E := "ChunkedNodes$Node") (N := 1) (kc' := 153) (ks' := 3616) (by omega) (by omega) (by decide) (by decide) rfl (by decide) w_cl_X_9 (by first | omega | decide) (by first | omega | decide) (by first | omega | decide) d_X_init_7 rfl (fun S1 I1 P1 hn1 hx1 ho1 hz1 hI1 hP1 => ?_)
  refine cn_putF (pc' := 13) cn_ok_X (by decide) ff_X_11 rfl (ho.ext hx1) (by omega) rfl rfl rfl (fun _ => rfl) (fun _ => rfl) d_X_init_10 rfl ?_
  refine cn_aload_n (pc' := 14) (k := 0) rfl rfl d_X_init_13 rfl ?_
  refine cn_bipush (pc' := 16) k_b_6 d_X_init_14 rfl ?_
  refine ci_newq (pc' := 19) (t := 4) (n := 6) (E := "ChunkedNodes$Item") (N := 2) (kc' := 152) (ks' := 3610) (by omega) (by omega) (by decide) (by decide) rfl (by decide) w_cl_X_15 (by first | omega | decide) (by first | omega | decide) (by first | omega | decide) d_X_init_16 rfl (fun S2 I2 P2 hn2 hx2 ho2 hz2 hI2 hP2 => ?_)
  refine cn_putF (pc' := 22) cn_ok_X (by decide) ff_X_17 rfl (ho.ext (hx1.tr hx2)) (by omega) rfl rfl rfl (fun _ => rfl) (fun _ => rfl) d_X_init_19 rfl ?_
  refine cn_aload_n (pc' := 23) (k := 0) rfl rfl d_X_init_22 rfl ?_
  refine ci_new (pc' := 26) (N := 3) (kc' := 151) (ks' := 3607) (by omega) (by omega) nw_X_21 (by decide) (by first | omega | decide) (by first | (show _ + 3 ≤ _; omega) | decide) d_X_init_23 rfl (fun S3 I3 P3 hn3 hx3 ho3 hz3 hI3 hP3 => ?_)
  refine cn_dup (pc' := 27) rfl d_X_init_26 rfl ?_
  refine cn_callI (pc' := 30) (kc1 := 10) (ks1 := 597) (kc2 := 141) (ks2 := 3010) (a := 3) (rest := [.ref 3, .ref 0]) (lvj := [(0, .ref 3)]) [] mn_X_23 (by omega) rfl rfl rfl (Nat.le_of_ble_eq_true rfl) (Nat.le_of_ble_eq_true rfl) (by omega) (by first | omega | decide) (by first | omega | decide) d_X_init_27 rfl ?_
  refine i_Sf (a := 3) (by omega) (by omega) ho3 hz3 (by omega) (fun S4 I4 P4 hn4 hx4 hI4 hP4 q4a q4b q4c => ?_)
  show cn_V l en mi_X_init d 141 3010 S4 I4 P4 Q 30 [(0, .ref 0)] [.ref 3, .ref 0]
  refine cn_putF (pc' := 33) cn_ok_X (by decide) ff_X_24 rfl (ho.ext (hx1.tr (hx2.tr (hx3.tr hx4)))) (by omega) rfl rfl rfl (fun _ => rfl) (fun _ => rfl) d_X_init_30 rfl ?_
  refine cn_aload_n (pc' := 34) (k := 0) rfl rfl d_X_init_33 rfl ?_
  refine ci_new (pc' := 37) (N := 14) (kc' := 140) (ks' := 3003) (by omega) (by omega) nw_X_28 (by decide) (by first | omega | decide) (by first | (show _ + 7 ≤ _; omega) | decide) d_X_init_34 rfl (fun S5 I5 P5 hn5 hx5 ho5 hz5 hI5 hP5 => ?_)
  refine cn_dup (pc' := 38) rfl d_X_init_37 rfl ?_
  refine cn_callI (pc' := 41) (kc1 := 3) (ks1 := 69) (kc2 := 137) (ks2 := 2934) (a := 14) (rest := [.ref 14, .ref 0]) (lvj := [(0, .ref 14)]) [] mn_X_30 (by omega) rfl rfl rfl (Nat.le_of_ble_eq_true rfl) (Nat.le_of_ble_eq_true rfl) (by omega) (by first | omega | decide) (by first | omega | decide) d_X_init_38 rfl ?_
  refine i_Ch (a := 14) (by omega) (by omega) ho5 hz5 (by omega) (fun S6 I6 P6 hn6 hx6 hI6 hP6 q6a q6b => ?_)
  show cn_V l en mi_X_init d 137 2934 S6 I6 P6 Q 41 [(0, .ref 0)] [.ref 14, .ref 0]
  refine cn_putF (pc' := 44) cn_ok_X (by decide) ff_X_31 rfl (ho.ext (hx1.tr (hx2.tr (hx3.tr (hx4.tr (hx5.tr hx6)))))) (by omega) rfl rfl rfl (fun _ => rfl) (fun _ => rfl) d_X_init_41 rfl ?_
  refine cn_aload_n (pc' := 45) (k := 0) rfl rfl d_X_init_44 rfl ?_
  refine ci_new (pc' := 48) (N := 18) (kc' := 136) (ks' := 2932) (by omega) (by omega) nw_X_35 (by decide) (by first | omega | decide) (by first | (show _ + 2 ≤ _; omega) | decide) d_X_init_45 rfl (fun S7 I7 P7 hn7 hx7 ho7 hz7 hI7 hP7 => ?_)
  refine cn_dup (pc' := 49) rfl d_X_init_48 rfl ?_
  refine cn_sipush (pc' := 52) k_s_195 d_X_init_49 rfl ?_
  refine cn_callI (pc' := 55) (kc1 := 1) (ks1 := 195) (kc2 := 135) (ks2 := 2737) (a := 18) (rest := [.ref 18, .ref 0]) (lvj := [(0, .ref 18), (1, .int (nI (195)))]) [.int (nI (195))] mn_X_37 (by omega) rfl rfl rfl (Nat.le_of_ble_eq_true rfl) (Nat.le_of_ble_eq_true rfl) (by omega) (by first | omega | decide) (by first | omega | decide) d_X_init_52 rfl ?_
  refine i_By (a := 18) (n := 195) (by decide) (by omega) (by omega) ho7 hz7 (by omega) (fun S8 I8 P8 hn8 hx8 hI8 hP8 q8a q8b => ?_)
  show cn_V l en mi_X_init d 135 2737 S8 I8 P8 Q 55 [(0, .ref 0)] [.ref 18, .ref 0]
  refine cn_putF (pc' := 58) cn_ok_X (by decide) ff_X_40 rfl (ho.ext (hx1.tr (hx2.tr (hx3.tr (hx4.tr (hx5.tr (hx6.tr (hx7.tr hx8)))))))) (by omega) rfl rfl rfl (fun _ => rfl) (fun _ => rfl) d_X_init_55 rfl ?_
  refine cn_aload_n (pc' := 59) (k := 0) rfl rfl d_X_init_58 rfl ?_
  refine ci_new (pc' := 62) (N := 20) (kc' := 134) (ks' := 2735) (by omega) (by omega) nw_X_35 (by decide) (by first | omega | decide) (by first | (show _ + 2 ≤ _; omega) | decide) d_X_init_59 rfl (fun S9 I9 P9 hn9 hx9 ho9 hz9 hI9 hP9 => ?_)
  refine cn_dup (pc' := 63) rfl d_X_init_62 rfl ?_
  refine cn_bipush (pc' := 65) k_b_61 d_X_init_63 rfl ?_
  refine cn_callI (pc' := 68) (kc1 := 1) (ks1 := 61) (kc2 := 133) (ks2 := 2674) (a := 20) (rest := [.ref 20, .ref 0]) (lvj := [(0, .ref 20), (1, .int (nI (61)))]) [.int (nI (61))] mn_X_37 (by omega) rfl rfl rfl (Nat.le_of_ble_eq_true rfl) (Nat.le_of_ble_eq_true rfl) (by omega) (by first | omega | decide) (by first | omega | decide) d_X_init_65 rfl ?_
  refine i_By (a := 20) (n := 61) (by decide) (by omega) (by omega) ho9 hz9 (by omega) (fun S10 I10 P10 hn10 hx10 hI10 hP10 q10a q10b => ?_)
  show cn_V l en mi_X_init d 133 2674 S10 I10 P10 Q 68 [(0, .ref 0)] [.ref 20, .ref 0]
  refine cn_putF (pc' := 71) cn_ok_X (by decide) ff_X_44 rfl (ho.ext (hx1.tr (hx2.tr (hx3.tr (hx4.tr (hx5.tr (hx6.tr (hx7.tr (hx8.tr (hx9.tr hx10)))))))))) (by omega) rfl rfl rfl (fun _ => rfl) (fun _ => rfl) d_X_init_68 rfl ?_
  refine cn_aload_n (pc' := 72) (k := 0) rfl rfl d_X_init_71 rfl ?_
  refine cn_iconst (pc' := 73) k_c_4 d_X_init_72 rfl ?_
  refine ci_newa (pc' := 75) (t := 0) (n := 4) (atype := .int) (N := 22) (kc' := 132) (ks' := 2670) (by omega) (by omega) (by decide) rfl w_ac_0 rfl (fun _ _ h => h) (by decide) (by first | omega | decide) (by first | omega | decide) (by first | omega | decide) d_X_init_73 rfl (fun S11 I11 P11 hn11 hx11 ho11 hz11 hI11 hP11 => ?_)
  refine cn_putF (pc' := 78) cn_ok_X (by decide) ff_X_47 rfl (ho.ext (hx1.tr (hx2.tr (hx3.tr (hx4.tr (hx5.tr (hx6.tr (hx7.tr (hx8.tr (hx9.tr (hx10.tr hx11))))))))))) (by omega) rfl rfl rfl (fun _ => rfl) (fun _ => rfl) d_X_init_75 rfl ?_
  refine cn_iconst (pc' := 79) k_c_0 d_X_init_78 rfl ?_
  refine cn_istore_n (pc' := 80) (lv' := [(0, .ref 0), (1, .int (nI (0)))]) rfl [1, 0] (Nat.le_of_ble_eq_true rfl) rfl d_X_init_79 rfl ?_
  have hiX : iX S11 I11 (cn_wp P11 0 9 (some 22)) := by
    refine ⟨ho.ext (hx1.tr (hx2.tr (hx3.tr (hx4.tr (hx5.tr (hx6.tr (hx7.tr (hx8.tr (hx9.tr (hx10.tr hx11)))))))))), ⟨by rw [wp_o (by omega), hP11 0 (by omega), wp_o (by omega), hP10 0 (by omega), hP9 0 (by omega), wp_o (by omega), hP8 0 (by omega), hP7 0 (by omega), wp_o (by omega), hP6 0 (by omega), hP5 0 (by omega), wp_o (by omega), hP4 0 (by omega), hP3 0 (by omega), wp_o (by omega), hP2 0 (by omega)]; exact wp_e, by rw [wp_o (by omega), hP11 0 (by omega), wp_o (by omega), hP10 0 (by omega), hP9 0 (by omega), wp_o (by omega), hP8 0 (by omega), hP7 0 (by omega), wp_o (by omega), hP6 0 (by omega), hP5 0 (by omega), wp_o (by omega), hP4 0 (by omega), hP3 0 (by omega)]; exact wp_e, by rw [wp_o (by omega), hP11 0 (by omega), wp_o (by omega), hP10 0 (by omega), hP9 0 (by omega), wp_o (by omega), hP8 0 (by omega), hP7 0 (by omega), wp_o (by omega), hP6 0 (by omega), hP5 0 (by omega)]; exact wp_e, by rw [wp_o (by omega), hP11 0 (by omega), wp_o (by omega), hP10 0 (by omega), hP9 0 (by omega), wp_o (by omega), hP8 0 (by omega), hP7 0 (by omega)]; exact wp_e, by rw [wp_o (by omega), hP11 0 (by omega), wp_o (by omega), hP10 0 (by omega), hP9 0 (by omega)]; exact wp_e, by rw [wp_o (by omega), hP11 0 (by omega)]; exact wp_e, wp_e⟩, ho1.ext (hx2.tr (hx3.tr (hx4.tr (hx5.tr (hx6.tr (hx7.tr (hx8.tr (hx9.tr (hx10.tr hx11))))))))), ho2.ext (hx3.tr (hx4.tr (hx5.tr (hx6.tr (hx7.tr (hx8.tr (hx9.tr (hx10.tr hx11)))))))), ⟨?_, ?_, ?_⟩, ⟨?_, ?_⟩, ⟨?_, ?_⟩, ⟨?_, ?_⟩, ho11, ?_⟩
    · exact q4a.ext (hx5.tr (hx6.tr (hx7.tr (hx8.tr (hx9.tr (hx10.tr hx11)))))) (fun b x y => by rw [cn_wp_ne (by omega), hP11 b (by omega), cn_wp_ne (by omega), hP10 b (by omega), hP9 b (by omega), cn_wp_ne (by omega), hP8 b (by omega), hP7 b (by omega), cn_wp_ne (by omega), hP6 b (by omega), hP5 b (by omega), cn_wp_ne (by omega)])
    · exact q4b.congr (fun b x y => by rw [hI11 b (by omega), hI10 b (by omega), hI9 b (by omega), hI8 b (by omega), hI7 b (by omega), hI6 b (by omega), hI5 b (by omega)]) (by rw [cn_wp_ne (by omega), hP11 4 (by omega), cn_wp_ne (by omega), hP10 4 (by omega), hP9 4 (by omega), cn_wp_ne (by omega), hP8 4 (by omega), hP7 4 (by omega), cn_wp_ne (by omega), hP6 4 (by omega), hP5 4 (by omega), cn_wp_ne (by omega)])
    · rw [hI11 3 (by omega), hI10 3 (by omega), hI9 3 (by omega), hI8 3 (by omega), hI7 3 (by omega), hI6 3 (by omega), hI5 3 (by omega)]; exact q4c
    · exact q6a.ext (hx7.tr (hx8.tr (hx9.tr (hx10.tr hx11)))) (fun b x y => by rw [cn_wp_ne (by omega), hP11 b (by omega), cn_wp_ne (by omega), hP10 b (by omega), hP9 b (by omega), cn_wp_ne (by omega), hP8 b (by omega), hP7 b (by omega), cn_wp_ne (by omega)])
    · exact q6b.congr (by rw [hI11 14 (by omega), hI10 14 (by omega), hI9 14 (by omega), hI8 14 (by omega), hI7 14 (by omega)]) (by rw [hI11 16 (by omega), hI10 16 (by omega), hI9 16 (by omega), hI8 16 (by omega), hI7 16 (by omega)]) (by rw [hI11 17 (by omega), hI10 17 (by omega), hI9 17 (by omega), hI8 17 (by omega), hI7 17 (by omega)])
    · exact q8a.ext (hx9.tr (hx10.tr hx11)) (by rw [cn_wp_ne (by omega), hP11 18 (by omega), cn_wp_ne (by omega), hP10 18 (by omega), hP9 18 (by omega), cn_wp_ne (by omega)])
    · exact q8b.congr (by rw [hI11 18 (by omega), hI10 18 (by omega), hI9 18 (by omega)]) (by rw [hI11 19 (by omega), hI10 19 (by omega), hI9 19 (by omega)])
    · exact q10a.ext hx11 (by rw [cn_wp_ne (by omega), hP11 20 (by omega), cn_wp_ne (by omega)])
    · exact q10b.congr (by rw [hI11 20 (by omega)]) (by rw [hI11 21 (by omega)])
    · rw [hI11 0 (by omega), hI10 0 (by omega), hI9 0 (by omega), hI8 0 (by omega), hI7 0 (by omega), hI6 0 (by omega), hI5 0 (by omega), hI4 0 (by omega), hI3 0 (by omega), hI2 0 (by omega), hI1 0 (by omega)]; exact hz
  show cn_V l en mi_X_init d (84 + 3 * 16) (1614 + 66 * 16) S11 I11 _ Q 80 _ _
  refine i_X_80 (by omega) S11 (fun S20 I20 P20 hn20 hiX20 hiN20 => ?_) 16 0 S11 I11 _ (by omega) (by omega) hiX (fun q hq => absurd hq (Nat.not_lt_zero q))
  refine cn_iconst (pc' := 106) k_c_0 d_X_init_105 rfl ?_
  refine cn_istore_n (pc' := 107) (lv' := [(0, .ref 0), (1, .int (nI (0)))]) rfl [1, 0] (Nat.le_of_ble_eq_true rfl) rfl d_X_init_106 rfl ?_
  show cn_V l en mi_X_init d (0 + 14 * 6) (0 + 269 * 6) S20 I20 P20 Q 107 _ _
  refine i_X_107 (by omega) (fun S21 I21 P21 hn21 hiX21 hiN21 hiI21 => ?_) 6 0 S20 I20 P20 (by omega) (by omega) hiX20 hiN20 (fun q hq => absurd hq (Nat.not_lt_zero q))
  refine cn_aload_n (pc' := 133) (k := 0) rfl rfl d_X_init_132 rfl ?_
  refine cn_getP (pc' := 136) (b := 1) hiX21.2.1.1 fl_X_11 hiX21.1 rfl d_X_init_133 rfl ?_
  refine cn_iconst (pc' := 137) k_c_0 d_X_init_136 rfl ?_
  refine cn_aald (pc' := 138) (b := 23) hiX21.2.2.1 (by decide) (by decide) rfl (by omega) (by decide) (hiN21 0 (by decide)).1 d_X_init_137 rfl ?_
  refine cn_iconst (pc' := 139) k_c_m1 d_X_init_138 rfl ?_
  refine cn_iconst (pc' := 140) k_c_m1 d_X_init_139 rfl ?_
  refine cn_callV (pc' := 143) (kc1 := 0) (ks1 := 0) (kc2 := 0) (ks2 := 0) (rest := []) (lvj := [(0, .ref 23), (1, .int (-1)), (2, .int (-1))]) [.int (-1), .int (-1)] mv_X_53 (hiN21 0 (by decide)).2.1.1 rfl rfl rfl (Nat.le_of_ble_eq_true rfl) (Nat.le_of_ble_eq_true rfl) (by omega) (by omega) (by omega) d_X_init_140 rfl ?_
  refine c_No_become_f (a := 23) (hiN21 0 (by decide)).2.1 ?_
  show cn_V l en mi_X_init d 0 0 S21 ((cn_wi (cn_wi I21 23 0 (-1)) 23 1 (-1))) P21 Q 143 [(0, .ref 0), (1, .int (nI (6)))] []
  refine cn_aload_n (pc' := 144) (k := 0) rfl rfl d_X_init_143 rfl ?_
  refine cn_iconst (pc' := 145) k_c_1 d_X_init_144 rfl ?_
  refine cn_putI (pc' := 148) fl_X_57 hiX21.1 rfl rfl rfl rfl d_X_init_145 rfl ?_
  refine cn_aload_n (pc' := 149) (k := 0) rfl rfl d_X_init_148 rfl ?_
  refine cn_iconst (pc' := 150) k_c_m1 d_X_init_149 rfl ?_
  refine cn_putI (pc' := 153) fl_X_61 hiX21.1 rfl rfl rfl rfl d_X_init_150 rfl ?_
  refine cn_vret rfl d_X_init_153 ?_
  obtain ⟨h1, h2, h3, h4, ⟨h5, h6, h7⟩, ⟨h8, h9⟩, ⟨h10, h11⟩, ⟨h12, h13⟩, h14, h15⟩ := hiX21
  have hrow : ∀ b, b ≠ 0 → b ≠ 23 → (cn_wi (cn_wi (cn_wi (cn_wi I21 23 0 (-1)) 23 1 (-1)) 0 1 (nI (1))) 0 7 (-1)) b = I21 b := fun b x y => by rw [cn_wi_ne x, cn_wi_ne x, cn_wi_ne y, cn_wi_ne y]
  refine K S21 _ P21 hn21 ⟨⟨h1, h2, ⟨h3, fun i hi => ⟨(hiN21 i hi).1, (hiN21 i hi).2.1⟩⟩, ⟨h4, fun i hi => ⟨(hiI21 i hi).1, (hiI21 i hi).2.1⟩⟩, h5, h8, h10, h12, h14⟩, ⟨?_, ?_, mw_e⟩, ⟨by decide, fun i hi => ?_, fun i hi1 hi2 => ?_⟩, ⟨Nat.zero_le _, fun i hi => ⟨_, (hiI21 i hi).2.2⟩, fun i hi => absurd hi (Nat.not_lt_zero i)⟩, ⟨⟨_, h6.congr (fun b x y => hrow b (by omega) (by omega)) rfl⟩, by rw [hrow 3 (by omega) (by omega)]; exact h7⟩, h9.congr (hrow _ (by omega) (by omega)) (hrow _ (by omega) (by omega)) (hrow _ (by omega) (by omega)), ⟨h11.congr (hrow _ (by omega) (by omega)) (hrow _ (by omega) (by omega)), Nat.zero_le _⟩, ⟨[], h13.congr (hrow _ (by omega) (by omega)) (hrow _ (by omega) (by omega)), Nat.zero_le _⟩⟩
  · exact mw_k (by decide) mw_e
  · exact mw_k (by decide) (mw_k (by decide) (mw_a (by decide) (mw_a (by decide) (by rw [h15]; rfl))))
  · have hi : i < 1 := hi
    obtain rfl : i = 0 := by omega
    exact ⟨mw_a (by decide) (mw_a (by decide) (mw_k (by decide) mw_e)), mw_a (by decide) (mw_a (by decide) mw_e), (hiN21 0 (by decide)).2.2.congr (hrow _ (by omega) (by omega)) (hrow _ (by omega) (by omega)), Nat.zero_le _⟩
  · have hi1 : 1 ≤ i := hi1
    exact (hiN21 i hi2).2.2.congr (hrow _ (by omega) (by omega)) (hrow _ (by omega) (by omega))
theorem i_M (hS : S.1 = 156) (ho : cn_ob S 155 9) (hz : I 155 = fun _ => 0) (hd1 : 1 ≤ d) (K : ∀ (S' : cn_S) (I' : cn_I) (P' : cn_P), S'.1 = 175 → ext S S' → RM S' I' P' 0 s0 → (∀ b, b < 155 → I' b = I b) → (∀ b, b < 155 → P' b = P b) → Q none S' I' P') : cn_V l en mi_M_init d 19 3634 S I P Q 0 [(0, .ref 155)] [] := by
  refine cn_aload_n (pc' := 1) (k := 0) rfl rfl d_M_init_0 rfl ?_
  refine cn_objInit (pc' := 4) w_obj_M w_oi w_oc (by omega) (Nat.le_of_ble_eq_true rfl) d_M_init_1 rfl ?_
  refine cn_aload_n (pc' := 5) (k := 0) rfl rfl d_M_init_4 rfl ?_
  refine cn_iconst (pc' := 6) k_c_1 d_M_init_5 rfl ?_
  refine cn_putI (pc' := 9) fl_M_7 ho rfl rfl rfl rfl d_M_init_6 rfl ?_
  refine cn_aload_n (pc' := 10) (k := 0) rfl rfl d_M_init_9 rfl ?_
  refine cn_bipush (pc' := 12) k_b_16 d_M_init_10 rfl ?_
  refine ci_newa (pc' := 14) (t := 0) (n := 16) (atype := .int) (N := 156) (kc' := 18) (ks' := 3618) (by omega) (by omega) (by decide) rfl w_ac_0 rfl (fun _ _ h => h) (by decide) (by first | omega | decide) (by first | omega | decide) (by first | omega | decide) d_M_init_12 rfl (fun S1 I1 P1 hn1 hx1 ho1 hz1 hI1 hP1 => ?_)
  refine cn_putP (pc' := 17) fl_M_13 (ho.ext hx1) (by omega) rfl rfl (fun _ => rfl) (fun _ => rfl) d_M_init_14 rfl ?_
  refine cn_aload_n (pc' := 18) (k := 0) rfl rfl d_M_init_17 rfl ?_
  refine cn_bipush (pc' := 20) k_b_16 d_M_init_18 rfl ?_
  refine ci_newa (pc' := 22) (t := 2) (n := 16) (atype := .boolean) (N := 157) (kc' := 17) (ks' := 3602) (by omega) (by omega) (by decide) rfl w_ac_2 rfl (fun _ _ h => h) (by decide) (by first | omega | decide) (by first | omega | decide) (by first | omega | decide) d_M_init_20 rfl (fun S2 I2 P2 hn2 hx2 ho2 hz2 hI2 hP2 => ?_)
  refine cn_putP (pc' := 25) fl_M_17 (ho.ext (hx1.tr hx2)) (by omega) rfl rfl (fun _ => rfl) (fun _ => rfl) d_M_init_22 rfl ?_
  refine cn_aload_n (pc' := 26) (k := 0) rfl rfl d_M_init_25 rfl ?_
  refine cn_bipush (pc' := 28) k_b_16 d_M_init_26 rfl ?_
  refine ci_newa (pc' := 30) (t := 0) (n := 16) (atype := .int) (N := 158) (kc' := 16) (ks' := 3586) (by omega) (by omega) (by decide) rfl w_ac_0 rfl (fun _ _ h => h) (by decide) (by first | omega | decide) (by first | omega | decide) (by first | omega | decide) d_M_init_28 rfl (fun S3 I3 P3 hn3 hx3 ho3 hz3 hI3 hP3 => ?_)
  refine cn_putP (pc' := 33) fl_M_21 (ho.ext (hx1.tr (hx2.tr hx3))) (by omega) rfl rfl (fun _ => rfl) (fun _ => rfl) d_M_init_30 rfl ?_
  refine cn_aload_n (pc' := 34) (k := 0) rfl rfl d_M_init_33 rfl ?_
  refine cn_bipush (pc' := 36) k_b_16 d_M_init_34 rfl ?_
  refine ci_newa (pc' := 38) (t := 0) (n := 16) (atype := .int) (N := 159) (kc' := 15) (ks' := 3570) (by omega) (by omega) (by decide) rfl w_ac_0 rfl (fun _ _ h => h) (by decide) (by first | omega | decide) (by first | omega | decide) (by first | omega | decide) d_M_init_36 rfl (fun S4 I4 P4 hn4 hx4 ho4 hz4 hI4 hP4 => ?_)
  refine cn_putP (pc' := 41) fl_M_24 (ho.ext (hx1.tr (hx2.tr (hx3.tr hx4)))) (by omega) rfl rfl (fun _ => rfl) (fun _ => rfl) d_M_init_38 rfl ?_
  refine cn_aload_n (pc' := 42) (k := 0) rfl rfl d_M_init_41 rfl ?_
  refine cn_sipush (pc' := 45) k_s_1024 d_M_init_42 rfl ?_
  refine ci_newa (pc' := 47) (t := 0) (n := 1024) (atype := .int) (N := 160) (kc' := 14) (ks' := 2546) (by omega) (by omega) (by decide) rfl w_ac_0 rfl (fun _ _ h => h) (by decide) (by first | omega | decide) (by first | omega | decide) (by first | omega | decide) d_M_init_45 rfl (fun S5 I5 P5 hn5 hx5 ho5 hz5 hI5 hP5 => ?_)
  refine cn_putP (pc' := 50) fl_M_27 (ho.ext (hx1.tr (hx2.tr (hx3.tr (hx4.tr hx5))))) (by omega) rfl rfl (fun _ => rfl) (fun _ => rfl) d_M_init_47 rfl ?_
  refine cn_aload_n (pc' := 51) (k := 0) rfl rfl d_M_init_50 rfl ?_
  refine cn_bipush (pc' := 53) k_b_6 d_M_init_51 rfl ?_
  refine ci_newa (pc' := 55) (t := 0) (n := 6) (atype := .int) (N := 161) (kc' := 13) (ks' := 2540) (by omega) (by omega) (by decide) rfl w_ac_0 rfl (fun _ _ h => h) (by decide) (by first | omega | decide) (by first | omega | decide) (by first | omega | decide) d_M_init_53 rfl (fun S6 I6 P6 hn6 hx6 ho6 hz6 hI6 hP6 => ?_)
  refine cn_putP (pc' := 58) fl_M_30 (ho.ext (hx1.tr (hx2.tr (hx3.tr (hx4.tr (hx5.tr hx6)))))) (by omega) rfl rfl (fun _ => rfl) (fun _ => rfl) d_M_init_55 rfl ?_
  refine cn_aload_n (pc' := 59) (k := 0) rfl rfl d_M_init_58 rfl ?_
  refine cn_bipush (pc' := 61) k_b_6 d_M_init_59 rfl ?_
  refine ci_newa (pc' := 63) (t := 0) (n := 6) (atype := .int) (N := 162) (kc' := 12) (ks' := 2534) (by omega) (by omega) (by decide) rfl w_ac_0 rfl (fun _ _ h => h) (by decide) (by first | omega | decide) (by first | omega | decide) (by first | omega | decide) d_M_init_61 rfl (fun S7 I7 P7 hn7 hx7 ho7 hz7 hI7 hP7 => ?_)
  refine cn_putP (pc' := 66) fl_M_33 (ho.ext (hx1.tr (hx2.tr (hx3.tr (hx4.tr (hx5.tr (hx6.tr hx7))))))) (by omega) rfl rfl (fun _ => rfl) (fun _ => rfl) d_M_init_63 rfl ?_
  refine cn_aload_n (pc' := 67) (k := 0) rfl rfl d_M_init_66 rfl ?_
  refine cn_bipush (pc' := 69) k_b_6 d_M_init_67 rfl ?_
  refine ci_newa (pc' := 71) (t := 2) (n := 6) (atype := .boolean) (N := 163) (kc' := 11) (ks' := 2528) (by omega) (by omega) (by decide) rfl w_ac_2 rfl (fun _ _ h => h) (by decide) (by first | omega | decide) (by first | omega | decide) (by first | omega | decide) d_M_init_69 rfl (fun S8 I8 P8 hn8 hx8 ho8 hz8 hI8 hP8 => ?_)
  refine cn_putP (pc' := 74) fl_M_36 (ho.ext (hx1.tr (hx2.tr (hx3.tr (hx4.tr (hx5.tr (hx6.tr (hx7.tr hx8)))))))) (by omega) rfl rfl (fun _ => rfl) (fun _ => rfl) d_M_init_71 rfl ?_
  refine cn_aload_n (pc' := 75) (k := 0) rfl rfl d_M_init_74 rfl ?_
  refine cn_bipush (pc' := 77) k_b_6 d_M_init_75 rfl ?_
  refine ci_newa (pc' := 79) (t := 0) (n := 6) (atype := .int) (N := 164) (kc' := 10) (ks' := 2522) (by omega) (by omega) (by decide) rfl w_ac_0 rfl (fun _ _ h => h) (by decide) (by first | omega | decide) (by first | omega | decide) (by first | omega | decide) d_M_init_77 rfl (fun S9 I9 P9 hn9 hx9 ho9 hz9 hI9 hP9 => ?_)
  refine cn_putP (pc' := 82) fl_M_39 (ho.ext (hx1.tr (hx2.tr (hx3.tr (hx4.tr (hx5.tr (hx6.tr (hx7.tr (hx8.tr hx9))))))))) (by omega) rfl rfl (fun _ => rfl) (fun _ => rfl) d_M_init_79 rfl ?_
  refine cn_aload_n (pc' := 83) (k := 0) rfl rfl d_M_init_82 rfl ?_
  refine cn_bipush (pc' := 85) k_b_24 d_M_init_83 rfl ?_
  refine ci_newa (pc' := 87) (t := 0) (n := 24) (atype := .int) (N := 165) (kc' := 9) (ks' := 2498) (by omega) (by omega) (by decide) rfl w_ac_0 rfl (fun _ _ h => h) (by decide) (by first | omega | decide) (by first | omega | decide) (by first | omega | decide) d_M_init_85 rfl (fun S10 I10 P10 hn10 hx10 ho10 hz10 hI10 hP10 => ?_)
  refine cn_putP (pc' := 90) fl_M_42 (ho.ext (hx1.tr (hx2.tr (hx3.tr (hx4.tr (hx5.tr (hx6.tr (hx7.tr (hx8.tr (hx9.tr hx10)))))))))) (by omega) rfl rfl (fun _ => rfl) (fun _ => rfl) d_M_init_87 rfl ?_
  refine cn_aload_n (pc' := 91) (k := 0) rfl rfl d_M_init_90 rfl ?_
  refine cn_bipush (pc' := 93) k_b_24 d_M_init_91 rfl ?_
  refine ci_newa (pc' := 95) (t := 0) (n := 24) (atype := .int) (N := 166) (kc' := 8) (ks' := 2474) (by omega) (by omega) (by decide) rfl w_ac_0 rfl (fun _ _ h => h) (by decide) (by first | omega | decide) (by first | omega | decide) (by first | omega | decide) d_M_init_93 rfl (fun S11 I11 P11 hn11 hx11 ho11 hz11 hI11 hP11 => ?_)
  refine cn_putP (pc' := 98) fl_M_45 (ho.ext (hx1.tr (hx2.tr (hx3.tr (hx4.tr (hx5.tr (hx6.tr (hx7.tr (hx8.tr (hx9.tr (hx10.tr hx11))))))))))) (by omega) rfl rfl (fun _ => rfl) (fun _ => rfl) d_M_init_95 rfl ?_
  refine cn_aload_n (pc' := 99) (k := 0) rfl rfl d_M_init_98 rfl ?_
  refine cn_sipush (pc' := 102) k_s_1536 d_M_init_99 rfl ?_
  refine ci_newa (pc' := 104) (t := 0) (n := 1536) (atype := .int) (N := 167) (kc' := 7) (ks' := 938) (by omega) (by omega) (by decide) rfl w_ac_0 rfl (fun _ _ h => h) (by decide) (by first | omega | decide) (by first | omega | decide) (by first | omega | decide) d_M_init_102 rfl (fun S12 I12 P12 hn12 hx12 ho12 hz12 hI12 hP12 => ?_)
  refine cn_putP (pc' := 107) fl_M_48 (ho.ext (hx1.tr (hx2.tr (hx3.tr (hx4.tr (hx5.tr (hx6.tr (hx7.tr (hx8.tr (hx9.tr (hx10.tr (hx11.tr hx12)))))))))))) (by omega) rfl rfl (fun _ => rfl) (fun _ => rfl) d_M_init_104 rfl ?_
  refine cn_aload_n (pc' := 108) (k := 0) rfl rfl d_M_init_107 rfl ?_
  refine cn_iconst (pc' := 109) k_c_3 d_M_init_108 rfl ?_
  refine ci_newa (pc' := 111) (t := 0) (n := 3) (atype := .int) (N := 168) (kc' := 6) (ks' := 935) (by omega) (by omega) (by decide) rfl w_ac_0 rfl (fun _ _ h => h) (by decide) (by first | omega | decide) (by first | omega | decide) (by first | omega | decide) d_M_init_109 rfl (fun S13 I13 P13 hn13 hx13 ho13 hz13 hI13 hP13 => ?_)
  refine cn_putP (pc' := 114) fl_M_51 (ho.ext (hx1.tr (hx2.tr (hx3.tr (hx4.tr (hx5.tr (hx6.tr (hx7.tr (hx8.tr (hx9.tr (hx10.tr (hx11.tr (hx12.tr hx13))))))))))))) (by omega) rfl rfl (fun _ => rfl) (fun _ => rfl) d_M_init_111 rfl ?_
  refine cn_aload_n (pc' := 115) (k := 0) rfl rfl d_M_init_114 rfl ?_
  refine cn_iconst (pc' := 116) k_c_3 d_M_init_115 rfl ?_
  refine ci_newa (pc' := 118) (t := 0) (n := 3) (atype := .int) (N := 169) (kc' := 5) (ks' := 932) (by omega) (by omega) (by decide) rfl w_ac_0 rfl (fun _ _ h => h) (by decide) (by first | omega | decide) (by first | omega | decide) (by first | omega | decide) d_M_init_116 rfl (fun S14 I14 P14 hn14 hx14 ho14 hz14 hI14 hP14 => ?_)
  refine cn_putP (pc' := 121) fl_M_54 (ho.ext (hx1.tr (hx2.tr (hx3.tr (hx4.tr (hx5.tr (hx6.tr (hx7.tr (hx8.tr (hx9.tr (hx10.tr (hx11.tr (hx12.tr (hx13.tr hx14)))))))))))))) (by omega) rfl rfl (fun _ => rfl) (fun _ => rfl) d_M_init_118 rfl ?_
  refine cn_aload_n (pc' := 122) (k := 0) rfl rfl d_M_init_121 rfl ?_
  refine cn_sipush (pc' := 125) k_s_600 d_M_init_122 rfl ?_
  refine ci_newa (pc' := 127) (t := 0) (n := 600) (atype := .int) (N := 170) (kc' := 4) (ks' := 332) (by omega) (by omega) (by decide) rfl w_ac_0 rfl (fun _ _ h => h) (by decide) (by first | omega | decide) (by first | omega | decide) (by first | omega | decide) d_M_init_125 rfl (fun S15 I15 P15 hn15 hx15 ho15 hz15 hI15 hP15 => ?_)
  refine cn_putP (pc' := 130) fl_M_57 (ho.ext (hx1.tr (hx2.tr (hx3.tr (hx4.tr (hx5.tr (hx6.tr (hx7.tr (hx8.tr (hx9.tr (hx10.tr (hx11.tr (hx12.tr (hx13.tr (hx14.tr hx15))))))))))))))) (by omega) rfl rfl (fun _ => rfl) (fun _ => rfl) d_M_init_127 rfl ?_
  refine cn_aload_n (pc' := 131) (k := 0) rfl rfl d_M_init_130 rfl ?_
  refine cn_bipush (pc' := 133) k_b_64 d_M_init_131 rfl ?_
  refine ci_newa (pc' := 135) (t := 0) (n := 64) (atype := .int) (N := 171) (kc' := 3) (ks' := 268) (by omega) (by omega) (by decide) rfl w_ac_0 rfl (fun _ _ h => h) (by decide) (by first | omega | decide) (by first | omega | decide) (by first | omega | decide) d_M_init_133 rfl (fun S16 I16 P16 hn16 hx16 ho16 hz16 hI16 hP16 => ?_)
  refine cn_putP (pc' := 138) fl_M_60 (ho.ext (hx1.tr (hx2.tr (hx3.tr (hx4.tr (hx5.tr (hx6.tr (hx7.tr (hx8.tr (hx9.tr (hx10.tr (hx11.tr (hx12.tr (hx13.tr (hx14.tr (hx15.tr hx16)))))))))))))))) (by omega) rfl rfl (fun _ => rfl) (fun _ => rfl) d_M_init_135 rfl ?_
  refine cn_aload_n (pc' := 139) (k := 0) rfl rfl d_M_init_138 rfl ?_
  refine cn_bipush (pc' := 141) k_b_64 d_M_init_139 rfl ?_
  refine ci_newa (pc' := 143) (t := 0) (n := 64) (atype := .int) (N := 172) (kc' := 2) (ks' := 204) (by omega) (by omega) (by decide) rfl w_ac_0 rfl (fun _ _ h => h) (by decide) (by first | omega | decide) (by first | omega | decide) (by first | omega | decide) d_M_init_141 rfl (fun S17 I17 P17 hn17 hx17 ho17 hz17 hI17 hP17 => ?_)
  refine cn_putP (pc' := 146) fl_M_63 (ho.ext (hx1.tr (hx2.tr (hx3.tr (hx4.tr (hx5.tr (hx6.tr (hx7.tr (hx8.tr (hx9.tr (hx10.tr (hx11.tr (hx12.tr (hx13.tr (hx14.tr (hx15.tr (hx16.tr hx17))))))))))))))))) (by omega) rfl rfl (fun _ => rfl) (fun _ => rfl) d_M_init_143 rfl ?_
  refine cn_aload_n (pc' := 147) (k := 0) rfl rfl d_M_init_146 rfl ?_
  refine cn_iconst (pc' := 148) k_c_4 d_M_init_147 rfl ?_
  refine ci_newa (pc' := 150) (t := 0) (n := 4) (atype := .int) (N := 173) (kc' := 1) (ks' := 200) (by omega) (by omega) (by decide) rfl w_ac_0 rfl (fun _ _ h => h) (by decide) (by first | omega | decide) (by first | omega | decide) (by first | omega | decide) d_M_init_148 rfl (fun S18 I18 P18 hn18 hx18 ho18 hz18 hI18 hP18 => ?_)
  refine cn_putP (pc' := 153) fl_M_66 (ho.ext (hx1.tr (hx2.tr (hx3.tr (hx4.tr (hx5.tr (hx6.tr (hx7.tr (hx8.tr (hx9.tr (hx10.tr (hx11.tr (hx12.tr (hx13.tr (hx14.tr (hx15.tr (hx16.tr (hx17.tr hx18)))))))))))))))))) (by omega) rfl rfl (fun _ => rfl) (fun _ => rfl) d_M_init_150 rfl ?_
  refine cn_aload_n (pc' := 154) (k := 0) rfl rfl d_M_init_153 rfl ?_
  refine cn_sipush (pc' := 157) k_s_200 d_M_init_154 rfl ?_
  refine ci_newa (pc' := 159) (t := 0) (n := 200) (atype := .int) (N := 174) (kc' := 0) (ks' := 0) (by omega) (by omega) (by decide) rfl w_ac_0 rfl (fun _ _ h => h) (by decide) (by first | omega | decide) (by first | omega | decide) (by first | omega | decide) d_M_init_157 rfl (fun S19 I19 P19 hn19 hx19 ho19 hz19 hI19 hP19 => ?_)
  refine cn_putP (pc' := 162) fl_M_69 (ho.ext (hx1.tr (hx2.tr (hx3.tr (hx4.tr (hx5.tr (hx6.tr (hx7.tr (hx8.tr (hx9.tr (hx10.tr (hx11.tr (hx12.tr (hx13.tr (hx14.tr (hx15.tr (hx16.tr (hx17.tr (hx18.tr hx19))))))))))))))))))) (by omega) rfl rfl (fun _ => rfl) (fun _ => rfl) d_M_init_159 rfl ?_
  refine cn_aload_n (pc' := 163) (k := 0) rfl rfl d_M_init_162 rfl ?_
  refine cn_getP (pc' := 166) (b := 156) (by rw [wp_o (by omega), hP19 155 (by omega), wp_o (by omega), hP18 155 (by omega), wp_o (by omega), hP17 155 (by omega), wp_o (by omega), hP16 155 (by omega), wp_o (by omega), hP15 155 (by omega), wp_o (by omega), hP14 155 (by omega), wp_o (by omega), hP13 155 (by omega), wp_o (by omega), hP12 155 (by omega), wp_o (by omega), hP11 155 (by omega), wp_o (by omega), hP10 155 (by omega), wp_o (by omega), hP9 155 (by omega), wp_o (by omega), hP8 155 (by omega), wp_o (by omega), hP7 155 (by omega), wp_o (by omega), hP6 155 (by omega), wp_o (by omega), hP5 155 (by omega), wp_o (by omega), hP4 155 (by omega), wp_o (by omega), hP3 155 (by omega), wp_o (by omega), hP2 155 (by omega)]; exact wp_e) fl_M_13 (ho.ext (hx1.tr (hx2.tr (hx3.tr (hx4.tr (hx5.tr (hx6.tr (hx7.tr (hx8.tr (hx9.tr (hx10.tr (hx11.tr (hx12.tr (hx13.tr (hx14.tr (hx15.tr (hx16.tr (hx17.tr (hx18.tr hx19))))))))))))))))))) rfl d_M_init_163 rfl ?_
  refine cn_iconst (pc' := 167) k_c_0 d_M_init_166 rfl ?_
  refine cn_iconst (pc' := 168) k_c_m1 d_M_init_167 rfl ?_
  refine cn_iast (pc' := 169) (ho1.ext (hx2.tr (hx3.tr (hx4.tr (hx5.tr (hx6.tr (hx7.tr (hx8.tr (hx9.tr (hx10.tr (hx11.tr (hx12.tr (hx13.tr (hx14.tr (hx15.tr (hx16.tr (hx17.tr (hx18.tr hx19)))))))))))))))))) (by omega) (by decide) d_M_init_168 rfl ?_
  refine cn_vret rfl d_M_init_169 ?_
  have p2 : (cn_wp P19 155 36 (some 174)) 155 2 = some 156 := by rw [wp_o (by omega), hP19 155 (by omega), wp_o (by omega), hP18 155 (by omega), wp_o (by omega), hP17 155 (by omega), wp_o (by omega), hP16 155 (by omega), wp_o (by omega), hP15 155 (by omega), wp_o (by omega), hP14 155 (by omega), wp_o (by omega), hP13 155 (by omega), wp_o (by omega), hP12 155 (by omega), wp_o (by omega), hP11 155 (by omega), wp_o (by omega), hP10 155 (by omega), wp_o (by omega), hP9 155 (by omega), wp_o (by omega), hP8 155 (by omega), wp_o (by omega), hP7 155 (by omega), wp_o (by omega), hP6 155 (by omega), wp_o (by omega), hP5 155 (by omega), wp_o (by omega), hP4 155 (by omega), wp_o (by omega), hP3 155 (by omega), wp_o (by omega), hP2 155 (by omega)]; exact wp_e
  have p3 : (cn_wp P19 155 36 (some 174)) 155 3 = some 157 := by rw [wp_o (by omega), hP19 155 (by omega), wp_o (by omega), hP18 155 (by omega), wp_o (by omega), hP17 155 (by omega), wp_o (by omega), hP16 155 (by omega), wp_o (by omega), hP15 155 (by omega), wp_o (by omega), hP14 155 (by omega), wp_o (by omega), hP13 155 (by omega), wp_o (by omega), hP12 155 (by omega), wp_o (by omega), hP11 155 (by omega), wp_o (by omega), hP10 155 (by omega), wp_o (by omega), hP9 155 (by omega), wp_o (by omega), hP8 155 (by omega), wp_o (by omega), hP7 155 (by omega), wp_o (by omega), hP6 155 (by omega), wp_o (by omega), hP5 155 (by omega), wp_o (by omega), hP4 155 (by omega), wp_o (by omega), hP3 155 (by omega)]; exact wp_e
  have p4 : (cn_wp P19 155 36 (some 174)) 155 4 = some 158 := by rw [wp_o (by omega), hP19 155 (by omega), wp_o (by omega), hP18 155 (by omega), wp_o (by omega), hP17 155 (by omega), wp_o (by omega), hP16 155 (by omega), wp_o (by omega), hP15 155 (by omega), wp_o (by omega), hP14 155 (by omega), wp_o (by omega), hP13 155 (by omega), wp_o (by omega), hP12 155 (by omega), wp_o (by omega), hP11 155 (by omega), wp_o (by omega), hP10 155 (by omega), wp_o (by omega), hP9 155 (by omega), wp_o (by omega), hP8 155 (by omega), wp_o (by omega), hP7 155 (by omega), wp_o (by omega), hP6 155 (by omega), wp_o (by omega), hP5 155 (by omega), wp_o (by omega), hP4 155 (by omega)]; exact wp_e
  have p5 : (cn_wp P19 155 36 (some 174)) 155 5 = some 159 := by rw [wp_o (by omega), hP19 155 (by omega), wp_o (by omega), hP18 155 (by omega), wp_o (by omega), hP17 155 (by omega), wp_o (by omega), hP16 155 (by omega), wp_o (by omega), hP15 155 (by omega), wp_o (by omega), hP14 155 (by omega), wp_o (by omega), hP13 155 (by omega), wp_o (by omega), hP12 155 (by omega), wp_o (by omega), hP11 155 (by omega), wp_o (by omega), hP10 155 (by omega), wp_o (by omega), hP9 155 (by omega), wp_o (by omega), hP8 155 (by omega), wp_o (by omega), hP7 155 (by omega), wp_o (by omega), hP6 155 (by omega), wp_o (by omega), hP5 155 (by omega)]; exact wp_e
  have p6 : (cn_wp P19 155 36 (some 174)) 155 6 = some 160 := by rw [wp_o (by omega), hP19 155 (by omega), wp_o (by omega), hP18 155 (by omega), wp_o (by omega), hP17 155 (by omega), wp_o (by omega), hP16 155 (by omega), wp_o (by omega), hP15 155 (by omega), wp_o (by omega), hP14 155 (by omega), wp_o (by omega), hP13 155 (by omega), wp_o (by omega), hP12 155 (by omega), wp_o (by omega), hP11 155 (by omega), wp_o (by omega), hP10 155 (by omega), wp_o (by omega), hP9 155 (by omega), wp_o (by omega), hP8 155 (by omega), wp_o (by omega), hP7 155 (by omega), wp_o (by omega), hP6 155 (by omega)]; exact wp_e
  have p8 : (cn_wp P19 155 36 (some 174)) 155 8 = some 161 := by rw [wp_o (by omega), hP19 155 (by omega), wp_o (by omega), hP18 155 (by omega), wp_o (by omega), hP17 155 (by omega), wp_o (by omega), hP16 155 (by omega), wp_o (by omega), hP15 155 (by omega), wp_o (by omega), hP14 155 (by omega), wp_o (by omega), hP13 155 (by omega), wp_o (by omega), hP12 155 (by omega), wp_o (by omega), hP11 155 (by omega), wp_o (by omega), hP10 155 (by omega), wp_o (by omega), hP9 155 (by omega), wp_o (by omega), hP8 155 (by omega), wp_o (by omega), hP7 155 (by omega)]; exact wp_e
  have p9 : (cn_wp P19 155 36 (some 174)) 155 9 = some 162 := by rw [wp_o (by omega), hP19 155 (by omega), wp_o (by omega), hP18 155 (by omega), wp_o (by omega), hP17 155 (by omega), wp_o (by omega), hP16 155 (by omega), wp_o (by omega), hP15 155 (by omega), wp_o (by omega), hP14 155 (by omega), wp_o (by omega), hP13 155 (by omega), wp_o (by omega), hP12 155 (by omega), wp_o (by omega), hP11 155 (by omega), wp_o (by omega), hP10 155 (by omega), wp_o (by omega), hP9 155 (by omega), wp_o (by omega), hP8 155 (by omega)]; exact wp_e
  have p10 : (cn_wp P19 155 36 (some 174)) 155 10 = some 163 := by rw [wp_o (by omega), hP19 155 (by omega), wp_o (by omega), hP18 155 (by omega), wp_o (by omega), hP17 155 (by omega), wp_o (by omega), hP16 155 (by omega), wp_o (by omega), hP15 155 (by omega), wp_o (by omega), hP14 155 (by omega), wp_o (by omega), hP13 155 (by omega), wp_o (by omega), hP12 155 (by omega), wp_o (by omega), hP11 155 (by omega), wp_o (by omega), hP10 155 (by omega), wp_o (by omega), hP9 155 (by omega)]; exact wp_e
  have p11 : (cn_wp P19 155 36 (some 174)) 155 11 = some 164 := by rw [wp_o (by omega), hP19 155 (by omega), wp_o (by omega), hP18 155 (by omega), wp_o (by omega), hP17 155 (by omega), wp_o (by omega), hP16 155 (by omega), wp_o (by omega), hP15 155 (by omega), wp_o (by omega), hP14 155 (by omega), wp_o (by omega), hP13 155 (by omega), wp_o (by omega), hP12 155 (by omega), wp_o (by omega), hP11 155 (by omega), wp_o (by omega), hP10 155 (by omega)]; exact wp_e
  have p12 : (cn_wp P19 155 36 (some 174)) 155 12 = some 165 := by rw [wp_o (by omega), hP19 155 (by omega), wp_o (by omega), hP18 155 (by omega), wp_o (by omega), hP17 155 (by omega), wp_o (by omega), hP16 155 (by omega), wp_o (by omega), hP15 155 (by omega), wp_o (by omega), hP14 155 (by omega), wp_o (by omega), hP13 155 (by omega), wp_o (by omega), hP12 155 (by omega), wp_o (by omega), hP11 155 (by omega)]; exact wp_e
  have p13 : (cn_wp P19 155 36 (some 174)) 155 13 = some 166 := by rw [wp_o (by omega), hP19 155 (by omega), wp_o (by omega), hP18 155 (by omega), wp_o (by omega), hP17 155 (by omega), wp_o (by omega), hP16 155 (by omega), wp_o (by omega), hP15 155 (by omega), wp_o (by omega), hP14 155 (by omega), wp_o (by omega), hP13 155 (by omega), wp_o (by omega), hP12 155 (by omega)]; exact wp_e
  have p14 : (cn_wp P19 155 36 (some 174)) 155 14 = some 167 := by rw [wp_o (by omega), hP19 155 (by omega), wp_o (by omega), hP18 155 (by omega), wp_o (by omega), hP17 155 (by omega), wp_o (by omega), hP16 155 (by omega), wp_o (by omega), hP15 155 (by omega), wp_o (by omega), hP14 155 (by omega), wp_o (by omega), hP13 155 (by omega)]; exact wp_e
  have p17 : (cn_wp P19 155 36 (some 174)) 155 17 = some 168 := by rw [wp_o (by omega), hP19 155 (by omega), wp_o (by omega), hP18 155 (by omega), wp_o (by omega), hP17 155 (by omega), wp_o (by omega), hP16 155 (by omega), wp_o (by omega), hP15 155 (by omega), wp_o (by omega), hP14 155 (by omega)]; exact wp_e
  have p18 : (cn_wp P19 155 36 (some 174)) 155 18 = some 169 := by rw [wp_o (by omega), hP19 155 (by omega), wp_o (by omega), hP18 155 (by omega), wp_o (by omega), hP17 155 (by omega), wp_o (by omega), hP16 155 (by omega), wp_o (by omega), hP15 155 (by omega)]; exact wp_e
  have p19 : (cn_wp P19 155 36 (some 174)) 155 19 = some 170 := by rw [wp_o (by omega), hP19 155 (by omega), wp_o (by omega), hP18 155 (by omega), wp_o (by omega), hP17 155 (by omega), wp_o (by omega), hP16 155 (by omega)]; exact wp_e
  have p26 : (cn_wp P19 155 36 (some 174)) 155 26 = some 171 := by rw [wp_o (by omega), hP19 155 (by omega), wp_o (by omega), hP18 155 (by omega), wp_o (by omega), hP17 155 (by omega)]; exact wp_e
  have p31 : (cn_wp P19 155 36 (some 174)) 155 31 = some 172 := by rw [wp_o (by omega), hP19 155 (by omega), wp_o (by omega), hP18 155 (by omega)]; exact wp_e
  have p32 : (cn_wp P19 155 36 (some 174)) 155 32 = some 173 := by rw [wp_o (by omega), hP19 155 (by omega)]; exact wp_e
  have p36 : (cn_wp P19 155 36 (some 174)) 155 36 = some 174 := wp_e
  have a156 : cn_ar S19 156 0 16 := ho1.ext (hx2.tr (hx3.tr (hx4.tr (hx5.tr (hx6.tr (hx7.tr (hx8.tr (hx9.tr (hx10.tr (hx11.tr (hx12.tr (hx13.tr (hx14.tr (hx15.tr (hx16.tr (hx17.tr (hx18.tr hx19)))))))))))))))))
  have a157 : cn_ar S19 157 2 16 := ho2.ext (hx3.tr (hx4.tr (hx5.tr (hx6.tr (hx7.tr (hx8.tr (hx9.tr (hx10.tr (hx11.tr (hx12.tr (hx13.tr (hx14.tr (hx15.tr (hx16.tr (hx17.tr (hx18.tr hx19))))))))))))))))
  have a158 : cn_ar S19 158 0 16 := ho3.ext (hx4.tr (hx5.tr (hx6.tr (hx7.tr (hx8.tr (hx9.tr (hx10.tr (hx11.tr (hx12.tr (hx13.tr (hx14.tr (hx15.tr (hx16.tr (hx17.tr (hx18.tr hx19)))))))))))))))
  have a159 : cn_ar S19 159 0 16 := ho4.ext (hx5.tr (hx6.tr (hx7.tr (hx8.tr (hx9.tr (hx10.tr (hx11.tr (hx12.tr (hx13.tr (hx14.tr (hx15.tr (hx16.tr (hx17.tr (hx18.tr hx19))))))))))))))
  have a160 : cn_ar S19 160 0 1024 := ho5.ext (hx6.tr (hx7.tr (hx8.tr (hx9.tr (hx10.tr (hx11.tr (hx12.tr (hx13.tr (hx14.tr (hx15.tr (hx16.tr (hx17.tr (hx18.tr hx19)))))))))))))
  have a161 : cn_ar S19 161 0 6 := ho6.ext (hx7.tr (hx8.tr (hx9.tr (hx10.tr (hx11.tr (hx12.tr (hx13.tr (hx14.tr (hx15.tr (hx16.tr (hx17.tr (hx18.tr hx19))))))))))))
  have a162 : cn_ar S19 162 0 6 := ho7.ext (hx8.tr (hx9.tr (hx10.tr (hx11.tr (hx12.tr (hx13.tr (hx14.tr (hx15.tr (hx16.tr (hx17.tr (hx18.tr hx19)))))))))))
  have a163 : cn_ar S19 163 2 6 := ho8.ext (hx9.tr (hx10.tr (hx11.tr (hx12.tr (hx13.tr (hx14.tr (hx15.tr (hx16.tr (hx17.tr (hx18.tr hx19))))))))))
  have a164 : cn_ar S19 164 0 6 := ho9.ext (hx10.tr (hx11.tr (hx12.tr (hx13.tr (hx14.tr (hx15.tr (hx16.tr (hx17.tr (hx18.tr hx19)))))))))
  have a165 : cn_ar S19 165 0 24 := ho10.ext (hx11.tr (hx12.tr (hx13.tr (hx14.tr (hx15.tr (hx16.tr (hx17.tr (hx18.tr hx19))))))))
  have a166 : cn_ar S19 166 0 24 := ho11.ext (hx12.tr (hx13.tr (hx14.tr (hx15.tr (hx16.tr (hx17.tr (hx18.tr hx19)))))))
  have a167 : cn_ar S19 167 0 1536 := ho12.ext (hx13.tr (hx14.tr (hx15.tr (hx16.tr (hx17.tr (hx18.tr hx19))))))
  have a168 : cn_ar S19 168 0 3 := ho13.ext (hx14.tr (hx15.tr (hx16.tr (hx17.tr (hx18.tr hx19)))))
  have a169 : cn_ar S19 169 0 3 := ho14.ext (hx15.tr (hx16.tr (hx17.tr (hx18.tr hx19))))
  have a170 : cn_ar S19 170 0 600 := ho15.ext (hx16.tr (hx17.tr (hx18.tr hx19)))
  have a171 : cn_ar S19 171 0 64 := ho16.ext (hx17.tr (hx18.tr hx19))
  have a172 : cn_ar S19 172 0 64 := ho17.ext (hx18.tr hx19)
  have a173 : cn_ar S19 173 0 4 := ho18.ext hx19
  have a174 : cn_ar S19 174 0 200 := ho19
  have hwM : wM S19 (cn_wp P19 155 36 (some 174)) := by
    refine ⟨ho.ext (hx1.tr (hx2.tr (hx3.tr (hx4.tr (hx5.tr (hx6.tr (hx7.tr (hx8.tr (hx9.tr (hx10.tr (hx11.tr (hx12.tr (hx13.tr (hx14.tr (hx15.tr (hx16.tr (hx17.tr (hx18.tr hx19)))))))))))))))))), fun k a h => ?_, fun a t n h => ?_⟩
    · unfold mfd at h; split at h
      all_goals first | (cases h; assumption) | (cases h; done)
    · unfold mar at h; split at h
      all_goals first | (cases h; assumption) | (cases h; done)
  have hro : ∀ j, j ≠ 1 → (cn_wi I19 156 0 (-1)) 155 j = 0 := fun j hj => by
    rw [mw_o (by omega), hI19 155 (by omega), hI18 155 (by omega), hI17 155 (by omega), hI16 155 (by omega), hI15 155 (by omega), hI14 155 (by omega), hI13 155 (by omega), hI12 155 (by omega), hI11 155 (by omega), hI10 155 (by omega), hI9 155 (by omega), hI8 155 (by omega), hI7 155 (by omega), hI6 155 (by omega), hI5 155 (by omega), hI4 155 (by omega), hI3 155 (by omega), hI2 155 (by omega), hI1 155 (by omega), mw_o (by omega), hz]
  have hr1 : (cn_wi I19 156 0 (-1)) 155 1 = nI 1 := by
    rw [mw_o (by omega), hI19 155 (by omega), hI18 155 (by omega), hI17 155 (by omega), hI16 155 (by omega), hI15 155 (by omega), hI14 155 (by omega), hI13 155 (by omega), hI12 155 (by omega), hI11 155 (by omega), hI10 155 (by omega), hI9 155 (by omega), hI8 155 (by omega), hI7 155 (by omega), hI6 155 (by omega), hI5 155 (by omega), hI4 155 (by omega), hI3 155 (by omega), hI2 155 (by omega), hI1 155 (by omega)]; exact mw_e
  have hr157 : (cn_wi I19 156 0 (-1)) 157 = fun _ => 0 := by rw [cn_wi_ne (by omega), hI19 157 (by omega), hI18 157 (by omega), hI17 157 (by omega), hI16 157 (by omega), hI15 157 (by omega), hI14 157 (by omega), hI13 157 (by omega), hI12 157 (by omega), hI11 157 (by omega), hI10 157 (by omega), hI9 157 (by omega), hI8 157 (by omega), hI7 157 (by omega), hI6 157 (by omega), hI5 157 (by omega), hI4 157 (by omega), hI3 157 (by omega)]; exact hz2
  have hr159 : (cn_wi I19 156 0 (-1)) 159 = fun _ => 0 := by rw [cn_wi_ne (by omega), hI19 159 (by omega), hI18 159 (by omega), hI17 159 (by omega), hI16 159 (by omega), hI15 159 (by omega), hI14 159 (by omega), hI13 159 (by omega), hI12 159 (by omega), hI11 159 (by omega), hI10 159 (by omega), hI9 159 (by omega), hI8 159 (by omega), hI7 159 (by omega), hI6 159 (by omega), hI5 159 (by omega)]; exact hz4
  refine K S19 _ _ (by omega) (hx1.tr (hx2.tr (hx3.tr (hx4.tr (hx5.tr (hx6.tr (hx7.tr (hx8.tr (hx9.tr (hx10.tr (hx11.tr (hx12.tr (hx13.tr (hx14.tr (hx15.tr (hx16.tr (hx17.tr (hx18.tr hx19)))))))))))))))))) ⟨hwM, ⟨hr1, by decide, fun i hi => ?_, by decide, rfl, fun i hi => ?_⟩, ⟨hro 7 (by decide), Nat.zero_le _, fun i hi => absurd hi (Nat.not_lt_zero i)⟩, ⟨hro 15 (by decide), Nat.zero_le _, hro 16 (by decide), fun i hi => absurd hi (Nat.not_lt_zero i)⟩, ⟨0, Nat.le_refl _, rfl, fun i j _ hj => absurd hj (Nat.not_lt_zero j), fun i hi => absurd hi (Nat.not_lt_zero i)⟩, ⟨hro 0 (by decide), hro 20 (by decide), hro 21 (by decide), hro 22 (by decide), fun q hq => by cases hq⟩, Or.inr ⟨hro 33 (by decide), rfl, rfl⟩⟩ (fun b hb => ?_) (fun b hb => ?_)
  · have hi : i < 1 := hi
    obtain rfl : i = 0 := by omega
    exact ⟨mw_e, by rw [hr157]; rfl, fun e => absurd rfl e, by rw [hr159]; rfl, Nat.zero_le _, fun j hj => absurd hj (Nat.not_lt_zero j)⟩
  · have hi : i < 1 := hi
    obtain rfl : i = 0 := by omega
    exact Or.inl rfl
  · rw [cn_wi_ne (by omega), hI19 b (by omega), hI18 b (by omega), hI17 b (by omega), hI16 b (by omega), hI15 b (by omega), hI14 b (by omega), hI13 b (by omega), hI12 b (by omega), hI11 b (by omega), hI10 b (by omega), hI9 b (by omega), hI8 b (by omega), hI7 b (by omega), hI6 b (by omega), hI5 b (by omega), hI4 b (by omega), hI3 b (by omega), hI2 b (by omega), hI1 b (by omega), cn_wi_ne (by omega)]
  · rw [cn_wp_ne (by omega), hP19 b (by omega), cn_wp_ne (by omega), hP18 b (by omega), cn_wp_ne (by omega), hP17 b (by omega), cn_wp_ne (by omega), hP16 b (by omega), cn_wp_ne (by omega), hP15 b (by omega), cn_wp_ne (by omega), hP14 b (by omega), cn_wp_ne (by omega), hP13 b (by omega), cn_wp_ne (by omega), hP12 b (by omega), cn_wp_ne (by omega), hP11 b (by omega), cn_wp_ne (by omega), hP10 b (by omega), cn_wp_ne (by omega), hP9 b (by omega), cn_wp_ne (by omega), hP8 b (by omega), cn_wp_ne (by omega), hP7 b (by omega), cn_wp_ne (by omega), hP6 b (by omega), cn_wp_ne (by omega), hP5 b (by omega), cn_wp_ne (by omega), hP4 b (by omega), cn_wp_ne (by omega), hP3 b (by omega), cn_wp_ne (by omega), hP2 b (by omega), cn_wp_ne (by omega), hP1 b (by omega)]
end
