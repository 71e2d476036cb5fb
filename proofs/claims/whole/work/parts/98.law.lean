theorem RM.frX {S : cn_S} {I I' : cn_I} {P P' : cn_P} {T : Nat} {s : sSt} (h : RM S I P T s) (hf : frX I I' P P') : RM S I' P' T s := by
  obtain ⟨hm, hN, hJ, hS, hp, hC, hA⟩ := h
  have e : ∀ a k, 155 ≤ a → I' a k = I a k := fun a k x => by rw [(hf a x).1]
  exact ⟨⟨hm.1, fun k a h => by rw [(hf 155 (by omega)).2]; exact hm.2.1 k a h, hm.2.2⟩, hN.congr (fun a k x => e a k (by omega)), hJ.congr (fun a k x => e a k (by omega)), hS.congr (fun a k x => e a k (by omega)), hp, hC.congr (fun a k x => e a k (by omega)), hA.congr (fun a k x => e a k (by omega))⟩
theorem RC.frM {S : cn_S} {I I' : cn_I} {P : cn_P} {s : sSt} (h : RC S I P s) (hf : frM I I') : RC S I' P s := by
  obtain ⟨hw, hX, hN, hI, hS, hC, hR, hV⟩ := h
  have e : ∀ a, a < 155 → I' a = I a := fun a x => hf a (Or.inl x)
  exact ⟨hw, hX.congr (e _ (by omega)), hN.congr (fun a x y => e a (by omega)), hI.congr (fun a x y => e a (by omega)) (fun _ _ => rfl), hS.congr (fun a x y => e a (by omega)) rfl, hC.congr (e _ (by omega)) (e _ (by omega)) (e _ (by omega)), hR.congr (e _ (by omega)) (e _ (by omega)), hV.congr (e _ (by omega)) (e _ (by omega))⟩
theorem sub_7 {L i : Nat} (hL : L ≤ 3584) (hi : i ≤ 10000) : (nI L - nI 7 < nI i) ↔ L < i + 7 := by
  have e1 : (nI L).toInt = L := nI_toInt (by omega)
  have e2 : (nI i).toInt = i := nI_toInt (by omega)
  rw [Int32.lt_iff_toInt_lt, Int32.toInt_sub, e1, e2, show (nI 7).toInt = 7 from rfl, Int.bmod_eq_of_le (by omega) (by omega)]
  omega
theorem RC.ext {S S' : cn_S} {I I' : cn_I} {P P' : cn_P} {s : sSt} (h : RC S I P s) (hx : ext S S') (hI : ∀ b, b < 155 → I' b = I b) (hP : ∀ b, b < 155 → P' b = P b) : RC S' I' P' s := by
  obtain ⟨⟨w1, w2, ⟨w3, w3'⟩, ⟨w4, w4'⟩, w5, w6, w7, w8, w9⟩, hX, hN, hJ, hS, hC, hR, hV⟩ := h
  refine ⟨⟨w1.ext hx, by rw [hP 0 (by omega)]; exact w2, ⟨w3.ext hx, fun i hi => ⟨by rw [hP 1 (by omega)]; exact (w3' i hi).1, (w3' i hi).2.ext hx (fun b x y => hP b (by omega))⟩⟩, ⟨w4.ext hx, fun i hi => ⟨by rw [hP 2 (by omega)]; exact (w4' i hi).1, (w4' i hi).2.ext hx (fun b x y => hP b (by omega))⟩⟩, w5.ext hx (fun b x y => hP b (by omega)), w6.ext hx (fun b x y => hP b (by omega)), w7.ext hx (hP _ (by omega)), w8.ext hx (hP _ (by omega)), w9.ext hx⟩, hX.congr (hI _ (by omega)), hN.congr (fun a x y => hI a (by omega)), hJ.congr (fun a x y => hI a (by omega)) (fun i hi => hP _ (by omega)), hS.congr (fun a x y => hI a (by omega)) (hP _ (by omega)), hC.congr (hI _ (by omega)) (hI _ (by omega)) (hI _ (by omega)), hR.congr (hI _ (by omega)) (hI _ (by omega)), hV.congr (hI _ (by omega)) (hI _ (by omega))⟩
theorem law_18 {l : Launch} {en : cn_E} {kc ks : Nat} {S : cn_S} (hL : cn_L en ≤ 3584) : ∀ (r i T : Nat) (I : cn_I) (P : cn_P) (s : sSt), cn_L en < i + 7 + 7 * r → i ≤ 5000 → T ≤ i → RC S I P s → RM S I P T s → cn_V l en mi_L_law 100 kc ks S I P (fun r _ _ _ => r = some (.int 1)) 18 [(0, .ref 1000000), (1, .ref 0), (2, .ref 155), (3, .int (nI i))] [] := by
  intro r
  induction r with
  | zero =>
    intro i T I P s hr hi hT hC hM
    refine cn_iload_n (pc' := 19) (k := 3) rfl rfl d_L_law_18 rfl ?_
    refine cn_aload_n (pc' := 20) (k := 0) rfl rfl d_L_law_19 rfl ?_
    refine cn_slen (pc' := 21) d_L_law_20 rfl ?_
    refine cn_bipush (pc' := 23) k_b_7 d_L_law_21 rfl ?_
    refine cn_isub (pc' := 24) d_L_law_23 rfl ?_
    refine cn_icmp_gt (tgt := 492) (pc' := 27) d_L_law_24 (by decide) rfl (fun hc24 => ?_) (fun hc24 => ?_)
    · refine cn_iconst (pc' := 493) k_c_1 d_L_law_492 rfl ?_
      refine cn_zret rfl (Or.inr rfl) d_L_law_493 ?_
      rfl
    · exact absurd ((sub_7 hL (by omega)).mpr (by omega)) hc24
  | succ r ih =>
    intro i T I P s hr hi hT hC hM
    obtain ⟨ns, xs, ⟨ps, pn⟩, ch, ⟨rq, ru⟩⟩ := s
    refine cn_iload_n (pc' := 19) (k := 3) rfl rfl d_L_law_18 rfl ?_
    refine cn_aload_n (pc' := 20) (k := 0) rfl rfl d_L_law_19 rfl ?_
    refine cn_slen (pc' := 21) d_L_law_20 rfl ?_
    refine cn_bipush (pc' := 23) k_b_7 d_L_law_21 rfl ?_
    refine cn_isub (pc' := 24) d_L_law_23 rfl ?_
    refine cn_icmp_gt (tgt := 492) (pc' := 27) d_L_law_24 (by decide) rfl (fun hc24 => ?_) (fun hc24 => ?_)
    · refine cn_iconst (pc' := 493) k_c_1 d_L_law_492 rfl ?_
      refine cn_zret rfl (Or.inr rfl) d_L_law_493 ?_
      rfl
    · have hi7 : i + 7 ≤ cn_L en := by have := mt (sub_7 hL (by omega)).mpr hc24; omega
      refine cn_aload_n (pc' := 28) (k := 0) rfl rfl d_L_law_27 rfl ?_
      refine cn_iload_n (pc' := 29) (k := 3) rfl rfl d_L_law_28 rfl ?_
      refine cn_sld (pc' := 30) (j := i) (by omega) (by omega) d_L_law_29 rfl ?_
      refine cn_bipush (pc' := 32) k_b_15 d_L_law_30 rfl ?_
      refine cn_iand (pc' := 33) d_L_law_32 rfl ?_
      by_cases hk33_0 : (cn_x en (i)) &&& (nI (15)) = nI 0
      · refine cn_tableIn (tgt := 104) (off := 71) d_L_law_33 (by rw [hk33_0]; decide +kernel) (by rw [hk33_0]; decide +kernel) (by rw [hk33_0]; decide +kernel) (by decide) ?_
        refine cn_aload_n (pc' := 105) (k := 1) rfl rfl d_L_law_104 rfl ?_
        refine cn_callV (pc' := 108) (kc1 := 0) (ks1 := 0) (kc2 := kc) (ks2 := ks) (rest := []) (lvj := [(0, .ref 0)]) [] mv_L_13 hC.1.1 rfl rfl rfl (Nat.le_of_ble_eq_true rfl) (Nat.le_of_ble_eq_true rfl) (by omega) (by omega) (by omega) d_L_law_105 rfl ?_
        refine C_X_open hC (by omega) (fun I1 hC1 hf1 => ?_)
        have hM1 := hM.frX hf1
        show cn_V l en mi_L_law 100 kc ks S I1 P ((fun r _ _ _ => r = some (.int 1))) 108 [(0, .ref 1000000), (1, .ref 0), (2, .ref 155), (3, .int (nI (i)))] []
        refine cn_aload_n (pc' := 109) (k := 2) rfl rfl d_L_law_108 rfl ?_
        refine cn_callV (pc' := 112) (kc1 := 0) (ks1 := 0) (kc2 := kc) (ks2 := ks) (rest := []) (lvj := [(0, .ref 155)]) [] mv_L_16 hM1.1.1 rfl rfl rfl (Nat.le_of_ble_eq_true rfl) (Nat.le_of_ble_eq_true rfl) (by omega) (by omega) (by omega) d_L_law_109 rfl ?_
        refine C_M_open hM1 (fun I2 hM2 hf2 => ?_)
        have hC2 := hC1.frM hf2
        show cn_V l en mi_L_law 100 kc ks S I2 P ((fun r _ _ _ => r = some (.int 1))) 112 [(0, .ref 1000000), (1, .ref 0), (2, .ref 155), (3, .int (nI (i)))] []
        refine cn_goto (tgt := 486) d_L_law_112 (by decide) ?_
        refine cn_iinc (pc' := 489) (lv' := [(0, .ref 1000000), (1, .ref 0), (2, .ref 155), (3, .int (nI (i + 7)))]) (k := 3) [1, 2, 3, 0] rfl (by rw [show Int32.ofInt 7 = nI 7 from by decide +kernel, nI_add]) (Nat.le_of_ble_eq_true rfl) rfl d_L_law_486 rfl ?_
        refine cn_goto (tgt := 18) d_L_law_489 (by decide) ?_
        exact ih (i + 7) _ I2 _ _ (by omega) (by omega) (by omega) hC2 hM2
      by_cases hk33_1 : (cn_x en (i)) &&& (nI (15)) = nI 1
      · refine cn_tableIn (tgt := 115) (off := 82) d_L_law_33 (by rw [hk33_1]; decide +kernel) (by rw [hk33_1]; decide +kernel) (by rw [hk33_1]; decide +kernel) (by decide) ?_
        refine cn_aload_n (pc' := 116) (k := 1) rfl rfl d_L_law_115 rfl ?_
        refine cn_callV (pc' := 119) (kc1 := 0) (ks1 := 0) (kc2 := kc) (ks2 := ks) (rest := []) (lvj := [(0, .ref 0)]) [] mv_L_17 hC.1.1 rfl rfl rfl (Nat.le_of_ble_eq_true rfl) (Nat.le_of_ble_eq_true rfl) (by omega) (by omega) (by omega) d_L_law_116 rfl ?_
        refine C_X_isOpen hC ?_
        show cn_V l en mi_L_law 100 kc ks S I P ((fun r _ _ _ => r = some (.int 1))) 119 [(0, .ref 1000000), (1, .ref 0), (2, .ref 155), (3, .int (nI (i)))] [.int (nI ch.1.toNat)]
        refine cn_aload_n (pc' := 120) (k := 2) rfl rfl d_L_law_119 rfl ?_
        refine cn_callV (pc' := 123) (kc1 := 0) (ks1 := 0) (kc2 := kc) (ks2 := ks) (rest := [.int (nI ch.1.toNat)]) (lvj := [(0, .ref 155)]) [] mv_L_21 hM.1.1 rfl rfl rfl (Nat.le_of_ble_eq_true rfl) (Nat.le_of_ble_eq_true rfl) (by omega) (by omega) (by omega) d_L_law_120 rfl ?_
        refine C_M_isOpen hM ?_
        show cn_V l en mi_L_law 100 kc ks S I P ((fun r _ _ _ => r = some (.int 1))) 123 [(0, .ref 1000000), (1, .ref 0), (2, .ref 155), (3, .int (nI (i)))] [.int (nI ch.1.toNat), .int (nI ch.1.toNat)]
        refine cn_icmp_eq (tgt := 486) (pc' := 126) d_L_law_123 (by decide) rfl (fun hc123 => ?_) (fun hc123 => ?_)
        · refine cn_iinc (pc' := 489) (lv' := [(0, .ref 1000000), (1, .ref 0), (2, .ref 155), (3, .int (nI (i + 7)))]) (k := 3) [1, 2, 3, 0] rfl (by rw [show Int32.ofInt 7 = nI 7 from by decide +kernel, nI_add]) (Nat.le_of_ble_eq_true rfl) rfl d_L_law_486 rfl ?_
          refine cn_goto (tgt := 18) d_L_law_489 (by decide) ?_
          exact ih (i + 7) T I P _ (by omega) (by omega) (by omega) hC hM
        · exact absurd rfl hc123
      by_cases hk33_2 : (cn_x en (i)) &&& (nI (15)) = nI 2
      · refine cn_tableIn (tgt := 128) (off := 95) d_L_law_33 (by rw [hk33_2]; decide +kernel) (by rw [hk33_2]; decide +kernel) (by rw [hk33_2]; decide +kernel) (by decide) ?_
        refine cn_aload_n (pc' := 129) (k := 1) rfl rfl d_L_law_128 rfl ?_
        refine cn_aload_n (pc' := 130) (k := 0) rfl rfl d_L_law_129 rfl ?_
        refine cn_iload_n (pc' := 131) (k := 3) rfl rfl d_L_law_130 rfl ?_
        refine cn_iconst (pc' := 132) k_c_1 d_L_law_131 rfl ?_
        refine cn_iadd_n (pc' := 133) d_L_law_132 rfl ?_
        refine cn_sld (pc' := 134) (j := i + 1) (by omega) (by omega) d_L_law_133 rfl ?_
        refine cn_callV (pc' := 137) (kc1 := 0) (ks1 := 0) (kc2 := kc) (ks2 := ks) (rest := []) (lvj := [(0, .ref 0), (1, .int (cn_x en (i + 1)))]) [.int (cn_x en (i + 1))] mv_L_22 hC.1.1 rfl rfl rfl (Nat.le_of_ble_eq_true rfl) (Nat.le_of_ble_eq_true rfl) (by omega) (by omega) (by omega) d_L_law_134 rfl ?_
        refine C_X_folder hC (by omega) (fun I1 hC1 hf1 => ?_)
        have hM1 := hM.frX hf1
        show cn_V l en mi_L_law 100 kc ks S I1 P ((fun r _ _ _ => r = some (.int 1))) 137 [(0, .ref 1000000), (1, .ref 0), (2, .ref 155), (3, .int (nI (i)))] [.int ((sp_add ns (cn_x en (i + 1)) (-1)).1)]
        refine cn_aload_n (pc' := 138) (k := 2) rfl rfl d_L_law_137 rfl ?_
        refine cn_aload_n (pc' := 139) (k := 0) rfl rfl d_L_law_138 rfl ?_
        refine cn_iload_n (pc' := 140) (k := 3) rfl rfl d_L_law_139 rfl ?_
        refine cn_iconst (pc' := 141) k_c_1 d_L_law_140 rfl ?_
        refine cn_iadd_n (pc' := 142) d_L_law_141 rfl ?_
        refine cn_sld (pc' := 143) (j := i + 1) (by omega) (by omega) d_L_law_142 rfl ?_
        refine cn_callV (pc' := 146) (kc1 := 0) (ks1 := 0) (kc2 := kc) (ks2 := ks) (rest := [.int ((sp_add ns (cn_x en (i + 1)) (-1)).1)]) (lvj := [(0, .ref 155), (1, .int (cn_x en (i + 1)))]) [.int (cn_x en (i + 1))] mv_L_26 hM1.1.1 rfl rfl rfl (Nat.le_of_ble_eq_true rfl) (Nat.le_of_ble_eq_true rfl) (by omega) (by omega) (by omega) d_L_law_143 rfl ?_
        refine C_M_folder hM1 (by omega) (fun I2 hM2 hf2 => ?_)
        have hC2 := hC1.frM hf2
        show cn_V l en mi_L_law 100 kc ks S I2 P ((fun r _ _ _ => r = some (.int 1))) 146 [(0, .ref 1000000), (1, .ref 0), (2, .ref 155), (3, .int (nI (i)))] [.int ((sp_add ns (cn_x en (i + 1)) (-1)).1), .int ((sp_add ns (cn_x en (i + 1)) (-1)).1)]
        refine cn_icmp_eq (tgt := 486) (pc' := 149) d_L_law_146 (by decide) rfl (fun hc146 => ?_) (fun hc146 => ?_)
        · refine cn_iinc (pc' := 489) (lv' := [(0, .ref 1000000), (1, .ref 0), (2, .ref 155), (3, .int (nI (i + 7)))]) (k := 3) [1, 2, 3, 0] rfl (by rw [show Int32.ofInt 7 = nI 7 from by decide +kernel, nI_add]) (Nat.le_of_ble_eq_true rfl) rfl d_L_law_486 rfl ?_
          refine cn_goto (tgt := 18) d_L_law_489 (by decide) ?_
          exact ih (i + 7) _ I2 _ _ (by omega) (by omega) (by omega) hC2 hM2
        · exact absurd rfl hc146
      by_cases hk33_3 : (cn_x en (i)) &&& (nI (15)) = nI 3
      · refine cn_tableIn (tgt := 151) (off := 118) d_L_law_33 (by rw [hk33_3]; decide +kernel) (by rw [hk33_3]; decide +kernel) (by rw [hk33_3]; decide +kernel) (by decide) ?_
        refine cn_aload_n (pc' := 152) (k := 1) rfl rfl d_L_law_151 rfl ?_
        refine cn_aload_n (pc' := 153) (k := 0) rfl rfl d_L_law_152 rfl ?_
        refine cn_iload_n (pc' := 154) (k := 3) rfl rfl d_L_law_153 rfl ?_
        refine cn_iconst (pc' := 155) k_c_1 d_L_law_154 rfl ?_
        refine cn_iadd_n (pc' := 156) d_L_law_155 rfl ?_
        refine cn_sld (pc' := 157) (j := i + 1) (by omega) (by omega) d_L_law_156 rfl ?_
        refine cn_aload_n (pc' := 158) (k := 0) rfl rfl d_L_law_157 rfl ?_
        refine cn_iload_n (pc' := 159) (k := 3) rfl rfl d_L_law_158 rfl ?_
        refine cn_iconst (pc' := 160) k_c_2 d_L_law_159 rfl ?_
        refine cn_iadd_n (pc' := 161) d_L_law_160 rfl ?_
        refine cn_sld (pc' := 162) (j := i + 2) (by omega) (by omega) d_L_law_161 rfl ?_
        refine cn_callV (pc' := 165) (kc1 := 0) (ks1 := 0) (kc2 := kc) (ks2 := ks) (rest := []) (lvj := [(0, .ref 0), (1, .int (cn_x en (i + 1))), (2, .int (cn_x en (i + 2)))]) [.int (cn_x en (i + 1)), .int (cn_x en (i + 2))] mv_L_27 hC.1.1 rfl rfl rfl (Nat.le_of_ble_eq_true rfl) (Nat.le_of_ble_eq_true rfl) (by omega) (by omega) (by omega) d_L_law_162 rfl ?_
        refine C_X_variable hC (by omega) (fun I1 hC1 hf1 => ?_)
        have hM1 := hM.frX hf1
        show cn_V l en mi_L_law 100 kc ks S I1 P ((fun r _ _ _ => r = some (.int 1))) 165 [(0, .ref 1000000), (1, .ref 0), (2, .ref 155), (3, .int (nI (i)))] [.int ((sp_var ns (cn_x en (i + 1)) (cn_x en (i + 2))).1)]
        refine cn_aload_n (pc' := 166) (k := 2) rfl rfl d_L_law_165 rfl ?_
        refine cn_aload_n (pc' := 167) (k := 0) rfl rfl d_L_law_166 rfl ?_
        refine cn_iload_n (pc' := 168) (k := 3) rfl rfl d_L_law_167 rfl ?_
        refine cn_iconst (pc' := 169) k_c_1 d_L_law_168 rfl ?_
        refine cn_iadd_n (pc' := 170) d_L_law_169 rfl ?_
        refine cn_sld (pc' := 171) (j := i + 1) (by omega) (by omega) d_L_law_170 rfl ?_
        refine cn_aload_n (pc' := 172) (k := 0) rfl rfl d_L_law_171 rfl ?_
        refine cn_iload_n (pc' := 173) (k := 3) rfl rfl d_L_law_172 rfl ?_
        refine cn_iconst (pc' := 174) k_c_2 d_L_law_173 rfl ?_
        refine cn_iadd_n (pc' := 175) d_L_law_174 rfl ?_
        refine cn_sld (pc' := 176) (j := i + 2) (by omega) (by omega) d_L_law_175 rfl ?_
        refine cn_callV (pc' := 179) (kc1 := 0) (ks1 := 0) (kc2 := kc) (ks2 := ks) (rest := [.int ((sp_var ns (cn_x en (i + 1)) (cn_x en (i + 2))).1)]) (lvj := [(0, .ref 155), (1, .int (cn_x en (i + 1))), (2, .int (cn_x en (i + 2)))]) [.int (cn_x en (i + 1)), .int (cn_x en (i + 2))] mv_L_31 hM1.1.1 rfl rfl rfl (Nat.le_of_ble_eq_true rfl) (Nat.le_of_ble_eq_true rfl) (by omega) (by omega) (by omega) d_L_law_176 rfl ?_
        refine C_M_variable hM1 (by omega) (fun I2 hM2 hf2 => ?_)
        have hC2 := hC1.frM hf2
        show cn_V l en mi_L_law 100 kc ks S I2 P ((fun r _ _ _ => r = some (.int 1))) 179 [(0, .ref 1000000), (1, .ref 0), (2, .ref 155), (3, .int (nI (i)))] [.int ((sp_var ns (cn_x en (i + 1)) (cn_x en (i + 2))).1), .int ((sp_var ns (cn_x en (i + 1)) (cn_x en (i + 2))).1)]
        refine cn_icmp_eq (tgt := 486) (pc' := 182) d_L_law_179 (by decide) rfl (fun hc179 => ?_) (fun hc179 => ?_)
        · refine cn_iinc (pc' := 489) (lv' := [(0, .ref 1000000), (1, .ref 0), (2, .ref 155), (3, .int (nI (i + 7)))]) (k := 3) [1, 2, 3, 0] rfl (by rw [show Int32.ofInt 7 = nI 7 from by decide +kernel, nI_add]) (Nat.le_of_ble_eq_true rfl) rfl d_L_law_486 rfl ?_
          refine cn_goto (tgt := 18) d_L_law_489 (by decide) ?_
          exact ih (i + 7) _ I2 _ _ (by omega) (by omega) (by omega) hC2 hM2
        · exact absurd rfl hc179
      by_cases hk33_4 : (cn_x en (i)) &&& (nI (15)) = nI 4
      · refine cn_tableIn (tgt := 184) (off := 151) d_L_law_33 (by rw [hk33_4]; decide +kernel) (by rw [hk33_4]; decide +kernel) (by rw [hk33_4]; decide +kernel) (by decide) ?_
        refine cn_aload_n (pc' := 185) (k := 1) rfl rfl d_L_law_184 rfl ?_
        refine cn_aload_n (pc' := 186) (k := 0) rfl rfl d_L_law_185 rfl ?_
        refine cn_iload_n (pc' := 187) (k := 3) rfl rfl d_L_law_186 rfl ?_
        refine cn_iconst (pc' := 188) k_c_1 d_L_law_187 rfl ?_
        refine cn_iadd_n (pc' := 189) d_L_law_188 rfl ?_
        refine cn_sld (pc' := 190) (j := i + 1) (by omega) (by omega) d_L_law_189 rfl ?_
        refine cn_aload_n (pc' := 191) (k := 0) rfl rfl d_L_law_190 rfl ?_
        refine cn_iload_n (pc' := 192) (k := 3) rfl rfl d_L_law_191 rfl ?_
        refine cn_iconst (pc' := 193) k_c_2 d_L_law_192 rfl ?_
        refine cn_iadd_n (pc' := 194) d_L_law_193 rfl ?_
        refine cn_sld (pc' := 195) (j := i + 2) (by omega) (by omega) d_L_law_194 rfl ?_
        refine cn_i2l (pc' := 196) d_L_law_195 rfl ?_
        refine cn_bipush (pc' := 198) k_b_32 d_L_law_196 rfl ?_
        refine cn_lshl (pc' := 199) d_L_law_198 rfl ?_
        refine cn_aload_n (pc' := 200) (k := 0) rfl rfl d_L_law_199 rfl ?_
        refine cn_iload_n (pc' := 201) (k := 3) rfl rfl d_L_law_200 rfl ?_
        refine cn_iconst (pc' := 202) k_c_3 d_L_law_201 rfl ?_
        refine cn_iadd_n (pc' := 203) d_L_law_202 rfl ?_
        refine cn_sld (pc' := 204) (j := i + 3) (by omega) (by omega) d_L_law_203 rfl ?_
        refine cn_i2l (pc' := 205) d_L_law_204 rfl ?_
        refine cn_ldc2 (pc' := 208) w_k_L_32 d_L_law_205 rfl ?_
        refine cn_land (pc' := 209) d_L_law_208 rfl ?_
        refine cn_lor (pc' := 210) d_L_law_209 rfl ?_
        refine cn_callV (pc' := 213) (kc1 := 0) (ks1 := 0) (kc2 := kc) (ks2 := ks) (rest := []) (lvj := [(0, .ref 0), (1, .int (cn_x en (i + 1))), (2, .long ((((cn_x en (i + 2)).toInt64) <<< (((nI (32))).toInt64 &&& 63)) ||| (((cn_x en (i + 3)).toInt64) &&& (4294967295))))]) [.int (cn_x en (i + 1)), .long ((((cn_x en (i + 2)).toInt64) <<< (((nI (32))).toInt64 &&& 63)) ||| (((cn_x en (i + 3)).toInt64) &&& (4294967295)))] mv_L_34 hC.1.1 rfl rfl rfl (Nat.le_of_ble_eq_true rfl) (Nat.le_of_ble_eq_true rfl) (by omega) (by omega) (by omega) d_L_law_210 rfl ?_
        refine C_X_poke hC (by omega) (fun I1 P1 hC1 hf1 => ?_)
        have hM1 := hM.frX hf1
        show cn_V l en mi_L_law 100 kc ks S I1 P1 ((fun r _ _ _ => r = some (.int 1))) 213 [(0, .ref 1000000), (1, .ref 0), (2, .ref 155), (3, .int (nI (i)))] [.int (nI (sp_poke ns xs (cn_x en (i + 1)) ((((cn_x en (i + 2)).toInt64) <<< (((nI (32))).toInt64 &&& 63)) ||| (((cn_x en (i + 3)).toInt64) &&& (4294967295)))).1.toNat)]
        refine cn_aload_n (pc' := 214) (k := 2) rfl rfl d_L_law_213 rfl ?_
        refine cn_aload_n (pc' := 215) (k := 0) rfl rfl d_L_law_214 rfl ?_
        refine cn_iload_n (pc' := 216) (k := 3) rfl rfl d_L_law_215 rfl ?_
        refine cn_iconst (pc' := 217) k_c_1 d_L_law_216 rfl ?_
        refine cn_iadd_n (pc' := 218) d_L_law_217 rfl ?_
        refine cn_sld (pc' := 219) (j := i + 1) (by omega) (by omega) d_L_law_218 rfl ?_
        refine cn_aload_n (pc' := 220) (k := 0) rfl rfl d_L_law_219 rfl ?_
        refine cn_iload_n (pc' := 221) (k := 3) rfl rfl d_L_law_220 rfl ?_
        refine cn_iconst (pc' := 222) k_c_2 d_L_law_221 rfl ?_
        refine cn_iadd_n (pc' := 223) d_L_law_222 rfl ?_
        refine cn_sld (pc' := 224) (j := i + 2) (by omega) (by omega) d_L_law_223 rfl ?_
        refine cn_i2l (pc' := 225) d_L_law_224 rfl ?_
        refine cn_bipush (pc' := 227) k_b_32 d_L_law_225 rfl ?_
        refine cn_lshl (pc' := 228) d_L_law_227 rfl ?_
        refine cn_aload_n (pc' := 229) (k := 0) rfl rfl d_L_law_228 rfl ?_
        refine cn_iload_n (pc' := 230) (k := 3) rfl rfl d_L_law_229 rfl ?_
        refine cn_iconst (pc' := 231) k_c_3 d_L_law_230 rfl ?_
        refine cn_iadd_n (pc' := 232) d_L_law_231 rfl ?_
        refine cn_sld (pc' := 233) (j := i + 3) (by omega) (by omega) d_L_law_232 rfl ?_
        refine cn_i2l (pc' := 234) d_L_law_233 rfl ?_
        refine cn_ldc2 (pc' := 237) w_k_L_32 d_L_law_234 rfl ?_
        refine cn_land (pc' := 238) d_L_law_237 rfl ?_
        refine cn_lor (pc' := 239) d_L_law_238 rfl ?_
        refine cn_callV (pc' := 242) (kc1 := 0) (ks1 := 0) (kc2 := kc) (ks2 := ks) (rest := [.int (nI (sp_poke ns xs (cn_x en (i + 1)) ((((cn_x en (i + 2)).toInt64) <<< (((nI (32))).toInt64 &&& 63)) ||| (((cn_x en (i + 3)).toInt64) &&& (4294967295)))).1.toNat)]) (lvj := [(0, .ref 155), (1, .int (cn_x en (i + 1))), (2, .long ((((cn_x en (i + 2)).toInt64) <<< (((nI (32))).toInt64 &&& 63)) ||| (((cn_x en (i + 3)).toInt64) &&& (4294967295))))]) [.int (cn_x en (i + 1)), .long ((((cn_x en (i + 2)).toInt64) <<< (((nI (32))).toInt64 &&& 63)) ||| (((cn_x en (i + 3)).toInt64) &&& (4294967295)))] mv_L_38 hM1.1.1 rfl rfl rfl (Nat.le_of_ble_eq_true rfl) (Nat.le_of_ble_eq_true rfl) (by omega) (by omega) (by omega) d_L_law_239 rfl ?_
        refine C_M_poke hM1 (by omega) (fun I2 hM2 hf2 => ?_)
        have hC2 := hC1.frM hf2
        show cn_V l en mi_L_law 100 kc ks S I2 P1 ((fun r _ _ _ => r = some (.int 1))) 242 [(0, .ref 1000000), (1, .ref 0), (2, .ref 155), (3, .int (nI (i)))] [.int (nI (sp_poke ns xs (cn_x en (i + 1)) ((((cn_x en (i + 2)).toInt64) <<< (((nI (32))).toInt64 &&& 63)) ||| (((cn_x en (i + 3)).toInt64) &&& (4294967295)))).1.toNat), .int (nI (sp_poke ns xs (cn_x en (i + 1)) ((((cn_x en (i + 2)).toInt64) <<< (((nI (32))).toInt64 &&& 63)) ||| (((cn_x en (i + 3)).toInt64) &&& (4294967295)))).1.toNat)]
        refine cn_icmp_eq (tgt := 486) (pc' := 245) d_L_law_242 (by decide) rfl (fun hc242 => ?_) (fun hc242 => ?_)
        · refine cn_iinc (pc' := 489) (lv' := [(0, .ref 1000000), (1, .ref 0), (2, .ref 155), (3, .int (nI (i + 7)))]) (k := 3) [1, 2, 3, 0] rfl (by rw [show Int32.ofInt 7 = nI 7 from by decide +kernel, nI_add]) (Nat.le_of_ble_eq_true rfl) rfl d_L_law_486 rfl ?_
          refine cn_goto (tgt := 18) d_L_law_489 (by decide) ?_
          exact ih (i + 7) _ I2 _ _ (by omega) (by omega) (by omega) hC2 hM2
        · exact absurd rfl hc242
      by_cases hk33_5 : (cn_x en (i)) &&& (nI (15)) = nI 5
      · refine cn_tableIn (tgt := 247) (off := 214) d_L_law_33 (by rw [hk33_5]; decide +kernel) (by rw [hk33_5]; decide +kernel) (by rw [hk33_5]; decide +kernel) (by decide) ?_
        refine cn_aload_n (pc' := 248) (k := 1) rfl rfl d_L_law_247 rfl ?_
        refine cn_aload_n (pc' := 249) (k := 0) rfl rfl d_L_law_248 rfl ?_
        refine cn_iload_n (pc' := 250) (k := 3) rfl rfl d_L_law_249 rfl ?_
        refine cn_iconst (pc' := 251) k_c_1 d_L_law_250 rfl ?_
        refine cn_iadd_n (pc' := 252) d_L_law_251 rfl ?_
        refine cn_sld (pc' := 253) (j := i + 1) (by omega) (by omega) d_L_law_252 rfl ?_
        refine cn_aload_n (pc' := 254) (k := 0) rfl rfl d_L_law_253 rfl ?_
        refine cn_iload_n (pc' := 255) (k := 3) rfl rfl d_L_law_254 rfl ?_
        refine cn_iconst (pc' := 256) k_c_2 d_L_law_255 rfl ?_
        refine cn_iadd_n (pc' := 257) d_L_law_256 rfl ?_
        refine cn_sld (pc' := 258) (j := i + 2) (by omega) (by omega) d_L_law_257 rfl ?_
        refine cn_aload_n (pc' := 259) (k := 0) rfl rfl d_L_law_258 rfl ?_
        refine cn_iload_n (pc' := 260) (k := 3) rfl rfl d_L_law_259 rfl ?_
        refine cn_iconst (pc' := 261) k_c_3 d_L_law_260 rfl ?_
        refine cn_iadd_n (pc' := 262) d_L_law_261 rfl ?_
        refine cn_sld (pc' := 263) (j := i + 3) (by omega) (by omega) d_L_law_262 rfl ?_
        refine cn_aload_n (pc' := 264) (k := 0) rfl rfl d_L_law_263 rfl ?_
        refine cn_iload_n (pc' := 265) (k := 3) rfl rfl d_L_law_264 rfl ?_
        refine cn_iconst (pc' := 266) k_c_4 d_L_law_265 rfl ?_
        refine cn_iadd_n (pc' := 267) d_L_law_266 rfl ?_
        refine cn_sld (pc' := 268) (j := i + 4) (by omega) (by omega) d_L_law_267 rfl ?_
        refine cn_i2l (pc' := 269) d_L_law_268 rfl ?_
        refine cn_bipush (pc' := 271) k_b_32 d_L_law_269 rfl ?_
        refine cn_lshl (pc' := 272) d_L_law_271 rfl ?_
        refine cn_aload_n (pc' := 273) (k := 0) rfl rfl d_L_law_272 rfl ?_
        refine cn_iload_n (pc' := 274) (k := 3) rfl rfl d_L_law_273 rfl ?_
        refine cn_iconst (pc' := 275) k_c_5 d_L_law_274 rfl ?_
        refine cn_iadd_n (pc' := 276) d_L_law_275 rfl ?_
        refine cn_sld (pc' := 277) (j := i + 5) (by omega) (by omega) d_L_law_276 rfl ?_
        refine cn_i2l (pc' := 278) d_L_law_277 rfl ?_
        refine cn_ldc2 (pc' := 281) w_k_L_32 d_L_law_278 rfl ?_
        refine cn_land (pc' := 282) d_L_law_281 rfl ?_
        refine cn_lor (pc' := 283) d_L_law_282 rfl ?_
        refine cn_aload_n (pc' := 284) (k := 0) rfl rfl d_L_law_283 rfl ?_
        refine cn_iload_n (pc' := 285) (k := 3) rfl rfl d_L_law_284 rfl ?_
        refine cn_bipush (pc' := 287) k_b_6 d_L_law_285 rfl ?_
        refine cn_iadd_n (pc' := 288) d_L_law_287 rfl ?_
        refine cn_sld (pc' := 289) (j := i + 6) (by omega) (by omega) d_L_law_288 rfl ?_
        refine cn_callV (pc' := 292) (kc1 := 0) (ks1 := 0) (kc2 := kc) (ks2 := ks) (rest := []) (lvj := [(0, .ref 0), (1, .int (cn_x en (i + 1))), (2, .int (cn_x en (i + 2))), (3, .int (cn_x en (i + 3))), (4, .long ((((cn_x en (i + 4)).toInt64) <<< (((nI (32))).toInt64 &&& 63)) ||| (((cn_x en (i + 5)).toInt64) &&& (4294967295)))), (6, .int (cn_x en (i + 6)))]) [.int (cn_x en (i + 1)), .int (cn_x en (i + 2)), .int (cn_x en (i + 3)), .long ((((cn_x en (i + 4)).toInt64) <<< (((nI (32))).toInt64 &&& 63)) ||| (((cn_x en (i + 5)).toInt64) &&& (4294967295))), .int (cn_x en (i + 6))] mv_L_39 hC.1.1 rfl rfl rfl (Nat.le_of_ble_eq_true rfl) (Nat.le_of_ble_eq_true rfl) (by omega) (by omega) (by omega) d_L_law_289 rfl ?_
        refine C_X_chunk hC (by omega) (fun I1 P1 hC1 hf1 => ?_)
        have hM1 := hM.frX hf1
        show cn_V l en mi_L_law 100 kc ks S I1 P1 ((fun r _ _ _ => r = some (.int 1))) 292 [(0, .ref 1000000), (1, .ref 0), (2, .ref 155), (3, .int (nI (i)))] [.int ((sp_chunk (ns, xs, (ps, pn), ch, (rq, ru)) (cn_x en (i + 1)) (cn_x en (i + 2)) (cn_x en (i + 3)) ((((cn_x en (i + 4)).toInt64) <<< (((nI (32))).toInt64 &&& 63)) ||| (((cn_x en (i + 5)).toInt64) &&& (4294967295))) (cn_x en (i + 6))).1)]
        refine cn_aload_n (pc' := 293) (k := 2) rfl rfl d_L_law_292 rfl ?_
        refine cn_aload_n (pc' := 294) (k := 0) rfl rfl d_L_law_293 rfl ?_
        refine cn_iload_n (pc' := 295) (k := 3) rfl rfl d_L_law_294 rfl ?_
        refine cn_iconst (pc' := 296) k_c_1 d_L_law_295 rfl ?_
        refine cn_iadd_n (pc' := 297) d_L_law_296 rfl ?_
        refine cn_sld (pc' := 298) (j := i + 1) (by omega) (by omega) d_L_law_297 rfl ?_
        refine cn_aload_n (pc' := 299) (k := 0) rfl rfl d_L_law_298 rfl ?_
        refine cn_iload_n (pc' := 300) (k := 3) rfl rfl d_L_law_299 rfl ?_
        refine cn_iconst (pc' := 301) k_c_2 d_L_law_300 rfl ?_
        refine cn_iadd_n (pc' := 302) d_L_law_301 rfl ?_
        refine cn_sld (pc' := 303) (j := i + 2) (by omega) (by omega) d_L_law_302 rfl ?_
        refine cn_aload_n (pc' := 304) (k := 0) rfl rfl d_L_law_303 rfl ?_
        refine cn_iload_n (pc' := 305) (k := 3) rfl rfl d_L_law_304 rfl ?_
        refine cn_iconst (pc' := 306) k_c_3 d_L_law_305 rfl ?_
        refine cn_iadd_n (pc' := 307) d_L_law_306 rfl ?_
        refine cn_sld (pc' := 308) (j := i + 3) (by omega) (by omega) d_L_law_307 rfl ?_
        refine cn_aload_n (pc' := 309) (k := 0) rfl rfl d_L_law_308 rfl ?_
        refine cn_iload_n (pc' := 310) (k := 3) rfl rfl d_L_law_309 rfl ?_
        refine cn_iconst (pc' := 311) k_c_4 d_L_law_310 rfl ?_
        refine cn_iadd_n (pc' := 312) d_L_law_311 rfl ?_
        refine cn_sld (pc' := 313) (j := i + 4) (by omega) (by omega) d_L_law_312 rfl ?_
        refine cn_i2l (pc' := 314) d_L_law_313 rfl ?_
        refine cn_bipush (pc' := 316) k_b_32 d_L_law_314 rfl ?_
        refine cn_lshl (pc' := 317) d_L_law_316 rfl ?_
        refine cn_aload_n (pc' := 318) (k := 0) rfl rfl d_L_law_317 rfl ?_
        refine cn_iload_n (pc' := 319) (k := 3) rfl rfl d_L_law_318 rfl ?_
        refine cn_iconst (pc' := 320) k_c_5 d_L_law_319 rfl ?_
        refine cn_iadd_n (pc' := 321) d_L_law_320 rfl ?_
        refine cn_sld (pc' := 322) (j := i + 5) (by omega) (by omega) d_L_law_321 rfl ?_
        refine cn_i2l (pc' := 323) d_L_law_322 rfl ?_
        refine cn_ldc2 (pc' := 326) w_k_L_32 d_L_law_323 rfl ?_
        refine cn_land (pc' := 327) d_L_law_326 rfl ?_
        refine cn_lor (pc' := 328) d_L_law_327 rfl ?_
        refine cn_aload_n (pc' := 329) (k := 0) rfl rfl d_L_law_328 rfl ?_
        refine cn_iload_n (pc' := 330) (k := 3) rfl rfl d_L_law_329 rfl ?_
        refine cn_bipush (pc' := 332) k_b_6 d_L_law_330 rfl ?_
        refine cn_iadd_n (pc' := 333) d_L_law_332 rfl ?_
        refine cn_sld (pc' := 334) (j := i + 6) (by omega) (by omega) d_L_law_333 rfl ?_
        refine cn_callV (pc' := 337) (kc1 := 0) (ks1 := 0) (kc2 := kc) (ks2 := ks) (rest := [.int ((sp_chunk (ns, xs, (ps, pn), ch, (rq, ru)) (cn_x en (i + 1)) (cn_x en (i + 2)) (cn_x en (i + 3)) ((((cn_x en (i + 4)).toInt64) <<< (((nI (32))).toInt64 &&& 63)) ||| (((cn_x en (i + 5)).toInt64) &&& (4294967295))) (cn_x en (i + 6))).1)]) (lvj := [(0, .ref 155), (1, .int (cn_x en (i + 1))), (2, .int (cn_x en (i + 2))), (3, .int (cn_x en (i + 3))), (4, .long ((((cn_x en (i + 4)).toInt64) <<< (((nI (32))).toInt64 &&& 63)) ||| (((cn_x en (i + 5)).toInt64) &&& (4294967295)))), (6, .int (cn_x en (i + 6)))]) [.int (cn_x en (i + 1)), .int (cn_x en (i + 2)), .int (cn_x en (i + 3)), .long ((((cn_x en (i + 4)).toInt64) <<< (((nI (32))).toInt64 &&& 63)) ||| (((cn_x en (i + 5)).toInt64) &&& (4294967295))), .int (cn_x en (i + 6))] mv_L_43 hM1.1.1 rfl rfl rfl (Nat.le_of_ble_eq_true rfl) (Nat.le_of_ble_eq_true rfl) (by omega) (by omega) (by omega) d_L_law_334 rfl ?_
        refine C_M_chunk hM1 (by omega) (by omega) (fun I2 hM2 hf2 => ?_)
        have hC2 := hC1.frM hf2
        show cn_V l en mi_L_law 100 kc ks S I2 P1 ((fun r _ _ _ => r = some (.int 1))) 337 [(0, .ref 1000000), (1, .ref 0), (2, .ref 155), (3, .int (nI (i)))] [.int ((sp_chunk (ns, xs, (ps, pn), ch, (rq, ru)) (cn_x en (i + 1)) (cn_x en (i + 2)) (cn_x en (i + 3)) ((((cn_x en (i + 4)).toInt64) <<< (((nI (32))).toInt64 &&& 63)) ||| (((cn_x en (i + 5)).toInt64) &&& (4294967295))) (cn_x en (i + 6))).1), .int ((sp_chunk (ns, xs, (ps, pn), ch, (rq, ru)) (cn_x en (i + 1)) (cn_x en (i + 2)) (cn_x en (i + 3)) ((((cn_x en (i + 4)).toInt64) <<< (((nI (32))).toInt64 &&& 63)) ||| (((cn_x en (i + 5)).toInt64) &&& (4294967295))) (cn_x en (i + 6))).1)]
        refine cn_icmp_eq (tgt := 486) (pc' := 340) d_L_law_337 (by decide) rfl (fun hc337 => ?_) (fun hc337 => ?_)
        · refine cn_iinc (pc' := 489) (lv' := [(0, .ref 1000000), (1, .ref 0), (2, .ref 155), (3, .int (nI (i + 7)))]) (k := 3) [1, 2, 3, 0] rfl (by rw [show Int32.ofInt 7 = nI 7 from by decide +kernel, nI_add]) (Nat.le_of_ble_eq_true rfl) rfl d_L_law_486 rfl ?_
          refine cn_goto (tgt := 18) d_L_law_489 (by decide) ?_
          exact ih (i + 7) _ I2 _ _ (by omega) (by omega) (by omega) hC2 hM2
        · exact absurd rfl hc337
      by_cases hk33_6 : (cn_x en (i)) &&& (nI (15)) = nI 6
      · refine cn_tableIn (tgt := 342) (off := 309) d_L_law_33 (by rw [hk33_6]; decide +kernel) (by rw [hk33_6]; decide +kernel) (by rw [hk33_6]; decide +kernel) (by decide) ?_
        refine cn_aload_n (pc' := 343) (k := 1) rfl rfl d_L_law_342 rfl ?_
        refine cn_callV (pc' := 346) (kc1 := 0) (ks1 := 0) (kc2 := kc) (ks2 := ks) (rest := []) (lvj := [(0, .ref 0)]) [] mv_L_44 hC.1.1 rfl rfl rfl (Nat.le_of_ble_eq_true rfl) (Nat.le_of_ble_eq_true rfl) (by omega) (by omega) (by omega) d_L_law_343 rfl ?_
        refine C_X_part hC ?_
        show cn_V l en mi_L_law 100 kc ks S I P ((fun r _ _ _ => r = some (.int 1))) 346 [(0, .ref 1000000), (1, .ref 0), (2, .ref 155), (3, .int (nI (i)))] [.int (sp_part ch)]
        refine cn_aload_n (pc' := 347) (k := 2) rfl rfl d_L_law_346 rfl ?_
        refine cn_callV (pc' := 350) (kc1 := 0) (ks1 := 0) (kc2 := kc) (ks2 := ks) (rest := [.int (sp_part ch)]) (lvj := [(0, .ref 155)]) [] mv_L_48 hM.1.1 rfl rfl rfl (Nat.le_of_ble_eq_true rfl) (Nat.le_of_ble_eq_true rfl) (by omega) (by omega) (by omega) d_L_law_347 rfl ?_
        refine C_M_part hM ?_
        show cn_V l en mi_L_law 100 kc ks S I P ((fun r _ _ _ => r = some (.int 1))) 350 [(0, .ref 1000000), (1, .ref 0), (2, .ref 155), (3, .int (nI (i)))] [.int (sp_part ch), .int (sp_part ch)]
        refine cn_icmp_eq (tgt := 486) (pc' := 353) d_L_law_350 (by decide) rfl (fun hc350 => ?_) (fun hc350 => ?_)
        · refine cn_iinc (pc' := 489) (lv' := [(0, .ref 1000000), (1, .ref 0), (2, .ref 155), (3, .int (nI (i + 7)))]) (k := 3) [1, 2, 3, 0] rfl (by rw [show Int32.ofInt 7 = nI 7 from by decide +kernel, nI_add]) (Nat.le_of_ble_eq_true rfl) rfl d_L_law_486 rfl ?_
          refine cn_goto (tgt := 18) d_L_law_489 (by decide) ?_
          exact ih (i + 7) T I P _ (by omega) (by omega) (by omega) hC hM
        · exact absurd rfl hc350
      by_cases hk33_7 : (cn_x en (i)) &&& (nI (15)) = nI 7
      · refine cn_tableIn (tgt := 355) (off := 322) d_L_law_33 (by rw [hk33_7]; decide +kernel) (by rw [hk33_7]; decide +kernel) (by rw [hk33_7]; decide +kernel) (by decide) ?_
        refine cn_aload_n (pc' := 356) (k := 1) rfl rfl d_L_law_355 rfl ?_
        refine cn_callV (pc' := 359) (kc1 := 0) (ks1 := 0) (kc2 := kc) (ks2 := ks) (rest := []) (lvj := [(0, .ref 0)]) [] mv_L_49 hC.1.1 rfl rfl rfl (Nat.le_of_ble_eq_true rfl) (Nat.le_of_ble_eq_true rfl) (by omega) (by omega) (by omega) d_L_law_356 rfl ?_
        refine C_X_answerLength hC ?_
        show cn_V l en mi_L_law 100 kc ks S I P ((fun r _ _ _ => r = some (.int 1))) 359 [(0, .ref 1000000), (1, .ref 0), (2, .ref 155), (3, .int (nI (i)))] [.int (nI ru.length)]
        refine cn_aload_n (pc' := 360) (k := 2) rfl rfl d_L_law_359 rfl ?_
        refine cn_callV (pc' := 363) (kc1 := 0) (ks1 := 0) (kc2 := kc) (ks2 := ks) (rest := [.int (nI ru.length)]) (lvj := [(0, .ref 155)]) [] mv_L_52 hM.1.1 rfl rfl rfl (Nat.le_of_ble_eq_true rfl) (Nat.le_of_ble_eq_true rfl) (by omega) (by omega) (by omega) d_L_law_360 rfl ?_
        refine C_M_answerLength hM ?_
        show cn_V l en mi_L_law 100 kc ks S I P ((fun r _ _ _ => r = some (.int 1))) 363 [(0, .ref 1000000), (1, .ref 0), (2, .ref 155), (3, .int (nI (i)))] [.int (nI ru.length), .int (nI ru.length)]
        refine cn_icmp_eq (tgt := 486) (pc' := 366) d_L_law_363 (by decide) rfl (fun hc363 => ?_) (fun hc363 => ?_)
        · refine cn_iinc (pc' := 489) (lv' := [(0, .ref 1000000), (1, .ref 0), (2, .ref 155), (3, .int (nI (i + 7)))]) (k := 3) [1, 2, 3, 0] rfl (by rw [show Int32.ofInt 7 = nI 7 from by decide +kernel, nI_add]) (Nat.le_of_ble_eq_true rfl) rfl d_L_law_486 rfl ?_
          refine cn_goto (tgt := 18) d_L_law_489 (by decide) ?_
          exact ih (i + 7) T I P _ (by omega) (by omega) (by omega) hC hM
        · exact absurd rfl hc363
      by_cases hk33_8 : (cn_x en (i)) &&& (nI (15)) = nI 8
      · refine cn_tableIn (tgt := 368) (off := 335) d_L_law_33 (by rw [hk33_8]; decide +kernel) (by rw [hk33_8]; decide +kernel) (by rw [hk33_8]; decide +kernel) (by decide) ?_
        refine cn_aload_n (pc' := 369) (k := 1) rfl rfl d_L_law_368 rfl ?_
        refine cn_aload_n (pc' := 370) (k := 0) rfl rfl d_L_law_369 rfl ?_
        refine cn_iload_n (pc' := 371) (k := 3) rfl rfl d_L_law_370 rfl ?_
        refine cn_iconst (pc' := 372) k_c_1 d_L_law_371 rfl ?_
        refine cn_iadd_n (pc' := 373) d_L_law_372 rfl ?_
        refine cn_sld (pc' := 374) (j := i + 1) (by omega) (by omega) d_L_law_373 rfl ?_
        refine cn_callV (pc' := 377) (kc1 := 0) (ks1 := 0) (kc2 := kc) (ks2 := ks) (rest := []) (lvj := [(0, .ref 0), (1, .int (cn_x en (i + 1)))]) [.int (cn_x en (i + 1))] mv_L_53 hC.1.1 rfl rfl rfl (Nat.le_of_ble_eq_true rfl) (Nat.le_of_ble_eq_true rfl) (by omega) (by omega) (by omega) d_L_law_374 rfl ?_
        refine C_X_answer hC (by omega) ?_
        show cn_V l en mi_L_law 100 kc ks S I P ((fun r _ _ _ => r = some (.int 1))) 377 [(0, .ref 1000000), (1, .ref 0), (2, .ref 155), (3, .int (nI (i)))] [.int (sp_ans ru (cn_x en (i + 1)))]
        refine cn_aload_n (pc' := 378) (k := 2) rfl rfl d_L_law_377 rfl ?_
        refine cn_aload_n (pc' := 379) (k := 0) rfl rfl d_L_law_378 rfl ?_
        refine cn_iload_n (pc' := 380) (k := 3) rfl rfl d_L_law_379 rfl ?_
        refine cn_iconst (pc' := 381) k_c_1 d_L_law_380 rfl ?_
        refine cn_iadd_n (pc' := 382) d_L_law_381 rfl ?_
        refine cn_sld (pc' := 383) (j := i + 1) (by omega) (by omega) d_L_law_382 rfl ?_
        refine cn_callV (pc' := 386) (kc1 := 0) (ks1 := 0) (kc2 := kc) (ks2 := ks) (rest := [.int (sp_ans ru (cn_x en (i + 1)))]) (lvj := [(0, .ref 155), (1, .int (cn_x en (i + 1)))]) [.int (cn_x en (i + 1))] mv_L_56 hM.1.1 rfl rfl rfl (Nat.le_of_ble_eq_true rfl) (Nat.le_of_ble_eq_true rfl) (by omega) (by omega) (by omega) d_L_law_383 rfl ?_
        refine C_M_answer hM ?_
        show cn_V l en mi_L_law 100 kc ks S I P ((fun r _ _ _ => r = some (.int 1))) 386 [(0, .ref 1000000), (1, .ref 0), (2, .ref 155), (3, .int (nI (i)))] [.int (sp_ans ru (cn_x en (i + 1))), .int (sp_ans ru (cn_x en (i + 1)))]
        refine cn_icmp_eq (tgt := 486) (pc' := 389) d_L_law_386 (by decide) rfl (fun hc386 => ?_) (fun hc386 => ?_)
        · refine cn_iinc (pc' := 489) (lv' := [(0, .ref 1000000), (1, .ref 0), (2, .ref 155), (3, .int (nI (i + 7)))]) (k := 3) [1, 2, 3, 0] rfl (by rw [show Int32.ofInt 7 = nI 7 from by decide +kernel, nI_add]) (Nat.le_of_ble_eq_true rfl) rfl d_L_law_486 rfl ?_
          refine cn_goto (tgt := 18) d_L_law_489 (by decide) ?_
          exact ih (i + 7) T I P _ (by omega) (by omega) (by omega) hC hM
        · exact absurd rfl hc386
      by_cases hk33_9 : (cn_x en (i)) &&& (nI (15)) = nI 9
      · refine cn_tableIn (tgt := 391) (off := 358) d_L_law_33 (by rw [hk33_9]; decide +kernel) (by rw [hk33_9]; decide +kernel) (by rw [hk33_9]; decide +kernel) (by decide) ?_
        refine cn_aload_n (pc' := 392) (k := 1) rfl rfl d_L_law_391 rfl ?_
        refine cn_callV (pc' := 395) (kc1 := 0) (ks1 := 0) (kc2 := kc) (ks2 := ks) (rest := []) (lvj := [(0, .ref 0)]) [] mv_L_57 hC.1.1 rfl rfl rfl (Nat.le_of_ble_eq_true rfl) (Nat.le_of_ble_eq_true rfl) (by omega) (by omega) (by omega) d_L_law_392 rfl ?_
        refine C_X_request hC ?_
        show cn_V l en mi_L_law 100 kc ks S I P ((fun r _ _ _ => r = some (.int 1))) 395 [(0, .ref 1000000), (1, .ref 0), (2, .ref 155), (3, .int (nI (i)))] [.int (rq)]
        refine cn_aload_n (pc' := 396) (k := 2) rfl rfl d_L_law_395 rfl ?_
        refine cn_callV (pc' := 399) (kc1 := 0) (ks1 := 0) (kc2 := kc) (ks2 := ks) (rest := [.int (rq)]) (lvj := [(0, .ref 155)]) [] mv_L_60 hM.1.1 rfl rfl rfl (Nat.le_of_ble_eq_true rfl) (Nat.le_of_ble_eq_true rfl) (by omega) (by omega) (by omega) d_L_law_396 rfl ?_
        refine C_M_request hM ?_
        show cn_V l en mi_L_law 100 kc ks S I P ((fun r _ _ _ => r = some (.int 1))) 399 [(0, .ref 1000000), (1, .ref 0), (2, .ref 155), (3, .int (nI (i)))] [.int (rq), .int (rq)]
        refine cn_icmp_eq (tgt := 486) (pc' := 402) d_L_law_399 (by decide) rfl (fun hc399 => ?_) (fun hc399 => ?_)
        · refine cn_iinc (pc' := 489) (lv' := [(0, .ref 1000000), (1, .ref 0), (2, .ref 155), (3, .int (nI (i + 7)))]) (k := 3) [1, 2, 3, 0] rfl (by rw [show Int32.ofInt 7 = nI 7 from by decide +kernel, nI_add]) (Nat.le_of_ble_eq_true rfl) rfl d_L_law_486 rfl ?_
          refine cn_goto (tgt := 18) d_L_law_489 (by decide) ?_
          exact ih (i + 7) T I P _ (by omega) (by omega) (by omega) hC hM
        · exact absurd rfl hc399
      by_cases hk33_10 : (cn_x en (i)) &&& (nI (15)) = nI 10
      · refine cn_tableIn (tgt := 404) (off := 371) d_L_law_33 (by rw [hk33_10]; decide +kernel) (by rw [hk33_10]; decide +kernel) (by rw [hk33_10]; decide +kernel) (by decide) ?_
        refine cn_aload_n (pc' := 405) (k := 1) rfl rfl d_L_law_404 rfl ?_
        refine cn_aload_n (pc' := 406) (k := 0) rfl rfl d_L_law_405 rfl ?_
        refine cn_iload_n (pc' := 407) (k := 3) rfl rfl d_L_law_406 rfl ?_
        refine cn_iconst (pc' := 408) k_c_1 d_L_law_407 rfl ?_
        refine cn_iadd_n (pc' := 409) d_L_law_408 rfl ?_
        refine cn_sld (pc' := 410) (j := i + 1) (by omega) (by omega) d_L_law_409 rfl ?_
        refine cn_callV (pc' := 413) (kc1 := 0) (ks1 := 0) (kc2 := kc) (ks2 := ks) (rest := []) (lvj := [(0, .ref 0), (1, .int (cn_x en (i + 1)))]) [.int (cn_x en (i + 1))] mv_L_61 hC.1.1 rfl rfl rfl (Nat.le_of_ble_eq_true rfl) (Nat.le_of_ble_eq_true rfl) (by omega) (by omega) (by omega) d_L_law_410 rfl ?_
        refine C_X_queue hC ?_
        show cn_V l en mi_L_law 100 kc ks S I P ((fun r _ _ _ => r = some (.int 1))) 413 [(0, .ref 1000000), (1, .ref 0), (2, .ref 155), (3, .int (nI (i)))] [.int (sp_queue xs (cn_x en (i + 1)))]
        refine cn_aload_n (pc' := 414) (k := 2) rfl rfl d_L_law_413 rfl ?_
        refine cn_aload_n (pc' := 415) (k := 0) rfl rfl d_L_law_414 rfl ?_
        refine cn_iload_n (pc' := 416) (k := 3) rfl rfl d_L_law_415 rfl ?_
        refine cn_iconst (pc' := 417) k_c_1 d_L_law_416 rfl ?_
        refine cn_iadd_n (pc' := 418) d_L_law_417 rfl ?_
        refine cn_sld (pc' := 419) (j := i + 1) (by omega) (by omega) d_L_law_418 rfl ?_
        refine cn_callV (pc' := 422) (kc1 := 0) (ks1 := 0) (kc2 := kc) (ks2 := ks) (rest := [.int (sp_queue xs (cn_x en (i + 1)))]) (lvj := [(0, .ref 155), (1, .int (cn_x en (i + 1)))]) [.int (cn_x en (i + 1))] mv_L_64 hM.1.1 rfl rfl rfl (Nat.le_of_ble_eq_true rfl) (Nat.le_of_ble_eq_true rfl) (by omega) (by omega) (by omega) d_L_law_419 rfl ?_
        refine C_M_queue hM ?_
        show cn_V l en mi_L_law 100 kc ks S I P ((fun r _ _ _ => r = some (.int 1))) 422 [(0, .ref 1000000), (1, .ref 0), (2, .ref 155), (3, .int (nI (i)))] [.int (sp_queue xs (cn_x en (i + 1))), .int (sp_queue xs (cn_x en (i + 1)))]
        refine cn_icmp_eq (tgt := 486) (pc' := 425) d_L_law_422 (by decide) rfl (fun hc422 => ?_) (fun hc422 => ?_)
        · refine cn_iinc (pc' := 489) (lv' := [(0, .ref 1000000), (1, .ref 0), (2, .ref 155), (3, .int (nI (i + 7)))]) (k := 3) [1, 2, 3, 0] rfl (by rw [show Int32.ofInt 7 = nI 7 from by decide +kernel, nI_add]) (Nat.le_of_ble_eq_true rfl) rfl d_L_law_486 rfl ?_
          refine cn_goto (tgt := 18) d_L_law_489 (by decide) ?_
          exact ih (i + 7) T I P _ (by omega) (by omega) (by omega) hC hM
        · exact absurd rfl hc422
      by_cases hk33_11 : (cn_x en (i)) &&& (nI (15)) = nI 11
      · refine cn_tableIn (tgt := 427) (off := 394) d_L_law_33 (by rw [hk33_11]; decide +kernel) (by rw [hk33_11]; decide +kernel) (by rw [hk33_11]; decide +kernel) (by decide) ?_
        refine cn_aload_n (pc' := 428) (k := 1) rfl rfl d_L_law_427 rfl ?_
        refine cn_callV (pc' := 431) (kc1 := 0) (ks1 := 0) (kc2 := kc) (ks2 := ks) (rest := []) (lvj := [(0, .ref 0)]) [] mv_L_65 hC.1.1 rfl rfl rfl (Nat.le_of_ble_eq_true rfl) (Nat.le_of_ble_eq_true rfl) (by omega) (by omega) (by omega) d_L_law_428 rfl ?_
        refine C_X_parcels hC ?_
        show cn_V l en mi_L_law 100 kc ks S I P ((fun r _ _ _ => r = some (.int 1))) 431 [(0, .ref 1000000), (1, .ref 0), (2, .ref 155), (3, .int (nI (i)))] [.int (nI ps.length)]
        refine cn_aload_n (pc' := 432) (k := 2) rfl rfl d_L_law_431 rfl ?_
        refine cn_callV (pc' := 435) (kc1 := 0) (ks1 := 0) (kc2 := kc) (ks2 := ks) (rest := [.int (nI ps.length)]) (lvj := [(0, .ref 155)]) [] mv_L_68 hM.1.1 rfl rfl rfl (Nat.le_of_ble_eq_true rfl) (Nat.le_of_ble_eq_true rfl) (by omega) (by omega) (by omega) d_L_law_432 rfl ?_
        refine C_M_parcels hM ?_
        show cn_V l en mi_L_law 100 kc ks S I P ((fun r _ _ _ => r = some (.int 1))) 435 [(0, .ref 1000000), (1, .ref 0), (2, .ref 155), (3, .int (nI (i)))] [.int (nI ps.length), .int (nI ps.length)]
        refine cn_icmp_eq (tgt := 486) (pc' := 438) d_L_law_435 (by decide) rfl (fun hc435 => ?_) (fun hc435 => ?_)
        · refine cn_iinc (pc' := 489) (lv' := [(0, .ref 1000000), (1, .ref 0), (2, .ref 155), (3, .int (nI (i + 7)))]) (k := 3) [1, 2, 3, 0] rfl (by rw [show Int32.ofInt 7 = nI 7 from by decide +kernel, nI_add]) (Nat.le_of_ble_eq_true rfl) rfl d_L_law_486 rfl ?_
          refine cn_goto (tgt := 18) d_L_law_489 (by decide) ?_
          exact ih (i + 7) T I P _ (by omega) (by omega) (by omega) hC hM
        · exact absurd rfl hc435
      by_cases hk33_12 : (cn_x en (i)) &&& (nI (15)) = nI 12
      · refine cn_tableIn (tgt := 440) (off := 407) d_L_law_33 (by rw [hk33_12]; decide +kernel) (by rw [hk33_12]; decide +kernel) (by rw [hk33_12]; decide +kernel) (by decide) ?_
        refine cn_aload_n (pc' := 441) (k := 1) rfl rfl d_L_law_440 rfl ?_
        refine cn_aload_n (pc' := 442) (k := 0) rfl rfl d_L_law_441 rfl ?_
        refine cn_iload_n (pc' := 443) (k := 3) rfl rfl d_L_law_442 rfl ?_
        refine cn_iconst (pc' := 444) k_c_1 d_L_law_443 rfl ?_
        refine cn_iadd_n (pc' := 445) d_L_law_444 rfl ?_
        refine cn_sld (pc' := 446) (j := i + 1) (by omega) (by omega) d_L_law_445 rfl ?_
        refine cn_callV (pc' := 449) (kc1 := 0) (ks1 := 0) (kc2 := kc) (ks2 := ks) (rest := []) (lvj := [(0, .ref 0), (1, .int (cn_x en (i + 1)))]) [.int (cn_x en (i + 1))] mv_L_69 hC.1.1 rfl rfl rfl (Nat.le_of_ble_eq_true rfl) (Nat.le_of_ble_eq_true rfl) (by omega) (by omega) (by omega) d_L_law_446 rfl ?_
        refine C_X_parcel hC ?_
        show cn_V l en mi_L_law 100 kc ks S I P ((fun r _ _ _ => r = some (.int 1))) 449 [(0, .ref 1000000), (1, .ref 0), (2, .ref 155), (3, .int (nI (i)))] [.int (sp_parcel ps (cn_x en (i + 1)))]
        refine cn_aload_n (pc' := 450) (k := 2) rfl rfl d_L_law_449 rfl ?_
        refine cn_aload_n (pc' := 451) (k := 0) rfl rfl d_L_law_450 rfl ?_
        refine cn_iload_n (pc' := 452) (k := 3) rfl rfl d_L_law_451 rfl ?_
        refine cn_iconst (pc' := 453) k_c_1 d_L_law_452 rfl ?_
        refine cn_iadd_n (pc' := 454) d_L_law_453 rfl ?_
        refine cn_sld (pc' := 455) (j := i + 1) (by omega) (by omega) d_L_law_454 rfl ?_
        refine cn_callV (pc' := 458) (kc1 := 0) (ks1 := 0) (kc2 := kc) (ks2 := ks) (rest := [.int (sp_parcel ps (cn_x en (i + 1)))]) (lvj := [(0, .ref 155), (1, .int (cn_x en (i + 1)))]) [.int (cn_x en (i + 1))] mv_L_72 hM.1.1 rfl rfl rfl (Nat.le_of_ble_eq_true rfl) (Nat.le_of_ble_eq_true rfl) (by omega) (by omega) (by omega) d_L_law_455 rfl ?_
        refine C_M_parcel hM ?_
        show cn_V l en mi_L_law 100 kc ks S I P ((fun r _ _ _ => r = some (.int 1))) 458 [(0, .ref 1000000), (1, .ref 0), (2, .ref 155), (3, .int (nI (i)))] [.int (sp_parcel ps (cn_x en (i + 1))), .int (sp_parcel ps (cn_x en (i + 1)))]
        refine cn_icmp_eq (tgt := 486) (pc' := 461) d_L_law_458 (by decide) rfl (fun hc458 => ?_) (fun hc458 => ?_)
        · refine cn_iinc (pc' := 489) (lv' := [(0, .ref 1000000), (1, .ref 0), (2, .ref 155), (3, .int (nI (i + 7)))]) (k := 3) [1, 2, 3, 0] rfl (by rw [show Int32.ofInt 7 = nI 7 from by decide +kernel, nI_add]) (Nat.le_of_ble_eq_true rfl) rfl d_L_law_486 rfl ?_
          refine cn_goto (tgt := 18) d_L_law_489 (by decide) ?_
          exact ih (i + 7) T I P _ (by omega) (by omega) (by omega) hC hM
        · exact absurd rfl hc458
      by_cases hk33_13 : (cn_x en (i)) &&& (nI (15)) = nI 13
      · refine cn_tableIn (tgt := 463) (off := 430) d_L_law_33 (by rw [hk33_13]; decide +kernel) (by rw [hk33_13]; decide +kernel) (by rw [hk33_13]; decide +kernel) (by decide) ?_
        refine cn_aload_n (pc' := 464) (k := 1) rfl rfl d_L_law_463 rfl ?_
        refine cn_aload_n (pc' := 465) (k := 0) rfl rfl d_L_law_464 rfl ?_
        refine cn_iload_n (pc' := 466) (k := 3) rfl rfl d_L_law_465 rfl ?_
        refine cn_iconst (pc' := 467) k_c_1 d_L_law_466 rfl ?_
        refine cn_iadd_n (pc' := 468) d_L_law_467 rfl ?_
        refine cn_sld (pc' := 469) (j := i + 1) (by omega) (by omega) d_L_law_468 rfl ?_
        refine cn_callV (pc' := 472) (kc1 := 0) (ks1 := 0) (kc2 := kc) (ks2 := ks) (rest := []) (lvj := [(0, .ref 0), (1, .int (cn_x en (i + 1)))]) [.int (cn_x en (i + 1))] mv_L_73 hC.1.1 rfl rfl rfl (Nat.le_of_ble_eq_true rfl) (Nat.le_of_ble_eq_true rfl) (by omega) (by omega) (by omega) d_L_law_469 rfl ?_
        refine C_X_size hC (by omega) ?_
        show cn_V l en mi_L_law 100 kc ks S I P ((fun r _ _ _ => r = some (.int 1))) 472 [(0, .ref 1000000), (1, .ref 0), (2, .ref 155), (3, .int (nI (i)))] [.int (sp_size ns (cn_x en (i + 1)))]
        refine cn_aload_n (pc' := 473) (k := 2) rfl rfl d_L_law_472 rfl ?_
        refine cn_aload_n (pc' := 474) (k := 0) rfl rfl d_L_law_473 rfl ?_
        refine cn_iload_n (pc' := 475) (k := 3) rfl rfl d_L_law_474 rfl ?_
        refine cn_iconst (pc' := 476) k_c_1 d_L_law_475 rfl ?_
        refine cn_iadd_n (pc' := 477) d_L_law_476 rfl ?_
        refine cn_sld (pc' := 478) (j := i + 1) (by omega) (by omega) d_L_law_477 rfl ?_
        refine cn_callV (pc' := 481) (kc1 := 0) (ks1 := 0) (kc2 := kc) (ks2 := ks) (rest := [.int (sp_size ns (cn_x en (i + 1)))]) (lvj := [(0, .ref 155), (1, .int (cn_x en (i + 1)))]) [.int (cn_x en (i + 1))] mv_L_76 hM.1.1 rfl rfl rfl (Nat.le_of_ble_eq_true rfl) (Nat.le_of_ble_eq_true rfl) (by omega) (by omega) (by omega) d_L_law_478 rfl ?_
        refine C_M_size hM (by omega) ?_
        show cn_V l en mi_L_law 100 kc ks S I P ((fun r _ _ _ => r = some (.int 1))) 481 [(0, .ref 1000000), (1, .ref 0), (2, .ref 155), (3, .int (nI (i)))] [.int (sp_size ns (cn_x en (i + 1))), .int (sp_size ns (cn_x en (i + 1)))]
        refine cn_icmp_eq (tgt := 486) (pc' := 484) d_L_law_481 (by decide) rfl (fun hc481 => ?_) (fun hc481 => ?_)
        · refine cn_iinc (pc' := 489) (lv' := [(0, .ref 1000000), (1, .ref 0), (2, .ref 155), (3, .int (nI (i + 7)))]) (k := 3) [1, 2, 3, 0] rfl (by rw [show Int32.ofInt 7 = nI 7 from by decide +kernel, nI_add]) (Nat.le_of_ble_eq_true rfl) rfl d_L_law_486 rfl ?_
          refine cn_goto (tgt := 18) d_L_law_489 (by decide) ?_
          exact ih (i + 7) T I P _ (by omega) (by omega) (by omega) hC hM
        · exact absurd rfl hc481
      · have hkd : ((cn_x en (i)) &&& (nI (15))).toInt < 0 ∨ 13 < ((cn_x en (i)) &&& (nI (15))).toInt := by
          have q0 := lv_neT (a := 0) hk33_0 (by decide +kernel)
          have q1 := lv_neT (a := 1) hk33_1 (by decide +kernel)
          have q2 := lv_neT (a := 2) hk33_2 (by decide +kernel)
          have q3 := lv_neT (a := 3) hk33_3 (by decide +kernel)
          have q4 := lv_neT (a := 4) hk33_4 (by decide +kernel)
          have q5 := lv_neT (a := 5) hk33_5 (by decide +kernel)
          have q6 := lv_neT (a := 6) hk33_6 (by decide +kernel)
          have q7 := lv_neT (a := 7) hk33_7 (by decide +kernel)
          have q8 := lv_neT (a := 8) hk33_8 (by decide +kernel)
          have q9 := lv_neT (a := 9) hk33_9 (by decide +kernel)
          have q10 := lv_neT (a := 10) hk33_10 (by decide +kernel)
          have q11 := lv_neT (a := 11) hk33_11 (by decide +kernel)
          have q12 := lv_neT (a := 12) hk33_12 (by decide +kernel)
          have q13 := lv_neT (a := 13) hk33_13 (by decide +kernel)
          omega
        refine cn_tableOut (tgt := 486) d_L_law_33 hkd (by decide) ?_
        refine cn_iinc (pc' := 489) (lv' := [(0, .ref 1000000), (1, .ref 0), (2, .ref 155), (3, .int (nI (i + 7)))]) (k := 3) [1, 2, 3, 0] rfl (by rw [show Int32.ofInt 7 = nI 7 from by decide +kernel, nI_add]) (Nat.le_of_ble_eq_true rfl) rfl d_L_law_486 rfl ?_
        refine cn_goto (tgt := 18) d_L_law_489 (by decide) ?_
        exact ih (i + 7) T I P _ (by omega) (by omega) (by omega) hC hM
theorem cn_law (l : Launch) : cn_Law l := by
  intro en hL
  refine ci_new (pc' := 3) (N := 0) (kc' := 599999) (ks' := 7302240) (by omega) (by omega) nw_L_7 (by decide) (by first | omega | decide) (by first | (show _ + 10 ≤ _; omega) | decide) d_L_law_0 rfl (fun S1 I1 P1 hn1 hx1 ho1 hz1 hI1 hP1 => ?_)
  refine cn_dup (pc' := 4) rfl d_L_law_3 rfl ?_
  refine cn_callI (pc' := 7) (kc1 := 154) (ks1 := 3632) (kc2 := 599845) (ks2 := 7298608) (a := 0) (rest := [.ref 0]) (lvj := [(0, .ref 0)]) [] mn_L_9 (by omega) rfl rfl rfl (Nat.le_of_ble_eq_true rfl) (Nat.le_of_ble_eq_true rfl) (by omega) (by first | omega | decide) (by first | omega | decide) d_L_law_4 rfl ?_
  refine i_X hn1 ho1 hz1 (by omega) (fun S2 I2 P2 hn2 hC2 => ?_)
  show cn_V l en mi_L_law 100 599845 7298608 S2 I2 P2 ((fun r _ _ _ => r = some (.int 1))) 7 [(0, .ref 1000000)] [.ref 0]
  refine cn_astore_n (pc' := 8) (lv' := [(0, .ref 1000000), (1, .ref 0)]) rfl [1, 0] (Nat.le_of_ble_eq_true rfl) rfl d_L_law_7 rfl ?_
  refine ci_new (pc' := 11) (N := 155) (kc' := 599844) (ks' := 7298571) (by omega) (by omega) nw_L_10 (by decide) (by first | omega | decide) (by first | (show _ + 37 ≤ _; omega) | decide) d_L_law_8 rfl (fun S3 I3 P3 hn3 hx3 ho3 hz3 hI3 hP3 => ?_)
  refine cn_dup (pc' := 12) rfl d_L_law_11 rfl ?_
  refine cn_callI (pc' := 15) (kc1 := 19) (ks1 := 3634) (kc2 := 599825) (ks2 := 7294937) (a := 155) (rest := [.ref 155]) (lvj := [(0, .ref 155)]) [] mn_L_12 (by omega) rfl rfl rfl (Nat.le_of_ble_eq_true rfl) (Nat.le_of_ble_eq_true rfl) (by omega) (by first | omega | decide) (by first | omega | decide) d_L_law_12 rfl ?_
  refine i_M hn3 ho3 hz3 (by omega) (fun S4 I4 P4 hn4 hx4 hM4 hI4 hP4 => ?_)
  show cn_V l en mi_L_law 100 599825 7294937 S4 I4 P4 ((fun r _ _ _ => r = some (.int 1))) 15 [(0, .ref 1000000), (1, .ref 0)] [.ref 155]
  refine cn_astore_n (pc' := 16) (lv' := [(0, .ref 1000000), (1, .ref 0), (2, .ref 155)]) rfl [1, 2, 0] (Nat.le_of_ble_eq_true rfl) rfl d_L_law_15 rfl ?_
  refine cn_iconst (pc' := 17) k_c_0 d_L_law_16 rfl ?_
  refine cn_istore_n (pc' := 18) (lv' := [(0, .ref 1000000), (1, .ref 0), (2, .ref 155), (3, .int (nI (0)))]) rfl [1, 2, 3, 0] (Nat.le_of_ble_eq_true rfl) rfl d_L_law_17 rfl ?_
  have hx24 : ext S2 S4 := hx3.tr hx4
  have hIr : ∀ b, b < 155 → I4 b = I2 b := fun b hb => (hI4 b hb).trans (hI3 b (by omega))
  have hPr : ∀ b, b < 155 → P4 b = P2 b := fun b hb => (hP4 b hb).trans (hP3 b (by omega))
  exact law_18 hL 600 0 0 I4 P4 s0 (by omega) (by omega) (by omega) (hC2.ext hx24 hIr hPr) hM4
