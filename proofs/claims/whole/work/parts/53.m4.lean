theorem tyc (t : Int32) : t = nI 1 ∨ t = nI 6 ∨ t = nI 8 ∨ ¬ (t = nI 1 ∨ t = nI 6 ∨ t = nI 8) := by
  by_cases h1 : t = nI 1
  · exact Or.inl h1
  · by_cases h6 : t = nI 6
    · exact Or.inr (Or.inl h6)
    · by_cases h8 : t = nI 8
      · exact Or.inr (Or.inr (Or.inl h8))
      · exact Or.inr (Or.inr (Or.inr (fun h => h.elim h1 (fun h => h.elim h6 h8))))
theorem isv_ne {ns : List sNode} {k : Nat} (h : isv ns k = true) : ¬ (ns.getD k nd0).2.1 = -1 := by unfold isv at h; simpa using h
section
variable {l : Launch} {en : cn_E} {d : Nat} {S : cn_S} {I : cn_I} {P : cn_P} {Q : Option Value → cn_S → cn_I → cn_P → Prop}
variable {ns : List sNode} {xs : List sItem} {ps : List sPar} {pn : Int32} {ch : sCh} {rq : Int32} {ru : List Int32} {T : Nat}
theorem c_M_poke_109 {k c many : Nat} {x y : Int64} (hm : wM S P) (hn : many ≤ 8) (I0 : cn_I) (K : ∀ I', I' 172 0 = nI c → (∀ j, j < many → I' 172 (1 + j) = lby y j) → (∀ a j, a ≠ 172 → I' a j = I0 a j) → cn_V l en mi_M_poke d 0 0 S I' P Q 144 [(0, .ref 155), (1, .int (nI k)), (2, .long x), (4, .int (nI c)), (5, .int (nI many)), (6, .long y), (8, .int (nI many))] []) : ∀ (r i : Nat) (I : cn_I), i + r = many → I 172 0 = nI c → (∀ j, j < i → I 172 (1 + j) = lby y j) → (∀ a j, a ≠ 172 → I a j = I0 a j) → cn_V l en mi_M_poke d 0 0 S I P Q 109 [(0, .ref 155), (1, .int (nI k)), (2, .long x), (4, .int (nI c)), (5, .int (nI many)), (6, .long y), (8, .int (nI i))] [] := by
  intro r
  induction r with
  | zero =>
    intro i I hir h0 hb hf
    refine cn_iload (pc' := 111) (k := 6) rfl d_M_poke_109 rfl ?_
    refine cn_iload (pc' := 113) (k := 4) rfl d_M_poke_111 rfl ?_
    refine cn_icmp_ge_n (tgt := 144) (pc' := 116) (by omega) (by omega) d_M_poke_113 (by decide) rfl (fun hc113 => ?_) (fun hc113 => ?_)
    · obtain rfl : i = many := by omega
      exact K I h0 hb hf
    · exact absurd hc113 (by omega)
  | succ r ih =>
    intro i I hir h0 hb hf
    refine cn_iload (pc' := 111) (k := 6) rfl d_M_poke_109 rfl ?_
    refine cn_iload (pc' := 113) (k := 4) rfl d_M_poke_111 rfl ?_
    refine cn_icmp_ge_n (tgt := 144) (pc' := 116) (by omega) (by omega) d_M_poke_113 (by decide) rfl (fun hc113 => ?_) (fun hc113 => ?_)
    · exact absurd hc113 (by omega)
    · refine cn_aload_n (pc' := 117) (k := 0) rfl rfl d_M_poke_116 rfl ?_
      refine cn_getP (pc' := 120) (b := 172) (hm.2.1 31 172 rfl) fl_M_63 hm.1 rfl d_M_poke_117 rfl ?_
      refine cn_iconst (pc' := 121) k_c_1 d_M_poke_120 rfl ?_
      refine cn_iload (pc' := 123) (k := 6) rfl d_M_poke_121 rfl ?_
      refine cn_iadd_n (pc' := 124) d_M_poke_123 rfl ?_
      refine cn_lload (pc' := 126) (k := 5) rfl d_M_poke_124 rfl ?_
      refine cn_bipush (pc' := 128) k_b_8 d_M_poke_126 rfl ?_
      refine cn_iload (pc' := 130) (k := 6) rfl d_M_poke_128 rfl ?_
      refine cn_imul_n (pc' := 131) d_M_poke_130 rfl ?_
      refine cn_lshr (pc' := 132) d_M_poke_131 rfl ?_
      refine cn_ldc2 (pc' := 135) w_k_M_105 d_M_poke_132 rfl ?_
      refine cn_land (pc' := 136) d_M_poke_135 rfl ?_
      refine cn_l2i (pc' := 137) d_M_poke_136 rfl ?_
      refine cn_iast (pc' := 138) (hm.2.2 172 0 64 rfl) (by omega) (by decide) d_M_poke_137 rfl ?_
      refine cn_iinc_n (pc' := 141) (lv' := [(0, .ref 155), (1, .int (nI (k))), (2, .long (x)), (4, .int (nI (c))), (5, .int (nI (many))), (6, .long (y)), (8, .int (nI (i + 1)))]) (k := 6) [1, 2, 3, 4, 5, 6, 0] rfl (Nat.le_of_ble_eq_true rfl) rfl d_M_poke_138 rfl ?_
      refine cn_goto (tgt := 109) d_M_poke_141 (by decide) ?_
      rw [mby]
      refine ih (i + 1) _ (by omega) (mw_k (by omega) h0) (fun j hj => ?_) (fun a j x => by rw [mw_o (by omega)]; exact hf a j x)
      by_cases e : j = i
      · subst e; exact mw_e
      · rw [mw_o (by omega)]; exact hb j (by omega)
theorem C_M_poke {n : Int32} {x : Int64} (h : RM S I P T (ns, xs, (ps, pn), ch, (rq, ru))) (hd1 : 4 ≤ d) (K : ∀ (I' : cn_I), RM S I' P T ((sp_poke ns xs n x).2.1, (sp_poke ns xs n x).2.2, (ps, pn), ch, (rq, ru)) → frM I I' → Q (some (.int (nI (sp_poke ns xs n x).1.toNat))) S I' P) : cn_V l en mi_M_poke d 0 0 S I P Q 0 [(0, .ref 155), (1, .int n), (2, .long x)] [] := by
  have h9 := h
  obtain ⟨hm, hN, hJ, hS, hp, hC, hA⟩ := h
  have hN : mN I ns := hN
  have hJ : mI I xs := hJ
  have hS : mS I ps pn := hS
  have hp : pOK ps pn T := hp
  have hC : mC I ch := hC
  have hA : mA I (rq, ru) := hA
  have hl16 := hN.2.1
  have hl6 := hJ.2.1
  have hl3 := hS.2.1
  refine cn_aload_n (pc' := 1) (k := 0) rfl rfl d_M_poke_0 rfl ?_
  refine cn_iload_n (pc' := 2) (k := 1) rfl rfl d_M_poke_1 rfl ?_
  refine cn_callV (pc' := 5) (kc1 := 0) (ks1 := 0) (kc2 := 0) (ks2 := 0) (rest := []) (lvj := [(0, .ref 155), (1, .int (n))]) [.int (n)] mv_M_131 hm.1 rfl rfl rfl (Nat.le_of_ble_eq_true rfl) (Nat.le_of_ble_eq_true rfl) (by omega) (by omega) (by omega) d_M_poke_2 rfl ?_
  refine c_M_isVariable (ns := ns) hm hN (by omega) (fun k hnk hkl hv => ?_) (fun hnv => ?_)
  · subst hnk
    obtain ⟨b1, b2, b3, b4, b5, b6⟩ := hN.2.2.1 k hkl
    have hty := b3 (isv_ne hv)
    rcases tyc (ns.getD k nd0).2.1 with ht | ht | ht | ht
    · show cn_V l en mi_M_poke d 0 0 S I P Q 5 [(0, .ref 155), (1, .int (nI (k))), (2, .long (x))] [.int (nI (1))]
      refine cn_if_eq_n (tgt := 40) (pc' := 8) (by omega) d_M_poke_5 (by decide) rfl (fun hc5 => ?_) (fun hc5 => ?_)
      · exact False.elim (by omega)
      · refine cn_aload_n (pc' := 9) (k := 0) rfl rfl d_M_poke_8 rfl ?_
        refine cn_getP (pc' := 12) (b := 158) (hm.2.1 4 158 rfl) fl_M_21 hm.1 rfl d_M_poke_9 rfl ?_
        refine cn_iload_n (pc' := 13) (k := 1) rfl rfl d_M_poke_12 rfl ?_
        refine cn_ialdv (pc' := 14) (v := nI (1)) (hty.trans ht) (hm.2.2 158 0 16 rfl) (by omega) (by decide) d_M_poke_13 rfl ?_
        refine cn_iconst (pc' := 15) k_c_1 d_M_poke_14 rfl ?_
        refine cn_icmp_eq_n (tgt := 42) (pc' := 18) (by omega) (by omega) d_M_poke_15 (by decide) rfl (fun hc15 => ?_) (fun hc15 => ?_)
        · refine cn_aload_n (pc' := 43) (k := 0) rfl rfl d_M_poke_42 rfl ?_
          refine cn_getP (pc' := 46) (b := 158) (hm.2.1 4 158 rfl) fl_M_21 hm.1 rfl d_M_poke_43 rfl ?_
          refine cn_iload_n (pc' := 47) (k := 1) rfl rfl d_M_poke_46 rfl ?_
          refine cn_ialdv (pc' := 48) (v := nI (1)) (hty.trans ht) (hm.2.2 158 0 16 rfl) (by omega) (by decide) d_M_poke_47 rfl ?_
          refine cn_istore (pc' := 50) (lv' := [(0, .ref 155), (1, .int (nI (k))), (2, .long (x)), (4, .int (nI (1)))]) [1, 2, 3, 0] (Nat.le_of_ble_eq_true rfl) rfl d_M_poke_48 rfl ?_
          refine cn_iload (pc' := 52) (k := 3) rfl d_M_poke_50 rfl ?_
          refine cn_iconst (pc' := 53) k_c_1 d_M_poke_52 rfl ?_
          refine cn_icmp_ne_n (tgt := 60) (pc' := 56) (by omega) (by omega) d_M_poke_53 (by decide) rfl (fun hc53 => ?_) (fun hc53 => ?_)
          · exact False.elim (by omega)
          · refine cn_iconst (pc' := 57) k_c_1 d_M_poke_56 rfl ?_
            refine cn_goto (tgt := 73) d_M_poke_57 (by decide) ?_
            refine cn_istore (pc' := 75) (lv' := [(0, .ref 155), (1, .int (nI (k))), (2, .long (x)), (4, .int (nI (1))), (5, .int (nI (1)))]) [1, 2, 3, 4, 0] (Nat.le_of_ble_eq_true rfl) rfl d_M_poke_73 rfl ?_
            refine cn_iload (pc' := 77) (k := 3) rfl d_M_poke_75 rfl ?_
            refine cn_iconst (pc' := 78) k_c_1 d_M_poke_77 rfl ?_
            refine cn_icmp_ne_n (tgt := 95) (pc' := 81) (by omega) (by omega) d_M_poke_78 (by decide) rfl (fun hc78 => ?_) (fun hc78 => ?_)
            · exact False.elim (by omega)
            · refine cn_lload_n (pc' := 82) (k := 2) rfl rfl d_M_poke_81 rfl ?_
              refine cn_lconst (pc' := 83) (v := 0) (by decide +kernel) d_M_poke_82 rfl ?_
              refine cn_lcmp (pc' := 84) d_M_poke_83 rfl ?_
              refine cn_if_ne (tgt := 91) (pc' := 87) d_M_poke_84 (by decide) rfl (fun hc84 => ?_) (fun hc84 => ?_)
              · refine cn_lconst (pc' := 92) (v := 1) (by decide +kernel) d_M_poke_91 rfl ?_
                refine cn_goto (tgt := 96) d_M_poke_92 (by decide) ?_
                refine cn_lstore (pc' := 98) (lv' := [(0, .ref 155), (1, .int (nI (k))), (2, .long (x)), (4, .int (nI (1))), (5, .int (nI (1))), (6, .long (1))]) [1, 2, 3, 4, 5, 0] (Nat.le_of_ble_eq_true rfl) rfl d_M_poke_96 rfl ?_
                refine cn_aload_n (pc' := 99) (k := 0) rfl rfl d_M_poke_98 rfl ?_
                refine cn_getP (pc' := 102) (b := 172) (hm.2.1 31 172 rfl) fl_M_63 hm.1 rfl d_M_poke_99 rfl ?_
                refine cn_iconst (pc' := 103) k_c_0 d_M_poke_102 rfl ?_
                refine cn_iload (pc' := 105) (k := 3) rfl d_M_poke_103 rfl ?_
                refine cn_iast (pc' := 106) (hm.2.2 172 0 64 rfl) (by omega) (by decide) d_M_poke_105 rfl ?_
                refine cn_iconst (pc' := 107) k_c_0 d_M_poke_106 rfl ?_
                refine cn_istore (pc' := 109) (lv' := [(0, .ref 155), (1, .int (nI (k))), (2, .long (x)), (4, .int (nI (1))), (5, .int (nI (1))), (6, .long (1)), (8, .int (nI (0)))]) [1, 2, 3, 4, 5, 6, 0] (Nat.le_of_ble_eq_true rfl) rfl d_M_poke_107 rfl ?_
                refine c_M_poke_109 (c := 1) (many := 1) (y := 1) hm (by omega) I (fun I1 h0 hb hf1 => ?_) 1 0 _ (by omega) mw_e (fun j hj => absurd hj (Nat.not_lt_zero j)) (fun a j x => by rw [mw_o (by omega)])
                refine cn_aload_n (pc' := 145) (k := 0) rfl rfl d_M_poke_144 rfl ?_
                refine cn_iconst (pc' := 146) k_c_1 d_M_poke_145 rfl ?_
                refine cn_iload (pc' := 148) (k := 4) rfl d_M_poke_146 rfl ?_
                refine cn_iadd_n (pc' := 149) d_M_poke_148 rfl ?_
                refine cn_putI (pc' := 152) fl_M_125 hm.1 rfl rfl rfl rfl d_M_poke_149 rfl ?_
                refine cn_aload_n (pc' := 153) (k := 0) rfl rfl d_M_poke_152 rfl ?_
                refine cn_iload_n (pc' := 154) (k := 1) rfl rfl d_M_poke_153 rfl ?_
                refine cn_callV (pc' := 157) (kc1 := 0) (ks1 := 0) (kc2 := 0) (ks2 := 0) (rest := []) (lvj := [(0, .ref 155), (1, .int (nI (k)))]) [.int (nI (k))] mv_M_134 hm.1 rfl rfl rfl (Nat.le_of_ble_eq_true rfl) (Nat.le_of_ble_eq_true rfl) (by omega) (by omega) (by omega) d_M_poke_154 rfl ?_
                have epk : pkv (ns.getD k nd0).2.1 x = nI 1 :: lbs (1) 1 := by unfold pkv; rw [if_pos ht, if_neg (fun h => hc84 (cmp0.mpr h))]; decide +kernel
                have hlv : (nI 1 :: lbs (1) 1).length = 1 + 1 := by show (lbs (1) 1).length + 1 = 1 + 1; rw [lbs_len]
                have hmv : mv ((cn_wi I1 155 30 (nI (1 + 1)))) (pkv (ns.getD k nd0).2.1 x) := by
                  rw [epk]
                  refine ⟨by rw [hlv]; exact mw_e, by rw [hlv]; decide, fun j hj => ?_⟩
                  rw [hlv] at hj
                  cases j with
                  | zero => exact mw_a (by decide) h0
                  | succ j => rw [mw_o (by omega), show j + 1 = 1 + j by omega, hb j (by omega), show 1 + j = j + 1 by omega]; exact (lbs_at (by omega)).symm
                have hf2 : ∀ a j, (a ≠ 172) → (a ≠ 155 ∨ j ≠ 30) → ((cn_wi I1 155 30 (nI (1 + 1)))) a j = I a j := fun a j x y => by rw [mw_o (by omega)]; exact hf1 a j x
                refine c_M_become (u := pkv (ns.getD k nd0).2.1 x) hm (hN.congr (fun a j x => hf2 a j (by omega) (by omega))) (hJ.congr (fun a j x => hf2 a j (by omega) (by omega))) hkl hmv (pkv_len _ _) (by omega) (fun I3 hN3 hJ3 hf3 => ?_)
                have e : sp_poke ns xs (nI k) x = chg ns xs k (pkv (ns.getD k nd0).2.1 x) := by unfold sp_poke; rw [vdx_some hkl (by omega) hv]; dsimp only; rw [if_pos (Or.inl ht)]
                rw [e] at K
                show cn_V l en mi_M_poke d 0 0 S I3 P Q 157 [(0, .ref 155), (1, .int (nI (k))), (2, .long (x)), (4, .int (nI (1))), (5, .int (nI (1))), (6, .long (1)), (8, .int (nI (1)))] [.int (nI ((chg ns xs k (pkv (ns.getD k nd0).2.1 x)).1.toNat))]
                refine cn_zret rfl (by cases (chg ns xs k (pkv (ns.getD k nd0).2.1 x)).1 <;> decide) d_M_poke_157 ?_
                have hrow : ∀ a j, (a < 159 ∨ 160 < a) → (a < 164 ∨ 167 < a) → a ≠ 172 → (a ≠ 155 ∨ j ≠ 30) → I3 a j = I a j := fun a j x y z w => (hf3 a j x y).trans (hf2 a j z w)
                exact K I3 ⟨hm, hN3, hJ3, hS.congr (fun a j x => hrow a j (by omega) (by omega) (by omega) (by omega)), hp, hC.congr (fun a j x => hrow a j (by omega) (by omega) (by omega) (by omega)), hA.congr (fun a j x => hrow a j (by omega) (by omega) (by omega) (by omega))⟩ (fun a x => by funext j; exact hrow a j (by omega) (by omega) (by omega) (by omega))
              · refine cn_lconst (pc' := 88) (v := 0) (by decide +kernel) d_M_poke_87 rfl ?_
                refine cn_goto (tgt := 96) d_M_poke_88 (by decide) ?_
                refine cn_lstore (pc' := 98) (lv' := [(0, .ref 155), (1, .int (nI (k))), (2, .long (x)), (4, .int (nI (1))), (5, .int (nI (1))), (6, .long (0))]) [1, 2, 3, 4, 5, 0] (Nat.le_of_ble_eq_true rfl) rfl d_M_poke_96 rfl ?_
                refine cn_aload_n (pc' := 99) (k := 0) rfl rfl d_M_poke_98 rfl ?_
                refine cn_getP (pc' := 102) (b := 172) (hm.2.1 31 172 rfl) fl_M_63 hm.1 rfl d_M_poke_99 rfl ?_
                refine cn_iconst (pc' := 103) k_c_0 d_M_poke_102 rfl ?_
                refine cn_iload (pc' := 105) (k := 3) rfl d_M_poke_103 rfl ?_
                refine cn_iast (pc' := 106) (hm.2.2 172 0 64 rfl) (by omega) (by decide) d_M_poke_105 rfl ?_
                refine cn_iconst (pc' := 107) k_c_0 d_M_poke_106 rfl ?_
                refine cn_istore (pc' := 109) (lv' := [(0, .ref 155), (1, .int (nI (k))), (2, .long (x)), (4, .int (nI (1))), (5, .int (nI (1))), (6, .long (0)), (8, .int (nI (0)))]) [1, 2, 3, 4, 5, 6, 0] (Nat.le_of_ble_eq_true rfl) rfl d_M_poke_107 rfl ?_
                refine c_M_poke_109 (c := 1) (many := 1) (y := 0) hm (by omega) I (fun I1 h0 hb hf1 => ?_) 1 0 _ (by omega) mw_e (fun j hj => absurd hj (Nat.not_lt_zero j)) (fun a j x => by rw [mw_o (by omega)])
                refine cn_aload_n (pc' := 145) (k := 0) rfl rfl d_M_poke_144 rfl ?_
                refine cn_iconst (pc' := 146) k_c_1 d_M_poke_145 rfl ?_
                refine cn_iload (pc' := 148) (k := 4) rfl d_M_poke_146 rfl ?_
                refine cn_iadd_n (pc' := 149) d_M_poke_148 rfl ?_
                refine cn_putI (pc' := 152) fl_M_125 hm.1 rfl rfl rfl rfl d_M_poke_149 rfl ?_
                refine cn_aload_n (pc' := 153) (k := 0) rfl rfl d_M_poke_152 rfl ?_
                refine cn_iload_n (pc' := 154) (k := 1) rfl rfl d_M_poke_153 rfl ?_
                refine cn_callV (pc' := 157) (kc1 := 0) (ks1 := 0) (kc2 := 0) (ks2 := 0) (rest := []) (lvj := [(0, .ref 155), (1, .int (nI (k)))]) [.int (nI (k))] mv_M_134 hm.1 rfl rfl rfl (Nat.le_of_ble_eq_true rfl) (Nat.le_of_ble_eq_true rfl) (by omega) (by omega) (by omega) d_M_poke_154 rfl ?_
                have epk : pkv (ns.getD k nd0).2.1 x = nI 1 :: lbs (0) 1 := by unfold pkv; rw [if_pos ht, if_pos (cmp0.mp hc84)]; decide +kernel
                have hlv : (nI 1 :: lbs (0) 1).length = 1 + 1 := by show (lbs (0) 1).length + 1 = 1 + 1; rw [lbs_len]
                have hmv : mv ((cn_wi I1 155 30 (nI (1 + 1)))) (pkv (ns.getD k nd0).2.1 x) := by
                  rw [epk]
                  refine ⟨by rw [hlv]; exact mw_e, by rw [hlv]; decide, fun j hj => ?_⟩
                  rw [hlv] at hj
                  cases j with
                  | zero => exact mw_a (by decide) h0
                  | succ j => rw [mw_o (by omega), show j + 1 = 1 + j by omega, hb j (by omega), show 1 + j = j + 1 by omega]; exact (lbs_at (by omega)).symm
                have hf2 : ∀ a j, (a ≠ 172) → (a ≠ 155 ∨ j ≠ 30) → ((cn_wi I1 155 30 (nI (1 + 1)))) a j = I a j := fun a j x y => by rw [mw_o (by omega)]; exact hf1 a j x
                refine c_M_become (u := pkv (ns.getD k nd0).2.1 x) hm (hN.congr (fun a j x => hf2 a j (by omega) (by omega))) (hJ.congr (fun a j x => hf2 a j (by omega) (by omega))) hkl hmv (pkv_len _ _) (by omega) (fun I3 hN3 hJ3 hf3 => ?_)
                have e : sp_poke ns xs (nI k) x = chg ns xs k (pkv (ns.getD k nd0).2.1 x) := by unfold sp_poke; rw [vdx_some hkl (by omega) hv]; dsimp only; rw [if_pos (Or.inl ht)]
                rw [e] at K
                show cn_V l en mi_M_poke d 0 0 S I3 P Q 157 [(0, .ref 155), (1, .int (nI (k))), (2, .long (x)), (4, .int (nI (1))), (5, .int (nI (1))), (6, .long (0)), (8, .int (nI (1)))] [.int (nI ((chg ns xs k (pkv (ns.getD k nd0).2.1 x)).1.toNat))]
                refine cn_zret rfl (by cases (chg ns xs k (pkv (ns.getD k nd0).2.1 x)).1 <;> decide) d_M_poke_157 ?_
                have hrow : ∀ a j, (a < 159 ∨ 160 < a) → (a < 164 ∨ 167 < a) → a ≠ 172 → (a ≠ 155 ∨ j ≠ 30) → I3 a j = I a j := fun a j x y z w => (hf3 a j x y).trans (hf2 a j z w)
                exact K I3 ⟨hm, hN3, hJ3, hS.congr (fun a j x => hrow a j (by omega) (by omega) (by omega) (by omega)), hp, hC.congr (fun a j x => hrow a j (by omega) (by omega) (by omega) (by omega)), hA.congr (fun a j x => hrow a j (by omega) (by omega) (by omega) (by omega))⟩ (fun a x => by funext j; exact hrow a j (by omega) (by omega) (by omega) (by omega))
        · exact False.elim (by omega)
    · show cn_V l en mi_M_poke d 0 0 S I P Q 5 [(0, .ref 155), (1, .int (nI (k))), (2, .long (x))] [.int (nI (1))]
      refine cn_if_eq_n (tgt := 40) (pc' := 8) (by omega) d_M_poke_5 (by decide) rfl (fun hc5 => ?_) (fun hc5 => ?_)
      · exact False.elim (by omega)
      · refine cn_aload_n (pc' := 9) (k := 0) rfl rfl d_M_poke_8 rfl ?_
        refine cn_getP (pc' := 12) (b := 158) (hm.2.1 4 158 rfl) fl_M_21 hm.1 rfl d_M_poke_9 rfl ?_
        refine cn_iload_n (pc' := 13) (k := 1) rfl rfl d_M_poke_12 rfl ?_
        refine cn_ialdv (pc' := 14) (v := nI (6)) (hty.trans ht) (hm.2.2 158 0 16 rfl) (by omega) (by decide) d_M_poke_13 rfl ?_
        refine cn_iconst (pc' := 15) k_c_1 d_M_poke_14 rfl ?_
        refine cn_icmp_eq_n (tgt := 42) (pc' := 18) (by omega) (by omega) d_M_poke_15 (by decide) rfl (fun hc15 => ?_) (fun hc15 => ?_)
        · exact False.elim (by omega)
        · refine cn_aload_n (pc' := 19) (k := 0) rfl rfl d_M_poke_18 rfl ?_
          refine cn_getP (pc' := 22) (b := 158) (hm.2.1 4 158 rfl) fl_M_21 hm.1 rfl d_M_poke_19 rfl ?_
          refine cn_iload_n (pc' := 23) (k := 1) rfl rfl d_M_poke_22 rfl ?_
          refine cn_ialdv (pc' := 24) (v := nI (6)) (hty.trans ht) (hm.2.2 158 0 16 rfl) (by omega) (by decide) d_M_poke_23 rfl ?_
          refine cn_bipush (pc' := 26) k_b_6 d_M_poke_24 rfl ?_
          refine cn_icmp_eq_n (tgt := 42) (pc' := 29) (by omega) (by omega) d_M_poke_26 (by decide) rfl (fun hc26 => ?_) (fun hc26 => ?_)
          · refine cn_aload_n (pc' := 43) (k := 0) rfl rfl d_M_poke_42 rfl ?_
            refine cn_getP (pc' := 46) (b := 158) (hm.2.1 4 158 rfl) fl_M_21 hm.1 rfl d_M_poke_43 rfl ?_
            refine cn_iload_n (pc' := 47) (k := 1) rfl rfl d_M_poke_46 rfl ?_
            refine cn_ialdv (pc' := 48) (v := nI (6)) (hty.trans ht) (hm.2.2 158 0 16 rfl) (by omega) (by decide) d_M_poke_47 rfl ?_
            refine cn_istore (pc' := 50) (lv' := [(0, .ref 155), (1, .int (nI (k))), (2, .long (x)), (4, .int (nI (6)))]) [1, 2, 3, 0] (Nat.le_of_ble_eq_true rfl) rfl d_M_poke_48 rfl ?_
            refine cn_iload (pc' := 52) (k := 3) rfl d_M_poke_50 rfl ?_
            refine cn_iconst (pc' := 53) k_c_1 d_M_poke_52 rfl ?_
            refine cn_icmp_ne_n (tgt := 60) (pc' := 56) (by omega) (by omega) d_M_poke_53 (by decide) rfl (fun hc53 => ?_) (fun hc53 => ?_)
            · refine cn_iload (pc' := 62) (k := 3) rfl d_M_poke_60 rfl ?_
              refine cn_bipush (pc' := 64) k_b_6 d_M_poke_62 rfl ?_
              refine cn_icmp_ne_n (tgt := 71) (pc' := 67) (by omega) (by omega) d_M_poke_64 (by decide) rfl (fun hc64 => ?_) (fun hc64 => ?_)
              · exact False.elim (by omega)
              · refine cn_iconst (pc' := 68) k_c_4 d_M_poke_67 rfl ?_
                refine cn_goto (tgt := 73) d_M_poke_68 (by decide) ?_
                refine cn_istore (pc' := 75) (lv' := [(0, .ref 155), (1, .int (nI (k))), (2, .long (x)), (4, .int (nI (6))), (5, .int (nI (4)))]) [1, 2, 3, 4, 0] (Nat.le_of_ble_eq_true rfl) rfl d_M_poke_73 rfl ?_
                refine cn_iload (pc' := 77) (k := 3) rfl d_M_poke_75 rfl ?_
                refine cn_iconst (pc' := 78) k_c_1 d_M_poke_77 rfl ?_
                refine cn_icmp_ne_n (tgt := 95) (pc' := 81) (by omega) (by omega) d_M_poke_78 (by decide) rfl (fun hc78 => ?_) (fun hc78 => ?_)
                · refine cn_lload_n (pc' := 96) (k := 2) rfl rfl d_M_poke_95 rfl ?_
                  refine cn_lstore (pc' := 98) (lv' := [(0, .ref 155), (1, .int (nI (k))), (2, .long (x)), (4, .int (nI (6))), (5, .int (nI (4))), (6, .long (x))]) [1, 2, 3, 4, 5, 0] (Nat.le_of_ble_eq_true rfl) rfl d_M_poke_96 rfl ?_
                  refine cn_aload_n (pc' := 99) (k := 0) rfl rfl d_M_poke_98 rfl ?_
                  refine cn_getP (pc' := 102) (b := 172) (hm.2.1 31 172 rfl) fl_M_63 hm.1 rfl d_M_poke_99 rfl ?_
                  refine cn_iconst (pc' := 103) k_c_0 d_M_poke_102 rfl ?_
                  refine cn_iload (pc' := 105) (k := 3) rfl d_M_poke_103 rfl ?_
                  refine cn_iast (pc' := 106) (hm.2.2 172 0 64 rfl) (by omega) (by decide) d_M_poke_105 rfl ?_
                  refine cn_iconst (pc' := 107) k_c_0 d_M_poke_106 rfl ?_
                  refine cn_istore (pc' := 109) (lv' := [(0, .ref 155), (1, .int (nI (k))), (2, .long (x)), (4, .int (nI (6))), (5, .int (nI (4))), (6, .long (x)), (8, .int (nI (0)))]) [1, 2, 3, 4, 5, 6, 0] (Nat.le_of_ble_eq_true rfl) rfl d_M_poke_107 rfl ?_
                  refine c_M_poke_109 (c := 6) (many := 4) (y := x) hm (by omega) I (fun I1 h0 hb hf1 => ?_) 4 0 _ (by omega) mw_e (fun j hj => absurd hj (Nat.not_lt_zero j)) (fun a j x => by rw [mw_o (by omega)])
                  refine cn_aload_n (pc' := 145) (k := 0) rfl rfl d_M_poke_144 rfl ?_
                  refine cn_iconst (pc' := 146) k_c_1 d_M_poke_145 rfl ?_
                  refine cn_iload (pc' := 148) (k := 4) rfl d_M_poke_146 rfl ?_
                  refine cn_iadd_n (pc' := 149) d_M_poke_148 rfl ?_
                  refine cn_putI (pc' := 152) fl_M_125 hm.1 rfl rfl rfl rfl d_M_poke_149 rfl ?_
                  refine cn_aload_n (pc' := 153) (k := 0) rfl rfl d_M_poke_152 rfl ?_
                  refine cn_iload_n (pc' := 154) (k := 1) rfl rfl d_M_poke_153 rfl ?_
                  refine cn_callV (pc' := 157) (kc1 := 0) (ks1 := 0) (kc2 := 0) (ks2 := 0) (rest := []) (lvj := [(0, .ref 155), (1, .int (nI (k)))]) [.int (nI (k))] mv_M_134 hm.1 rfl rfl rfl (Nat.le_of_ble_eq_true rfl) (Nat.le_of_ble_eq_true rfl) (by omega) (by omega) (by omega) d_M_poke_154 rfl ?_
                  have epk : pkv (ns.getD k nd0).2.1 x = nI 6 :: lbs x 4 := by unfold pkv; rw [if_neg (by rw [ht]; decide), if_pos ht]
                  have hlv : (nI 6 :: lbs (x) 4).length = 1 + 4 := by show (lbs (x) 4).length + 1 = 1 + 4; rw [lbs_len]
                  have hmv : mv ((cn_wi I1 155 30 (nI (1 + 4)))) (pkv (ns.getD k nd0).2.1 x) := by
                    rw [epk]
                    refine ⟨by rw [hlv]; exact mw_e, by rw [hlv]; decide, fun j hj => ?_⟩
                    rw [hlv] at hj
                    cases j with
                    | zero => exact mw_a (by decide) h0
                    | succ j => rw [mw_o (by omega), show j + 1 = 1 + j by omega, hb j (by omega), show 1 + j = j + 1 by omega]; exact (lbs_at (by omega)).symm
                  have hf2 : ∀ a j, (a ≠ 172) → (a ≠ 155 ∨ j ≠ 30) → ((cn_wi I1 155 30 (nI (1 + 4)))) a j = I a j := fun a j x y => by rw [mw_o (by omega)]; exact hf1 a j x
                  refine c_M_become (u := pkv (ns.getD k nd0).2.1 x) hm (hN.congr (fun a j x => hf2 a j (by omega) (by omega))) (hJ.congr (fun a j x => hf2 a j (by omega) (by omega))) hkl hmv (pkv_len _ _) (by omega) (fun I3 hN3 hJ3 hf3 => ?_)
                  have e : sp_poke ns xs (nI k) x = chg ns xs k (pkv (ns.getD k nd0).2.1 x) := by unfold sp_poke; rw [vdx_some hkl (by omega) hv]; dsimp only; rw [if_pos (Or.inr (Or.inl ht))]
                  rw [e] at K
                  show cn_V l en mi_M_poke d 0 0 S I3 P Q 157 [(0, .ref 155), (1, .int (nI (k))), (2, .long (x)), (4, .int (nI (6))), (5, .int (nI (4))), (6, .long (x)), (8, .int (nI (4)))] [.int (nI ((chg ns xs k (pkv (ns.getD k nd0).2.1 x)).1.toNat))]
                  refine cn_zret rfl (by cases (chg ns xs k (pkv (ns.getD k nd0).2.1 x)).1 <;> decide) d_M_poke_157 ?_
                  have hrow : ∀ a j, (a < 159 ∨ 160 < a) → (a < 164 ∨ 167 < a) → a ≠ 172 → (a ≠ 155 ∨ j ≠ 30) → I3 a j = I a j := fun a j x y z w => (hf3 a j x y).trans (hf2 a j z w)
                  exact K I3 ⟨hm, hN3, hJ3, hS.congr (fun a j x => hrow a j (by omega) (by omega) (by omega) (by omega)), hp, hC.congr (fun a j x => hrow a j (by omega) (by omega) (by omega) (by omega)), hA.congr (fun a j x => hrow a j (by omega) (by omega) (by omega) (by omega))⟩ (fun a x => by funext j; exact hrow a j (by omega) (by omega) (by omega) (by omega))
                · exact False.elim (by omega)
            · exact False.elim (by omega)
          · exact False.elim (by omega)
    · show cn_V l en mi_M_poke d 0 0 S I P Q 5 [(0, .ref 155), (1, .int (nI (k))), (2, .long (x))] [.int (nI (1))]
      refine cn_if_eq_n (tgt := 40) (pc' := 8) (by omega) d_M_poke_5 (by decide) rfl (fun hc5 => ?_) (fun hc5 => ?_)
      · exact False.elim (by omega)
      · refine cn_aload_n (pc' := 9) (k := 0) rfl rfl d_M_poke_8 rfl ?_
        refine cn_getP (pc' := 12) (b := 158) (hm.2.1 4 158 rfl) fl_M_21 hm.1 rfl d_M_poke_9 rfl ?_
        refine cn_iload_n (pc' := 13) (k := 1) rfl rfl d_M_poke_12 rfl ?_
        refine cn_ialdv (pc' := 14) (v := nI (8)) (hty.trans ht) (hm.2.2 158 0 16 rfl) (by omega) (by decide) d_M_poke_13 rfl ?_
        refine cn_iconst (pc' := 15) k_c_1 d_M_poke_14 rfl ?_
        refine cn_icmp_eq_n (tgt := 42) (pc' := 18) (by omega) (by omega) d_M_poke_15 (by decide) rfl (fun hc15 => ?_) (fun hc15 => ?_)
        · exact False.elim (by omega)
        · refine cn_aload_n (pc' := 19) (k := 0) rfl rfl d_M_poke_18 rfl ?_
          refine cn_getP (pc' := 22) (b := 158) (hm.2.1 4 158 rfl) fl_M_21 hm.1 rfl d_M_poke_19 rfl ?_
          refine cn_iload_n (pc' := 23) (k := 1) rfl rfl d_M_poke_22 rfl ?_
          refine cn_ialdv (pc' := 24) (v := nI (8)) (hty.trans ht) (hm.2.2 158 0 16 rfl) (by omega) (by decide) d_M_poke_23 rfl ?_
          refine cn_bipush (pc' := 26) k_b_6 d_M_poke_24 rfl ?_
          refine cn_icmp_eq_n (tgt := 42) (pc' := 29) (by omega) (by omega) d_M_poke_26 (by decide) rfl (fun hc26 => ?_) (fun hc26 => ?_)
          · exact False.elim (by omega)
          · refine cn_aload_n (pc' := 30) (k := 0) rfl rfl d_M_poke_29 rfl ?_
            refine cn_getP (pc' := 33) (b := 158) (hm.2.1 4 158 rfl) fl_M_21 hm.1 rfl d_M_poke_30 rfl ?_
            refine cn_iload_n (pc' := 34) (k := 1) rfl rfl d_M_poke_33 rfl ?_
            refine cn_ialdv (pc' := 35) (v := nI (8)) (hty.trans ht) (hm.2.2 158 0 16 rfl) (by omega) (by decide) d_M_poke_34 rfl ?_
            refine cn_bipush (pc' := 37) k_b_8 d_M_poke_35 rfl ?_
            refine cn_icmp_eq_n (tgt := 42) (pc' := 40) (by omega) (by omega) d_M_poke_37 (by decide) rfl (fun hc37 => ?_) (fun hc37 => ?_)
            · refine cn_aload_n (pc' := 43) (k := 0) rfl rfl d_M_poke_42 rfl ?_
              refine cn_getP (pc' := 46) (b := 158) (hm.2.1 4 158 rfl) fl_M_21 hm.1 rfl d_M_poke_43 rfl ?_
              refine cn_iload_n (pc' := 47) (k := 1) rfl rfl d_M_poke_46 rfl ?_
              refine cn_ialdv (pc' := 48) (v := nI (8)) (hty.trans ht) (hm.2.2 158 0 16 rfl) (by omega) (by decide) d_M_poke_47 rfl ?_
              refine cn_istore (pc' := 50) (lv' := [(0, .ref 155), (1, .int (nI (k))), (2, .long (x)), (4, .int (nI (8)))]) [1, 2, 3, 0] (Nat.le_of_ble_eq_true rfl) rfl d_M_poke_48 rfl ?_
              refine cn_iload (pc' := 52) (k := 3) rfl d_M_poke_50 rfl ?_
              refine cn_iconst (pc' := 53) k_c_1 d_M_poke_52 rfl ?_
              refine cn_icmp_ne_n (tgt := 60) (pc' := 56) (by omega) (by omega) d_M_poke_53 (by decide) rfl (fun hc53 => ?_) (fun hc53 => ?_)
              · refine cn_iload (pc' := 62) (k := 3) rfl d_M_poke_60 rfl ?_
                refine cn_bipush (pc' := 64) k_b_6 d_M_poke_62 rfl ?_
                refine cn_icmp_ne_n (tgt := 71) (pc' := 67) (by omega) (by omega) d_M_poke_64 (by decide) rfl (fun hc64 => ?_) (fun hc64 => ?_)
                · refine cn_bipush (pc' := 73) k_b_8 d_M_poke_71 rfl ?_
                  refine cn_istore (pc' := 75) (lv' := [(0, .ref 155), (1, .int (nI (k))), (2, .long (x)), (4, .int (nI (8))), (5, .int (nI (8)))]) [1, 2, 3, 4, 0] (Nat.le_of_ble_eq_true rfl) rfl d_M_poke_73 rfl ?_
                  refine cn_iload (pc' := 77) (k := 3) rfl d_M_poke_75 rfl ?_
                  refine cn_iconst (pc' := 78) k_c_1 d_M_poke_77 rfl ?_
                  refine cn_icmp_ne_n (tgt := 95) (pc' := 81) (by omega) (by omega) d_M_poke_78 (by decide) rfl (fun hc78 => ?_) (fun hc78 => ?_)
                  · refine cn_lload_n (pc' := 96) (k := 2) rfl rfl d_M_poke_95 rfl ?_
                    refine cn_lstore (pc' := 98) (lv' := [(0, .ref 155), (1, .int (nI (k))), (2, .long (x)), (4, .int (nI (8))), (5, .int (nI (8))), (6, .long (x))]) [1, 2, 3, 4, 5, 0] (Nat.le_of_ble_eq_true rfl) rfl d_M_poke_96 rfl ?_
                    refine cn_aload_n (pc' := 99) (k := 0) rfl rfl d_M_poke_98 rfl ?_
                    refine cn_getP (pc' := 102) (b := 172) (hm.2.1 31 172 rfl) fl_M_63 hm.1 rfl d_M_poke_99 rfl ?_
                    refine cn_iconst (pc' := 103) k_c_0 d_M_poke_102 rfl ?_
                    refine cn_iload (pc' := 105) (k := 3) rfl d_M_poke_103 rfl ?_
                    refine cn_iast (pc' := 106) (hm.2.2 172 0 64 rfl) (by omega) (by decide) d_M_poke_105 rfl ?_
                    refine cn_iconst (pc' := 107) k_c_0 d_M_poke_106 rfl ?_
                    refine cn_istore (pc' := 109) (lv' := [(0, .ref 155), (1, .int (nI (k))), (2, .long (x)), (4, .int (nI (8))), (5, .int (nI (8))), (6, .long (x)), (8, .int (nI (0)))]) [1, 2, 3, 4, 5, 6, 0] (Nat.le_of_ble_eq_true rfl) rfl d_M_poke_107 rfl ?_
                    refine c_M_poke_109 (c := 8) (many := 8) (y := x) hm (by omega) I (fun I1 h0 hb hf1 => ?_) 8 0 _ (by omega) mw_e (fun j hj => absurd hj (Nat.not_lt_zero j)) (fun a j x => by rw [mw_o (by omega)])
                    refine cn_aload_n (pc' := 145) (k := 0) rfl rfl d_M_poke_144 rfl ?_
                    refine cn_iconst (pc' := 146) k_c_1 d_M_poke_145 rfl ?_
                    refine cn_iload (pc' := 148) (k := 4) rfl d_M_poke_146 rfl ?_
                    refine cn_iadd_n (pc' := 149) d_M_poke_148 rfl ?_
                    refine cn_putI (pc' := 152) fl_M_125 hm.1 rfl rfl rfl rfl d_M_poke_149 rfl ?_
                    refine cn_aload_n (pc' := 153) (k := 0) rfl rfl d_M_poke_152 rfl ?_
                    refine cn_iload_n (pc' := 154) (k := 1) rfl rfl d_M_poke_153 rfl ?_
                    refine cn_callV (pc' := 157) (kc1 := 0) (ks1 := 0) (kc2 := 0) (ks2 := 0) (rest := []) (lvj := [(0, .ref 155), (1, .int (nI (k)))]) [.int (nI (k))] mv_M_134 hm.1 rfl rfl rfl (Nat.le_of_ble_eq_true rfl) (Nat.le_of_ble_eq_true rfl) (by omega) (by omega) (by omega) d_M_poke_154 rfl ?_
                    have epk : pkv (ns.getD k nd0).2.1 x = nI 8 :: lbs x 8 := by unfold pkv; rw [if_neg (by rw [ht]; decide), if_neg (by rw [ht]; decide)]
                    have hlv : (nI 8 :: lbs (x) 8).length = 1 + 8 := by show (lbs (x) 8).length + 1 = 1 + 8; rw [lbs_len]
                    have hmv : mv ((cn_wi I1 155 30 (nI (1 + 8)))) (pkv (ns.getD k nd0).2.1 x) := by
                      rw [epk]
                      refine ⟨by rw [hlv]; exact mw_e, by rw [hlv]; decide, fun j hj => ?_⟩
                      rw [hlv] at hj
                      cases j with
                      | zero => exact mw_a (by decide) h0
                      | succ j => rw [mw_o (by omega), show j + 1 = 1 + j by omega, hb j (by omega), show 1 + j = j + 1 by omega]; exact (lbs_at (by omega)).symm
                    have hf2 : ∀ a j, (a ≠ 172) → (a ≠ 155 ∨ j ≠ 30) → ((cn_wi I1 155 30 (nI (1 + 8)))) a j = I a j := fun a j x y => by rw [mw_o (by omega)]; exact hf1 a j x
                    refine c_M_become (u := pkv (ns.getD k nd0).2.1 x) hm (hN.congr (fun a j x => hf2 a j (by omega) (by omega))) (hJ.congr (fun a j x => hf2 a j (by omega) (by omega))) hkl hmv (pkv_len _ _) (by omega) (fun I3 hN3 hJ3 hf3 => ?_)
                    have e : sp_poke ns xs (nI k) x = chg ns xs k (pkv (ns.getD k nd0).2.1 x) := by unfold sp_poke; rw [vdx_some hkl (by omega) hv]; dsimp only; rw [if_pos (Or.inr (Or.inr ht))]
                    rw [e] at K
                    show cn_V l en mi_M_poke d 0 0 S I3 P Q 157 [(0, .ref 155), (1, .int (nI (k))), (2, .long (x)), (4, .int (nI (8))), (5, .int (nI (8))), (6, .long (x)), (8, .int (nI (8)))] [.int (nI ((chg ns xs k (pkv (ns.getD k nd0).2.1 x)).1.toNat))]
                    refine cn_zret rfl (by cases (chg ns xs k (pkv (ns.getD k nd0).2.1 x)).1 <;> decide) d_M_poke_157 ?_
                    have hrow : ∀ a j, (a < 159 ∨ 160 < a) → (a < 164 ∨ 167 < a) → a ≠ 172 → (a ≠ 155 ∨ j ≠ 30) → I3 a j = I a j := fun a j x y z w => (hf3 a j x y).trans (hf2 a j z w)
                    exact K I3 ⟨hm, hN3, hJ3, hS.congr (fun a j x => hrow a j (by omega) (by omega) (by omega) (by omega)), hp, hC.congr (fun a j x => hrow a j (by omega) (by omega) (by omega) (by omega)), hA.congr (fun a j x => hrow a j (by omega) (by omega) (by omega) (by omega))⟩ (fun a x => by funext j; exact hrow a j (by omega) (by omega) (by omega) (by omega))
                  · exact False.elim (by omega)
                · exact False.elim (by omega)
              · exact False.elim (by omega)
            · exact False.elim (by omega)
    · show cn_V l en mi_M_poke d 0 0 S I P Q 5 [(0, .ref 155), (1, .int (nI (k))), (2, .long (x))] [.int (nI (1))]
      refine cn_if_eq_n (tgt := 40) (pc' := 8) (by omega) d_M_poke_5 (by decide) rfl (fun hc5 => ?_) (fun hc5 => ?_)
      · exact False.elim (by omega)
      · refine cn_aload_n (pc' := 9) (k := 0) rfl rfl d_M_poke_8 rfl ?_
        refine cn_getP (pc' := 12) (b := 158) (hm.2.1 4 158 rfl) fl_M_21 hm.1 rfl d_M_poke_9 rfl ?_
        refine cn_iload_n (pc' := 13) (k := 1) rfl rfl d_M_poke_12 rfl ?_
        refine cn_ialdv (pc' := 14) (v := (ns.getD k nd0).2.1) hty (hm.2.2 158 0 16 rfl) (by omega) (by decide) d_M_poke_13 rfl ?_
        refine cn_iconst (pc' := 15) k_c_1 d_M_poke_14 rfl ?_
        refine cn_icmp_eq (tgt := 42) (pc' := 18) d_M_poke_15 (by decide) rfl (fun hc15 => ?_) (fun hc15 => ?_)
        · exact absurd (Or.inl hc15) ht
        · refine cn_aload_n (pc' := 19) (k := 0) rfl rfl d_M_poke_18 rfl ?_
          refine cn_getP (pc' := 22) (b := 158) (hm.2.1 4 158 rfl) fl_M_21 hm.1 rfl d_M_poke_19 rfl ?_
          refine cn_iload_n (pc' := 23) (k := 1) rfl rfl d_M_poke_22 rfl ?_
          refine cn_ialdv (pc' := 24) (v := (ns.getD k nd0).2.1) hty (hm.2.2 158 0 16 rfl) (by omega) (by decide) d_M_poke_23 rfl ?_
          refine cn_bipush (pc' := 26) k_b_6 d_M_poke_24 rfl ?_
          refine cn_icmp_eq (tgt := 42) (pc' := 29) d_M_poke_26 (by decide) rfl (fun hc26 => ?_) (fun hc26 => ?_)
          · exact absurd (Or.inr (Or.inl hc26)) ht
          · refine cn_aload_n (pc' := 30) (k := 0) rfl rfl d_M_poke_29 rfl ?_
            refine cn_getP (pc' := 33) (b := 158) (hm.2.1 4 158 rfl) fl_M_21 hm.1 rfl d_M_poke_30 rfl ?_
            refine cn_iload_n (pc' := 34) (k := 1) rfl rfl d_M_poke_33 rfl ?_
            refine cn_ialdv (pc' := 35) (v := (ns.getD k nd0).2.1) hty (hm.2.2 158 0 16 rfl) (by omega) (by decide) d_M_poke_34 rfl ?_
            refine cn_bipush (pc' := 37) k_b_8 d_M_poke_35 rfl ?_
            refine cn_icmp_eq (tgt := 42) (pc' := 40) d_M_poke_37 (by decide) rfl (fun hc37 => ?_) (fun hc37 => ?_)
            · exact absurd (Or.inr (Or.inr hc37)) ht
            · refine cn_iconst (pc' := 41) k_c_0 d_M_poke_40 rfl ?_
              refine cn_zret rfl (Or.inl rfl) d_M_poke_41 ?_
              have e : sp_poke ns xs (nI k) x = (false, ns, xs) := by unfold sp_poke; rw [vdx_some hkl (by omega) hv]; dsimp only; rw [if_neg ht]
              rw [e] at K
              exact K I h9 frM.rf
  · show cn_V l en mi_M_poke d 0 0 S I P Q 5 [(0, .ref 155), (1, .int (n)), (2, .long (x))] [.int (nI (0))]
    refine cn_if_eq_n (tgt := 40) (pc' := 8) (by omega) d_M_poke_5 (by decide) rfl (fun hc5 => ?_) (fun hc5 => ?_)
    · refine cn_iconst (pc' := 41) k_c_0 d_M_poke_40 rfl ?_
      refine cn_zret rfl (Or.inl rfl) d_M_poke_41 ?_
      have e : sp_poke ns xs n x = (false, ns, xs) := by unfold sp_poke; rw [hnv]
      rw [e] at K
      exact K I h9 frM.rf
    · exact False.elim (by omega)
end
def ndv (ns : List sNode) (n : Int32) : Int32 := match ndx ns n with
  | none => -1
  | some k => nI k
theorem ndx_lt {ns : List sNode} {n : Int32} {k : Nat} (h : ndx ns n = some k) : k < ns.length ∧ (n = nI k) := by
  unfold ndx at h
  by_cases h1 : n < 0
  · rw [if_pos h1] at h; cases h
  · rw [if_neg h1] at h
    obtain ⟨j, hj, rfl⟩ := nI_of h1
    rw [nI_clamp hj] at h
    by_cases h2 : j < ns.length
    · rw [if_pos h2] at h; cases h; exact ⟨h2, rfl⟩
    · rw [if_neg h2] at h; cases h
theorem ndc (ns : List sNode) (n : Int32) : (ndx ns n = none ∧ ndv ns n = -1) ∨ ∃ k, ndx ns n = some k ∧ k < ns.length ∧ ndv ns n = nI k := by
  unfold ndv
  cases h : ndx ns n with
  | none => exact Or.inl ⟨rfl, rfl⟩
  | some k => exact Or.inr ⟨k, rfl, (ndx_lt h).1, rfl⟩
theorem rn2_rp (g : List Int32) (p k : Nat) : rn2 g (rp g p k) = rn2 g (p + k) := by
  unfold rn2 rp
  by_cases h : p + k ≤ g.length
  · rw [Nat.min_eq_left h]
  · rw [Nat.min_eq_right (by omega)]
    simp only [gd_out (g := g) (show g.length ≤ g.length by omega), gd_out (g := g) (show g.length ≤ g.length + 1 by omega), gd_out (g := g) (show g.length ≤ p + k by omega), gd_out (g := g) (show g.length ≤ p + k + 1 by omega)]
def fM (I I' : cn_I) : Prop := ∀ a k, (a ≠ 155 ∨ k < 27 ∨ 29 < k) → I' a k = I a k
theorem fM.toR {I I' : cn_I} (h : fM I I') : fR I I' := fun a k x _ _ => h a k (by omega)
theorem mN.fN {I I' : cn_I} {ns : List sNode} (h : mN I ns) (hf : fN I I') : mN I' ns := h.congr (fun a k x => hf a k (by omega))
section
variable {l : Launch} {en : cn_E} {d : Nat} {S : cn_S} {I : cn_I} {P : cn_P} {Q : Option Value → cn_S → cn_I → cn_P → Prop}
variable {ns : List sNode} {xs : List sItem} {ps : List sPar} {pn : Int32} {T : Nat} {g : List Int32} {p : Nat} {w : Bool}
theorem c_M_readName (hm : wM S P) (hN : mN I ns) (hr : mg I g p w) (hd1 : 2 ≤ d) (K : ∀ I', mg I' g (rp g p (rnk g p)) (rnw g p w) → I' 155 29 = ndv ns (rnm g p) → fM I I' → Q none S I' P) : cn_V l en mi_M_readName d 0 0 S I P Q 0 [(0, .ref 155)] [] := by
  have hl := hN.2.1
  refine cn_aload_n (pc' := 1) (k := 0) rfl rfl d_M_readName_0 rfl ?_
  refine cn_callV (pc' := 4) (kc1 := 0) (ks1 := 0) (kc2 := 0) (ks2 := 0) (rest := []) (lvj := [(0, .ref 155)]) [] mv_M_164 hm.1 rfl rfl rfl (Nat.le_of_ble_eq_true rfl) (Nat.le_of_ble_eq_true rfl) (by omega) (by omega) (by omega) d_M_readName_1 rfl ?_
  refine c_M_next hm hr (fun I1 hr1 hf1 => ?_)
  show cn_V l en mi_M_readName d 0 0 S I1 P Q 4 [(0, .ref 155)] [.int (g.getD p 0)]
  refine cn_istore_n (pc' := 5) (lv' := [(0, .ref 155), (1, .int (g.getD p 0))]) rfl [1, 0] (Nat.le_of_ble_eq_true rfl) rfl d_M_readName_4 rfl ?_
  refine cn_aload_n (pc' := 6) (k := 0) rfl rfl d_M_readName_5 rfl ?_
  refine cn_iconst (pc' := 7) k_c_m1 d_M_readName_6 rfl ?_
  refine cn_putI (pc' := 10) fl_M_168 hm.1 rfl rfl rfl rfl d_M_readName_7 rfl ?_
  refine cn_iload_n (pc' := 11) (k := 1) rfl rfl d_M_readName_10 rfl ?_
  refine cn_if_ne (tgt := 39) (pc' := 14) d_M_readName_11 (by decide) rfl (fun hc11 => ?_) (fun hc11 => ?_)
  · refine cn_iload_n (pc' := 40) (k := 1) rfl rfl d_M_readName_39 rfl ?_
    refine cn_iconst (pc' := 41) k_c_1 d_M_readName_40 rfl ?_
    refine cn_icmp_ne (tgt := 79) (pc' := 44) d_M_readName_41 (by decide) rfl (fun hc41 => ?_) (fun hc41 => ?_)
    · have hc41 : ¬ g.getD p 0 = 1 := hc41
      refine cn_aload_n (pc' := 80) (k := 0) rfl rfl d_M_readName_79 rfl ?_
      refine cn_iconst (pc' := 81) k_c_0 d_M_readName_80 rfl ?_
      refine cn_putI (pc' := 84) fl_M_161 hm.1 rfl rfl rfl rfl d_M_readName_81 rfl ?_
      refine cn_vret rfl d_M_readName_84 ?_
      have e1 : rnk g p = 1 := by unfold rnk; rw [if_neg hc11, if_neg hc41]
      have e2 : rnw g p w = false := by unfold rnw; rw [decide_eq_false hc11, decide_eq_false hc41]; simp
      have e3 : rnm g p = -1 := by unfold rnm; rw [if_neg hc11, if_neg hc41]
      rw [e1, e2, e3] at K
      exact K _ ⟨mw_k (by decide) (mw_k (by decide) hr1.1), mw_k (by decide) (mw_k (by decide) hr1.2.1), mw_e, hr1.2.2.2.1, hr1.2.2.2.2.1, fun j hj => mw_a (by decide) (mw_a (by decide) (hr1.2.2.2.2.2.1 j hj)), hr1.2.2.2.2.2.2⟩ (mw_k (by decide) mw_e) (fun a k x => by rw [mw_o (by omega), mw_o (by omega)]; exact hf1 a k (by omega))
    · have hc41 : g.getD p 0 = 1 := hc41
      refine cn_aload_n (pc' := 45) (k := 0) rfl rfl d_M_readName_44 rfl ?_
      refine cn_callV (pc' := 48) (kc1 := 0) (ks1 := 0) (kc2 := 0) (ks2 := 0) (rest := []) (lvj := [(0, .ref 155)]) [] mv_M_164 hm.1 rfl rfl rfl (Nat.le_of_ble_eq_true rfl) (Nat.le_of_ble_eq_true rfl) (by omega) (by omega) (by omega) d_M_readName_45 rfl ?_
      refine c_M_next (w := rw_ g p 1 w) hm (hr1.congr (mw_o (by omega)) (mw_o (by omega)) (mw_o (by omega)) (fun j => mw_o (by omega))) (fun I2 hr2 hf2 => ?_)
      rw [rp_add, rw_add] at hr2
      rw [gd_rp]
      have hf02 : fM I I2 := fun a k x => by rw [hf2 a k (by omega), mw_o (by omega)]; exact hf1 a k (by omega)
      have h29 : I2 155 29 = -1 := (hf2 _ _ (by omega)).trans mw_e
      have hN2 : mN I2 ns := hN.congr (fun a k x => hf02 a k (by omega))
      show cn_V l en mi_M_readName d 0 0 S I2 P Q 48 [(0, .ref 155), (1, .int (g.getD p 0))] [.int (g.getD (p + 1) 0)]
      refine cn_istore_n (pc' := 49) (lv' := [(0, .ref 155), (1, .int (g.getD p 0)), (2, .int (g.getD (p + 1) 0))]) rfl [1, 2, 0] (Nat.le_of_ble_eq_true rfl) rfl d_M_readName_48 rfl ?_
      refine cn_aload_n (pc' := 50) (k := 0) rfl rfl d_M_readName_49 rfl ?_
      refine cn_iconst (pc' := 51) k_c_2 d_M_readName_50 rfl ?_
      refine cn_callV (pc' := 54) (kc1 := 0) (ks1 := 0) (kc2 := 0) (ks2 := 0) (rest := []) (lvj := [(0, .ref 155), (1, .int (nI (2)))]) [.int (nI (2))] mv_M_171 hm.1 rfl rfl rfl (Nat.le_of_ble_eq_true rfl) (Nat.le_of_ble_eq_true rfl) (by omega) (by omega) (by omega) d_M_readName_51 rfl ?_
      refine c_M_number (n := 2) hm (by decide) (by omega) hr2 (fun I3 hr3 hf3 => ?_)
      rw [rp_add, rw_add] at hr3
      rw [nmk_2, rn2_rp]
      have hf03 : fM I I3 := fun a k x => by rw [hf3 a k (by omega)]; exact hf02 a k x
      have h39 : I3 155 29 = -1 := (hf3 _ _ (by omega)).trans h29
      have hN3 : mN I3 ns := hN.congr (fun a k x => hf03 a k (by omega))
      show cn_V l en mi_M_readName d 0 0 S I3 P Q 54 [(0, .ref 155), (1, .int (g.getD p 0)), (2, .int (g.getD (p + 1) 0))] [.int (rn2 g (p + 2))]
      refine cn_istore_n (pc' := 55) (lv' := [(0, .ref 155), (1, .int (g.getD p 0)), (2, .int (g.getD (p + 1) 0)), (3, .int (rn2 g (p + 2)))]) rfl [1, 2, 3, 0] (Nat.le_of_ble_eq_true rfl) rfl d_M_readName_54 rfl ?_
      refine cn_aload_n (pc' := 56) (k := 0) rfl rfl d_M_readName_55 rfl ?_
      refine cn_iload_n (pc' := 57) (k := 2) rfl rfl d_M_readName_56 rfl ?_
      refine cn_if_ne (tgt := 72) (pc' := 60) d_M_readName_57 (by decide) rfl (fun hc57 => ?_) (fun hc57 => ?_)
      · refine cn_iconst (pc' := 73) k_c_m1 d_M_readName_72 rfl ?_
        refine cn_putI (pc' := 76) fl_M_168 hm.1 rfl rfl rfl rfl d_M_readName_73 rfl ?_
        refine cn_goto (tgt := 84) d_M_readName_76 (by decide) ?_
        refine cn_vret rfl d_M_readName_84 ?_
        have hn0 : ¬ g.getD p 0 = 0 := hc11
        have e1 : rnk g p = 4 := by unfold rnk; rw [if_neg hc11, if_pos hc41]
        have e2 : rnw g p w = rw_ g p 4 w := by unfold rnw; rw [e1, decide_eq_true hc41]; simp
        have e3 : rnm g p = -1 := by unfold rnm; rw [if_neg hc11, if_pos hc41, if_neg hc57]
        rw [e1, e2, e3] at K
        have ev : ndv ns (-1) = -1 := by unfold ndv; rw [ndx_neg (by decide)]
        exact K _ (hr3.congr (mw_o (by omega)) (mw_o (by omega)) (mw_o (by omega)) (fun j => mw_o (by omega))) (mw_e.trans ev.symm) (fun a k x => by rw [mw_o (by omega)]; exact hf03 a k x)
      · refine cn_aload_n (pc' := 61) (k := 0) rfl rfl d_M_readName_60 rfl ?_
        refine cn_iload_n (pc' := 62) (k := 3) rfl rfl d_M_readName_61 rfl ?_
        refine cn_callV (pc' := 65) (kc1 := 0) (ks1 := 0) (kc2 := 0) (ks2 := 0) (rest := [.ref 155]) (lvj := [(0, .ref 155), (1, .int (rn2 g (p + 2)))]) [.int (rn2 g (p + 2))] mv_M_97 hm.1 rfl rfl rfl (Nat.le_of_ble_eq_true rfl) (Nat.le_of_ble_eq_true rfl) (by omega) (by omega) (by omega) d_M_readName_62 rfl ?_
        refine c_M_isNode (ns := ns) hm hN3.1 (by omega) (fun k hnk hkl => ?_) (fun hno => ?_)
        · rw [hnk]
          show cn_V l en mi_M_readName d 0 0 S I3 P Q 65 [(0, .ref 155), (1, .int (g.getD p 0)), (2, .int (g.getD (p + 1) 0)), (3, .int (nI (k)))] [.int (nI (1)), .ref 155]
          refine cn_if_eq_n (tgt := 72) (pc' := 68) (by omega) d_M_readName_65 (by decide) rfl (fun hc65 => ?_) (fun hc65 => ?_)
          · exact False.elim (by omega)
          · refine cn_iload_n (pc' := 69) (k := 3) rfl rfl d_M_readName_68 rfl ?_
            refine cn_goto (tgt := 73) d_M_readName_69 (by decide) ?_
            refine cn_putI (pc' := 76) fl_M_168 hm.1 rfl rfl rfl rfl d_M_readName_73 rfl ?_
            refine cn_goto (tgt := 84) d_M_readName_76 (by decide) ?_
            refine cn_vret rfl d_M_readName_84 ?_
            have hn0 : ¬ g.getD p 0 = 0 := hc11
            have e1 : rnk g p = 4 := by unfold rnk; rw [if_neg hc11, if_pos hc41]
            have e2 : rnw g p w = rw_ g p 4 w := by unfold rnw; rw [e1, decide_eq_true hc41]; simp
            have e3 : rnm g p = rn2 g (p + 2) := by unfold rnm; rw [if_neg hc11, if_pos hc41, if_pos hc57]
            rw [e1, e2, e3] at K
            have ev : ndv ns (rn2 g (p + 2)) = nI k := by rw [hnk]; unfold ndv; rw [ndx_some hkl (by omega)]
            exact K _ (hr3.congr (mw_o (by omega)) (mw_o (by omega)) (mw_o (by omega)) (fun j => mw_o (by omega))) (mw_e.trans ev.symm) (fun a k x => by rw [mw_o (by omega)]; exact hf03 a k x)
        · show cn_V l en mi_M_readName d 0 0 S I3 P Q 65 [(0, .ref 155), (1, .int (g.getD p 0)), (2, .int (g.getD (p + 1) 0)), (3, .int (rn2 g (p + 2)))] [.int (nI (0)), .ref 155]
          refine cn_if_eq_n (tgt := 72) (pc' := 68) (by omega) d_M_readName_65 (by decide) rfl (fun hc65 => ?_) (fun hc65 => ?_)
          · refine cn_iconst (pc' := 73) k_c_m1 d_M_readName_72 rfl ?_
            refine cn_putI (pc' := 76) fl_M_168 hm.1 rfl rfl rfl rfl d_M_readName_73 rfl ?_
            refine cn_goto (tgt := 84) d_M_readName_76 (by decide) ?_
            refine cn_vret rfl d_M_readName_84 ?_
            have hn0 : ¬ g.getD p 0 = 0 := hc11
            have e1 : rnk g p = 4 := by unfold rnk; rw [if_neg hc11, if_pos hc41]
            have e2 : rnw g p w = rw_ g p 4 w := by unfold rnw; rw [e1, decide_eq_true hc41]; simp
            have e3 : rnm g p = rn2 g (p + 2) := by unfold rnm; rw [if_neg hc11, if_pos hc41, if_pos hc57]
            rw [e1, e2, e3] at K
            have ev : ndv ns (rn2 g (p + 2)) = -1 := by unfold ndv; rw [hno]
            exact K _ (hr3.congr (mw_o (by omega)) (mw_o (by omega)) (mw_o (by omega)) (fun j => mw_o (by omega))) (mw_e.trans ev.symm) (fun a k x => by rw [mw_o (by omega)]; exact hf03 a k x)
          · exact False.elim (by omega)
  · refine cn_aload_n (pc' := 15) (k := 0) rfl rfl d_M_readName_14 rfl ?_
    refine cn_callV (pc' := 18) (kc1 := 0) (ks1 := 0) (kc2 := 0) (ks2 := 0) (rest := []) (lvj := [(0, .ref 155)]) [] mv_M_164 hm.1 rfl rfl rfl (Nat.le_of_ble_eq_true rfl) (Nat.le_of_ble_eq_true rfl) (by omega) (by omega) (by omega) d_M_readName_15 rfl ?_
    refine c_M_next (w := rw_ g p 1 w) hm (hr1.congr (mw_o (by omega)) (mw_o (by omega)) (mw_o (by omega)) (fun j => mw_o (by omega))) (fun I2 hr2 hf2 => ?_)
    rw [rp_add, rw_add] at hr2
    rw [gd_rp]
    have hf02 : fM I I2 := fun a k x => by rw [hf2 a k (by omega), mw_o (by omega)]; exact hf1 a k (by omega)
    have h29 : I2 155 29 = -1 := (hf2 _ _ (by omega)).trans mw_e
    have hN2 : mN I2 ns := hN.congr (fun a k x => hf02 a k (by omega))
    show cn_V l en mi_M_readName d 0 0 S I2 P Q 18 [(0, .ref 155), (1, .int (g.getD p 0))] [.int (g.getD (p + 1) 0)]
    refine cn_istore_n (pc' := 19) (lv' := [(0, .ref 155), (1, .int (g.getD p 0)), (2, .int (g.getD (p + 1) 0))]) rfl [1, 2, 0] (Nat.le_of_ble_eq_true rfl) rfl d_M_readName_18 rfl ?_
    refine cn_aload_n (pc' := 20) (k := 0) rfl rfl d_M_readName_19 rfl ?_
    refine cn_aload_n (pc' := 21) (k := 0) rfl rfl d_M_readName_20 rfl ?_
    refine cn_iload_n (pc' := 22) (k := 2) rfl rfl d_M_readName_21 rfl ?_
    refine cn_callV (pc' := 25) (kc1 := 0) (ks1 := 0) (kc2 := 0) (ks2 := 0) (rest := [.ref 155]) (lvj := [(0, .ref 155), (1, .int (g.getD (p + 1) 0))]) [.int (g.getD (p + 1) 0)] mv_M_97 hm.1 rfl rfl rfl (Nat.le_of_ble_eq_true rfl) (Nat.le_of_ble_eq_true rfl) (by omega) (by omega) (by omega) d_M_readName_22 rfl ?_
    refine c_M_isNode (ns := ns) hm hN2.1 (by omega) (fun k hnk hkl => ?_) (fun hno => ?_)
    · rw [hnk]
      show cn_V l en mi_M_readName d 0 0 S I2 P Q 25 [(0, .ref 155), (1, .int (g.getD p 0)), (2, .int (nI (k)))] [.int (nI (1)), .ref 155]
      refine cn_if_eq_n (tgt := 32) (pc' := 28) (by omega) d_M_readName_25 (by decide) rfl (fun hc25 => ?_) (fun hc25 => ?_)
      · exact False.elim (by omega)
      · refine cn_iload_n (pc' := 29) (k := 2) rfl rfl d_M_readName_28 rfl ?_
        refine cn_goto (tgt := 33) d_M_readName_29 (by decide) ?_
        refine cn_putI (pc' := 36) fl_M_168 hm.1 rfl rfl rfl rfl d_M_readName_33 rfl ?_
        refine cn_goto (tgt := 84) d_M_readName_36 (by decide) ?_
        refine cn_vret rfl d_M_readName_84 ?_
        have e1 : rnk g p = 2 := by unfold rnk; rw [if_pos hc11]
        have e2 : rnw g p w = rw_ g p 2 w := by unfold rnw; rw [e1, decide_eq_true hc11]; simp
        have e3 : rnm g p = g.getD (p + 1) 0 := by unfold rnm; rw [if_pos hc11]
        rw [e1, e2, e3] at K
        have ev : ndv ns (g.getD (p + 1) 0) = nI k := by rw [hnk]; unfold ndv; rw [ndx_some hkl (by omega)]
        exact K _ (hr2.congr (mw_o (by omega)) (mw_o (by omega)) (mw_o (by omega)) (fun j => mw_o (by omega))) (mw_e.trans ev.symm) (fun a k x => by rw [mw_o (by omega)]; exact hf02 a k x)
    · show cn_V l en mi_M_readName d 0 0 S I2 P Q 25 [(0, .ref 155), (1, .int (g.getD p 0)), (2, .int (g.getD (p + 1) 0))] [.int (nI (0)), .ref 155]
      refine cn_if_eq_n (tgt := 32) (pc' := 28) (by omega) d_M_readName_25 (by decide) rfl (fun hc25 => ?_) (fun hc25 => ?_)
      · refine cn_iconst (pc' := 33) k_c_m1 d_M_readName_32 rfl ?_
        refine cn_putI (pc' := 36) fl_M_168 hm.1 rfl rfl rfl rfl d_M_readName_33 rfl ?_
        refine cn_goto (tgt := 84) d_M_readName_36 (by decide) ?_
        refine cn_vret rfl d_M_readName_84 ?_
        have e1 : rnk g p = 2 := by unfold rnk; rw [if_pos hc11]
        have e2 : rnw g p w = rw_ g p 2 w := by unfold rnw; rw [e1, decide_eq_true hc11]; simp
        have e3 : rnm g p = g.getD (p + 1) 0 := by unfold rnm; rw [if_pos hc11]
        rw [e1, e2, e3] at K
        have ev : ndv ns (g.getD (p + 1) 0) = -1 := by unfold ndv; rw [hno]
        exact K _ (hr2.congr (mw_o (by omega)) (mw_o (by omega)) (mw_o (by omega)) (fun j => mw_o (by omega))) (mw_e.trans ev.symm) (fun a k x => by rw [mw_o (by omega)]; exact hf02 a k x)
      · exact False.elim (by omega)
end
theorem pOK.mono {ps : List sPar} {pn : Int32} {T T' : Nat} (h : pOK ps pn T) (ht : T ≤ T') : pOK ps pn T' := by
  obtain ⟨c, h1, h2⟩ := h
  exact ⟨c, by omega, h2⟩
def MT (I : cn_I) (t : sNIS) (u : List Int32) (T : Nat) : Prop := mN I t.1 ∧ mI I t.2.1 ∧ mS I t.2.2.1 t.2.2.2 ∧ pOK t.2.2.1 t.2.2.2 T ∧ mo I u
/-- what a service leaves alone -/
def fV (I I' : cn_I) : Prop := ∀ a k, (a < 155 ∨ 174 < a ∨ a = 171 ∨ (a = 155 ∧ (k = 0 ∨ (20 ≤ k ∧ k ≤ 25) ∨ k = 33 ∨ k = 34))) → I' a k = I a k
theorem fV.rf {I : cn_I} : fV I I := fun _ _ _ => rfl
theorem fV.tr {I I1 I2 : cn_I} (h1 : fV I I1) (h2 : fV I1 I2) : fV I I2 := fun a k x => (h2 a k x).trans (h1 a k x)
theorem fR.toV {I I' : cn_I} (h : fR I I') : fV I I' := fun a k x => h a k (by omega) (by omega) (by omega)
theorem fO.toV {I I' : cn_I} (h : fO I I') : fV I I' := fun a k x => h a k (by omega) (by omega)
theorem MT.rd {I I' : cn_I} {t : sNIS} {u : List Int32} {T : Nat} (h : MT I t u T) (hf : fR I I') : MT I' t u T :=
  ⟨h.1.congr (fun a k x => hf a k (by omega) (by omega) (by omega)), h.2.1.congr (fun a k x => hf a k (by omega) (by omega) (by omega)), h.2.2.1.congr (fun a k x => hf a k (by omega) (by omega) (by omega)), h.2.2.2.1, h.2.2.2.2.fR hf⟩
theorem MT.out {I I' : cn_I} {t : sNIS} {u u' : List Int32} {T : Nat} (h : MT I t u T) (hf : fO I I') (ho : mo I' u') : MT I' t u' T :=
  ⟨h.1.congr (fun a k x => hf a k (by omega) (by omega)), h.2.1.congr (fun a k x => hf a k (by omega) (by omega)), h.2.2.1.congr (fun a k x => hf a k (by omega) (by omega)), h.2.2.2.1, ho⟩
theorem tk_succ {v : List Int32} {i : Nat} (h : i < v.length) : v.take (i + 1) = v.take i ++ [v.getD i 0] := by
  rw [List.take_succ, List.getElem?_eq_getElem h, List.getD_eq_getElem?_getD, List.getElem?_eq_getElem h]; rfl
section
variable {l : Launch} {en : cn_E} {d : Nat} {S : cn_S} {I : cn_I} {P : cn_P} {Q : Option Value → cn_S → cn_I → cn_P → Prop}
variable {ns : List sNode} {xs : List sItem} {ps : List sPar} {pn : Int32} {T : Nat} {g : List Int32}
theorem c_M_read_55 {k : Nat} {v : List Int32} (hm : wM S P) (hk : k < 16) (hv : v.length ≤ 61) (I0 : cn_I) (h29 : I0 155 29 = nI k) (h159 : I0 159 k = nI v.length) (h160 : ∀ j, j < v.length → I0 160 (64 * k + j) = v.getD j 0) (hd1 : 1 ≤ d) (K : ∀ I', mo I' (nI 0 :: v) → fO I0 I' → Q none S I' P) : ∀ (r i : Nat) (I : cn_I), i + r = v.length → mo I (nI 0 :: v.take i) → fO I0 I → cn_V l en mi_M_read d 0 0 S I P Q 55 [(0, .ref 155), (1, .int (nI i))] [] := by
  intro r
  induction r with
  | zero =>
    intro i I hir ho hf
    refine cn_iload_n (pc' := 56) (k := 1) rfl rfl d_M_read_55 rfl ?_
    refine cn_aload_n (pc' := 57) (k := 0) rfl rfl d_M_read_56 rfl ?_
    refine cn_getP (pc' := 60) (b := 159) (hm.2.1 5 159 rfl) fl_M_24 hm.1 rfl d_M_read_57 rfl ?_
    refine cn_aload_n (pc' := 61) (k := 0) rfl rfl d_M_read_60 rfl ?_
    refine cn_getIv (pc' := 64) (v := nI (k)) ((hf _ _ (by omega) (by omega)).trans h29) fl_M_168 hm.1 rfl d_M_read_61 rfl ?_
    refine cn_ialdv (pc' := 65) (v := nI (v.length)) ((hf _ _ (by omega) (by omega)).trans h159) (hm.2.2 159 0 16 rfl) (by omega) (by decide) d_M_read_64 rfl ?_
    refine cn_icmp_ge_n (tgt := 92) (pc' := 68) (by omega) (by omega) d_M_read_65 (by decide) rfl (fun hc65 => ?_) (fun hc65 => ?_)
    · refine cn_vret rfl d_M_read_92 ?_
      rw [List.take_of_length_le (by omega)] at ho
      exact K I ho hf
    · exact absurd hc65 (by omega)
  | succ r ih =>
    intro i I hir ho hf
    refine cn_iload_n (pc' := 56) (k := 1) rfl rfl d_M_read_55 rfl ?_
    refine cn_aload_n (pc' := 57) (k := 0) rfl rfl d_M_read_56 rfl ?_
    refine cn_getP (pc' := 60) (b := 159) (hm.2.1 5 159 rfl) fl_M_24 hm.1 rfl d_M_read_57 rfl ?_
    refine cn_aload_n (pc' := 61) (k := 0) rfl rfl d_M_read_60 rfl ?_
    refine cn_getIv (pc' := 64) (v := nI (k)) ((hf _ _ (by omega) (by omega)).trans h29) fl_M_168 hm.1 rfl d_M_read_61 rfl ?_
    refine cn_ialdv (pc' := 65) (v := nI (v.length)) ((hf _ _ (by omega) (by omega)).trans h159) (hm.2.2 159 0 16 rfl) (by omega) (by decide) d_M_read_64 rfl ?_
    refine cn_icmp_ge_n (tgt := 92) (pc' := 68) (by omega) (by omega) d_M_read_65 (by decide) rfl (fun hc65 => ?_) (fun hc65 => ?_)
    · exact absurd hc65 (by omega)
    · refine cn_aload_n (pc' := 69) (k := 0) rfl rfl d_M_read_68 rfl ?_
      refine cn_aload_n (pc' := 70) (k := 0) rfl rfl d_M_read_69 rfl ?_
      refine cn_getP (pc' := 73) (b := 160) (hm.2.1 6 160 rfl) fl_M_27 hm.1 rfl d_M_read_70 rfl ?_
      refine cn_bipush (pc' := 75) k_b_64 d_M_read_73 rfl ?_
      refine cn_aload_n (pc' := 76) (k := 0) rfl rfl d_M_read_75 rfl ?_
      refine cn_getIv (pc' := 79) (v := nI (k)) ((hf _ _ (by omega) (by omega)).trans h29) fl_M_168 hm.1 rfl d_M_read_76 rfl ?_
      refine cn_imul_n (pc' := 80) d_M_read_79 rfl ?_
      refine cn_iload_n (pc' := 81) (k := 1) rfl rfl d_M_read_80 rfl ?_
      refine cn_iadd_n (pc' := 82) d_M_read_81 rfl ?_
      refine cn_ialdv (pc' := 83) (v := v.getD i 0) ((hf _ _ (by omega) (by omega)).trans (h160 i (by omega))) (hm.2.2 160 0 1024 rfl) (by omega) (by decide) d_M_read_82 rfl ?_
      refine cn_callV (pc' := 86) (kc1 := 0) (ks1 := 0) (kc2 := 0) (ks2 := 0) (rest := []) (lvj := [(0, .ref 155), (1, .int (v.getD i 0))]) [.int (v.getD i 0)] mv_M_184 hm.1 rfl rfl rfl (Nat.le_of_ble_eq_true rfl) (Nat.le_of_ble_eq_true rfl) (by omega) (by omega) (by omega) d_M_read_83 rfl ?_
      refine c_M_say hm ho (by show (v.take i).length + 1 < 200; rw [List.length_take]; omega) (fun I1 ho1 hf1 => ?_)
      show cn_V l en mi_M_read d 0 0 S I1 P Q 86 [(0, .ref 155), (1, .int (nI (i)))] []
      refine cn_iinc_n (pc' := 89) (lv' := [(0, .ref 155), (1, .int (nI (i + 1)))]) (k := 1) [1, 0] rfl (Nat.le_of_ble_eq_true rfl) rfl d_M_read_86 rfl ?_
      refine cn_goto (tgt := 55) d_M_read_89 (by decide) ?_
      exact ih (i + 1) I1 (by omega) (by rw [tk_succ (by omega)]; exact ho1) (hf.tr hf1)
theorem c_M_read (hm : wM S P) (h : MT I (ns, xs, (ps, pn)) [nI 1] T) (hr : mg I g 1 true) (hd1 : 3 ≤ d) (K : ∀ I', MT I' (sp_read (ns, xs, (ps, pn)) g).2.2 ((sp_read (ns, xs, (ps, pn)) g).1 :: (sp_read (ns, xs, (ps, pn)) g).2.1) T → fV I I' → Q none S I' P) : cn_V l en mi_M_read d 0 0 S I P Q 0 [(0, .ref 155)] [] := by
  have h9 := h
  obtain ⟨hN, hJ, hS, hp, ho⟩ := h
  have hN : mN I ns := hN
  have hJ : mI I xs := hJ
  have hS : mS I ps pn := hS
  have hl16 := hN.2.1
  have hl6 := hJ.2.1
  have hl3 := hS.2.1
  refine cn_aload_n (pc' := 1) (k := 0) rfl rfl d_M_read_0 rfl ?_
  refine cn_callV (pc' := 4) (kc1 := 0) (ks1 := 0) (kc2 := 0) (ks2 := 0) (rest := []) (lvj := [(0, .ref 155)]) [] mv_M_208 hm.1 rfl rfl rfl (Nat.le_of_ble_eq_true rfl) (Nat.le_of_ble_eq_true rfl) (by omega) (by omega) (by omega) d_M_read_1 rfl ?_
  refine c_M_readName hm hN hr (by omega) (fun I1 hr1 hn1 hf1 => ?_)
  have hr1 : mg I1 g (p1 g) (w1 g) := hr1
  have h91 := h9.rd hf1.toR
  have hN1 : mN I1 ns := h91.1
  show cn_V l en mi_M_read d 0 0 S I1 P Q 4 [(0, .ref 155)] []
  refine cn_aload_n (pc' := 5) (k := 0) rfl rfl d_M_read_4 rfl ?_
  refine cn_callV (pc' := 8) (kc1 := 0) (ks1 := 0) (kc2 := 0) (ks2 := 0) (rest := []) (lvj := [(0, .ref 155)]) [] mv_M_211 hm.1 rfl rfl rfl (Nat.le_of_ble_eq_true rfl) (Nat.le_of_ble_eq_true rfl) (by omega) (by omega) (by omega) d_M_read_5 rfl ?_
  refine c_M_whole hm hr1 ?_
  have hwb := tn_le (whl g (p1 g) (w1 g))
  show cn_V l en mi_M_read d 0 0 S I1 P Q 8 [(0, .ref 155)] [.int (nI ((whl g (p1 g) (w1 g)).toNat))]
  refine cn_if_ne_n (tgt := 12) (pc' := 11) (by omega) d_M_read_8 (by decide) rfl (fun hc8 => ?_) (fun hc8 => ?_)
  · rcases ndc ns (rnm g 1) with ⟨hnx, hnv⟩ | ⟨k, hnx, hkl, hnv⟩
    · show cn_V l en mi_M_read d 0 0 S I1 P Q 12 [(0, .ref 155)] []
      refine cn_aload_n (pc' := 13) (k := 0) rfl rfl d_M_read_12 rfl ?_
      refine cn_getIv (pc' := 16) (v := -1) (hn1.trans hnv) fl_M_168 hm.1 rfl d_M_read_13 rfl ?_
      refine cn_if_lt (tgt := 31) (pc' := 19) d_M_read_16 (by decide) rfl (fun hc16 => ?_) (fun hc16 => ?_)
      · refine cn_aload_n (pc' := 32) (k := 0) rfl rfl d_M_read_31 rfl ?_
        refine cn_aload_n (pc' := 33) (k := 0) rfl rfl d_M_read_32 rfl ?_
        refine cn_getIv (pc' := 36) (v := -1) (hn1.trans hnv) fl_M_168 hm.1 rfl d_M_read_33 rfl ?_
        refine cn_if_ge (tgt := 43) (pc' := 39) d_M_read_36 (by decide) rfl (fun hc36 => ?_) (fun hc36 => ?_)
        · exact absurd hc36 (by decide)
        · refine cn_iconst (pc' := 40) k_c_3 d_M_read_39 rfl ?_
          refine cn_goto (tgt := 44) d_M_read_40 (by decide) ?_
          refine cn_callV (pc' := 47) (kc1 := 0) (ks1 := 0) (kc2 := 0) (ks2 := 0) (rest := []) (lvj := [(0, .ref 155), (1, .int (nI (3)))]) [.int (nI (3))] mv_M_187 hm.1 rfl rfl rfl (Nat.le_of_ble_eq_true rfl) (Nat.le_of_ble_eq_true rfl) (by omega) (by omega) (by omega) d_M_read_44 rfl ?_
          refine c_M_code hm (by omega) (fun I9 ho9 hf9 => ?_)
          have h99 := h91.out hf9 ho9
          have hv9 : fV I I9 := (hf1.toR.toV).tr hf9.toV
          show cn_V l en mi_M_read d 0 0 S I9 P Q 47 [(0, .ref 155)] []
          refine cn_vret rfl d_M_read_47 ?_
          have ec : vcode ns (rnm g 1) = nI 3 := by unfold vcode; rw [hnx]
          have ed : vdx ns (rnm g 1) = none := by unfold vdx; rw [hnx]
          have e : sp_read (ns, xs, (ps, pn)) g = (vcode ns (rnm g 1), [], ns, xs, (ps, pn)) := by unfold sp_read; rw [if_pos (tn_1 hc8)]; dsimp only; rw [ed]
          rw [e, ec] at K
          exact K I9 h99 hv9
      · exact absurd hc16 (by decide)
    · have hbk := tn_le (isv ns k)
      show cn_V l en mi_M_read d 0 0 S I1 P Q 12 [(0, .ref 155)] []
      refine cn_aload_n (pc' := 13) (k := 0) rfl rfl d_M_read_12 rfl ?_
      refine cn_getIv (pc' := 16) (v := nI (k)) (hn1.trans hnv) fl_M_168 hm.1 rfl d_M_read_13 rfl ?_
      refine cn_if_lt_n (tgt := 31) (pc' := 19) (by omega) d_M_read_16 (by decide) rfl (fun hc16 => ?_) (fun hc16 => ?_)
      · exact False.elim (by omega)
      · refine cn_aload_n (pc' := 20) (k := 0) rfl rfl d_M_read_19 rfl ?_
        refine cn_getP (pc' := 23) (b := 157) (hm.2.1 3 157 rfl) fl_M_17 hm.1 rfl d_M_read_20 rfl ?_
        refine cn_aload_n (pc' := 24) (k := 0) rfl rfl d_M_read_23 rfl ?_
        refine cn_getIv (pc' := 27) (v := nI (k)) (hn1.trans hnv) fl_M_168 hm.1 rfl d_M_read_24 rfl ?_
        refine cn_zaldv (pc' := 28) (v := nI ((isv ns k).toNat)) ((hN1).2.2.1 k (by omega)).2.1 (hm.2.2 157 2 16 rfl) (by omega) (by decide) d_M_read_27 rfl ?_
        refine cn_if_ne_n (tgt := 48) (pc' := 31) (by omega) d_M_read_28 (by decide) rfl (fun hc28 => ?_) (fun hc28 => ?_)
        · refine cn_aload_n (pc' := 49) (k := 0) rfl rfl d_M_read_48 rfl ?_
          refine cn_iconst (pc' := 50) k_c_0 d_M_read_49 rfl ?_
          refine cn_callV (pc' := 53) (kc1 := 0) (ks1 := 0) (kc2 := 0) (ks2 := 0) (rest := []) (lvj := [(0, .ref 155), (1, .int (nI (0)))]) [.int (nI (0))] mv_M_187 hm.1 rfl rfl rfl (Nat.le_of_ble_eq_true rfl) (Nat.le_of_ble_eq_true rfl) (by omega) (by omega) (by omega) d_M_read_50 rfl ?_
          refine c_M_code hm (by omega) (fun I9 ho9 hf9 => ?_)
          have h99 := h91.out hf9 ho9
          have hv9 : fV I I9 := (hf1.toR.toV).tr hf9.toV
          show cn_V l en mi_M_read d 0 0 S I9 P Q 53 [(0, .ref 155)] []
          refine cn_iconst (pc' := 54) k_c_0 d_M_read_53 rfl ?_
          refine cn_istore_n (pc' := 55) (lv' := [(0, .ref 155), (1, .int (nI (0)))]) rfl [1, 0] (Nat.le_of_ble_eq_true rfl) rfl d_M_read_54 rfl ?_
          have ec : vcode ns (rnm g 1) = nI 0 := by unfold vcode; rw [hnx]; dsimp only; rw [if_pos (tn_1 hc28)]
          have ed : vdx ns (rnm g 1) = some k := by unfold vdx; rw [hnx]; dsimp only; rw [if_pos (tn_1 hc28)]
          have e : sp_read (ns, xs, (ps, pn)) g = (nI 0, (ns.getD k nd0).2.2, ns, xs, (ps, pn)) := by unfold sp_read; rw [if_pos (tn_1 hc8)]; dsimp only; rw [ed, ec]
          rw [e] at K
          obtain ⟨b1, b2, b3, b4, b5, b6⟩ := hN1.2.2.1 k hkl
          exact c_M_read_55 (v := (ns.getD k nd0).2.2) hm (by omega) b5 I9 ((hf9 _ _ (by omega) (by omega)).trans (hn1.trans hnv)) ((hf9 _ _ (by omega) (by omega)).trans b4) (fun j hj => (hf9 _ _ (by omega) (by omega)).trans (b6 j hj)) (by omega) (fun I8 ho8 hf8 => K I8 (h99.out hf8 ho8) (hv9.tr hf8.toV)) _ 0 I9 (Nat.zero_add _) ho9 fO.rf
        · refine cn_aload_n (pc' := 32) (k := 0) rfl rfl d_M_read_31 rfl ?_
          refine cn_aload_n (pc' := 33) (k := 0) rfl rfl d_M_read_32 rfl ?_
          refine cn_getIv (pc' := 36) (v := nI (k)) (hn1.trans hnv) fl_M_168 hm.1 rfl d_M_read_33 rfl ?_
          refine cn_if_ge_n (tgt := 43) (pc' := 39) (by omega) d_M_read_36 (by decide) rfl (fun hc36 => ?_) (fun hc36 => ?_)
          · refine cn_iconst (pc' := 44) k_c_4 d_M_read_43 rfl ?_
            refine cn_callV (pc' := 47) (kc1 := 0) (ks1 := 0) (kc2 := 0) (ks2 := 0) (rest := []) (lvj := [(0, .ref 155), (1, .int (nI (4)))]) [.int (nI (4))] mv_M_187 hm.1 rfl rfl rfl (Nat.le_of_ble_eq_true rfl) (Nat.le_of_ble_eq_true rfl) (by omega) (by omega) (by omega) d_M_read_44 rfl ?_
            refine c_M_code hm (by omega) (fun I9 ho9 hf9 => ?_)
            have h99 := h91.out hf9 ho9
            have hv9 : fV I I9 := (hf1.toR.toV).tr hf9.toV
            show cn_V l en mi_M_read d 0 0 S I9 P Q 47 [(0, .ref 155)] []
            refine cn_vret rfl d_M_read_47 ?_
            have ec : vcode ns (rnm g 1) = nI 4 := by unfold vcode; rw [hnx]; dsimp only; rw [if_neg (by rw [tn_0 hc28]; decide)]
            have ed : vdx ns (rnm g 1) = none := by unfold vdx; rw [hnx]; dsimp only; rw [if_neg (by rw [tn_0 hc28]; decide)]
            have e : sp_read (ns, xs, (ps, pn)) g = (vcode ns (rnm g 1), [], ns, xs, (ps, pn)) := by unfold sp_read; rw [if_pos (tn_1 hc8)]; dsimp only; rw [ed]
            rw [e, ec] at K
            exact K I9 h99 hv9
          · exact False.elim (by omega)
  · refine cn_vret rfl d_M_read_11 ?_
    have e : sp_read (ns, xs, (ps, pn)) g = (nI 1, [], ns, xs, (ps, pn)) := by unfold sp_read; rw [if_neg (by rw [tn_0 hc8]; decide)]
    rw [e] at K
    exact K I1 h91 hf1.toR.toV
end
