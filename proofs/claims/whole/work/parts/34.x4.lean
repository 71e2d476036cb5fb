theorem RC.row15 {S : cn_S} {I I' : cn_I} {P : cn_P} {s : sSt} (h : RC S I P s) (hf : fr1 I I' 15) : RC S I' P s := by
  obtain ⟨hw, hX, hN, hI, hS, hC, hR, hV⟩ := h
  exact ⟨hw, hX.congr (hf _ (by omega)), hN.congr (fun a x1 x2 => hf a (by omega)), hI.congr (fun a x1 x2 => hf a (by omega)) (fun _ _ => rfl), hS.congr (fun a x1 x2 => hf a (by omega)) rfl, hC.congr (hf _ (by omega)) (hf _ (by omega)) (hf _ (by omega)), hR.congr (hf _ (by omega)) (hf _ (by omega)), hV.congr (hf _ (by omega)) (hf _ (by omega))⟩
theorem RC.reply {S : cn_S} {I I' : cn_I} {P : cn_P} {ns : List sNode} {xs : List sItem} {sh : List sPar × Int32} {ch : sCh} {rq : Int32} {u u' : List Int32} (h : RC S I P (ns, xs, sh, ch, (rq, u))) (hf : fr2 I I' 18) (hy : ys I' 18 u') (hu : u'.length ≤ 195) : RC S I' P (ns, xs, sh, ch, (rq, u')) := by
  obtain ⟨hw, hX, hN, hI, hS, hC, hR, hV⟩ := h
  exact ⟨hw, hX.congr (hf _ (by omega) (by omega)), hN.congr (fun a x1 x2 => hf a (by omega) (by omega)), hI.congr (fun a x1 x2 => hf a (by omega) (by omega)) (fun _ _ => rfl), hS.congr (fun a x1 x2 => hf a (by omega) (by omega)) rfl, hC.congr (hf _ (by omega) (by omega)) (hf _ (by omega) (by omega)) (hf _ (by omega) (by omega)), ⟨hy, hu⟩, hV.congr (hf _ (by omega) (by omega)) (hf _ (by omega) (by omega))⟩
theorem RC.inc {S : cn_S} {I I' : cn_I} {P : cn_P} {s : sSt} {u : List Int32} (h : RC S I P s) (hf : fr2 I I' 20) (hy : ys I' 20 u) (hu : u.length ≤ 61) : RC S I' P s := by
  obtain ⟨hw, hX, hN, hI, hS, hC, hR, hV⟩ := h
  exact ⟨hw, hX.congr (hf _ (by omega) (by omega)), hN.congr (fun a x1 x2 => hf a (by omega) (by omega)), hI.congr (fun a x1 x2 => hf a (by omega) (by omega)) (fun _ _ => rfl), hS.congr (fun a x1 x2 => hf a (by omega) (by omega)) rfl, hC.congr (hf _ (by omega) (by omega)) (hf _ (by omega) (by omega)) (hf _ (by omega) (by omega)), hR.congr (hf _ (by omega) (by omega)) (hf _ (by omega) (by omega)), u, hy, hu⟩
/-- the reader and the value that comes in -/
theorem RC.rdv {S : cn_S} {I I' : cn_I} {P : cn_P} {s : sSt} {u : List Int32} (h : RC S I P s) (hf : fr3 I I' 15 20) (hy : ys I' 20 u) (hu : u.length ≤ 61) : RC S I' P s := by
  obtain ⟨hw, hX, hN, hI, hS, hC, hR, hV⟩ := h
  exact ⟨hw, hX.congr (hf _ (by omega) (by omega) (by omega)), hN.congr (fun a x1 x2 => hf a (by omega) (by omega) (by omega)), hI.congr (fun a x1 x2 => hf a (by omega) (by omega) (by omega)) (fun _ _ => rfl), hS.congr (fun a x1 x2 => hf a (by omega) (by omega) (by omega)) rfl, hC.congr (hf _ (by omega) (by omega) (by omega)) (hf _ (by omega) (by omega) (by omega)) (hf _ (by omega) (by omega) (by omega)), hR.congr (hf _ (by omega) (by omega) (by omega)) (hf _ (by omega) (by omega) (by omega)), u, hy, hu⟩
/-- behind changeValue -/
theorem RC.chg {S : cn_S} {I I' : cn_I} {P P' : cn_P} {ns ns' : List sNode} {xs xs' : List sItem} {sh : List sPar × Int32} {ch : sCh} {rr : Int32 × List Int32} (h : RC S I P (ns, xs, sh, ch, rr)) (hw' : wX S P') (hN' : rN I' ns') (hI' : rI I' P' xs') (hn : ns'.length = ns.length) (hx : xs'.length = xs.length) (hf : ∀ a, a < 23 ∨ 155 ≤ a → I' a = I a) (hP : ∀ a, (∀ i, i < 6 → a ≠ 72 + 14 * i) → P' a = P a) : RC S I' P' (ns', xs', sh, ch, rr) := by
  obtain ⟨hw, hX, hN, hI, hS, hC, hR, hV⟩ := h
  have hX2 : rX I' ns'.length xs'.length rr.1 := by rw [hn, hx]; exact hX.congr (hf _ (by omega))
  exact ⟨hw', hX2, hN', hI', hS.congr (fun a x1 x2 => hf a (by omega)) (hP 4 (fun i hi => by omega)), hC.congr (hf _ (by omega)) (hf _ (by omega)) (hf _ (by omega)), hR.congr (hf _ (by omega)) (hf _ (by omega)), hV.congr (hf _ (by omega)) (hf _ (by omega))⟩
theorem chg_len (ns : List sNode) (xs : List sItem) (k : Nat) (u : List Int32) : (chg ns xs k u).2.1.length = ns.length ∧ (chg ns xs k u).2.2.length = xs.length := by
  unfold chg
  split
  · exact ⟨rfl, rfl⟩
  · exact ⟨List.length_set, List.length_map _⟩
theorem cmp0 {v : Int64} : lg_cmp v 0 = 0 ↔ v = 0 := by
  unfold lg_cmp
  by_cases h1 : (0 : Int64) < v
  · rw [if_pos h1]
    exact ⟨fun h => absurd h (by decide), fun h => by rw [h] at h1; exact absurd h1 (by decide)⟩
  · rw [if_neg h1]
    by_cases h2 : v = 0
    · simp [h2]
    · simp [h2]
theorem pkv_len (t : Int32) (x : Int64) : (pkv t x).length ≤ 61 := by
  unfold pkv
  repeat' split
  all_goals simp [lbs_len]
theorem frX.f2 {I I' : cn_I} {P : cn_P} {b : Nat} (h : fr2 I I' b) (hb : b < 154) : frX I I' P P := fun a x => ⟨h a (by omega) (by omega), rfl⟩
theorem frX.f1 {I I' : cn_I} {P : cn_P} {b : Nat} (h : fr1 I I' b) (hb : b < 155) : frX I I' P P := fun a x => ⟨h a (by omega), rfl⟩
theorem frX.f3 {I I' : cn_I} {P : cn_P} (h : fr3 I I' 15 20) : frX I I' P P := fun a x => ⟨h a (by omega) (by omega) (by omega), rfl⟩
theorem frX.fc {I I' : cn_I} {P P' : cn_P} (hf : ∀ a, a < 23 ∨ 155 ≤ a → I' a = I a) (hP : ∀ a, (∀ i, i < 6 → a ≠ 72 + 14 * i) → P' a = P a) : frX I I' P P' := fun a x => ⟨hf a (Or.inr x), hP a (fun i hi => by omega)⟩
section
variable {l : Launch} {en : cn_E} {d : Nat} {S : cn_S} {I : cn_I} {P : cn_P} {Q : Option Value → cn_S → cn_I → cn_P → Prop}
variable {ns : List sNode} {xs : List sItem} {ps : List sPar} {pn : Int32} {ch : sCh} {rq : Int32} {ru : List Int32}
theorem C_X_poke {n : Int32} {x : Int64} (h : RC S I P (ns, xs, (ps, pn), ch, (rq, ru))) (hd1 : 5 ≤ d) (K : ∀ (I' : cn_I) (P' : cn_P), RC S I' P' ((sp_poke ns xs n x).2.1, (sp_poke ns xs n x).2.2, (ps, pn), ch, (rq, ru)) → frX I I' P P' → Q (some (.int (nI (sp_poke ns xs n x).1.toNat))) S I' P') : cn_V l en mi_X_poke d 0 0 S I P Q 0 [(0, .ref 0), (1, .int n), (2, .long x)] [] := by
  have h9 := h
  obtain ⟨hw, hX, hN, hI, hS, hC, hR, hV⟩ := h
  have hX : rX I ns.length xs.length rq := hX
  have hN : rN I ns := hN
  have hI : rI I P xs := hI
  have hS : rS I P ps pn := hS
  have hC : chs I 14 ch := hC
  have hR : rR I ru := hR
  have h01 := hX.1
  have hl16 := hN.1
  have hl6 := hI.1
  have hl195 := hR.2
  have hl64 := hC.2.2.2.2.2.2
  obtain ⟨⟨π, hk⟩, hpn⟩ := hS
  have hl3 := hk.2.1
  refine cn_aload_n (pc' := 1) (k := 0) rfl rfl d_X_poke_0 rfl ?_
  refine cn_iload_n (pc' := 2) (k := 1) rfl rfl d_X_poke_1 rfl ?_
  refine cn_callV (pc' := 5) (kc1 := 0) (ks1 := 0) (kc2 := 0) (ks2 := 0) (rest := []) (lvj := [(0, .ref 0), (1, .int (n))]) [.int (n)] mv_X_86 hw.1 rfl rfl rfl (Nat.le_of_ble_eq_true rfl) (Nat.le_of_ble_eq_true rfl) (by omega) (by omega) (by omega) d_X_poke_2 rfl ?_
  refine c_X_isVariable (ns := ns) hw h01 hN (by omega) (fun k2 hnk2 hkl2 hv => ?_) (fun hnv => ?_)
  · subst hnk2
    show cn_V l en mi_X_poke d 0 0 S I P Q 5 [(0, .ref 0), (1, .int (nI (k2))), (2, .long (x))] [.int (nI (1))]
    refine cn_if_ne_n (tgt := 10) (pc' := 8) (by omega) d_X_poke_5 (by decide) rfl (fun hc5 => ?_) (fun hc5 => ?_)
    · refine cn_aload_n (pc' := 11) (k := 0) rfl rfl d_X_poke_10 rfl ?_
      refine cn_getP (pc' := 14) (b := 1) hw.2.1.1 fl_X_11 hw.1 rfl d_X_poke_11 rfl ?_
      refine cn_iload_n (pc' := 15) (k := 1) rfl rfl d_X_poke_14 rfl ?_
      refine cn_aald (pc' := 16) (b := (23 + 3 * k2)) hw.2.2.1.1 (by decide) (by decide) rfl (by omega) (by decide) (hw.nd (i := k2) (by omega)).1 d_X_poke_15 rfl ?_
      refine cn_getIv (pc' := 19) (v := (ns.getD k2 nd0).2.1) (hN.2.1 k2 (by omega)).2.1 fl_X_89 (hw.nd (i := k2) (by omega)).2.1 rfl d_X_poke_16 rfl ?_
      refine cn_istore (pc' := 21) (lv' := [(0, .ref 0), (1, .int (nI (k2))), (2, .long (x)), (4, .int ((ns.getD k2 nd0).2.1))]) [1, 2, 3, 0] (Nat.le_of_ble_eq_true rfl) rfl d_X_poke_19 rfl ?_
      refine cn_aload_n (pc' := 22) (k := 0) rfl rfl d_X_poke_21 rfl ?_
      refine cn_getP (pc' := 25) (b := 20) hw.2.1.2.2.2.2.2.1 fl_X_44 hw.1 rfl d_X_poke_22 rfl ?_
      refine cn_callV (pc' := 28) (kc1 := 0) (ks1 := 0) (kc2 := 0) (ks2 := 0) (rest := []) (lvj := [(0, .ref 20)]) [] mv_X_71 hw.ic.1 rfl rfl rfl (Nat.le_of_ble_eq_true rfl) (Nat.le_of_ble_eq_true rfl) (by omega) (by omega) (by omega) d_X_poke_25 rfl ?_
      refine c_By_clear (b := 20) (cap := 61) hw.ic (fun I1 hy1 hf1 => ?_)
      show cn_V l en mi_X_poke d 0 0 S I1 P Q 28 [(0, .ref 0), (1, .int (nI (k2))), (2, .long (x)), (4, .int ((ns.getD k2 nd0).2.1))] []
      refine cn_aload_n (pc' := 29) (k := 0) rfl rfl d_X_poke_28 rfl ?_
      refine cn_getP (pc' := 32) (b := 20) hw.2.1.2.2.2.2.2.1 fl_X_44 hw.1 rfl d_X_poke_29 rfl ?_
      refine cn_iload (pc' := 34) (k := 3) rfl d_X_poke_32 rfl ?_
      refine cn_callV (pc' := 37) (kc1 := 0) (ks1 := 0) (kc2 := 0) (ks2 := 0) (rest := []) (lvj := [(0, .ref 20), (1, .int ((ns.getD k2 nd0).2.1))]) [.int ((ns.getD k2 nd0).2.1)] mv_X_92 hw.ic.1 rfl rfl rfl (Nat.le_of_ble_eq_true rfl) (Nat.le_of_ble_eq_true rfl) (by omega) (by omega) (by omega) d_X_poke_34 rfl ?_
      refine c_By_add (b := 20) (cap := 61) hw.ic hy1 (Nat.zero_le _) (fun I2 hy2 hf2 => ?_)
      have hf12 := hf1.tr hf2
      show cn_V l en mi_X_poke d 0 0 S I2 P Q 37 [(0, .ref 0), (1, .int (nI (k2))), (2, .long (x)), (4, .int ((ns.getD k2 nd0).2.1))] []
      refine cn_iload (pc' := 39) (k := 3) rfl d_X_poke_37 rfl ?_
      by_cases hk39_1 : (ns.getD k2 nd0).2.1 = nI 1
      · refine cn_lookup (tgt := 72) (off := 33) d_X_poke_39 (by decide) (by rw [hk39_1] <;> decide +kernel) (by decide) ?_
        refine cn_aload_n (pc' := 73) (k := 0) rfl rfl d_X_poke_72 rfl ?_
        refine cn_getP (pc' := 76) (b := 20) hw.2.1.2.2.2.2.2.1 fl_X_44 hw.1 rfl d_X_poke_73 rfl ?_
        refine cn_lload_n (pc' := 77) (k := 2) rfl rfl d_X_poke_76 rfl ?_
        refine cn_lconst (pc' := 78) (v := 0) (by decide +kernel) d_X_poke_77 rfl ?_
        refine cn_lcmp (pc' := 79) d_X_poke_78 rfl ?_
        refine cn_if_eq (tgt := 86) (pc' := 82) d_X_poke_79 (by decide) rfl (fun hc79 => ?_) (fun hc79 => ?_)
        · refine cn_iconst (pc' := 87) k_c_0 d_X_poke_86 rfl ?_
          refine cn_callV (pc' := 90) (kc1 := 0) (ks1 := 0) (kc2 := 0) (ks2 := 0) (rest := []) (lvj := [(0, .ref 20), (1, .int (nI (0)))]) [.int (nI (0))] mv_X_92 hw.ic.1 rfl rfl rfl (Nat.le_of_ble_eq_true rfl) (Nat.le_of_ble_eq_true rfl) (by omega) (by omega) (by omega) d_X_poke_87 rfl ?_
          have hy2 : ys I2 20 [(ns.getD k2 nd0).2.1 &&& 255] := hy2
          refine c_By_add (b := 20) (cap := 61) hw.ic hy2 (show 1 ≤ 61 by decide) (fun I3 hy3 hf3 => ?_)
          show cn_V l en mi_X_poke d 0 0 S I3 P Q 90 [(0, .ref 0), (1, .int (nI (k2))), (2, .long (x)), (4, .int ((ns.getD k2 nd0).2.1))] []
          refine cn_goto (tgt := 120) d_X_poke_90 (by decide) ?_
          refine cn_aload_n (pc' := 121) (k := 0) rfl rfl d_X_poke_120 rfl ?_
          refine cn_iload_n (pc' := 122) (k := 1) rfl rfl d_X_poke_121 rfl ?_
          refine cn_callV (pc' := 125) (kc1 := 0) (ks1 := 0) (kc2 := 0) (ks2 := 0) (rest := []) (lvj := [(0, .ref 0), (1, .int (nI (k2)))]) [.int (nI (k2))] mv_X_99 hw.1 rfl rfl rfl (Nat.le_of_ble_eq_true rfl) (Nat.le_of_ble_eq_true rfl) (by omega) (by omega) (by omega) d_X_poke_122 rfl ?_
          have hy4 : ys I3 20 (pkv (ns.getD k2 nd0).2.1 x) := by
            have e : pkv (ns.getD k2 nd0).2.1 x = [nI 1, nI 0] := by unfold pkv; rw [if_pos hk39_1, if_pos (cmp0.mp hc79)]
            rw [e]
            rw [hk39_1] at hy3
            exact hy3
          have hu4 := pkv_len (ns.getD k2 nd0).2.1 x
          have hRC : RC S I3 P (ns, xs, (ps, pn), ch, (rq, ru)) := h9.inc (hf12.tr hf3) hy4 hu4
          obtain ⟨-, hX3, hN3, hI3, -⟩ := id hRC
          refine c_X_changeValue (ns := ns) (xs := xs) hw hX3.1 hN3 hI3 hX3.2.1 hkl2 hy4 hu4 (by omega) (fun I4 P4 hw4 hN4 hI4 hf4 hP4 => ?_)
          show cn_V l en mi_X_poke d 0 0 S I4 P4 Q 125 [(0, .ref 0), (1, .int (nI (k2))), (2, .long (x)), (4, .int ((ns.getD k2 nd0).2.1))] [.int (nI ((chg ns xs k2 (pkv (ns.getD k2 nd0).2.1 x)).1.toNat))]
          refine cn_zret rfl (by cases (chg ns xs k2 (pkv (ns.getD k2 nd0).2.1 x)).1 <;> decide) d_X_poke_125 ?_
          have e : sp_poke ns xs (nI k2) x = chg ns xs k2 (pkv (ns.getD k2 nd0).2.1 x) := by unfold sp_poke; rw [vdx_some hkl2 (by omega) hv]; dsimp only; rw [if_pos (Or.inl hk39_1)]
          rw [e] at K
          exact K I4 P4 (hRC.chg hw4 hN4 hI4 (chg_len _ _ _ _).1 (chg_len _ _ _ _).2 hf4 hP4) ((frX.f2 (hf12.tr hf3) (by omega)).tr (frX.fc hf4 hP4))
        · refine cn_iconst (pc' := 83) k_c_1 d_X_poke_82 rfl ?_
          refine cn_goto (tgt := 87) d_X_poke_83 (by decide) ?_
          refine cn_callV (pc' := 90) (kc1 := 0) (ks1 := 0) (kc2 := 0) (ks2 := 0) (rest := []) (lvj := [(0, .ref 20), (1, .int (nI (1)))]) [.int (nI (1))] mv_X_92 hw.ic.1 rfl rfl rfl (Nat.le_of_ble_eq_true rfl) (Nat.le_of_ble_eq_true rfl) (by omega) (by omega) (by omega) d_X_poke_87 rfl ?_
          have hy2 : ys I2 20 [(ns.getD k2 nd0).2.1 &&& 255] := hy2
          refine c_By_add (b := 20) (cap := 61) hw.ic hy2 (show 1 ≤ 61 by decide) (fun I3 hy3 hf3 => ?_)
          show cn_V l en mi_X_poke d 0 0 S I3 P Q 90 [(0, .ref 0), (1, .int (nI (k2))), (2, .long (x)), (4, .int ((ns.getD k2 nd0).2.1))] []
          refine cn_goto (tgt := 120) d_X_poke_90 (by decide) ?_
          refine cn_aload_n (pc' := 121) (k := 0) rfl rfl d_X_poke_120 rfl ?_
          refine cn_iload_n (pc' := 122) (k := 1) rfl rfl d_X_poke_121 rfl ?_
          refine cn_callV (pc' := 125) (kc1 := 0) (ks1 := 0) (kc2 := 0) (ks2 := 0) (rest := []) (lvj := [(0, .ref 0), (1, .int (nI (k2)))]) [.int (nI (k2))] mv_X_99 hw.1 rfl rfl rfl (Nat.le_of_ble_eq_true rfl) (Nat.le_of_ble_eq_true rfl) (by omega) (by omega) (by omega) d_X_poke_122 rfl ?_
          have hy4 : ys I3 20 (pkv (ns.getD k2 nd0).2.1 x) := by
            have e : pkv (ns.getD k2 nd0).2.1 x = [nI 1, nI 1] := by unfold pkv; rw [if_pos hk39_1, if_neg (fun h => hc79 (cmp0.mpr h))]
            rw [e]
            rw [hk39_1] at hy3
            exact hy3
          have hu4 := pkv_len (ns.getD k2 nd0).2.1 x
          have hRC : RC S I3 P (ns, xs, (ps, pn), ch, (rq, ru)) := h9.inc (hf12.tr hf3) hy4 hu4
          obtain ⟨-, hX3, hN3, hI3, -⟩ := id hRC
          refine c_X_changeValue (ns := ns) (xs := xs) hw hX3.1 hN3 hI3 hX3.2.1 hkl2 hy4 hu4 (by omega) (fun I4 P4 hw4 hN4 hI4 hf4 hP4 => ?_)
          show cn_V l en mi_X_poke d 0 0 S I4 P4 Q 125 [(0, .ref 0), (1, .int (nI (k2))), (2, .long (x)), (4, .int ((ns.getD k2 nd0).2.1))] [.int (nI ((chg ns xs k2 (pkv (ns.getD k2 nd0).2.1 x)).1.toNat))]
          refine cn_zret rfl (by cases (chg ns xs k2 (pkv (ns.getD k2 nd0).2.1 x)).1 <;> decide) d_X_poke_125 ?_
          have e : sp_poke ns xs (nI k2) x = chg ns xs k2 (pkv (ns.getD k2 nd0).2.1 x) := by unfold sp_poke; rw [vdx_some hkl2 (by omega) hv]; dsimp only; rw [if_pos (Or.inl hk39_1)]
          rw [e] at K
          exact K I4 P4 (hRC.chg hw4 hN4 hI4 (chg_len _ _ _ _).1 (chg_len _ _ _ _).2 hf4 hP4) ((frX.f2 (hf12.tr hf3) (by omega)).tr (frX.fc hf4 hP4))
      by_cases hk39_6 : (ns.getD k2 nd0).2.1 = nI 6
      · refine cn_lookup (tgt := 93) (off := 54) d_X_poke_39 (by decide) (by rw [hk39_6] <;> decide +kernel) (by decide) ?_
        refine cn_aload_n (pc' := 94) (k := 0) rfl rfl d_X_poke_93 rfl ?_
        refine cn_getP (pc' := 97) (b := 20) hw.2.1.2.2.2.2.2.1 fl_X_44 hw.1 rfl d_X_poke_94 rfl ?_
        refine cn_lload_n (pc' := 98) (k := 2) rfl rfl d_X_poke_97 rfl ?_
        refine cn_iconst (pc' := 99) k_c_4 d_X_poke_98 rfl ?_
        refine cn_callV (pc' := 102) (kc1 := 0) (ks1 := 0) (kc2 := 0) (ks2 := 0) (rest := []) (lvj := [(0, .ref 20), (1, .long (x)), (3, .int (nI (4)))]) [.long (x), .int (nI (4))] mv_X_95 hw.ic.1 rfl rfl rfl (Nat.le_of_ble_eq_true rfl) (Nat.le_of_ble_eq_true rfl) (by omega) (by omega) (by omega) d_X_poke_99 rfl ?_
        have hy2 : ys I2 20 [(ns.getD k2 nd0).2.1 &&& 255] := hy2
        refine c_By_addNumber (b := 20) (cap := 61) hw.ic hy2 (show 1 ≤ 61 by decide) (by omega) (by omega) (fun I3 hy3 hf3 => ?_)
        show cn_V l en mi_X_poke d 0 0 S I3 P Q 102 [(0, .ref 0), (1, .int (nI (k2))), (2, .long (x)), (4, .int ((ns.getD k2 nd0).2.1))] []
        refine cn_goto (tgt := 120) d_X_poke_102 (by decide) ?_
        refine cn_aload_n (pc' := 121) (k := 0) rfl rfl d_X_poke_120 rfl ?_
        refine cn_iload_n (pc' := 122) (k := 1) rfl rfl d_X_poke_121 rfl ?_
        refine cn_callV (pc' := 125) (kc1 := 0) (ks1 := 0) (kc2 := 0) (ks2 := 0) (rest := []) (lvj := [(0, .ref 0), (1, .int (nI (k2)))]) [.int (nI (k2))] mv_X_99 hw.1 rfl rfl rfl (Nat.le_of_ble_eq_true rfl) (Nat.le_of_ble_eq_true rfl) (by omega) (by omega) (by omega) d_X_poke_122 rfl ?_
        have hy4 : ys I3 20 (pkv (ns.getD k2 nd0).2.1 x) := by
          have e : pkv (ns.getD k2 nd0).2.1 x = nI 6 :: lbs x 4 := by unfold pkv; rw [if_neg hk39_1, if_pos hk39_6]
          rw [e]
          rw [hk39_6] at hy3
          exact hy3
        have hu4 := pkv_len (ns.getD k2 nd0).2.1 x
        have hRC : RC S I3 P (ns, xs, (ps, pn), ch, (rq, ru)) := h9.inc (hf12.tr hf3) hy4 hu4
        obtain ⟨-, hX3, hN3, hI3, -⟩ := id hRC
        refine c_X_changeValue (ns := ns) (xs := xs) hw hX3.1 hN3 hI3 hX3.2.1 hkl2 hy4 hu4 (by omega) (fun I4 P4 hw4 hN4 hI4 hf4 hP4 => ?_)
        show cn_V l en mi_X_poke d 0 0 S I4 P4 Q 125 [(0, .ref 0), (1, .int (nI (k2))), (2, .long (x)), (4, .int ((ns.getD k2 nd0).2.1))] [.int (nI ((chg ns xs k2 (pkv (ns.getD k2 nd0).2.1 x)).1.toNat))]
        refine cn_zret rfl (by cases (chg ns xs k2 (pkv (ns.getD k2 nd0).2.1 x)).1 <;> decide) d_X_poke_125 ?_
        have e : sp_poke ns xs (nI k2) x = chg ns xs k2 (pkv (ns.getD k2 nd0).2.1 x) := by unfold sp_poke; rw [vdx_some hkl2 (by omega) hv]; dsimp only; rw [if_pos (Or.inr (Or.inl hk39_6))]
        rw [e] at K
        exact K I4 P4 (hRC.chg hw4 hN4 hI4 (chg_len _ _ _ _).1 (chg_len _ _ _ _).2 hf4 hP4) ((frX.f2 (hf12.tr hf3) (by omega)).tr (frX.fc hf4 hP4))
      by_cases hk39_8 : (ns.getD k2 nd0).2.1 = nI 8
      · refine cn_lookup (tgt := 105) (off := 66) d_X_poke_39 (by decide) (by rw [hk39_8] <;> decide +kernel) (by decide) ?_
        refine cn_aload_n (pc' := 106) (k := 0) rfl rfl d_X_poke_105 rfl ?_
        refine cn_getP (pc' := 109) (b := 20) hw.2.1.2.2.2.2.2.1 fl_X_44 hw.1 rfl d_X_poke_106 rfl ?_
        refine cn_lload_n (pc' := 110) (k := 2) rfl rfl d_X_poke_109 rfl ?_
        refine cn_bipush (pc' := 112) k_b_8 d_X_poke_110 rfl ?_
        refine cn_callV (pc' := 115) (kc1 := 0) (ks1 := 0) (kc2 := 0) (ks2 := 0) (rest := []) (lvj := [(0, .ref 20), (1, .long (x)), (3, .int (nI (8)))]) [.long (x), .int (nI (8))] mv_X_95 hw.ic.1 rfl rfl rfl (Nat.le_of_ble_eq_true rfl) (Nat.le_of_ble_eq_true rfl) (by omega) (by omega) (by omega) d_X_poke_112 rfl ?_
        have hy2 : ys I2 20 [(ns.getD k2 nd0).2.1 &&& 255] := hy2
        refine c_By_addNumber (b := 20) (cap := 61) hw.ic hy2 (show 1 ≤ 61 by decide) (by omega) (by omega) (fun I3 hy3 hf3 => ?_)
        show cn_V l en mi_X_poke d 0 0 S I3 P Q 115 [(0, .ref 0), (1, .int (nI (k2))), (2, .long (x)), (4, .int ((ns.getD k2 nd0).2.1))] []
        refine cn_goto (tgt := 120) d_X_poke_115 (by decide) ?_
        refine cn_aload_n (pc' := 121) (k := 0) rfl rfl d_X_poke_120 rfl ?_
        refine cn_iload_n (pc' := 122) (k := 1) rfl rfl d_X_poke_121 rfl ?_
        refine cn_callV (pc' := 125) (kc1 := 0) (ks1 := 0) (kc2 := 0) (ks2 := 0) (rest := []) (lvj := [(0, .ref 0), (1, .int (nI (k2)))]) [.int (nI (k2))] mv_X_99 hw.1 rfl rfl rfl (Nat.le_of_ble_eq_true rfl) (Nat.le_of_ble_eq_true rfl) (by omega) (by omega) (by omega) d_X_poke_122 rfl ?_
        have hy4 : ys I3 20 (pkv (ns.getD k2 nd0).2.1 x) := by
          have e : pkv (ns.getD k2 nd0).2.1 x = nI 8 :: lbs x 8 := by unfold pkv; rw [if_neg hk39_1, if_neg hk39_6]
          rw [e]
          rw [hk39_8] at hy3
          exact hy3
        have hu4 := pkv_len (ns.getD k2 nd0).2.1 x
        have hRC : RC S I3 P (ns, xs, (ps, pn), ch, (rq, ru)) := h9.inc (hf12.tr hf3) hy4 hu4
        obtain ⟨-, hX3, hN3, hI3, -⟩ := id hRC
        refine c_X_changeValue (ns := ns) (xs := xs) hw hX3.1 hN3 hI3 hX3.2.1 hkl2 hy4 hu4 (by omega) (fun I4 P4 hw4 hN4 hI4 hf4 hP4 => ?_)
        show cn_V l en mi_X_poke d 0 0 S I4 P4 Q 125 [(0, .ref 0), (1, .int (nI (k2))), (2, .long (x)), (4, .int ((ns.getD k2 nd0).2.1))] [.int (nI ((chg ns xs k2 (pkv (ns.getD k2 nd0).2.1 x)).1.toNat))]
        refine cn_zret rfl (by cases (chg ns xs k2 (pkv (ns.getD k2 nd0).2.1 x)).1 <;> decide) d_X_poke_125 ?_
        have e : sp_poke ns xs (nI k2) x = chg ns xs k2 (pkv (ns.getD k2 nd0).2.1 x) := by unfold sp_poke; rw [vdx_some hkl2 (by omega) hv]; dsimp only; rw [if_pos (Or.inr (Or.inr hk39_8))]
        rw [e] at K
        exact K I4 P4 (hRC.chg hw4 hN4 hI4 (chg_len _ _ _ _).1 (chg_len _ _ _ _).2 hf4 hP4) ((frX.f2 (hf12.tr hf3) (by omega)).tr (frX.fc hf4 hP4))
      · refine cn_lookup (tgt := 118) (off := 79) d_X_poke_39 (by decide) (by rw [show (#[(1, 33), (6, 54), (8, 66)] : Array (Int × Int)).toList = [(1, 33), (6, 54), (8, 66)] from rfl, lv_osw hk39_1 (by decide +kernel), lv_osw hk39_6 (by decide +kernel), lv_osw hk39_8 (by decide +kernel)] <;> rfl) (by decide) ?_
        refine cn_iconst (pc' := 119) k_c_0 d_X_poke_118 rfl ?_
        refine cn_zret rfl (Or.inl rfl) d_X_poke_119 ?_
        have e : sp_poke ns xs (nI k2) x = (false, ns, xs) := by unfold sp_poke; rw [vdx_some hkl2 (by omega) hv]; dsimp only; rw [if_neg (fun h => h.elim hk39_1 (fun h => h.elim hk39_6 hk39_8))]
        rw [e] at K
        exact K I2 P (h9.inc hf12 hy2 (show 1 ≤ 61 by decide)) (frX.f2 hf12 (by omega))
    · exact False.elim (by omega)
  · show cn_V l en mi_X_poke d 0 0 S I P Q 5 [(0, .ref 0), (1, .int (n)), (2, .long (x))] [.int (nI (0))]
    refine cn_if_ne_n (tgt := 10) (pc' := 8) (by omega) d_X_poke_5 (by decide) rfl (fun hc5 => ?_) (fun hc5 => ?_)
    · exact False.elim (by omega)
    · refine cn_iconst (pc' := 9) k_c_0 d_X_poke_8 rfl ?_
      refine cn_zret rfl (Or.inl rfl) d_X_poke_9 ?_
      have e : sp_poke ns xs n x = (false, ns, xs) := by unfold sp_poke; rw [hnv]
      rw [e] at K
      exact K I P h9 frX.rf
end
