section
variable {l : Launch} {en : cn_E} {d : Nat} {S : cn_S} {I : cn_I} {P : cn_P} {Q : Option Value → cn_S → cn_I → cn_P → Prop}
variable {ns : List sNode} {xs : List sItem} {ps : List sPar} {pn : Int32} {ch : sCh} {rq : Int32}
theorem c_X_serveWatch {g : List Int32} (h : RC S I P (ns, xs, (ps, pn), ch, (rq, [nI 0]))) (hr : rd I 15 g 1 true) (hd1 : 5 ≤ d) (K : ∀ (I' : cn_I) (P' : cn_P), RC S I' P' ((sp_watch (ns, xs, (ps, pn)) g).2.2.1, (sp_watch (ns, xs, (ps, pn)) g).2.2.2.1, (sp_watch (ns, xs, (ps, pn)) g).2.2.2.2, ch, (rq, nI 0 :: (sp_watch (ns, xs, (ps, pn)) g).2.1)) → frX I I' P P' → Q (some (.int (sp_watch (ns, xs, (ps, pn)) g).1)) S I' P') : cn_V l en mi_X_serveWatch d 0 0 S I P Q 0 [(0, .ref 0), (1, .ref 15)] [] := by
  have h9 := h
  obtain ⟨hw, hX, hN, hI, hS, hC, hR, hV⟩ := h
  have hX : rX I ns.length xs.length rq := hX
  have hN : rN I ns := hN
  have hI : rI I P xs := hI
  have hS : rS I P ps pn := hS
  have hC : chs I 14 ch := hC
  have hR : rR I [nI 0] := hR
  have h01 := hX.1
  have hl16 := hN.1
  have hl6 := hI.1
  obtain ⟨⟨π, hk⟩, hpn⟩ := hS
  have hl3 := hk.2.1
  refine cn_aload_n (pc' := 1) (k := 1) rfl rfl d_X_serveWatch_0 rfl ?_
  refine cn_callV (pc' := 4) (kc1 := 0) (ks1 := 0) (kc2 := 0) (ks2 := 0) (rest := []) (lvj := [(0, .ref 15)]) [] mv_X_202 hw.me.1 rfl rfl rfl (Nat.le_of_ble_eq_true rfl) (Nat.le_of_ble_eq_true rfl) (by omega) (by omega) (by omega) d_X_serveWatch_1 rfl ?_
  refine c_Me_readName hw.me hr (by omega) (fun I1 hr1 hf1 => ?_)
  have hr1 : rd I1 15 g (p1 g) (w1 g) := hr1
  show cn_V l en mi_X_serveWatch d 0 0 S I1 P Q 4 [(0, .ref 0), (1, .ref 15)] [.int (rnm g 1)]
  refine cn_istore_n (pc' := 5) (lv' := [(0, .ref 0), (1, .ref 15), (2, .int (rnm g 1))]) rfl [1, 2, 0] (Nat.le_of_ble_eq_true rfl) rfl d_X_serveWatch_4 rfl ?_
  refine cn_aload_n (pc' := 6) (k := 1) rfl rfl d_X_serveWatch_5 rfl ?_
  refine cn_callV (pc' := 9) (kc1 := 0) (ks1 := 0) (kc2 := 0) (ks2 := 0) (rest := []) (lvj := [(0, .ref 15)]) [] mv_X_181 hw.me.1 rfl rfl rfl (Nat.le_of_ble_eq_true rfl) (Nat.le_of_ble_eq_true rfl) (by omega) (by omega) (by omega) d_X_serveWatch_6 rfl ?_
  refine c_Me_readByte hw.me hr1 (fun I2 hr2 hf2 => ?_)
  show cn_V l en mi_X_serveWatch d 0 0 S I2 P Q 9 [(0, .ref 0), (1, .ref 15), (2, .int (rnm g 1))] [.int (g.getD (p1 g) 0)]
  refine cn_istore_n (pc' := 10) (lv' := [(0, .ref 0), (1, .ref 15), (2, .int (rnm g 1)), (3, .int (g.getD (p1 g) 0))]) rfl [1, 2, 3, 0] (Nat.le_of_ble_eq_true rfl) rfl d_X_serveWatch_9 rfl ?_
  refine cn_aload_n (pc' := 11) (k := 1) rfl rfl d_X_serveWatch_10 rfl ?_
  refine cn_callV (pc' := 14) (kc1 := 0) (ks1 := 0) (kc2 := 0) (ks2 := 0) (rest := []) (lvj := [(0, .ref 15)]) [] mv_X_181 hw.me.1 rfl rfl rfl (Nat.le_of_ble_eq_true rfl) (Nat.le_of_ble_eq_true rfl) (by omega) (by omega) (by omega) d_X_serveWatch_11 rfl ?_
  refine c_Me_readByte hw.me hr2 (fun I3 hr3 hf3 => ?_)
  rw [rp_add, rw_add] at hr3
  rw [gd_rp]
  have hfr : fr1 I I3 15 := (hf1.tr hf2).tr hf3
  show cn_V l en mi_X_serveWatch d 0 0 S I3 P Q 14 [(0, .ref 0), (1, .ref 15), (2, .int (rnm g 1)), (3, .int (g.getD (p1 g) 0))] [.int (g.getD (p1 g + 1) 0)]
  refine cn_istore (pc' := 16) (lv' := [(0, .ref 0), (1, .ref 15), (2, .int (rnm g 1)), (3, .int (g.getD (p1 g) 0)), (4, .int (g.getD (p1 g + 1) 0))]) [1, 2, 3, 4, 0] (Nat.le_of_ble_eq_true rfl) rfl d_X_serveWatch_14 rfl ?_
  refine cn_aload_n (pc' := 17) (k := 1) rfl rfl d_X_serveWatch_16 rfl ?_
  refine cn_callV (pc' := 20) (kc1 := 0) (ks1 := 0) (kc2 := 0) (ks2 := 0) (rest := []) (lvj := [(0, .ref 15)]) [] mv_X_205 hw.me.1 rfl rfl rfl (Nat.le_of_ble_eq_true rfl) (Nat.le_of_ble_eq_true rfl) (by omega) (by omega) (by omega) d_X_serveWatch_17 rfl ?_
  refine c_Me_isReadWhole hw.me hr3 (by omega) ?_
  have hwb := tn_le (whl g (rp g (p1 g) 2) (rw_ g (p1 g) 2 (w1 g)))
  show cn_V l en mi_X_serveWatch d 0 0 S I3 P Q 20 [(0, .ref 0), (1, .ref 15), (2, .int (rnm g 1)), (3, .int (g.getD (p1 g) 0)), (4, .int (g.getD (p1 g + 1) 0))] [.int (nI ((whl g (rp g (p1 g) 2) (rw_ g (p1 g) 2 (w1 g))).toNat))]
  refine cn_if_ne_n (tgt := 25) (pc' := 23) (by omega) d_X_serveWatch_20 (by decide) rfl (fun hc20 => ?_) (fun hc20 => ?_)
  · refine cn_aload_n (pc' := 26) (k := 0) rfl rfl d_X_serveWatch_25 rfl ?_
    refine cn_iload_n (pc' := 27) (k := 2) rfl rfl d_X_serveWatch_26 rfl ?_
    refine cn_callV (pc' := 30) (kc1 := 0) (ks1 := 0) (kc2 := 0) (ks2 := 0) (rest := []) (lvj := [(0, .ref 0), (1, .int (rnm g 1))]) [.int (rnm g 1)] mv_X_209 hw.1 rfl rfl rfl (Nat.le_of_ble_eq_true rfl) (Nat.le_of_ble_eq_true rfl) (by omega) (by omega) (by omega) d_X_serveWatch_27 rfl ?_
    refine c_X_checkVariable (ns := ns) hw (by rw [hfr 0 (by omega)]; exact h01) (hN.congr (fun a x1 x2 => hfr a (by omega))) (by omega) ?_
    show cn_V l en mi_X_serveWatch d 0 0 S I3 P Q 30 [(0, .ref 0), (1, .ref 15), (2, .int (rnm g 1)), (3, .int (g.getD (p1 g) 0)), (4, .int (g.getD (p1 g + 1) 0))] [.int (vcode ns (rnm g 1))]
    refine cn_istore (pc' := 32) (lv' := [(0, .ref 0), (1, .ref 15), (2, .int (rnm g 1)), (3, .int (g.getD (p1 g) 0)), (4, .int (g.getD (p1 g + 1) 0)), (5, .int (vcode ns (rnm g 1)))]) [1, 2, 3, 4, 5, 0] (Nat.le_of_ble_eq_true rfl) rfl d_X_serveWatch_30 rfl ?_
    refine cn_iload (pc' := 34) (k := 5) rfl d_X_serveWatch_32 rfl ?_
    refine cn_if_eq (tgt := 40) (pc' := 37) d_X_serveWatch_34 (by decide) rfl (fun hc34 => ?_) (fun hc34 => ?_)
    · obtain ⟨k, hnk, hkl, hv⟩ := vcode_eq0 hc34
      rw [hnk]
      refine cn_aload_n (pc' := 41) (k := 0) rfl rfl d_X_serveWatch_40 rfl ?_
      refine cn_getIv (pc' := 44) (v := nI (xs.length)) (by rw [hfr 0 (by omega)]; exact hX.2.1) fl_X_67 hw.1 rfl d_X_serveWatch_41 rfl ?_
      refine cn_bipush (pc' := 46) k_b_6 d_X_serveWatch_44 rfl ?_
      refine cn_icmp_ne_n (tgt := 52) (pc' := 49) (by omega) (by omega) d_X_serveWatch_46 (by decide) rfl (fun hc46 => ?_) (fun hc46 => ?_)
      · refine cn_aload_n (pc' := 53) (k := 0) rfl rfl d_X_serveWatch_52 rfl ?_
        refine cn_getP (pc' := 56) (b := 2) hw.2.1.2.1 fl_X_17 hw.1 rfl d_X_serveWatch_53 rfl ?_
        refine cn_aload_n (pc' := 57) (k := 0) rfl rfl d_X_serveWatch_56 rfl ?_
        refine cn_getIv (pc' := 60) (v := nI (xs.length)) (by rw [hfr 0 (by omega)]; exact hX.2.1) fl_X_67 hw.1 rfl d_X_serveWatch_57 rfl ?_
        refine cn_aald (pc' := 61) (b := (71 + 14 * xs.length)) hw.2.2.2.1.1 (by decide) (by decide) rfl (by omega) (by decide) (hw.it (i := xs.length) (by omega)).1 d_X_serveWatch_60 rfl ?_
        refine cn_iload_n (pc' := 62) (k := 2) rfl rfl d_X_serveWatch_61 rfl ?_
        refine cn_iconst (pc' := 63) k_c_1 d_X_serveWatch_62 rfl ?_
        refine cn_iload_n (pc' := 64) (k := 3) rfl rfl d_X_serveWatch_63 rfl ?_
        refine cn_iconst (pc' := 65) k_c_4 d_X_serveWatch_64 rfl ?_
        refine cn_mmin (pc' := 68) w_st_X_228 w_min_s w_math w_min_c (by omega) (Nat.le_of_ble_eq_true rfl) d_X_serveWatch_65 rfl ?_
        refine cn_mmax (pc' := 71) w_st_X_233 w_max_s w_math w_max_c (by omega) (Nat.le_of_ble_eq_true rfl) d_X_serveWatch_68 rfl ?_
        rw [capo_eq]
        have hcap := capo_le (g.getD (p1 g) 0)
        refine cn_iload (pc' := 73) (k := 4) rfl d_X_serveWatch_71 rfl ?_
        refine cn_if_eq (tgt := 80) (pc' := 76) d_X_serveWatch_73 (by decide) rfl (fun hc73 => ?_) (fun hc73 => ?_)
        · refine cn_iconst (pc' := 81) k_c_0 d_X_serveWatch_80 rfl ?_
          refine cn_callV (pc' := 84) (kc1 := 0) (ks1 := 0) (kc2 := 0) (ks2 := 0) (rest := []) (lvj := [(0, .ref ((71 + 14 * xs.length))), (1, .int (nI (k))), (2, .int (nI (capo (g.getD (p1 g) 0)))), (3, .int (nI (0)))]) [.int (nI (k)), .int (nI (capo (g.getD (p1 g) 0))), .int (nI (0))] mv_X_236 (hw.it (i := xs.length) (by omega)).2.1 rfl rfl rfl (Nat.le_of_ble_eq_true rfl) (Nat.le_of_ble_eq_true rfl) (by omega) (by omega) (by omega) d_X_serveWatch_81 rfl ?_
          refine c_It_watch (it := 71 + 14 * xs.length) (nd := k) (cap := capo (g.getD (p1 g) 0)) (old := false) (hw.it (by omega)).2 (fun I4 hn4 hc4 ho4 hq4 hf4 => ?_)
          show cn_V l en mi_X_serveWatch d 0 0 S I4 P Q 84 [(0, .ref 0), (1, .ref 15), (2, .int (nI (k))), (3, .int (g.getD (p1 g) 0)), (4, .int (g.getD (p1 g + 1) 0)), (5, .int (vcode ns (nI (k))))] []
          refine cn_aload_n (pc' := 85) (k := 0) rfl rfl d_X_serveWatch_84 rfl ?_
          refine cn_getP (pc' := 88) (b := 2) hw.2.1.2.1 fl_X_17 hw.1 rfl d_X_serveWatch_85 rfl ?_
          refine cn_aload_n (pc' := 89) (k := 0) rfl rfl d_X_serveWatch_88 rfl ?_
          refine cn_getIv (pc' := 92) (v := nI (xs.length)) (by rw [hf4 0 (by omega), hfr 0 (by omega)]; exact hX.2.1) fl_X_67 hw.1 rfl d_X_serveWatch_89 rfl ?_
          refine cn_aald (pc' := 93) (b := (71 + 14 * xs.length)) hw.2.2.2.1.1 (by decide) (by decide) rfl (by omega) (by decide) (hw.it (i := xs.length) (by omega)).1 d_X_serveWatch_92 rfl ?_
          refine cn_aload_n (pc' := 94) (k := 0) rfl rfl d_X_serveWatch_93 rfl ?_
          refine cn_getP (pc' := 97) (b := 1) hw.2.1.1 fl_X_11 hw.1 rfl d_X_serveWatch_94 rfl ?_
          refine cn_iload_n (pc' := 98) (k := 2) rfl rfl d_X_serveWatch_97 rfl ?_
          refine cn_aald (pc' := 99) (b := (23 + 3 * k)) hw.2.2.1.1 (by decide) (by decide) rfl (by omega) (by decide) (hw.nd (i := k) (by omega)).1 d_X_serveWatch_98 rfl ?_
          refine cn_getP (pc' := 102) (b := (24 + 3 * k)) (hw.nv (i := k) (by omega)).1 fl_X_154 (hw.nd (i := k) (by omega)).2.1 rfl d_X_serveWatch_99 rfl ?_
          refine cn_callV (pc' := 105) (kc1 := 0) (ks1 := 0) (kc2 := 0) (ks2 := 0) (rest := []) (lvj := [(0, .ref ((71 + 14 * xs.length))), (1, .ref ((24 + 3 * k)))]) [.ref ((24 + 3 * k))] mv_X_171 (hw.it (i := xs.length) (by omega)).2.1 rfl rfl rfl (Nat.le_of_ble_eq_true rfl) (Nat.le_of_ble_eq_true rfl) (by omega) (by omega) (by omega) d_X_serveWatch_102 rfl ?_
          obtain ⟨n1, n2, n3, n4⟩ := hN.2.1 k hkl
          obtain ⟨π0, hπ0⟩ := hI.2.1 xs.length (by omega)
          have hq0 : yq I4 P (71 + 14 * xs.length) [] π0 := ⟨hq4, by decide, by rw [show 71 + 14 * xs.length + 1 = 72 + 14 * xs.length by omega, show 71 + 14 * xs.length + 2 = 73 + 14 * xs.length by omega]; exact hπ0, fun j hj => absurd hj (Nat.not_lt_zero j)⟩
          have hyv : ys I4 (24 + 3 * k) (ns.getD k nd0).2.2 := (n3.keep1 hfr (by omega) (by omega)).congr (hf4 _ (by omega)) (hf4 _ (by omega))
          refine c_It_addNotice (it := 71 + 14 * xs.length) (c := 24 + 3 * k) (capc := 61) (hw.it (by omega)).2 hq0 hc4 ho4 hcap.1 hcap.2 (Nat.zero_le _) (hw.nv (by omega)).2 hyv n4 n4 (by omega) (by omega) (fun I5 P5 π5 hq5 hf5 hP5 => ?_)
          have hw5 : wX S P5 := hw.keepP (fun a x1 x2 => hP5 a (by have := x2 xs.length (by omega); omega))
          have hrow5 : ∀ a, a < 71 ∨ 155 ≤ a → a ≠ 15 → I5 a = I a := fun a x1 x2 => by rw [hf5.1 a (by omega), hf4 a (by omega)]; exact hfr a x2
          show cn_V l en mi_X_serveWatch d 0 0 S I5 P5 Q 105 [(0, .ref 0), (1, .ref 15), (2, .int (nI (k))), (3, .int (g.getD (p1 g) 0)), (4, .int (g.getD (p1 g + 1) 0)), (5, .int (vcode ns (nI (k))))] []
          refine cn_aload_n (pc' := 106) (k := 0) rfl rfl d_X_serveWatch_105 rfl ?_
          refine cn_getP (pc' := 109) (b := 18) hw5.2.1.2.2.2.2.1 fl_X_40 hw5.1 rfl d_X_serveWatch_106 rfl ?_
          refine cn_aload_n (pc' := 110) (k := 0) rfl rfl d_X_serveWatch_109 rfl ?_
          refine cn_getIv (pc' := 113) (v := nI (xs.length)) (by rw [hrow5 0 (by omega) (by omega)]; exact hX.2.1) fl_X_67 hw5.1 rfl d_X_serveWatch_110 rfl ?_
          refine cn_callV (pc' := 116) (kc1 := 0) (ks1 := 0) (kc2 := 0) (ks2 := 0) (rest := []) (lvj := [(0, .ref 18), (1, .int (nI (xs.length)))]) [.int (nI (xs.length))] mv_X_92 hw5.re.1 rfl rfl rfl (Nat.le_of_ble_eq_true rfl) (Nat.le_of_ble_eq_true rfl) (by omega) (by omega) (by omega) d_X_serveWatch_113 rfl ?_
          refine c_By_add (b := 18) (cap := 195) hw5.re (hR.1.congr (hrow5 18 (by omega) (by omega)) (hrow5 19 (by omega) (by omega))) hR.2 (fun I6 hy6 hf6 => ?_)
          rw [nI_255 (by omega)] at hy6
          have hy6 : ys I6 18 [nI 0, nI xs.length] := hy6
          show cn_V l en mi_X_serveWatch d 0 0 S I6 P5 Q 116 [(0, .ref 0), (1, .ref 15), (2, .int (nI (k))), (3, .int (g.getD (p1 g) 0)), (4, .int (g.getD (p1 g + 1) 0)), (5, .int (vcode ns (nI (k))))] []
          refine cn_aload_n (pc' := 117) (k := 0) rfl rfl d_X_serveWatch_116 rfl ?_
          refine cn_dup (pc' := 118) rfl d_X_serveWatch_117 rfl ?_
          refine cn_getIv (pc' := 121) (v := nI (xs.length)) (by rw [hf6 0 (by omega) (by omega), hrow5 0 (by omega) (by omega)]; exact hX.2.1) fl_X_67 hw5.1 rfl d_X_serveWatch_118 rfl ?_
          refine cn_iconst (pc' := 122) k_c_1 d_X_serveWatch_121 rfl ?_
          refine cn_iadd_n (pc' := 123) d_X_serveWatch_122 rfl ?_
          refine cn_putI (pc' := 126) fl_X_67 hw5.1 rfl rfl rfl rfl d_X_serveWatch_123 rfl ?_
          refine cn_iconst (pc' := 127) k_c_0 d_X_serveWatch_126 rfl ?_
          refine cn_iret rfl d_X_serveWatch_127 ?_
          have eo : decide (¬ g.getD (p1 g + 1) 0 = 0) = false := decide_eq_false (fun h => h hc73)
          have e : sp_watch (ns, xs, (ps, pn)) g = (nI 0, [nI xs.length], ns, xs ++ [(k, capo (g.getD (p1 g) 0), false, [((ns.getD k nd0).2.2, nI 0)])], (ps, pn)) := by unfold sp_watch; rw [if_pos (tn_1 hc20)]; dsimp only; rw [hnk, vdx_some hkl (by omega) hv]; dsimp only; rw [if_neg hc46, eo]
          rw [e] at K
          have e0 : nq (capo (g.getD (p1 g) 0)) false [] (ns.getD k nd0).2.2 = [((ns.getD k nd0).2.2, nI 0)] := by unfold nq; rw [if_neg (by show ¬ 0 = _; omega)]; rfl
          rw [e0] at hq5
          have hrow : ∀ a, a ≠ 0 → (a < 71 ∨ 155 ≤ a) → a ≠ 15 → a ≠ 18 → a ≠ 19 → cn_wi I6 0 3 (nI (xs.length + 1)) a = I a := fun a x0 x1 x2 x3 x4 => by rw [cn_wi_ne x0, hf6 a x3 (by omega)]; exact hrow5 a x1 x2
          have hrowi : ∀ a, 71 ≤ a → a < 155 → cn_wi I6 0 3 (nI (xs.length + 1)) a = I5 a := fun a x0 x1 => by rw [cn_wi_ne (by omega), hf6 a (by omega) (by omega)]
          have h0 : ∀ q, q ≠ 3 → cn_wi I6 0 3 (nI (xs.length + 1)) 0 q = I 0 q := fun q x1 => by rw [cn_wi_row, show upd (I6 0) 3 _ q = I6 0 q from if_neg x1, hf6 0 (by omega) (by omega), hrow5 0 (by omega) (by omega)]
          have hit : rIt (cn_wi I6 0 3 (nI (xs.length + 1))) P5 (71 + 14 * xs.length) (k, capo (g.getD (p1 g) 0), false, [((ns.getD k nd0).2.2, nI 0)]) := by
            refine ⟨?_, by show k < 16; omega, ?_, ?_, hcap.1, hcap.2, hcap.1, π5, hq5.congr (fun a x1 x2 => hrowi a (by omega) (by omega)) rfl⟩
            · rw [hrowi _ (by omega) (by omega), hf5.2.1]; exact hn4
            · rw [hrowi _ (by omega) (by omega), hf5.2.2.1]; exact hc4
            · rw [hrowi _ (by omega) (by omega), hf5.2.2.2]; exact ho4
          refine K _ P5 ⟨hw5, ⟨by rw [h0 1 (by omega)]; exact hX.1, by rw [List.length_append]; simp [cn_wi, upd], by rw [h0 7 (by omega)]; exact hX.2.2⟩, hN.congr (fun a x1 x2 => hrow a (by omega) (by omega) (by omega) (by omega) (by omega)), rI_push hI (by omega) hit (fun a x1 x2 x3 => by rw [hrowi a x1 x2, hf5.1 a (by omega), hf4 a (by omega)]; exact hfr a (by omega)) (fun a x => hP5 a (by omega)), ⟨⟨π, hk.congr (fun a x1 x2 => hrow a (by omega) (by omega) (by omega) (by omega) (by omega)) (hP5 _ (by omega))⟩, by rw [hrow 3 (by omega) (by omega) (by omega) (by omega) (by omega)]; exact hpn⟩, hC.congr (hrow _ (by omega) (by omega) (by omega) (by omega) (by omega)) (hrow _ (by omega) (by omega) (by omega) (by omega) (by omega)) (hrow _ (by omega) (by omega) (by omega) (by omega) (by omega)), ⟨ys_cong1 hy6 (by omega) (by omega), by show 2 ≤ 195; decide⟩, hV.congr (hrow _ (by omega) (by omega) (by omega) (by omega) (by omega)) (hrow _ (by omega) (by omega) (by omega) (by omega) (by omega))⟩ (fun a x => ⟨hrow a (by omega) (by omega) (by omega) (by omega) (by omega), hP5 a (by omega)⟩)
        · refine cn_iconst (pc' := 77) k_c_1 d_X_serveWatch_76 rfl ?_
          refine cn_goto (tgt := 81) d_X_serveWatch_77 (by decide) ?_
          refine cn_callV (pc' := 84) (kc1 := 0) (ks1 := 0) (kc2 := 0) (ks2 := 0) (rest := []) (lvj := [(0, .ref ((71 + 14 * xs.length))), (1, .int (nI (k))), (2, .int (nI (capo (g.getD (p1 g) 0)))), (3, .int (nI (1)))]) [.int (nI (k)), .int (nI (capo (g.getD (p1 g) 0))), .int (nI (1))] mv_X_236 (hw.it (i := xs.length) (by omega)).2.1 rfl rfl rfl (Nat.le_of_ble_eq_true rfl) (Nat.le_of_ble_eq_true rfl) (by omega) (by omega) (by omega) d_X_serveWatch_81 rfl ?_
          refine c_It_watch (it := 71 + 14 * xs.length) (nd := k) (cap := capo (g.getD (p1 g) 0)) (old := true) (hw.it (by omega)).2 (fun I4 hn4 hc4 ho4 hq4 hf4 => ?_)
          show cn_V l en mi_X_serveWatch d 0 0 S I4 P Q 84 [(0, .ref 0), (1, .ref 15), (2, .int (nI (k))), (3, .int (g.getD (p1 g) 0)), (4, .int (g.getD (p1 g + 1) 0)), (5, .int (vcode ns (nI (k))))] []
          refine cn_aload_n (pc' := 85) (k := 0) rfl rfl d_X_serveWatch_84 rfl ?_
          refine cn_getP (pc' := 88) (b := 2) hw.2.1.2.1 fl_X_17 hw.1 rfl d_X_serveWatch_85 rfl ?_
          refine cn_aload_n (pc' := 89) (k := 0) rfl rfl d_X_serveWatch_88 rfl ?_
          refine cn_getIv (pc' := 92) (v := nI (xs.length)) (by rw [hf4 0 (by omega), hfr 0 (by omega)]; exact hX.2.1) fl_X_67 hw.1 rfl d_X_serveWatch_89 rfl ?_
          refine cn_aald (pc' := 93) (b := (71 + 14 * xs.length)) hw.2.2.2.1.1 (by decide) (by decide) rfl (by omega) (by decide) (hw.it (i := xs.length) (by omega)).1 d_X_serveWatch_92 rfl ?_
          refine cn_aload_n (pc' := 94) (k := 0) rfl rfl d_X_serveWatch_93 rfl ?_
          refine cn_getP (pc' := 97) (b := 1) hw.2.1.1 fl_X_11 hw.1 rfl d_X_serveWatch_94 rfl ?_
          refine cn_iload_n (pc' := 98) (k := 2) rfl rfl d_X_serveWatch_97 rfl ?_
          refine cn_aald (pc' := 99) (b := (23 + 3 * k)) hw.2.2.1.1 (by decide) (by decide) rfl (by omega) (by decide) (hw.nd (i := k) (by omega)).1 d_X_serveWatch_98 rfl ?_
          refine cn_getP (pc' := 102) (b := (24 + 3 * k)) (hw.nv (i := k) (by omega)).1 fl_X_154 (hw.nd (i := k) (by omega)).2.1 rfl d_X_serveWatch_99 rfl ?_
          refine cn_callV (pc' := 105) (kc1 := 0) (ks1 := 0) (kc2 := 0) (ks2 := 0) (rest := []) (lvj := [(0, .ref ((71 + 14 * xs.length))), (1, .ref ((24 + 3 * k)))]) [.ref ((24 + 3 * k))] mv_X_171 (hw.it (i := xs.length) (by omega)).2.1 rfl rfl rfl (Nat.le_of_ble_eq_true rfl) (Nat.le_of_ble_eq_true rfl) (by omega) (by omega) (by omega) d_X_serveWatch_102 rfl ?_
          obtain ⟨n1, n2, n3, n4⟩ := hN.2.1 k hkl
          obtain ⟨π0, hπ0⟩ := hI.2.1 xs.length (by omega)
          have hq0 : yq I4 P (71 + 14 * xs.length) [] π0 := ⟨hq4, by decide, by rw [show 71 + 14 * xs.length + 1 = 72 + 14 * xs.length by omega, show 71 + 14 * xs.length + 2 = 73 + 14 * xs.length by omega]; exact hπ0, fun j hj => absurd hj (Nat.not_lt_zero j)⟩
          have hyv : ys I4 (24 + 3 * k) (ns.getD k nd0).2.2 := (n3.keep1 hfr (by omega) (by omega)).congr (hf4 _ (by omega)) (hf4 _ (by omega))
          refine c_It_addNotice (it := 71 + 14 * xs.length) (c := 24 + 3 * k) (capc := 61) (hw.it (by omega)).2 hq0 hc4 ho4 hcap.1 hcap.2 (Nat.zero_le _) (hw.nv (by omega)).2 hyv n4 n4 (by omega) (by omega) (fun I5 P5 π5 hq5 hf5 hP5 => ?_)
          have hw5 : wX S P5 := hw.keepP (fun a x1 x2 => hP5 a (by have := x2 xs.length (by omega); omega))
          have hrow5 : ∀ a, a < 71 ∨ 155 ≤ a → a ≠ 15 → I5 a = I a := fun a x1 x2 => by rw [hf5.1 a (by omega), hf4 a (by omega)]; exact hfr a x2
          show cn_V l en mi_X_serveWatch d 0 0 S I5 P5 Q 105 [(0, .ref 0), (1, .ref 15), (2, .int (nI (k))), (3, .int (g.getD (p1 g) 0)), (4, .int (g.getD (p1 g + 1) 0)), (5, .int (vcode ns (nI (k))))] []
          refine cn_aload_n (pc' := 106) (k := 0) rfl rfl d_X_serveWatch_105 rfl ?_
          refine cn_getP (pc' := 109) (b := 18) hw5.2.1.2.2.2.2.1 fl_X_40 hw5.1 rfl d_X_serveWatch_106 rfl ?_
          refine cn_aload_n (pc' := 110) (k := 0) rfl rfl d_X_serveWatch_109 rfl ?_
          refine cn_getIv (pc' := 113) (v := nI (xs.length)) (by rw [hrow5 0 (by omega) (by omega)]; exact hX.2.1) fl_X_67 hw5.1 rfl d_X_serveWatch_110 rfl ?_
          refine cn_callV (pc' := 116) (kc1 := 0) (ks1 := 0) (kc2 := 0) (ks2 := 0) (rest := []) (lvj := [(0, .ref 18), (1, .int (nI (xs.length)))]) [.int (nI (xs.length))] mv_X_92 hw5.re.1 rfl rfl rfl (Nat.le_of_ble_eq_true rfl) (Nat.le_of_ble_eq_true rfl) (by omega) (by omega) (by omega) d_X_serveWatch_113 rfl ?_
          refine c_By_add (b := 18) (cap := 195) hw5.re (hR.1.congr (hrow5 18 (by omega) (by omega)) (hrow5 19 (by omega) (by omega))) hR.2 (fun I6 hy6 hf6 => ?_)
          rw [nI_255 (by omega)] at hy6
          have hy6 : ys I6 18 [nI 0, nI xs.length] := hy6
          show cn_V l en mi_X_serveWatch d 0 0 S I6 P5 Q 116 [(0, .ref 0), (1, .ref 15), (2, .int (nI (k))), (3, .int (g.getD (p1 g) 0)), (4, .int (g.getD (p1 g + 1) 0)), (5, .int (vcode ns (nI (k))))] []
          refine cn_aload_n (pc' := 117) (k := 0) rfl rfl d_X_serveWatch_116 rfl ?_
          refine cn_dup (pc' := 118) rfl d_X_serveWatch_117 rfl ?_
          refine cn_getIv (pc' := 121) (v := nI (xs.length)) (by rw [hf6 0 (by omega) (by omega), hrow5 0 (by omega) (by omega)]; exact hX.2.1) fl_X_67 hw5.1 rfl d_X_serveWatch_118 rfl ?_
          refine cn_iconst (pc' := 122) k_c_1 d_X_serveWatch_121 rfl ?_
          refine cn_iadd_n (pc' := 123) d_X_serveWatch_122 rfl ?_
          refine cn_putI (pc' := 126) fl_X_67 hw5.1 rfl rfl rfl rfl d_X_serveWatch_123 rfl ?_
          refine cn_iconst (pc' := 127) k_c_0 d_X_serveWatch_126 rfl ?_
          refine cn_iret rfl d_X_serveWatch_127 ?_
          have eo : decide (¬ g.getD (p1 g + 1) 0 = 0) = true := decide_eq_true hc73
          have e : sp_watch (ns, xs, (ps, pn)) g = (nI 0, [nI xs.length], ns, xs ++ [(k, capo (g.getD (p1 g) 0), true, [((ns.getD k nd0).2.2, nI 0)])], (ps, pn)) := by unfold sp_watch; rw [if_pos (tn_1 hc20)]; dsimp only; rw [hnk, vdx_some hkl (by omega) hv]; dsimp only; rw [if_neg hc46, eo]
          rw [e] at K
          have e0 : nq (capo (g.getD (p1 g) 0)) true [] (ns.getD k nd0).2.2 = [((ns.getD k nd0).2.2, nI 0)] := by unfold nq; rw [if_neg (by show ¬ 0 = _; omega)]; rfl
          rw [e0] at hq5
          have hrow : ∀ a, a ≠ 0 → (a < 71 ∨ 155 ≤ a) → a ≠ 15 → a ≠ 18 → a ≠ 19 → cn_wi I6 0 3 (nI (xs.length + 1)) a = I a := fun a x0 x1 x2 x3 x4 => by rw [cn_wi_ne x0, hf6 a x3 (by omega)]; exact hrow5 a x1 x2
          have hrowi : ∀ a, 71 ≤ a → a < 155 → cn_wi I6 0 3 (nI (xs.length + 1)) a = I5 a := fun a x0 x1 => by rw [cn_wi_ne (by omega), hf6 a (by omega) (by omega)]
          have h0 : ∀ q, q ≠ 3 → cn_wi I6 0 3 (nI (xs.length + 1)) 0 q = I 0 q := fun q x1 => by rw [cn_wi_row, show upd (I6 0) 3 _ q = I6 0 q from if_neg x1, hf6 0 (by omega) (by omega), hrow5 0 (by omega) (by omega)]
          have hit : rIt (cn_wi I6 0 3 (nI (xs.length + 1))) P5 (71 + 14 * xs.length) (k, capo (g.getD (p1 g) 0), true, [((ns.getD k nd0).2.2, nI 0)]) := by
            refine ⟨?_, by show k < 16; omega, ?_, ?_, hcap.1, hcap.2, hcap.1, π5, hq5.congr (fun a x1 x2 => hrowi a (by omega) (by omega)) rfl⟩
            · rw [hrowi _ (by omega) (by omega), hf5.2.1]; exact hn4
            · rw [hrowi _ (by omega) (by omega), hf5.2.2.1]; exact hc4
            · rw [hrowi _ (by omega) (by omega), hf5.2.2.2]; exact ho4
          refine K _ P5 ⟨hw5, ⟨by rw [h0 1 (by omega)]; exact hX.1, by rw [List.length_append]; simp [cn_wi, upd], by rw [h0 7 (by omega)]; exact hX.2.2⟩, hN.congr (fun a x1 x2 => hrow a (by omega) (by omega) (by omega) (by omega) (by omega)), rI_push hI (by omega) hit (fun a x1 x2 x3 => by rw [hrowi a x1 x2, hf5.1 a (by omega), hf4 a (by omega)]; exact hfr a (by omega)) (fun a x => hP5 a (by omega)), ⟨⟨π, hk.congr (fun a x1 x2 => hrow a (by omega) (by omega) (by omega) (by omega) (by omega)) (hP5 _ (by omega))⟩, by rw [hrow 3 (by omega) (by omega) (by omega) (by omega) (by omega)]; exact hpn⟩, hC.congr (hrow _ (by omega) (by omega) (by omega) (by omega) (by omega)) (hrow _ (by omega) (by omega) (by omega) (by omega) (by omega)) (hrow _ (by omega) (by omega) (by omega) (by omega) (by omega)), ⟨ys_cong1 hy6 (by omega) (by omega), by show 2 ≤ 195; decide⟩, hV.congr (hrow _ (by omega) (by omega) (by omega) (by omega) (by omega)) (hrow _ (by omega) (by omega) (by omega) (by omega) (by omega))⟩ (fun a x => ⟨hrow a (by omega) (by omega) (by omega) (by omega) (by omega), hP5 a (by omega)⟩)
      · refine cn_bipush (pc' := 51) k_b_6 d_X_serveWatch_49 rfl ?_
        refine cn_iret rfl d_X_serveWatch_51 ?_
        have e : sp_watch (ns, xs, (ps, pn)) g = (nI 6, [], ns, xs, (ps, pn)) := by unfold sp_watch; rw [if_pos (tn_1 hc20)]; dsimp only; rw [hnk, vdx_some hkl (by omega) hv]; dsimp only; rw [if_pos hc46]
        rw [e] at K
        exact K I3 P (h9.row15 hfr) (frX.f1 hfr (by decide))
    · refine cn_iload (pc' := 39) (k := 5) rfl d_X_serveWatch_37 rfl ?_
      refine cn_iret rfl d_X_serveWatch_39 ?_
      have e : sp_watch (ns, xs, (ps, pn)) g = (vcode ns (rnm g 1), [], ns, xs, (ps, pn)) := by unfold sp_watch; rw [if_pos (tn_1 hc20)]; dsimp only; rw [vcode_ne0 hc34]
      rw [e] at K
      exact K I3 P (h9.row15 hfr) (frX.f1 hfr (by decide))
  · refine cn_iconst (pc' := 24) k_c_1 d_X_serveWatch_23 rfl ?_
    refine cn_iret rfl d_X_serveWatch_24 ?_
    have e : sp_watch (ns, xs, (ps, pn)) g = (nI 1, [], ns, xs, (ps, pn)) := by unfold sp_watch; rw [if_neg (by rw [tn_0 hc20]; decide)]
    rw [e] at K
    exact K I3 P (h9.row15 hfr) (frX.f1 hfr (by decide))
end
theorem fnd_some {x : Int32} : ∀ (ps : List sPar) (k : Nat), k < ps.length → (ps.getD k pad).1 = x → (∀ j, j < k → (ps.getD j pad).1 ≠ x) → ps.find? (fun p => decide (p.1 = x)) = some (ps.getD k pad)
  | [], k, hk, _, _ => absurd hk (Nat.not_lt_zero k)
  | a :: t, 0, _, h, _ => by
    rw [List.find?_cons_of_pos (by simpa using h)]; rfl
  | a :: t, k + 1, hk, h, hn => by
    rw [List.find?_cons_of_neg (by simpa using hn 0 (by omega))]
    exact fnd_some t k (Nat.lt_of_succ_lt_succ hk) h (fun j hj => hn (j + 1) (by omega))
theorem fnd_none {x : Int32} : ∀ ps : List sPar, (∀ j, j < ps.length → (ps.getD j pad).1 ≠ x) → ps.find? (fun p => decide (p.1 = x)) = none
  | [], _ => rfl
  | a :: t, h => by
    rw [List.find?_cons_of_neg (by simpa using h 0 (Nat.succ_pos _))]
    exact fnd_none t (fun j hj => h (j + 1) (Nat.succ_lt_succ hj))
section
variable {l : Launch} {en : cn_E} {d : Nat} {S : cn_S} {I : cn_I} {P : cn_P} {Q : Option Value → cn_S → cn_I → cn_P → Prop}
variable {ns : List sNode} {xs : List sItem} {ps : List sPar} {pn : Int32} {ch : sCh} {rq : Int32}
theorem c_X_serveAgain {g : List Int32} (h : RC S I P (ns, xs, (ps, pn), ch, (rq, [nI 0]))) (hr : rd I 15 g 1 true) (hd1 : 3 ≤ d) (K : ∀ (I' : cn_I) (P' : cn_P), RC S I' P' ((sp_again (ns, xs, (ps, pn)) g).2.2.1, (sp_again (ns, xs, (ps, pn)) g).2.2.2.1, (sp_again (ns, xs, (ps, pn)) g).2.2.2.2, ch, (rq, nI 0 :: (sp_again (ns, xs, (ps, pn)) g).2.1)) → frX I I' P P' → Q (some (.int (sp_again (ns, xs, (ps, pn)) g).1)) S I' P') : cn_V l en mi_X_serveAgain d 0 0 S I P Q 0 [(0, .ref 0), (1, .ref 15)] [] := by
  have h9 := h
  obtain ⟨hw, hX, hN, hI, hS, hC, hR, hV⟩ := h
  have hX : rX I ns.length xs.length rq := hX
  have hN : rN I ns := hN
  have hI : rI I P xs := hI
  have hS : rS I P ps pn := hS
  have hC : chs I 14 ch := hC
  have hR : rR I [nI 0] := hR
  have h01 := hX.1
  have hl16 := hN.1
  have hl6 := hI.1
  obtain ⟨⟨π, hk⟩, hpn⟩ := hS
  have hl3 := hk.2.1
  refine cn_aload_n (pc' := 1) (k := 1) rfl rfl d_X_serveAgain_0 rfl ?_
  refine cn_callV (pc' := 4) (kc1 := 0) (ks1 := 0) (kc2 := 0) (ks2 := 0) (rest := []) (lvj := [(0, .ref 15)]) [] mv_X_240 hw.me.1 rfl rfl rfl (Nat.le_of_ble_eq_true rfl) (Nat.le_of_ble_eq_true rfl) (by omega) (by omega) (by omega) d_X_serveAgain_1 rfl ?_
  refine c_Me_readNumber hw.me hr (by omega) (fun I1 hr1 hf1 => ?_)
  show cn_V l en mi_X_serveAgain d 0 0 S I1 P Q 4 [(0, .ref 0), (1, .ref 15)] [.int (rn4 g 1)]
  refine cn_istore_n (pc' := 5) (lv' := [(0, .ref 0), (1, .ref 15), (2, .int (rn4 g 1))]) rfl [1, 2, 0] (Nat.le_of_ble_eq_true rfl) rfl d_X_serveAgain_4 rfl ?_
  refine cn_aload_n (pc' := 6) (k := 1) rfl rfl d_X_serveAgain_5 rfl ?_
  refine cn_callV (pc' := 9) (kc1 := 0) (ks1 := 0) (kc2 := 0) (ks2 := 0) (rest := []) (lvj := [(0, .ref 15)]) [] mv_X_205 hw.me.1 rfl rfl rfl (Nat.le_of_ble_eq_true rfl) (Nat.le_of_ble_eq_true rfl) (by omega) (by omega) (by omega) d_X_serveAgain_6 rfl ?_
  refine c_Me_isReadWhole hw.me hr1 (by omega) ?_
  have hwb := tn_le (whl g (rp g 1 4) (rw_ g 1 4 true))
  show cn_V l en mi_X_serveAgain d 0 0 S I1 P Q 9 [(0, .ref 0), (1, .ref 15), (2, .int (rn4 g 1))] [.int (nI ((whl g (rp g 1 4) (rw_ g 1 4 true)).toNat))]
  refine cn_if_ne_n (tgt := 14) (pc' := 12) (by omega) d_X_serveAgain_9 (by decide) rfl (fun hc9 => ?_) (fun hc9 => ?_)
  · refine cn_aload_n (pc' := 15) (k := 0) rfl rfl d_X_serveAgain_14 rfl ?_
    refine cn_getP (pc' := 18) (b := 3) hw.2.1.2.2.1 fl_X_24 hw.1 rfl d_X_serveAgain_15 rfl ?_
    refine cn_iload_n (pc' := 19) (k := 2) rfl rfl d_X_serveAgain_18 rfl ?_
    refine cn_callV (pc' := 22) (kc1 := 0) (ks1 := 0) (kc2 := 0) (ks2 := 0) (rest := []) (lvj := [(0, .ref 3), (1, .int (rn4 g 1))]) [.int (rn4 g 1)] mv_X_267 hw.sf.1 rfl rfl rfl (Nat.le_of_ble_eq_true rfl) (Nat.le_of_ble_eq_true rfl) (by omega) (by omega) (by omega) d_X_serveAgain_19 rfl ?_
    have hk1 : yk I1 P 3 ps π := hk.congr (fun a x1 x2 => hf1 a (by omega)) rfl
    refine c_Sf_find (ps := ps) (π := π) hw.sf hk1 (fun k hkl hkx hkn => ?_) (fun hno => ?_)
    · show cn_V l en mi_X_serveAgain d 0 0 S I1 P Q 22 [(0, .ref 0), (1, .ref 15), (2, .int (rn4 g 1))] [.int (nI (k))]
      refine cn_istore_n (pc' := 23) (lv' := [(0, .ref 0), (1, .ref 15), (2, .int (rn4 g 1)), (3, .int (nI (k)))]) rfl [1, 2, 3, 0] (Nat.le_of_ble_eq_true rfl) rfl d_X_serveAgain_22 rfl ?_
      refine cn_iload_n (pc' := 24) (k := 3) rfl rfl d_X_serveAgain_23 rfl ?_
      refine cn_if_ge_n (tgt := 30) (pc' := 27) (by omega) d_X_serveAgain_24 (by decide) rfl (fun hc24 => ?_) (fun hc24 => ?_)
      · refine cn_aload_n (pc' := 31) (k := 0) rfl rfl d_X_serveAgain_30 rfl ?_
        refine cn_getP (pc' := 34) (b := 18) hw.2.1.2.2.2.2.1 fl_X_40 hw.1 rfl d_X_serveAgain_31 rfl ?_
        refine cn_aload_n (pc' := 35) (k := 0) rfl rfl d_X_serveAgain_34 rfl ?_
        refine cn_getP (pc' := 38) (b := 3) hw.2.1.2.2.1 fl_X_24 hw.1 rfl d_X_serveAgain_35 rfl ?_
        refine cn_getP (pc' := 41) (b := 4) hw.sf.2.1 fl_X_145 hw.sf.1 rfl d_X_serveAgain_38 rfl ?_
        refine cn_iload_n (pc' := 42) (k := 3) rfl rfl d_X_serveAgain_41 rfl ?_
        refine cn_aald (pc' := 43) (b := (3 + 2 + 3 * π k)) hw.sf.2.2.1 (by decide) (by decide) rfl (by omega) (by decide) (hk.2.2.1.2.2 k (by omega)) d_X_serveAgain_42 rfl ?_
        refine cn_getP (pc' := 46) (b := (3 + 3 + 3 * π k)) (hw.sf.2.2.2 _ (hk.2.2.1.1 k (by omega))).2.1 fl_X_253 (hw.sf.2.2.2 _ (hk.2.2.1.1 k (by omega))).1 rfl d_X_serveAgain_43 rfl ?_
        refine cn_callV (pc' := 49) (kc1 := 0) (ks1 := 0) (kc2 := 0) (ks2 := 0) (rest := []) (lvj := [(0, .ref 18), (1, .ref ((3 + 3 + 3 * π k)))]) [.ref ((3 + 3 + 3 * π k))] mv_X_164 hw.re.1 rfl rfl rfl (Nat.le_of_ble_eq_true rfl) (Nat.le_of_ble_eq_true rfl) (by omega) (by omega) (by omega) d_X_serveAgain_46 rfl ?_
        obtain ⟨q1, q2, q3⟩ := hk1.2.2.2 k hkl
        have hπk := hk1.2.2.1.1 k (by omega)
        refine c_By_append (b := 18) (c := 3 + 3 + 3 * π k) (cap := 195) (cap2 := 194) hw.re (hR.1.keep1 hf1 (by omega) (by omega)) hR.2 (hw.sf.2.2.2 _ hπk).2.2 q2 q3 (by omega) (by omega) (by omega) (fun I2 hy2 hf2 => ?_)
        have hln : (nI 0 :: (ps.getD k pad).2).length ≤ 195 := by show (ps.getD k pad).2.length + 1 ≤ 195; omega
        have hy2 : ys I2 18 (nI 0 :: (ps.getD k pad).2) := by have := hy2; rw [List.take_of_length_le (show ([nI 0] ++ (ps.getD k pad).2).length ≤ 195 from hln)] at this; exact this
        show cn_V l en mi_X_serveAgain d 0 0 S I2 P Q 49 [(0, .ref 0), (1, .ref 15), (2, .int (rn4 g 1)), (3, .int (nI (k)))] []
        refine cn_iconst (pc' := 50) k_c_0 d_X_serveAgain_49 rfl ?_
        refine cn_iret rfl d_X_serveAgain_50 ?_
        have e : sp_again (ns, xs, (ps, pn)) g = (nI 0, (ps.getD k pad).2, ns, xs, (ps, pn)) := by unfold sp_again; rw [if_pos (tn_1 hc9)]; dsimp only; rw [fnd_some ps k hkl hkx hkn]
        rw [e] at K
        exact K I2 P ((h9.row15 hf1).reply hf2 hy2 hln) ((frX.f1 hf1 (by decide)).tr (frX.f2 hf2 (by decide)))
      · exact absurd hc24 (by omega)
    · show cn_V l en mi_X_serveAgain d 0 0 S I1 P Q 22 [(0, .ref 0), (1, .ref 15), (2, .int (rn4 g 1))] [.int (-1)]
      refine cn_istore_n (pc' := 23) (lv' := [(0, .ref 0), (1, .ref 15), (2, .int (rn4 g 1)), (3, .int (-1))]) rfl [1, 2, 3, 0] (Nat.le_of_ble_eq_true rfl) rfl d_X_serveAgain_22 rfl ?_
      refine cn_iload_n (pc' := 24) (k := 3) rfl rfl d_X_serveAgain_23 rfl ?_
      refine cn_if_ge (tgt := 30) (pc' := 27) d_X_serveAgain_24 (by decide) rfl (fun hc24 => ?_) (fun hc24 => ?_)
      · exact absurd hc24 (by decide)
      · refine cn_bipush (pc' := 29) k_b_8 d_X_serveAgain_27 rfl ?_
        refine cn_iret rfl d_X_serveAgain_29 ?_
        have e : sp_again (ns, xs, (ps, pn)) g = (nI 8, [], ns, xs, (ps, pn)) := by unfold sp_again; rw [if_pos (tn_1 hc9)]; dsimp only; rw [fnd_none ps hno]
        rw [e] at K
        exact K I1 P (h9.row15 hf1) (frX.f1 hf1 (by decide))
  · refine cn_iconst (pc' := 13) k_c_1 d_X_serveAgain_12 rfl ?_
    refine cn_iret rfl d_X_serveAgain_13 ?_
    have e : sp_again (ns, xs, (ps, pn)) g = (nI 1, [], ns, xs, (ps, pn)) := by unfold sp_again; rw [if_neg (by rw [tn_0 hc9]; decide)]
    rw [e] at K
    exact K I1 P (h9.row15 hf1) (frX.f1 hf1 (by decide))
end
