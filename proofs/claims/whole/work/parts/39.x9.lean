theorem gd_out {g : List Int32} {j : Nat} (h : g.length ≤ j) : g.getD j 0 = 0 := by
  rw [List.getD_eq_getElem?_getD, List.getElem?_eq_none h]; rfl
theorem rn4_rp (g : List Int32) (p k : Nat) : rn4 g (rp g p k) = rn4 g (p + k) := by
  unfold rn4 rp
  by_cases h : p + k ≤ g.length
  · rw [Nat.min_eq_left h]
  · rw [Nat.min_eq_right (by omega)]
    simp only [gd_out (g := g) (show g.length ≤ g.length by omega), gd_out (g := g) (show g.length ≤ g.length + 1 by omega), gd_out (g := g) (show g.length ≤ g.length + 2 by omega), gd_out (g := g) (show g.length ≤ g.length + 3 by omega), gd_out (g := g) (show g.length ≤ p + k by omega), gd_out (g := g) (show g.length ≤ p + k + 1 by omega), gd_out (g := g) (show g.length ≤ p + k + 2 by omega), gd_out (g := g) (show g.length ≤ p + k + 3 by omega)]
/-- a byte is a number below 256 -/
theorem b8_nat {x : Int32} (h : x &&& 255 = x) : ∃ n, n < 256 ∧ x = nI n := by
  have h0 : ∀ i, 8 ≤ i → x.toBitVec.getLsbD i = false := fun i hi => b_hi h hi
  have hx : x.toBitVec.toNat < 2 ^ 8 := by
    apply Nat.lt_pow_two_of_testBit
    intro i hi
    exact h0 i hi
  refine ⟨x.toBitVec.toNat, hx, ?_⟩
  apply Int32.toBitVec_inj.mp
  apply BitVec.eq_of_toNat_eq
  show _ = (Int32.ofNat x.toBitVec.toNat).toBitVec.toNat
  rw [Int32.toBitVec_ofNat', BitVec.toNat_ofNat, Nat.mod_eq_of_lt (by omega)]
theorem nums_len (g : List Int32) (p n : Nat) : (nums g p n).length = n := by simp [nums]
theorem nums_at {g : List Int32} {p n i : Nat} (h : i < n) : (nums g p n).getD i 0 = rn4 g (p + 4 * i) := by
  unfold nums
  rw [List.getD_eq_getElem?_getD, List.getElem?_map, List.getElem?_range h]; rfl
theorem drop_i32 {xs : List Int32} {i : Nat} (h : i < xs.length) : xs.drop i = xs.getD i 0 :: xs.drop (i + 1) := by
  rw [List.drop_eq_getElem_cons h, List.getD_eq_getElem?_getD, List.getElem?_eq_getElem h]; rfl
theorem pdrop_len (x : Int32) : ∀ ps : List sPar, (pdrop ps x).length ≤ ps.length
  | [] => Nat.le_refl _
  | a :: t => by
    unfold pdrop
    split
    · exact Nat.le_succ _
    · exact Nat.succ_le_succ (pdrop_len x t)
theorem mn3 {n : Nat} (h : n ≤ 24) : (if nI 3 < nI n then nI 3 else nI n) = nI (min n 3) := by
  by_cases h3 : 3 < n
  · rw [if_pos ((nI_ltI (by omega) (by omega)).mpr h3), Nat.min_eq_right (by omega)]
  · rw [if_neg (fun h4 => h3 ((nI_ltI (by omega) (by omega)).mp h4)), Nat.min_eq_left (by omega)]
theorem RC.ack {S : cn_S} {I I' : cn_I} {P : cn_P} {s : sSt} (h : RC S I P s) (hf : ∀ a, a ≠ 15 → a ≠ 22 → I' a = I a) : RC S I' P s := by
  obtain ⟨hw, hX, hN, hI, hS, hC, hR, hV⟩ := h
  exact ⟨hw, hX.congr (hf _ (by omega) (by omega)), hN.congr (fun a x1 x2 => hf a (by omega) (by omega)), hI.congr (fun a x1 x2 => hf a (by omega) (by omega)) (fun _ _ => rfl), hS.congr (fun a x1 x2 => hf a (by omega) (by omega)) rfl, hC.congr (hf _ (by omega) (by omega)) (hf _ (by omega) (by omega)) (hf _ (by omega) (by omega)), hR.congr (hf _ (by omega) (by omega)) (hf _ (by omega) (by omega)), hV.congr (hf _ (by omega) (by omega)) (hf _ (by omega) (by omega))⟩
theorem RC.shelf {S : cn_S} {I I' : cn_I} {P P' : cn_P} {ns : List sNode} {xs : List sItem} {ps ps' : List sPar} {pn pn' : Int32} {ch : sCh} {rr : Int32 × List Int32} {π' : Nat → Nat} (h : RC S I P (ns, xs, (ps, pn), ch, rr)) (hk : yk I' P' 3 ps' π') (hn : I' 3 2 = pn') (hf : frs I I' 3) (hP : frP P P' 4) : RC S I' P' (ns, xs, (ps', pn'), ch, rr) := by
  obtain ⟨hw, hX, hN, hI, hS, hC, hR, hV⟩ := h
  exact ⟨hw.keepP (fun a x1 _ => hP a x1), hX.congr (hf _ (by omega)), hN.congr (fun a x1 x2 => hf a (by omega)), hI.congr (fun a x1 x2 => hf a (by omega)) (fun i hi => hP _ (by omega)), ⟨⟨π', hk⟩, hn⟩, hC.congr (hf _ (by omega)) (hf _ (by omega)) (hf _ (by omega)), hR.congr (hf _ (by omega)) (hf _ (by omega)), hV.congr (hf _ (by omega)) (hf _ (by omega))⟩
section
variable {l : Launch} {en : cn_E} {d : Nat} {S : cn_S} {I : cn_I} {P : cn_P} {Q : Option Value → cn_S → cn_I → cn_P → Prop}
variable {ns : List sNode} {xs : List sItem} {ps : List sPar} {pn : Int32} {ch : sCh} {rq : Int32}
theorem c_X_publish_14 {g : List Int32} {c : Nat} (hw : wX S P) (hc4 : c ≤ 4) (hd1 : 2 ≤ d) (I0 : cn_I) (K : ∀ I, rd I 15 g (rp g 1 (1 + 4 * c)) (rw_ g 1 (1 + 4 * c) true) → (∀ j, j < c → I 22 j = rn4 g (2 + 4 * j)) → (∀ a, a ≠ 15 → a ≠ 22 → I a = I0 a) → cn_V l en mi_X_servePublish d 0 0 S I P Q 35 [(0, .ref 0), (1, .ref 15), (2, .int (nI c)), (3, .int (nI c))] []) : ∀ (r i : Nat) (I : cn_I), i + r = c → rd I 15 g (rp g 1 (1 + 4 * i)) (rw_ g 1 (1 + 4 * i) true) → (∀ j, j < i → I 22 j = rn4 g (2 + 4 * j)) → (∀ a, a ≠ 15 → a ≠ 22 → I a = I0 a) → cn_V l en mi_X_servePublish d 0 0 S I P Q 14 [(0, .ref 0), (1, .ref 15), (2, .int (nI c)), (3, .int (nI i))] [] := by
  intro r
  induction r with
  | zero =>
    intro i I hir hr hak hf
    refine cn_iload_n (pc' := 15) (k := 3) rfl rfl d_X_servePublish_14 rfl ?_
    refine cn_iload_n (pc' := 16) (k := 2) rfl rfl d_X_servePublish_15 rfl ?_
    refine cn_icmp_ge_n (tgt := 35) (pc' := 19) (by omega) (by omega) d_X_servePublish_16 (by decide) rfl (fun hc16 => ?_) (fun hc16 => ?_)
    · obtain rfl : i = c := by omega
      exact K I hr hak hf
    · exact absurd hc16 (by omega)
  | succ r ih =>
    intro i I hir hr hak hf
    refine cn_iload_n (pc' := 15) (k := 3) rfl rfl d_X_servePublish_14 rfl ?_
    refine cn_iload_n (pc' := 16) (k := 2) rfl rfl d_X_servePublish_15 rfl ?_
    refine cn_icmp_ge_n (tgt := 35) (pc' := 19) (by omega) (by omega) d_X_servePublish_16 (by decide) rfl (fun hc16 => ?_) (fun hc16 => ?_)
    · exact absurd hc16 (by omega)
    · refine cn_aload_n (pc' := 20) (k := 0) rfl rfl d_X_servePublish_19 rfl ?_
      refine cn_getP (pc' := 23) (b := 22) hw.2.1.2.2.2.2.2.2 fl_X_47 hw.1 rfl d_X_servePublish_20 rfl ?_
      refine cn_iload_n (pc' := 24) (k := 3) rfl rfl d_X_servePublish_23 rfl ?_
      refine cn_aload_n (pc' := 25) (k := 1) rfl rfl d_X_servePublish_24 rfl ?_
      refine cn_callV (pc' := 28) (kc1 := 0) (ks1 := 0) (kc2 := 0) (ks2 := 0) (rest := [.int (nI (i)), .ref 22]) (lvj := [(0, .ref 15)]) [] mv_X_240 hw.me.1 rfl rfl rfl (Nat.le_of_ble_eq_true rfl) (Nat.le_of_ble_eq_true rfl) (by omega) (by omega) (by omega) d_X_servePublish_25 rfl ?_
      refine c_Me_readNumber hw.me hr (by omega) (fun I1 hr1 hf1 => ?_)
      rw [rp_add, rw_add, show 1 + 4 * i + 4 = 1 + 4 * (i + 1) by omega] at hr1
      rw [rn4_rp, show 1 + (1 + 4 * i) = 2 + 4 * i by omega]
      show cn_V l en mi_X_servePublish d 0 0 S I1 P Q 28 [(0, .ref 0), (1, .ref 15), (2, .int (nI (c))), (3, .int (nI (i)))] [.int (rn4 g (2 + 4 * i)), .int (nI (i)), .ref 22]
      refine cn_iast (pc' := 29) hw.ak (by omega) (by decide) d_X_servePublish_28 rfl ?_
      refine cn_iinc_n (pc' := 32) (lv' := [(0, .ref 0), (1, .ref 15), (2, .int (nI (c))), (3, .int (nI (i + 1)))]) (k := 3) [1, 2, 3, 0] rfl (Nat.le_of_ble_eq_true rfl) rfl d_X_servePublish_29 rfl ?_
      refine cn_goto (tgt := 14) d_X_servePublish_32 (by decide) ?_
      refine ih (i + 1) _ (by omega) ?_ (fun j hj => ?_) (fun a x1 x2 => ?_)
      · exact ⟨hr1.1.congr (cn_wi_ne (by omega)) (cn_wi_ne (by omega)), by rw [cn_wi_ne (by omega)]; exact hr1.2.1, by rw [cn_wi_ne (by omega)]; exact hr1.2.2.1, hr1.2.2.2⟩
      · rw [cn_wi_row]
        by_cases e : j = i
        · subst e; exact if_pos rfl
        · rw [show upd (I1 22) i _ j = I1 22 j from if_neg e, hf1 22 (by omega)]; exact hak j (by omega)
      · rw [cn_wi_ne x2, hf1 a x1]; exact hf a x1 x2
theorem c_X_publish_46 {c : Nat} {nm : List Int32} (hnl : nm.length = c) (hc4 : c ≤ 4) (hd1 : 3 ≤ d) (I0 : cn_I) (P0 : cn_P) : ∀ (r i : Nat) (ps : List sPar) (I : cn_I) (P : cn_P), i + r = c → RC S I P (ns, xs, (ps, pn), ch, (rq, [nI 0])) → (∀ j, j < c → I 22 j = nm.getD j 0) → frX I0 I P0 P → (∀ (I : cn_I) (P : cn_P), RC S I P (ns, xs, ((nm.drop i).foldl pdrop ps, pn), ch, (rq, [nI 0])) → frX I0 I P0 P → cn_V l en mi_X_servePublish d 0 0 S I P Q 70 [(0, .ref 0), (1, .ref 15), (2, .int (nI c)), (3, .int (nI c))] []) → cn_V l en mi_X_servePublish d 0 0 S I P Q 46 [(0, .ref 0), (1, .ref 15), (2, .int (nI c)), (3, .int (nI i))] [] := by
  intro r
  induction r with
  | zero =>
    intro i ps I P hir h hak hf K
    have hw := h.1
    refine cn_iload_n (pc' := 47) (k := 3) rfl rfl d_X_servePublish_46 rfl ?_
    refine cn_iload_n (pc' := 48) (k := 2) rfl rfl d_X_servePublish_47 rfl ?_
    refine cn_icmp_ge_n (tgt := 70) (pc' := 51) (by omega) (by omega) d_X_servePublish_48 (by decide) rfl (fun hc48 => ?_) (fun hc48 => ?_)
    · obtain rfl : i = c := by omega
      rw [List.drop_of_length_le (by omega)] at K
      exact K I P h hf
    · exact absurd hc48 (by omega)
  | succ r ih =>
    intro i ps I P hir h hak hf K
    have hw := h.1
    refine cn_iload_n (pc' := 47) (k := 3) rfl rfl d_X_servePublish_46 rfl ?_
    refine cn_iload_n (pc' := 48) (k := 2) rfl rfl d_X_servePublish_47 rfl ?_
    refine cn_icmp_ge_n (tgt := 70) (pc' := 51) (by omega) (by omega) d_X_servePublish_48 (by decide) rfl (fun hc48 => ?_) (fun hc48 => ?_)
    · exact absurd hc48 (by omega)
    · refine cn_aload_n (pc' := 52) (k := 0) rfl rfl d_X_servePublish_51 rfl ?_
      refine cn_getP (pc' := 55) (b := 3) hw.2.1.2.2.1 fl_X_24 hw.1 rfl d_X_servePublish_52 rfl ?_
      refine cn_aload_n (pc' := 56) (k := 0) rfl rfl d_X_servePublish_55 rfl ?_
      refine cn_getP (pc' := 59) (b := 22) hw.2.1.2.2.2.2.2.2 fl_X_47 hw.1 rfl d_X_servePublish_56 rfl ?_
      refine cn_iload_n (pc' := 60) (k := 3) rfl rfl d_X_servePublish_59 rfl ?_
      refine cn_ialdv (pc' := 61) (v := nm.getD i 0) (hak i (by omega)) hw.ak (by omega) (by decide) d_X_servePublish_60 rfl ?_
      refine cn_callV (pc' := 64) (kc1 := 0) (ks1 := 0) (kc2 := 0) (ks2 := 0) (rest := []) (lvj := [(0, .ref 3), (1, .int (nm.getD i 0))]) [.int (nm.getD i 0)] mv_X_243 hw.sf.1 rfl rfl rfl (Nat.le_of_ble_eq_true rfl) (Nat.le_of_ble_eq_true rfl) (by omega) (by omega) (by omega) d_X_servePublish_61 rfl ?_
      obtain ⟨⟨π, hk⟩, hpn⟩ := id h.2.2.2.2.1
      refine c_Sf_drop (sf := 3) (ps := ps) (π := π) hw.sf hk (by omega) (fun I1 P1 π1 hk1 hn1 hf1 hP1 => ?_)
      show cn_V l en mi_X_servePublish d 0 0 S I1 P1 Q 64 [(0, .ref 0), (1, .ref 15), (2, .int (nI (c))), (3, .int (nI (i)))] []
      refine cn_iinc_n (pc' := 67) (lv' := [(0, .ref 0), (1, .ref 15), (2, .int (nI (c))), (3, .int (nI (i + 1)))]) (k := 3) [1, 2, 3, 0] rfl (Nat.le_of_ble_eq_true rfl) rfl d_X_servePublish_64 rfl ?_
      refine cn_goto (tgt := 46) d_X_servePublish_67 (by decide) ?_
      rw [drop_i32 (by omega), List.foldl_cons] at K
      exact ih (i + 1) _ I1 P1 (by omega) (h.shelf hk1 (hn1.trans hpn) hf1 hP1) (fun j hj => by rw [hf1 22 (by omega)]; exact hak j hj) (hf.tr (fun a x => ⟨hf1 a (by omega), hP1 a (by omega)⟩)) K
theorem tkx_len : ∀ (i n : Nat) (xs : List sItem), (tkx i n xs).2.length = xs.length
  | _, _, [] => rfl
  | i, n, x :: t => by
    show (tkx (i + 1) (n - x.2.2.2.length) t).2.length + 1 = t.length + 1
    rw [tkx_len (i + 1) (n - x.2.2.2.length) t]
def pubc (xs : List sItem) (pn : Int32) : List Int32 := lbs (pn + nI 1).toInt64 4 ++ (nI (min (ntot xs) 3) :: (tkx 0 (min (ntot xs) 3) xs).1)
theorem c_X_publish_70 {v2 v3 : Int32} (h : RC S I P (ns, xs, (ps, pn), ch, (rq, [nI 0]))) (hd1 : 4 ≤ d) (I0 : cn_I) (P0 : cn_P) (hf0 : frX I0 I P0 P) (K7 : min (ntot xs) 3 = 0 → ∀ I P, RC S I P (ns, xs, (ps, pn), ch, (rq, [nI 0])) → frX I0 I P0 P → Q (some (.int (nI 7))) S I P) (K : ¬ min (ntot xs) 3 = 0 → ∀ I P, RC S I P (ns, (tkx 0 (min (ntot xs) 3) xs).2, ((if ps.length = 3 then ps.eraseIdx 0 else ps) ++ [(pn + nI 1, pubc xs pn)], pn + nI 1), ch, (rq, nI 0 :: pubc xs pn)) → frX I0 I P0 P → Q (some (.int (nI 0))) S I P) : cn_V l en mi_X_servePublish d 0 0 S I P Q 70 [(0, .ref 0), (1, .ref 15), (2, .int v2), (3, .int v3)] [] := by
  have h9 := h
  obtain ⟨hw, hX, hN, hI, hS, hC, hR, hV⟩ := h
  have hX : rX I ns.length xs.length rq := hX
  have hN : rN I ns := hN
  have hI : rI I P xs := hI
  have hS : rS I P ps pn := hS
  have hC : chs I 14 ch := hC
  have hR : rR I [nI 0] := hR
  have h01 := hX.1
  have hl16 := hN.1
  have hl6 := hI.1
  obtain ⟨⟨π, hk⟩, hpn⟩ := hS
  have hl3 := hk.2.1
  have hq4 : ∀ j, j < xs.length → (xs.getD j it0).2.2.2.length ≤ 4 := fun j hj => by obtain ⟨-, -, -, -, -, c6, c7, -⟩ := hI.2.2 j hj; omega
  have hnt : ntot xs ≤ 24 := by have := ntot_le hq4 xs.length (Nat.le_refl _); rw [List.take_length] at this; omega
  refine cn_aload_n (pc' := 71) (k := 0) rfl rfl d_X_servePublish_70 rfl ?_
  refine cn_callV (pc' := 74) (kc1 := 0) (ks1 := 0) (kc2 := 0) (ks2 := 0) (rest := []) (lvj := [(0, .ref 0)]) [] mv_X_246 hw.1 rfl rfl rfl (Nat.le_of_ble_eq_true rfl) (Nat.le_of_ble_eq_true rfl) (by omega) (by omega) (by omega) d_X_servePublish_71 rfl ?_
  refine c_X_countNotices hw hI hX.2.1 ?_
  show cn_V l en mi_X_servePublish d 0 0 S I P Q 74 [(0, .ref 0), (1, .ref 15), (2, .int (v2)), (3, .int (v3))] [.int (nI (ntot xs))]
  refine cn_iconst (pc' := 75) k_c_3 d_X_servePublish_74 rfl ?_
  refine cn_mmin (pc' := 78) w_st_X_228 w_min_s w_math w_min_c (by omega) (Nat.le_of_ble_eq_true rfl) d_X_servePublish_75 rfl ?_
  rw [mn3 hnt]
  have hm3 : min (ntot xs) 3 ≤ 3 := Nat.min_le_right _ _
  refine cn_istore_n (pc' := 79) (lv' := [(0, .ref 0), (1, .ref 15), (2, .int (v2)), (3, .int (nI (min (ntot xs) 3)))]) rfl [1, 2, 3, 0] (Nat.le_of_ble_eq_true rfl) rfl d_X_servePublish_78 rfl ?_
  refine cn_iload_n (pc' := 80) (k := 3) rfl rfl d_X_servePublish_79 rfl ?_
  refine cn_if_ne_n (tgt := 86) (pc' := 83) (by omega) d_X_servePublish_80 (by decide) rfl (fun hc80 => ?_) (fun hc80 => ?_)
  · refine cn_aload_n (pc' := 87) (k := 0) rfl rfl d_X_servePublish_86 rfl ?_
    refine cn_getP (pc' := 90) (b := 3) hw.2.1.2.2.1 fl_X_24 hw.1 rfl d_X_servePublish_87 rfl ?_
    refine cn_callV (pc' := 93) (kc1 := 0) (ks1 := 0) (kc2 := 0) (ks2 := 0) (rest := []) (lvj := [(0, .ref 3)]) [] mv_X_249 hw.sf.1 rfl rfl rfl (Nat.le_of_ble_eq_true rfl) (Nat.le_of_ble_eq_true rfl) (by omega) (by omega) (by omega) d_X_servePublish_90 rfl ?_
    refine c_Sf_keepAnother (sf := 3) (ps := ps) (π := π) (nn := pn) hw.sf hk hpn (by omega) (fun I1 P1 π1 hk1 hn1 hf1 hP1 => ?_)
    have hRC1 : RC S I1 P1 (ns, xs, ((if ps.length = 3 then ps.eraseIdx 0 else ps) ++ [(pn + nI 1, lbs (pn + nI 1).toInt64 4)], pn + nI 1), ch, (rq, [nI 0])) := h9.shelf hk1 hn1 hf1 hP1
    have hw1 := hRC1.1
    have hL : (if ps.length = 3 then ps.eraseIdx 0 else ps).length < 3 := by have := hk1.2.1; rw [List.length_append] at this; exact this
    have hπ1 := hk1.2.2.1.1 (if ps.length = 3 then ps.eraseIdx 0 else ps).length (by omega)
    obtain ⟨z0, z1, z2⟩ := hk1.2.2.2 (if ps.length = 3 then ps.eraseIdx 0 else ps).length (by rw [List.length_append]; exact Nat.lt_succ_self _)
    rw [pd_last] at z0 z1 z2
    have z1 : ys I1 (3 + 3 + 3 * π1 (if ps.length = 3 then ps.eraseIdx 0 else ps).length) (lbs (pn + nI 1).toInt64 4) := z1
    have z3 : (lbs (pn + nI 1).toInt64 4).length = 4 := lbs_len _ _
    show cn_V l en mi_X_servePublish d 0 0 S I1 P1 Q 93 [(0, .ref 0), (1, .ref 15), (2, .int (v2)), (3, .int (nI (min (ntot xs) 3)))] [.ref ((3 + 2 + 3 * π1 (if ps.length = 3 then ps.eraseIdx 0 else ps).length))]
    refine cn_getP (pc' := 96) (b := (3 + 3 + 3 * π1 (if ps.length = 3 then ps.eraseIdx 0 else ps).length)) (hw1.sf.2.2.2 _ hπ1).2.1 fl_X_253 (hw1.sf.2.2.2 _ hπ1).1 rfl d_X_servePublish_93 rfl ?_
    refine cn_astore (pc' := 98) (lv' := [(0, .ref 0), (1, .ref 15), (2, .int (v2)), (3, .int (nI (min (ntot xs) 3))), (4, .ref ((3 + 3 + 3 * π1 (if ps.length = 3 then ps.eraseIdx 0 else ps).length)))]) [1, 2, 3, 4, 0] (Nat.le_of_ble_eq_true rfl) rfl d_X_servePublish_96 rfl ?_
    refine cn_aload (pc' := 100) (k := 4) rfl d_X_servePublish_98 rfl ?_
    refine cn_iload_n (pc' := 101) (k := 3) rfl rfl d_X_servePublish_100 rfl ?_
    refine cn_callV (pc' := 104) (kc1 := 0) (ks1 := 0) (kc2 := 0) (ks2 := 0) (rest := []) (lvj := [(0, .ref ((3 + 3 + 3 * π1 (if ps.length = 3 then ps.eraseIdx 0 else ps).length))), (1, .int (nI (min (ntot xs) 3)))]) [.int (nI (min (ntot xs) 3))] mv_X_92 (hw1.sf.2.2.2 _ hπ1).2.2.1 rfl rfl rfl (Nat.le_of_ble_eq_true rfl) (Nat.le_of_ble_eq_true rfl) (by omega) (by omega) (by omega) d_X_servePublish_101 rfl ?_
    refine c_By_add (b := 3 + 3 + 3 * π1 (if ps.length = 3 then ps.eraseIdx 0 else ps).length) (cap := 194) (hw1.sf.2.2.2 _ hπ1).2.2 z1 z2 (fun I2 hy2 hf2 => ?_)
    rw [nI_255 (by omega), List.take_of_length_le (by rw [List.length_append, z3]; show 4 + 1 ≤ 194; decide)] at hy2
    obtain ⟨-, -, -, hI1, -⟩ := id hRC1
    have hI1 : rI I1 P1 xs := hI1
    have hI2 : rI I2 P1 xs := hI1.congr (fun a x1 x2 => hf2 a (by omega) (by omega)) (fun _ _ => rfl)
    show cn_V l en mi_X_servePublish d 0 0 S I2 P1 Q 104 [(0, .ref 0), (1, .ref 15), (2, .int (v2)), (3, .int (nI (min (ntot xs) 3))), (4, .ref ((3 + 3 + 3 * π1 (if ps.length = 3 then ps.eraseIdx 0 else ps).length)))] []
    refine cn_aload_n (pc' := 105) (k := 0) rfl rfl d_X_servePublish_104 rfl ?_
    refine cn_aload (pc' := 107) (k := 4) rfl d_X_servePublish_105 rfl ?_
    refine cn_iload_n (pc' := 108) (k := 3) rfl rfl d_X_servePublish_107 rfl ?_
    refine cn_callV (pc' := 111) (kc1 := 0) (ks1 := 0) (kc2 := 0) (ks2 := 0) (rest := []) (lvj := [(0, .ref 0), (1, .ref ((3 + 3 + 3 * π1 (if ps.length = 3 then ps.eraseIdx 0 else ps).length))), (2, .int (nI (min (ntot xs) 3)))]) [.ref ((3 + 3 + 3 * π1 (if ps.length = 3 then ps.eraseIdx 0 else ps).length)), .int (nI (min (ntot xs) 3))] mv_X_254 hw1.1 rfl rfl rfl (Nat.le_of_ble_eq_true rfl) (Nat.le_of_ble_eq_true rfl) (by omega) (by omega) (by omega) d_X_servePublish_108 rfl ?_
    have hl5 : (lbs (pn + nI 1).toInt64 4 ++ [nI (min (ntot xs) 3)]).length = 5 := by rw [List.length_append, z3]; rfl
    have h03 : I2 0 3 = nI xs.length := by rw [hf2 0 (by omega) (by omega)]; exact hRC1.2.1.2.1
    refine c_X_moveNotices (c := 3 + 3 + 3 * π1 (if ps.length = 3 then ps.eraseIdx 0 else ps).length) (xs := xs) (by omega) (by omega) (by omega) hw1 hI2 h03 (hw1.sf.2.2.2 _ hπ1).2.2 hy2 (by omega) hm3 (fun I3 P3 hw3 hI3 hy3 hl3 hf3 hP3 => ?_)
    have ec : lbs (pn + nI 1).toInt64 4 ++ [nI (min (ntot xs) 3)] ++ (tkx 0 (min (ntot xs) 3) xs).1 = pubc xs pn := by unfold pubc; rw [List.append_assoc]; rfl
    rw [ec] at hy3 hl3
    show cn_V l en mi_X_servePublish d 0 0 S I3 P3 Q 111 [(0, .ref 0), (1, .ref 15), (2, .int (v2)), (3, .int (nI (min (ntot xs) 3))), (4, .ref ((3 + 3 + 3 * π1 (if ps.length = 3 then ps.eraseIdx 0 else ps).length)))] []
    refine cn_aload_n (pc' := 112) (k := 0) rfl rfl d_X_servePublish_111 rfl ?_
    refine cn_getP (pc' := 115) (b := 18) hw3.2.1.2.2.2.2.1 fl_X_40 hw3.1 rfl d_X_servePublish_112 rfl ?_
    refine cn_aload (pc' := 117) (k := 4) rfl d_X_servePublish_115 rfl ?_
    refine cn_callV (pc' := 120) (kc1 := 0) (ks1 := 0) (kc2 := 0) (ks2 := 0) (rest := []) (lvj := [(0, .ref 18), (1, .ref ((3 + 3 + 3 * π1 (if ps.length = 3 then ps.eraseIdx 0 else ps).length)))]) [.ref ((3 + 3 + 3 * π1 (if ps.length = 3 then ps.eraseIdx 0 else ps).length))] mv_X_164 hw3.re.1 rfl rfl rfl (Nat.le_of_ble_eq_true rfl) (Nat.le_of_ble_eq_true rfl) (by omega) (by omega) (by omega) d_X_servePublish_117 rfl ?_
    have hR1 : ys I3 18 [nI 0] := (hRC1.2.2.2.2.2.2.1.1).congr (by rw [hf3 18 (by omega) (by omega) (by omega), hf2 18 (by omega) (by omega)]) (by rw [hf3 19 (by omega) (by omega) (by omega), hf2 19 (by omega) (by omega)])
    refine c_By_append (b := 18) (c := 3 + 3 + 3 * π1 (if ps.length = 3 then ps.eraseIdx 0 else ps).length) (cap := 195) (cap2 := 194) hw3.re hR1 (show 1 ≤ 195 by decide) (hw3.sf.2.2.2 _ hπ1).2.2 hy3 hl3 (by omega) (by omega) (by omega) (fun I4 hy4 hf4 => ?_)
    have hln : (nI 0 :: pubc xs pn).length ≤ 195 := by show (pubc xs pn).length + 1 ≤ 195; omega
    have hy4 : ys I4 18 (nI 0 :: pubc xs pn) := by have := hy4; rw [List.take_of_length_le (show ([nI 0] ++ pubc xs pn).length ≤ 195 from hln)] at this; exact this
    show cn_V l en mi_X_servePublish d 0 0 S I4 P3 Q 120 [(0, .ref 0), (1, .ref 15), (2, .int (v2)), (3, .int (nI (min (ntot xs) 3))), (4, .ref ((3 + 3 + 3 * π1 (if ps.length = 3 then ps.eraseIdx 0 else ps).length)))] []
    refine cn_iconst (pc' := 121) k_c_0 d_X_servePublish_120 rfl ?_
    refine cn_iret rfl d_X_servePublish_121 ?_
    obtain ⟨-, hX1, hN1, -, -, hC1, -, hV1⟩ := hRC1
    have hrow : ∀ a, a ≠ (3 + 3 + 3 * π1 (if ps.length = 3 then ps.eraseIdx 0 else ps).length) → a ≠ (3 + 3 + 3 * π1 (if ps.length = 3 then ps.eraseIdx 0 else ps).length) + 1 → (a < 71 ∨ 155 ≤ a) → a ≠ 18 → a ≠ 19 → I4 a = I1 a := fun a x1 x2 x3 x4 x5 => by rw [hf4 a x4 (by omega), hf3 a x1 x2 x3, hf2 a x1 x2]
    have hlen : (tkx 0 (min (ntot xs) 3) xs).2.length = xs.length := tkx_len _ _ _
    obtain ⟨Im, hIm⟩ : ∃ Im : cn_I, Im = fun a => if a = (3 + 3 + 3 * π1 (if ps.length = 3 then ps.eraseIdx 0 else ps).length) ∨ a = (3 + 3 + 3 * π1 (if ps.length = 3 then ps.eraseIdx 0 else ps).length) + 1 then I4 a else I1 a := ⟨_, rfl⟩
    have hm1 : fr2 I1 Im (3 + 3 + 3 * π1 (if ps.length = 3 then ps.eraseIdx 0 else ps).length) := fun a x1 x2 => by rw [hIm]; exact if_neg (fun h => h.elim x1 x2)
    have hm2 : Im (3 + 3 + 3 * π1 (if ps.length = 3 then ps.eraseIdx 0 else ps).length) = I4 (3 + 3 + 3 * π1 (if ps.length = 3 then ps.eraseIdx 0 else ps).length) := by rw [hIm]; exact if_pos (Or.inl rfl)
    have hm3 : Im ((3 + 3 + 3 * π1 (if ps.length = 3 then ps.eraseIdx 0 else ps).length) + 1) = I4 ((3 + 3 + 3 * π1 (if ps.length = 3 then ps.eraseIdx 0 else ps).length) + 1) := by rw [hIm]; exact if_pos (Or.inr rfl)
    have hk2 : yk Im P1 3 ((if ps.length = 3 then ps.eraseIdx 0 else ps) ++ [(pn + nI 1, pubc xs pn)]) π1 := yk_last hk1 ((hy3.congr (hf4 _ (by omega) (by omega)) (hf4 _ (by omega) (by omega))).congr hm2 hm3) hl3 hm1
    have hk4 : yk I4 P3 3 ((if ps.length = 3 then ps.eraseIdx 0 else ps) ++ [(pn + nI 1, pubc xs pn)]) π1 := hk2.congr (fun a x1 x2 => by
      by_cases e : a = (3 + 3 + 3 * π1 (if ps.length = 3 then ps.eraseIdx 0 else ps).length) ∨ a = (3 + 3 + 3 * π1 (if ps.length = 3 then ps.eraseIdx 0 else ps).length) + 1
      · rw [hIm]; exact (if_pos e).symm
      · rw [hrow a (fun h => e (Or.inl h)) (fun h => e (Or.inr h)) (by omega) (by omega) (by omega), hm1 a (fun h => e (Or.inl h)) (fun h => e (Or.inr h))]) (hP3 _ (by omega))
    refine K hc80 I4 P3 ⟨hw3, ?_, hN1.congr (fun a x1 x2 => hrow a (by omega) (by omega) (by omega) (by omega) (by omega)), hI3.congr (fun a x1 x2 => hf4 a (by omega) (by omega)) (fun _ _ => rfl), ⟨⟨π1, hk4⟩, by rw [hrow 3 (by omega) (by omega) (by omega) (by omega) (by omega)]; exact hn1⟩, hC1.congr (hrow _ (by omega) (by omega) (by omega) (by omega) (by omega)) (hrow _ (by omega) (by omega) (by omega) (by omega) (by omega)) (hrow _ (by omega) (by omega) (by omega) (by omega) (by omega)), ⟨hy4, hln⟩, hV1.congr (hrow _ (by omega) (by omega) (by omega) (by omega) (by omega)) (hrow _ (by omega) (by omega) (by omega) (by omega) (by omega))⟩ (hf0.tr (fun a x => ⟨(hrow a (by omega) (by omega) (by omega) (by omega) (by omega)).trans (hf1 a (by omega)), (hP3 a (by omega)).trans (hP1 a (by omega))⟩))
    show rX I4 ns.length (tkx 0 (min (ntot xs) 3) xs).2.length rq
    rw [hlen]
    exact hX1.congr (hrow 0 (by omega) (by omega) (by omega) (by omega) (by omega))
  · refine cn_bipush (pc' := 85) k_b_7 d_X_servePublish_83 rfl ?_
    refine cn_iret rfl d_X_servePublish_85 ?_
    exact K7 hc80 I P h9 hf0
theorem c_X_servePublish {g : List Int32} (h : RC S I P (ns, xs, (ps, pn), ch, (rq, [nI 0]))) (hr : rd I 15 g 1 true) (hd1 : 4 ≤ d) (K : ∀ (I' : cn_I) (P' : cn_P), RC S I' P' ((sp_publish (ns, xs, (ps, pn)) g).2.2.1, (sp_publish (ns, xs, (ps, pn)) g).2.2.2.1, (sp_publish (ns, xs, (ps, pn)) g).2.2.2.2, ch, (rq, nI 0 :: (sp_publish (ns, xs, (ps, pn)) g).2.1)) → frX I I' P P' → Q (some (.int (sp_publish (ns, xs, (ps, pn)) g).1)) S I' P') : cn_V l en mi_X_servePublish d 0 0 S I P Q 0 [(0, .ref 0), (1, .ref 15)] [] := by
  have h9 := h
  obtain ⟨hw, hX, hN, hI, hS, hC, hR, hV⟩ := h
  have hX : rX I ns.length xs.length rq := hX
  have hN : rN I ns := hN
  have hI : rI I P xs := hI
  have hS : rS I P ps pn := hS
  have hC : chs I 14 ch := hC
  have hR : rR I [nI 0] := hR
  have h01 := hX.1
  have hl16 := hN.1
  have hl6 := hI.1
  obtain ⟨⟨π, hk⟩, hpn⟩ := hS
  have hl3 := hk.2.1
  refine cn_aload_n (pc' := 1) (k := 1) rfl rfl d_X_servePublish_0 rfl ?_
  refine cn_callV (pc' := 4) (kc1 := 0) (ks1 := 0) (kc2 := 0) (ks2 := 0) (rest := []) (lvj := [(0, .ref 15)]) [] mv_X_181 hw.me.1 rfl rfl rfl (Nat.le_of_ble_eq_true rfl) (Nat.le_of_ble_eq_true rfl) (by omega) (by omega) (by omega) d_X_servePublish_1 rfl ?_
  refine c_Me_readByte hw.me hr (fun I1 hr1 hf1 => ?_)
  obtain ⟨c, hc256, hgc⟩ := b8_nat (hr.g8 1)
  rw [hgc]
  show cn_V l en mi_X_servePublish d 0 0 S I1 P Q 4 [(0, .ref 0), (1, .ref 15)] [.int (nI (c))]
  refine cn_istore_n (pc' := 5) (lv' := [(0, .ref 0), (1, .ref 15), (2, .int (nI (c)))]) rfl [1, 2, 0] (Nat.le_of_ble_eq_true rfl) rfl d_X_servePublish_4 rfl ?_
  refine cn_iload_n (pc' := 6) (k := 2) rfl rfl d_X_servePublish_5 rfl ?_
  refine cn_iconst (pc' := 7) k_c_4 d_X_servePublish_6 rfl ?_
  refine cn_icmp_le_n (tgt := 12) (pc' := 10) (by omega) (by omega) d_X_servePublish_7 (by decide) rfl (fun hc7 => ?_) (fun hc7 => ?_)
  · refine cn_iconst (pc' := 13) k_c_0 d_X_servePublish_12 rfl ?_
    refine cn_istore_n (pc' := 14) (lv' := [(0, .ref 0), (1, .ref 15), (2, .int (nI (c))), (3, .int (nI (0)))]) rfl [1, 2, 3, 0] (Nat.le_of_ble_eq_true rfl) rfl d_X_servePublish_13 rfl ?_
    have e0 : sp_publish (ns, xs, (ps, pn)) g = (if whl g (rp g 1 (1 + 4 * c)) (rw_ g 1 (1 + 4 * c) true) = true then (let ps := (nums g 2 c).foldl pdrop ps; if min (ntot xs) 3 = 0 then (nI 7, [], ns, xs, (ps, pn)) else (nI 0, pubc xs pn, ns, (tkx 0 (min (ntot xs) 3) xs).2, ((if ps.length = 3 then ps.eraseIdx 0 else ps) ++ [(pn + nI 1, pubc xs pn)], pn + nI 1))) else (nI 1, [], ns, xs, (ps, pn))) := by
      unfold sp_publish
      rw [hgc, if_neg (fun h => absurd ((nI_ltI (by omega) (by omega)).mp h) (by omega)), nI_clamp (by omega)]
      rfl
    rw [e0] at K
    refine c_X_publish_14 hw (by omega) (by omega) I (fun I2 hr2 hak hf2 => ?_) c 0 I1 (by omega) hr1 (fun j hj => absurd hj (Nat.not_lt_zero j)) (fun a x1 _ => hf1 a x1)
    have hRC2 : RC S I2 P (ns, xs, (ps, pn), ch, (rq, [nI 0])) := h9.ack hf2
    have hfx2 : frX I I2 P P := fun a x => ⟨hf2 a (by omega) (by omega), rfl⟩
    refine cn_aload_n (pc' := 36) (k := 1) rfl rfl d_X_servePublish_35 rfl ?_
    refine cn_callV (pc' := 39) (kc1 := 0) (ks1 := 0) (kc2 := 0) (ks2 := 0) (rest := []) (lvj := [(0, .ref 15)]) [] mv_X_205 hw.me.1 rfl rfl rfl (Nat.le_of_ble_eq_true rfl) (Nat.le_of_ble_eq_true rfl) (by omega) (by omega) (by omega) d_X_servePublish_36 rfl ?_
    refine c_Me_isReadWhole hw.me hr2 (by omega) ?_
    have hwb := tn_le (whl g (rp g 1 (1 + 4 * c)) (rw_ g 1 (1 + 4 * c) true))
    show cn_V l en mi_X_servePublish d 0 0 S I2 P Q 39 [(0, .ref 0), (1, .ref 15), (2, .int (nI (c))), (3, .int (nI (c)))] [.int (nI ((whl g (rp g 1 (1 + 4 * c)) (rw_ g 1 (1 + 4 * c) true)).toNat))]
    refine cn_if_ne_n (tgt := 44) (pc' := 42) (by omega) d_X_servePublish_39 (by decide) rfl (fun hc39 => ?_) (fun hc39 => ?_)
    · refine cn_iconst (pc' := 45) k_c_0 d_X_servePublish_44 rfl ?_
      refine cn_istore_n (pc' := 46) (lv' := [(0, .ref 0), (1, .ref 15), (2, .int (nI (c))), (3, .int (nI (0)))]) rfl [1, 2, 3, 0] (Nat.le_of_ble_eq_true rfl) rfl d_X_servePublish_45 rfl ?_
      rw [if_pos (tn_1 hc39)] at K
      dsimp only at K
      refine c_X_publish_46 (nm := nums g 2 c) (nums_len _ _ _) (by omega) (by omega) I P c 0 ps I2 P (by omega) hRC2 (fun j hj => by rw [nums_at hj]; exact hak j hj) hfx2 (fun I3 P3 h3 hf3 => ?_)
      rw [List.drop_zero] at h3
      refine c_X_publish_70 h3 (by omega) I P hf3 (fun e I4 P4 h4 hf4 => ?_) (fun e I4 P4 h4 hf4 => ?_)
      · rw [if_pos e] at K; exact K I4 P4 h4 hf4
      · rw [if_neg e] at K; exact K I4 P4 h4 hf4
    · refine cn_iconst (pc' := 43) k_c_1 d_X_servePublish_42 rfl ?_
      refine cn_iret rfl d_X_servePublish_43 ?_
      rw [if_neg (by rw [tn_0 hc39]; decide)] at K
      exact K I2 P hRC2 hfx2
  · refine cn_iconst (pc' := 11) k_c_1 d_X_servePublish_10 rfl ?_
    refine cn_iret rfl d_X_servePublish_11 ?_
    have e0 : sp_publish (ns, xs, (ps, pn)) g = (nI 1, [], ns, xs, (ps, pn)) := by
      unfold sp_publish
      rw [hgc, if_pos ((nI_ltI (by omega) (by omega)).mpr (by omega))]
    rw [e0] at K
    exact K I1 P (h9.row15 hf1) (frX.f1 hf1 (by decide))
end
