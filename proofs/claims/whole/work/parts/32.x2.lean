theorem it_map (f : sItem → sItem) (xs : List sItem) {j : Nat} (h : j < xs.length) : (xs.map f).getD j it0 = f (xs.getD j it0) := by
  rw [List.getD_eq_getElem?_getD, List.getD_eq_getElem?_getD, List.getElem?_map, List.getElem?_eq_getElem h]; rfl
theorem nd_set (ns : List sNode) (k j : Nat) (a : sNode) (hk : k < ns.length) : (ns.set k a).getD j nd0 = if j = k then a else ns.getD j nd0 := by
  rw [List.getD_eq_getElem?_getD, List.getElem?_set]
  by_cases h : k = j
  · subst h
    rw [if_pos rfl, if_pos hk, if_pos rfl]; rfl
  · rw [if_neg h, if_neg (fun e => h e.symm), List.getD_eq_getElem?_getD]
theorem rN_set {I I' : cn_I} {ns : List sNode} {k : Nat} {u : List Int32} (h : rN I ns) (hk : k < ns.length) (hy : ys I' (24 + 3 * k) u) (hu : u.length ≤ 61) (hf : ∀ a, 23 ≤ a → a < 71 → a ≠ 24 + 3 * k → a ≠ 25 + 3 * k → I' a = I a) : rN I' (ns.set k ((ns.getD k nd0).1, (ns.getD k nd0).2.1, u)) := by
  have hl := h.1
  refine ⟨by rw [List.length_set]; exact hl, fun i hi => ?_, fun i h1 h2 => ?_⟩
  · rw [List.length_set] at hi
    obtain ⟨a1, a2, a3, a4⟩ := h.2.1 i hi
    rw [nd_set ns k i _ hk]
    by_cases e : i = k
    · subst e
      rw [if_pos rfl]
      exact ⟨by rw [hf _ (by omega) (by omega) (by omega) (by omega)]; exact a1, by rw [hf _ (by omega) (by omega) (by omega) (by omega)]; exact a2, hy, hu⟩
    · rw [if_neg e]
      exact ⟨by rw [hf _ (by omega) (by omega) (by omega) (by omega)]; exact a1, by rw [hf _ (by omega) (by omega) (by omega) (by omega)]; exact a2, a3.congr (hf _ (by omega) (by omega) (by omega) (by omega)) (hf _ (by omega) (by omega) (by omega) (by omega)), a4⟩
  · rw [List.length_set] at h1
    exact (h.2.2 i h1 h2).congr (hf _ (by omega) (by omega) (by omega) (by omega)) (hf _ (by omega) (by omega) (by omega) (by omega))
section
variable {l : Launch} {en : cn_E} {d : Nat} {S : cn_S} {I : cn_I} {P : cn_P} {Q : Option Value → cn_S → cn_I → cn_P → Prop}
variable {ns : List sNode} {xs : List sItem}
theorem c_X_changeValue_loop {k : Nat} {u : List Int32} (hk : k < 16) (hxs : xs.length ≤ 6) (hu : u.length ≤ 61) (hd1 : 4 ≤ d) (I0 : cn_I) (P0 : cn_P) (K : ∀ (I' : cn_I) (P' : cn_P), wX S P' → (∀ i, i < 6 → ∃ π, ypm P' (72 + 14 * i) (73 + 14 * i) 4 π) → (∀ j, j < xs.length → rIt I' P' (71 + 14 * j) (chx k u (xs.getD j it0))) → (∀ a, a < 71 ∨ 155 ≤ a → I' a = I0 a) → (∀ a, (∀ i, i < 6 → a ≠ 72 + 14 * i) → P' a = P0 a) → Q (some (.int (nI 1))) S I' P') :
    ∀ (r i : Nat) (I : cn_I) (P : cn_P), i + r = xs.length → wX S P → I 0 3 = nI xs.length → ys I (24 + 3 * k) u → (∀ i, i < 6 → ∃ π, ypm P (72 + 14 * i) (73 + 14 * i) 4 π) → (∀ j, j < xs.length → rIt I P (71 + 14 * j) (if j < i then chx k u (xs.getD j it0) else xs.getD j it0)) → (∀ a, a < 71 ∨ 155 ≤ a → I a = I0 a) → (∀ a, (∀ i, i < 6 → a ≠ 72 + 14 * i) → P a = P0 a) →
      cn_V l en mi_X_changeValue d 0 0 S I P Q 37 [(0, .ref 0), (1, .int (nI k)), (2, .ref (24 + 3 * k)), (3, .int (nI i))] [] := by
  intro r
  induction r with
  | zero =>
    intro i I P hir hw h03 hys hpm hL hf0 hP0
    refine cn_iload_n (pc' := 38) (k := 3) rfl rfl d_X_changeValue_37 rfl ?_
    refine cn_aload_n (pc' := 39) (k := 0) rfl rfl d_X_changeValue_38 rfl ?_
    refine cn_getIv (pc' := 42) (v := nI (xs.length)) h03 fl_X_67 hw.1 rfl d_X_changeValue_39 rfl ?_
    refine cn_icmp_ge_n (tgt := 74) (pc' := 45) (by omega) (by omega) d_X_changeValue_42 (by decide) rfl (fun hc42 => ?_) (fun hc42 => ?_)
    · refine cn_iconst (pc' := 75) k_c_1 d_X_changeValue_74 rfl ?_
      refine cn_zret rfl (Or.inr rfl) d_X_changeValue_75 ?_
      have e : i = xs.length := by omega
      exact K I P hw hpm (fun j hj => by have h := hL j hj; rw [if_pos (by omega)] at h; exact h) hf0 hP0
    · exact absurd hc42 (by omega)
  | succ r ih =>
    intro i I P hir hw h03 hys hpm hL hf0 hP0
    have hx := hL i (by omega)
    rw [if_neg (Nat.lt_irrefl i)] at hx
    obtain ⟨b1, b2, b3, b4, b5, b6, b7, π, b8⟩ := hx
    refine cn_iload_n (pc' := 38) (k := 3) rfl rfl d_X_changeValue_37 rfl ?_
    refine cn_aload_n (pc' := 39) (k := 0) rfl rfl d_X_changeValue_38 rfl ?_
    refine cn_getIv (pc' := 42) (v := nI (xs.length)) h03 fl_X_67 hw.1 rfl d_X_changeValue_39 rfl ?_
    refine cn_icmp_ge_n (tgt := 74) (pc' := 45) (by omega) (by omega) d_X_changeValue_42 (by decide) rfl (fun hc42 => ?_) (fun hc42 => ?_)
    · exact absurd hc42 (by omega)
    · refine cn_aload_n (pc' := 46) (k := 0) rfl rfl d_X_changeValue_45 rfl ?_
      refine cn_getP (pc' := 49) (b := 2) hw.2.1.2.1 fl_X_17 hw.1 rfl d_X_changeValue_46 rfl ?_
      refine cn_iload_n (pc' := 50) (k := 3) rfl rfl d_X_changeValue_49 rfl ?_
      refine cn_aald (pc' := 51) (b := (71 + 14 * i)) hw.2.2.2.1.1 (by decide) (by decide) rfl (by omega) (by decide) (hw.it (i := i) (by omega)).1 d_X_changeValue_50 rfl ?_
      refine cn_getIv (pc' := 54) (v := nI ((xs.getD i it0).1)) b1 fl_X_168 (hw.it (i := i) (by omega)).2.1 rfl d_X_changeValue_51 rfl ?_
      refine cn_iload_n (pc' := 55) (k := 1) rfl rfl d_X_changeValue_54 rfl ?_
      refine cn_icmp_ne_n (tgt := 68) (pc' := 58) (by omega) (by omega) d_X_changeValue_55 (by decide) rfl (fun hc55 => ?_) (fun hc55 => ?_)
      · refine cn_iinc_n (pc' := 71) (lv' := [(0, .ref 0), (1, .int (nI (k))), (2, .ref ((24 + 3 * k))), (3, .int (nI (i + 1)))]) (k := 3) [1, 2, 3, 0] rfl (Nat.le_of_ble_eq_true rfl) rfl d_X_changeValue_68 rfl ?_
        refine cn_goto (tgt := 37) d_X_changeValue_71 (by decide) ?_
        refine ih (i + 1) I P (by omega) hw h03 hys hpm ?_ hf0 hP0
        intro j hj
        have h := hL j hj
        by_cases e : j = i
        · subst e
          rw [if_neg (Nat.lt_irrefl j)] at h
          rw [if_pos (Nat.lt_succ_self j)]
          unfold chx
          rw [if_neg hc55]
          exact h
        · have e2 : (if j < i + 1 then chx k u (xs.getD j it0) else xs.getD j it0) = (if j < i then chx k u (xs.getD j it0) else xs.getD j it0) := by
            by_cases h3 : j < i
            · rw [if_pos h3, if_pos (by omega)]
            · rw [if_neg h3, if_neg (by omega)]
          rw [e2]
          exact h
      · refine cn_aload_n (pc' := 59) (k := 0) rfl rfl d_X_changeValue_58 rfl ?_
        refine cn_getP (pc' := 62) (b := 2) hw.2.1.2.1 fl_X_17 hw.1 rfl d_X_changeValue_59 rfl ?_
        refine cn_iload_n (pc' := 63) (k := 3) rfl rfl d_X_changeValue_62 rfl ?_
        refine cn_aald (pc' := 64) (b := (71 + 14 * i)) hw.2.2.2.1.1 (by decide) (by decide) rfl (by omega) (by decide) (hw.it (i := i) (by omega)).1 d_X_changeValue_63 rfl ?_
        refine cn_aload_n (pc' := 65) (k := 2) rfl rfl d_X_changeValue_64 rfl ?_
        refine cn_callV (pc' := 68) (kc1 := 0) (ks1 := 0) (kc2 := 0) (ks2 := 0) (rest := []) (lvj := [(0, .ref ((71 + 14 * i))), (1, .ref ((24 + 3 * k)))]) [.ref ((24 + 3 * k))] mv_X_171 (hw.it (i := i) (by omega)).2.1 rfl rfl rfl (Nat.le_of_ble_eq_true rfl) (Nat.le_of_ble_eq_true rfl) (by omega) (by omega) (by omega) d_X_changeValue_65 rfl ?_
        refine c_It_addNotice (it := 71 + 14 * i) (c := 24 + 3 * k) (capc := 61) (hw.it (by omega)).2 b8 b3 b4 b5 b6 b7 (hw.nv (by omega)).2 hys hu (by omega) (by omega) (by omega) (fun I1 P1 π1 hq1 hf1 hP1 => ?_)
        show cn_V l en mi_X_changeValue d 0 0 S I1 P1 Q 68 [(0, .ref 0), (1, .int (nI (k))), (2, .ref ((24 + 3 * k))), (3, .int (nI (i)))] []
        refine cn_iinc_n (pc' := 71) (lv' := [(0, .ref 0), (1, .int (nI (k))), (2, .ref ((24 + 3 * k))), (3, .int (nI (i + 1)))]) (k := 3) [1, 2, 3, 0] rfl (Nat.le_of_ble_eq_true rfl) rfl d_X_changeValue_68 rfl ?_
        refine cn_goto (tgt := 37) d_X_changeValue_71 (by decide) ?_
        have hw1 : wX S P1 := hw.keepP (fun a x1 x2 => hP1 a (by have := x2 i (by omega); omega))
        refine ih (i + 1) I1 P1 (by omega) hw1 (by rw [hf1.1 0 (by omega)]; exact h03) (hys.congr (hf1.1 _ (by omega)) (hf1.1 _ (by omega))) ?_ ?_ (fun a x => (hf1.1 a (by omega)).trans (hf0 a x)) (fun a x => (hP1 a (by have := x i (by omega); omega)).trans (hP0 a x))
        · intro q hq
          by_cases e : q = i
          · subst e; exact ⟨π1, by rw [show 72 + 14 * q = 71 + 14 * q + 1 by omega, show 73 + 14 * q = 71 + 14 * q + 2 by omega]; exact hq1.2.2.1⟩
          · obtain ⟨π2, c1, c2, c3⟩ := hpm q hq
            exact ⟨π2, c1, c2, fun j hj => by rw [hP1 _ (by omega)]; exact c3 j hj⟩
        · intro j hj
          by_cases e : j = i
          · subst e
            rw [if_pos (Nat.lt_succ_self j)]
            unfold chx
            rw [if_pos hc55]
            exact ⟨by rw [hf1.2.1]; exact b1, b2, by rw [hf1.2.2.1]; exact b3, by rw [hf1.2.2.2]; exact b4, b5, b6, nq_len b7 b5, π1, hq1⟩
          · have h := hL j hj
            have e2 : (if j < i + 1 then chx k u (xs.getD j it0) else xs.getD j it0) = (if j < i then chx k u (xs.getD j it0) else xs.getD j it0) := by
              by_cases h3 : j < i
              · rw [if_pos h3, if_pos (by omega)]
              · rw [if_neg h3, if_neg (by omega)]
            rw [e2]
            exact h.congr (fun a x1 x2 => hf1.1 a (by omega)) (hP1 _ (by omega))
theorem c_X_changeValue {k : Nat} {u : List Int32} (hw : wX S P) (h01 : I 0 1 = nI ns.length) (hN : rN I ns) (hxs : rI I P xs) (h03 : I 0 3 = nI xs.length) (hkl : k < ns.length) (hy : ys I 20 u) (hu : u.length ≤ 61) (hd1 : 4 ≤ d) (K : ∀ (I' : cn_I) (P' : cn_P), wX S P' → rN I' (chg ns xs k u).2.1 → rI I' P' (chg ns xs k u).2.2 → (∀ a, a < 23 ∨ 155 ≤ a → I' a = I a) → (∀ a, (∀ i, i < 6 → a ≠ 72 + 14 * i) → P' a = P a) → Q (some (.int (nI (chg ns xs k u).1.toNat))) S I' P') : cn_V l en mi_X_changeValue d 0 0 S I P Q 0 [(0, .ref 0), (1, .int (nI k))] [] := by
  have hl := hN.1
  obtain ⟨n1, n2, n3, n4⟩ := hN.2.1 k hkl
  refine cn_aload_n (pc' := 1) (k := 0) rfl rfl d_X_changeValue_0 rfl ?_
  refine cn_getP (pc' := 4) (b := 1) hw.2.1.1 fl_X_11 hw.1 rfl d_X_changeValue_1 rfl ?_
  refine cn_iload_n (pc' := 5) (k := 1) rfl rfl d_X_changeValue_4 rfl ?_
  refine cn_aald (pc' := 6) (b := (23 + 3 * k)) hw.2.2.1.1 (by decide) (by decide) rfl (by omega) (by decide) (hw.nd (i := k) (by omega)).1 d_X_changeValue_5 rfl ?_
  refine cn_getP (pc' := 9) (b := (24 + 3 * k)) (hw.nv (i := k) (by omega)).1 fl_X_154 (hw.nd (i := k) (by omega)).2.1 rfl d_X_changeValue_6 rfl ?_
  refine cn_astore_n (pc' := 10) (lv' := [(0, .ref 0), (1, .int (nI (k))), (2, .ref ((24 + 3 * k)))]) rfl [1, 2, 0] (Nat.le_of_ble_eq_true rfl) rfl d_X_changeValue_9 rfl ?_
  refine cn_aload_n (pc' := 11) (k := 2) rfl rfl d_X_changeValue_10 rfl ?_
  refine cn_aload_n (pc' := 12) (k := 0) rfl rfl d_X_changeValue_11 rfl ?_
  refine cn_getP (pc' := 15) (b := 20) hw.2.1.2.2.2.2.2.1 fl_X_44 hw.1 rfl d_X_changeValue_12 rfl ?_
  refine cn_callV (pc' := 18) (kc1 := 0) (ks1 := 0) (kc2 := 0) (ks2 := 0) (rest := []) (lvj := [(0, .ref ((24 + 3 * k))), (1, .ref 20)]) [.ref 20] mv_X_160 (hw.nv (i := k) (by omega)).2.1 rfl rfl rfl (Nat.le_of_ble_eq_true rfl) (Nat.le_of_ble_eq_true rfl) (by omega) (by omega) (by omega) d_X_changeValue_15 rfl ?_
  refine c_By_isSameAs (b := 24 + 3 * k) (c := 20) (cap := 61) (cap2 := 61) (hw.nv (by omega)).2 n3 n4 hw.ic hy hu (fun heq => ?_) (fun hne => ?_)
  · show cn_V l en mi_X_changeValue d 0 0 S I P Q 18 [(0, .ref 0), (1, .int (nI (k))), (2, .ref ((24 + 3 * k)))] [.int (nI (1))]
    refine cn_if_eq_n (tgt := 23) (pc' := 21) (by omega) d_X_changeValue_18 (by decide) rfl (fun hc18 => ?_) (fun hc18 => ?_)
    · exact False.elim (by omega)
    · refine cn_iconst (pc' := 22) k_c_0 d_X_changeValue_21 rfl ?_
      refine cn_zret rfl (Or.inl rfl) d_X_changeValue_22 ?_
      have e : chg ns xs k u = (false, ns, xs) := by unfold chg; rw [if_pos heq]
      rw [e] at K
      exact K I P hw hN hxs (fun _ _ => rfl) (fun _ _ => rfl)
  · show cn_V l en mi_X_changeValue d 0 0 S I P Q 18 [(0, .ref 0), (1, .int (nI (k))), (2, .ref ((24 + 3 * k)))] [.int (nI (0))]
    refine cn_if_eq_n (tgt := 23) (pc' := 21) (by omega) d_X_changeValue_18 (by decide) rfl (fun hc18 => ?_) (fun hc18 => ?_)
    · refine cn_aload_n (pc' := 24) (k := 2) rfl rfl d_X_changeValue_23 rfl ?_
      refine cn_callV (pc' := 27) (kc1 := 0) (ks1 := 0) (kc2 := 0) (ks2 := 0) (rest := []) (lvj := [(0, .ref ((24 + 3 * k)))]) [] mv_X_71 (hw.nv (i := k) (by omega)).2.1 rfl rfl rfl (Nat.le_of_ble_eq_true rfl) (Nat.le_of_ble_eq_true rfl) (by omega) (by omega) (by omega) d_X_changeValue_24 rfl ?_
      refine c_By_clear (b := 24 + 3 * k) (cap := 61) (hw.nv (by omega)).2 (fun I1 hy1 hf1 => ?_)
      show cn_V l en mi_X_changeValue d 0 0 S I1 P Q 27 [(0, .ref 0), (1, .int (nI (k))), (2, .ref ((24 + 3 * k)))] []
      refine cn_aload_n (pc' := 28) (k := 2) rfl rfl d_X_changeValue_27 rfl ?_
      refine cn_aload_n (pc' := 29) (k := 0) rfl rfl d_X_changeValue_28 rfl ?_
      refine cn_getP (pc' := 32) (b := 20) hw.2.1.2.2.2.2.2.1 fl_X_44 hw.1 rfl d_X_changeValue_29 rfl ?_
      refine cn_callV (pc' := 35) (kc1 := 0) (ks1 := 0) (kc2 := 0) (ks2 := 0) (rest := []) (lvj := [(0, .ref ((24 + 3 * k))), (1, .ref 20)]) [.ref 20] mv_X_164 (hw.nv (i := k) (by omega)).2.1 rfl rfl rfl (Nat.le_of_ble_eq_true rfl) (Nat.le_of_ble_eq_true rfl) (by omega) (by omega) (by omega) d_X_changeValue_32 rfl ?_
      refine c_By_append (b := 24 + 3 * k) (c := 20) (cap := 61) (cap2 := 61) (hw.nv (by omega)).2 hy1 (Nat.zero_le _) hw.ic (hy.keep hf1 (by omega) (by omega) (by omega)) hu (by omega) (by omega) (by omega) (fun I2 hy2 hf2 => ?_)
      rw [List.nil_append, List.take_of_length_le hu] at hy2
      show cn_V l en mi_X_changeValue d 0 0 S I2 P Q 35 [(0, .ref 0), (1, .int (nI (k))), (2, .ref ((24 + 3 * k)))] []
      refine cn_iconst (pc' := 36) k_c_0 d_X_changeValue_35 rfl ?_
      refine cn_istore_n (pc' := 37) (lv' := [(0, .ref 0), (1, .int (nI (k))), (2, .ref ((24 + 3 * k))), (3, .int (nI (0)))]) rfl [1, 2, 3, 0] (Nat.le_of_ble_eq_true rfl) rfl d_X_changeValue_36 rfl ?_
      have hr : ∀ a, a ≠ 24 + 3 * k → a ≠ 25 + 3 * k → I2 a = I a := fun a x1 x2 => (hf2 a x1 (by omega)).trans (hf1 a x1 (by omega))
      have e : chg ns xs k u = (true, ns.set k ((ns.getD k nd0).1, (ns.getD k nd0).2.1, u), xs.map (chx k u)) := by unfold chg; rw [if_neg hne]
      rw [e] at K
      have hI2 : rI I2 P xs := hxs.congr (fun a x1 x2 => hr a (by omega) (by omega)) (fun _ _ => rfl)
      refine c_X_changeValue_loop (by omega) hI2.1 hu hd1 I2 P (fun I3 P3 hw3 hpm3 hL3 hf3 hP3 => ?_) xs.length 0 I2 P (by omega) hw (by rw [hr 0 (by omega) (by omega)]; exact h03) hy2 hI2.2.1 (fun j hj => by rw [if_neg (Nat.not_lt_zero j)]; exact hI2.2.2 j hj) (fun _ _ => rfl) (fun _ _ => rfl)
      refine K I3 P3 hw3 (rN_set hN hkl (hy2.congr (hf3 _ (by omega)) (hf3 _ (by omega))) hu (fun a x1 x2 x3 x4 => (hf3 a (by omega)).trans (hr a x3 x4))) ⟨by rw [List.length_map]; exact hI2.1, hpm3, fun i hi => ?_⟩ (fun a x => (hf3 a (by omega)).trans (hr a (by omega) (by omega))) hP3
      rw [List.length_map] at hi
      rw [it_map _ _ hi]
      exact hL3 i hi
    · exact False.elim (by omega)
end
