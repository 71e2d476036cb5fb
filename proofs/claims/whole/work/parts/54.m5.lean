theorem mo_1 {I : cn_I} {a0 c x : Int32} {t : List Int32} (h : mo I (a0 :: c :: t)) : mo (cn_wi I 174 1 x) (a0 :: x :: t) := by
  refine ⟨mw_a (by decide) h.1, h.2.1, fun j hj => ?_⟩
  match j, hj with
  | 0, hj => exact mw_k (by decide) (h.2.2 0 hj)
  | 1, _ => exact mw_e
  | j + 2, hj => exact mw_k (by omega) (h.2.2 (j + 2) hj)
theorem mi_nm1 {k : Nat} (h : k < 2 ^ 31) : ¬ (-1 : Int32) = nI k := fun e => nI_pos h (by rw [← e]; decide)
theorem fO_wi {I : cn_I} {k : Nat} {v : Int32} : fO I (cn_wi I 174 k v) := fun a j x y => mw_o (by omega)
def pkd (ns : List sNode) (k i : Nat) : List Nat := (List.range i).filter (fun i => decide ((ns.getD k nd0).1 = nI i))
theorem pkd_len (ns : List sNode) (k i : Nat) : (pkd ns k i).length ≤ i := by
  have := List.length_filter_le (fun i => decide ((ns.getD k nd0).1 = nI i)) (List.range i)
  rw [List.length_range] at this; exact this
theorem pkd_y {ns : List sNode} {k i : Nat} (h : (ns.getD k nd0).1 = nI i) : pkd ns k (i + 1) = pkd ns k i ++ [i] := by
  unfold pkd
  rw [List.range_succ, List.filter_append, List.filter_cons_of_pos (by simpa using h)]; rfl
theorem pkd_n {ns : List sNode} {k i : Nat} (h : ¬ (ns.getD k nd0).1 = nI i) : pkd ns k (i + 1) = pkd ns k i := by
  unfold pkd
  rw [List.range_succ, List.filter_append, List.filter_cons_of_neg (by simpa using h), List.filter_nil, List.append_nil]
theorem pkd_none {ns : List sNode} {k : Nat} (h : (ns.getD k nd0).1 = -1) : ∀ i, i ≤ 16 → pkd ns k i = []
  | 0, _ => rfl
  | i + 1, hi => by rw [pkd_n (by rw [h]; exact mi_nm1 (by omega)), pkd_none h i (by omega)]
theorem pkd_some {ns : List sNode} {k q : Nat} (h : (ns.getD k nd0).1 = nI q) (hq : q < 16) : ∀ i, i ≤ 16 → pkd ns k i = if q < i then [q] else []
  | 0, _ => rfl
  | i + 1, hi => by
    by_cases e : i = q
    · subst e
      rw [pkd_y h, pkd_some h hq i (by omega), if_neg (Nat.lt_irrefl i), if_pos (Nat.lt_succ_self i)]; rfl
    · rw [pkd_n (by rw [h]; exact fun e2 => e ((nI_eq (by omega) (by omega)).mp e2).symm), pkd_some h hq i (by omega)]
      by_cases e2 : q < i
      · rw [if_pos e2, if_pos (by omega)]
      · rw [if_neg e2, if_neg (by omega)]
theorem brw_1 {ns : List sNode} {k : Nat} (h16 : ns.length ≤ 16) (hp : prs ns) (hk : k < ns.length) : brw ns k (nI 1) = nI (pkd ns k ns.length).length :: kfl (pkd ns k ns.length) := by
  unfold brw
  rw [if_pos rfl]
  rcases hp.2.2 k hk with h | ⟨q, hq, h⟩
  · rw [if_pos h, pkd_none h _ h16]; rfl
  · rw [if_neg (by rw [h]; exact fun e => mi_nm1 (show q < 2 ^ 31 by omega) e.symm), h, pkd_some h (by omega) _ h16, if_pos hq, nI_255 (by omega)]; rfl
theorem brw_0 {ns : List sNode} {k : Nat} : brw ns k (nI 0) = nI (kid ns k ns.length).length :: kfl (kid ns k ns.length) := by
  unfold brw
  rw [if_neg (by decide)]; rfl
theorem mI_push {I I' : cn_I} {xs : List sItem} {x : sItem} (h : mI I xs) (h6 : xs.length < 6) (h7 : I' 155 7 = nI (xs.length + 1)) (hx : mIt I' xs.length x) (hf : ∀ a k, (161 ≤ a ∧ a ≤ 164 ∧ k < xs.length) ∨ ((a = 165 ∨ a = 166) ∧ k < 4 * xs.length) ∨ (a = 167 ∧ k < 256 * xs.length) → I' a k = I a k) : mI I' (xs ++ [x]) := by
  refine ⟨by rw [List.length_append]; exact h7, by rw [List.length_append]; exact h6, fun i hi => ?_⟩
  rw [List.length_append] at hi
  have hi : i < xs.length + 1 := hi
  by_cases e : i = xs.length
  · subst e
    rw [it_last]; exact hx
  · rw [it_l (by omega)]
    exact (h.2.2 i (by omega)).congr (fun a x y => hf _ _ (by omega)) (fun j _ => hf _ _ (by omega)) (fun j _ => hf _ _ (by omega)) (fun j k _ _ => hf _ _ (by omega))
section
variable {l : Launch} {en : cn_E} {d : Nat} {S : cn_S} {I : cn_I} {P : cn_P} {Q : Option Value → cn_S → cn_I → cn_P → Prop}
variable {ns : List sNode} {xs : List sItem} {ps : List sPar} {pn : Int32} {T : Nat} {g : List Int32}
theorem c_M_browse_47_0 {k : Nat} (hm : wM S P) (I0 : cn_I) (hN : mN I0 ns) (h29 : I0 155 29 = nI k) (hk : k < ns.length) (hd1 : 1 ≤ d) (K : ∀ I', mo I' (nI 0 :: nI (kid ns k ns.length).length :: kfl (kid ns k ns.length)) → fO I0 I' → Q none S I' P) : ∀ (r n : Nat) (I : cn_I), n + r = ns.length → mo I (nI 0 :: nI (kid ns k n).length :: kfl (kid ns k n)) → fO I0 I → cn_V l en mi_M_browse d 0 0 S I P Q 47 [(0, .ref 155), (1, .int (nI 0)), (2, .int (nI n))] [] := by
  have hl16 := hN.2.1
  intro r
  induction r with
  | zero =>
    intro n I hnr ho hf
    have hkl := kid_len ns k n
    have hkf := kfl_len (kid ns k n)
    refine cn_iload_n (pc' := 48) (k := 2) rfl rfl d_M_browse_47 rfl ?_
    refine cn_aload_n (pc' := 49) (k := 0) rfl rfl d_M_browse_48 rfl ?_
    refine cn_getIv (pc' := 52) (v := nI (ns.length)) ((hf _ _ (by omega) (by omega)).trans hN.1) fl_M_7 hm.1 rfl d_M_browse_49 rfl ?_
    refine cn_icmp_ge_n (tgt := 118) (pc' := 55) (by omega) (by omega) d_M_browse_52 (by decide) rfl (fun hc52 => ?_) (fun hc52 => ?_)
    · refine cn_vret rfl d_M_browse_118 ?_
      obtain rfl : n = ns.length := by omega
      exact K I ho hf
    · exact absurd hc52 (by omega)
  | succ r ih =>
    intro n I hnr ho hf
    have hkl := kid_len ns k n
    have hkf := kfl_len (kid ns k n)
    refine cn_iload_n (pc' := 48) (k := 2) rfl rfl d_M_browse_47 rfl ?_
    refine cn_aload_n (pc' := 49) (k := 0) rfl rfl d_M_browse_48 rfl ?_
    refine cn_getIv (pc' := 52) (v := nI (ns.length)) ((hf _ _ (by omega) (by omega)).trans hN.1) fl_M_7 hm.1 rfl d_M_browse_49 rfl ?_
    refine cn_icmp_ge_n (tgt := 118) (pc' := 55) (by omega) (by omega) d_M_browse_52 (by decide) rfl (fun hc52 => ?_) (fun hc52 => ?_)
    · exact absurd hc52 (by omega)
    · refine cn_iload_n (pc' := 56) (k := 1) rfl rfl d_M_browse_55 rfl ?_
      refine cn_if_ne_n (tgt := 79) (pc' := 59) (by omega) d_M_browse_56 (by decide) rfl (fun hc56 => ?_) (fun hc56 => ?_)
      · exact False.elim (by omega)
      · refine cn_iload_n (pc' := 60) (k := 2) rfl rfl d_M_browse_59 rfl ?_
        refine cn_if_le_n (tgt := 112) (pc' := 63) (by omega) d_M_browse_60 (by decide) rfl (fun hc60 => ?_) (fun hc60 => ?_)
        · refine cn_iinc_n (pc' := 115) (lv' := [(0, .ref 155), (1, .int (nI (0))), (2, .int (nI (n + 1)))]) (k := 2) [1, 2, 0] rfl (Nat.le_of_ble_eq_true rfl) rfl d_M_browse_112 rfl ?_
          refine cn_goto (tgt := 47) d_M_browse_115 (by decide) ?_
          exact ih (n + 1) I (by omega) (by rw [kid_n (by rw [show n = 0 by omega, hN.2.2.2.2.1]; exact mi_nm1 (by omega))]; exact ho) hf
        · refine cn_aload_n (pc' := 64) (k := 0) rfl rfl d_M_browse_63 rfl ?_
          refine cn_getP (pc' := 67) (b := 156) (hm.2.1 2 156 rfl) fl_M_13 hm.1 rfl d_M_browse_64 rfl ?_
          refine cn_iload_n (pc' := 68) (k := 2) rfl rfl d_M_browse_67 rfl ?_
          refine cn_ialdv (pc' := 69) (v := (ns.getD n nd0).1) ((hf _ _ (by omega) (by omega)).trans (hN.2.2.1 n (by omega)).1) (hm.2.2 156 0 16 rfl) (by omega) (by decide) d_M_browse_68 rfl ?_
          refine cn_aload_n (pc' := 70) (k := 0) rfl rfl d_M_browse_69 rfl ?_
          refine cn_getIv (pc' := 73) (v := nI (k)) ((hf _ _ (by omega) (by omega)).trans h29) fl_M_168 hm.1 rfl d_M_browse_70 rfl ?_
          refine cn_icmp_ne (tgt := 112) (pc' := 76) d_M_browse_73 (by decide) rfl (fun hc73 => ?_) (fun hc73 => ?_)
          · refine cn_iinc_n (pc' := 115) (lv' := [(0, .ref 155), (1, .int (nI (0))), (2, .int (nI (n + 1)))]) (k := 2) [1, 2, 0] rfl (Nat.le_of_ble_eq_true rfl) rfl d_M_browse_112 rfl ?_
            refine cn_goto (tgt := 47) d_M_browse_115 (by decide) ?_
            exact ih (n + 1) I (by omega) (by rw [kid_n hc73]; exact ho) hf
          · refine cn_goto (tgt := 92) d_M_browse_76 (by decide) ?_
            refine cn_aload_n (pc' := 93) (k := 0) rfl rfl d_M_browse_92 rfl ?_
            refine cn_getP (pc' := 96) (b := 174) (hm.2.1 36 174 rfl) fl_M_69 hm.1 rfl d_M_browse_93 rfl ?_
            refine cn_iconst (pc' := 97) k_c_1 d_M_browse_96 rfl ?_
            refine cn_dup2 (pc' := 98) rfl rfl d_M_browse_97 rfl ?_
            refine cn_ialdv (pc' := 99) (v := nI ((kid ns k n).length)) (ho.2.2 1 (by show 1 < (kfl (kid ns k n)).length + 1 + 1; omega)) (hm.2.2 174 0 200 rfl) (by omega) (by decide) d_M_browse_98 rfl ?_
            refine cn_iconst (pc' := 100) k_c_1 d_M_browse_99 rfl ?_
            refine cn_iadd_n (pc' := 101) d_M_browse_100 rfl ?_
            refine cn_iast (pc' := 102) (hm.2.2 174 0 200 rfl) (by omega) (by decide) d_M_browse_101 rfl ?_
            refine cn_aload_n (pc' := 103) (k := 0) rfl rfl d_M_browse_102 rfl ?_
            refine cn_iconst (pc' := 104) k_c_0 d_M_browse_103 rfl ?_
            refine cn_callV (pc' := 107) (kc1 := 0) (ks1 := 0) (kc2 := 0) (ks2 := 0) (rest := []) (lvj := [(0, .ref 155), (1, .int (nI (0)))]) [.int (nI (0))] mv_M_184 hm.1 rfl rfl rfl (Nat.le_of_ble_eq_true rfl) (Nat.le_of_ble_eq_true rfl) (by omega) (by omega) (by omega) d_M_browse_104 rfl ?_
            refine c_M_say hm (mo_1 ho) (by show (kfl (kid ns k n)).length + 1 + 1 < 200; omega) (fun I1 ho1 hf1 => ?_)
            show cn_V l en mi_M_browse d 0 0 S I1 P Q 107 [(0, .ref 155), (1, .int (nI (0))), (2, .int (nI (n)))] []
            refine cn_aload_n (pc' := 108) (k := 0) rfl rfl d_M_browse_107 rfl ?_
            refine cn_iload_n (pc' := 109) (k := 2) rfl rfl d_M_browse_108 rfl ?_
            refine cn_callV (pc' := 112) (kc1 := 0) (ks1 := 0) (kc2 := 0) (ks2 := 0) (rest := []) (lvj := [(0, .ref 155), (1, .int (nI (n)))]) [.int (nI (n))] mv_M_184 hm.1 rfl rfl rfl (Nat.le_of_ble_eq_true rfl) (Nat.le_of_ble_eq_true rfl) (by omega) (by omega) (by omega) d_M_browse_109 rfl ?_
            refine c_M_say hm ho1 (by rw [List.length_append]; show (kfl (kid ns k n)).length + 1 + 1 + 1 < 200; omega) (fun I2 ho2 hf2 => ?_)
            show cn_V l en mi_M_browse d 0 0 S I2 P Q 112 [(0, .ref 155), (1, .int (nI (0))), (2, .int (nI (n)))] []
            refine cn_iinc_n (pc' := 115) (lv' := [(0, .ref 155), (1, .int (nI (0))), (2, .int (nI (n + 1)))]) (k := 2) [1, 2, 0] rfl (Nat.le_of_ble_eq_true rfl) rfl d_M_browse_112 rfl ?_
            refine cn_goto (tgt := 47) d_M_browse_115 (by decide) ?_
            refine ih (n + 1) I2 (by omega) ?_ (hf.tr (fO_wi.tr (hf1.tr hf2)))
            rw [kid_y hc73, kfl_app, List.length_append, List.length_singleton]
            rw [List.append_assoc] at ho2
            exact ho2
theorem c_M_browse_47_1 {k : Nat} (hm : wM S P) (I0 : cn_I) (hN : mN I0 ns) (h29 : I0 155 29 = nI k) (hk : k < ns.length) (hd1 : 1 ≤ d) (K : ∀ I', mo I' (nI 0 :: nI (pkd ns k ns.length).length :: kfl (pkd ns k ns.length)) → fO I0 I' → Q none S I' P) : ∀ (r n : Nat) (I : cn_I), n + r = ns.length → mo I (nI 0 :: nI (pkd ns k n).length :: kfl (pkd ns k n)) → fO I0 I → cn_V l en mi_M_browse d 0 0 S I P Q 47 [(0, .ref 155), (1, .int (nI 1)), (2, .int (nI n))] [] := by
  have hl16 := hN.2.1
  intro r
  induction r with
  | zero =>
    intro n I hnr ho hf
    have hkl := pkd_len ns k n
    have hkf := kfl_len (pkd ns k n)
    refine cn_iload_n (pc' := 48) (k := 2) rfl rfl d_M_browse_47 rfl ?_
    refine cn_aload_n (pc' := 49) (k := 0) rfl rfl d_M_browse_48 rfl ?_
    refine cn_getIv (pc' := 52) (v := nI (ns.length)) ((hf _ _ (by omega) (by omega)).trans hN.1) fl_M_7 hm.1 rfl d_M_browse_49 rfl ?_
    refine cn_icmp_ge_n (tgt := 118) (pc' := 55) (by omega) (by omega) d_M_browse_52 (by decide) rfl (fun hc52 => ?_) (fun hc52 => ?_)
    · refine cn_vret rfl d_M_browse_118 ?_
      obtain rfl : n = ns.length := by omega
      exact K I ho hf
    · exact absurd hc52 (by omega)
  | succ r ih =>
    intro n I hnr ho hf
    have hkl := pkd_len ns k n
    have hkf := kfl_len (pkd ns k n)
    refine cn_iload_n (pc' := 48) (k := 2) rfl rfl d_M_browse_47 rfl ?_
    refine cn_aload_n (pc' := 49) (k := 0) rfl rfl d_M_browse_48 rfl ?_
    refine cn_getIv (pc' := 52) (v := nI (ns.length)) ((hf _ _ (by omega) (by omega)).trans hN.1) fl_M_7 hm.1 rfl d_M_browse_49 rfl ?_
    refine cn_icmp_ge_n (tgt := 118) (pc' := 55) (by omega) (by omega) d_M_browse_52 (by decide) rfl (fun hc52 => ?_) (fun hc52 => ?_)
    · exact absurd hc52 (by omega)
    · refine cn_iload_n (pc' := 56) (k := 1) rfl rfl d_M_browse_55 rfl ?_
      refine cn_if_ne_n (tgt := 79) (pc' := 59) (by omega) d_M_browse_56 (by decide) rfl (fun hc56 => ?_) (fun hc56 => ?_)
      · refine cn_aload_n (pc' := 80) (k := 0) rfl rfl d_M_browse_79 rfl ?_
        refine cn_getP (pc' := 83) (b := 156) (hm.2.1 2 156 rfl) fl_M_13 hm.1 rfl d_M_browse_80 rfl ?_
        refine cn_aload_n (pc' := 84) (k := 0) rfl rfl d_M_browse_83 rfl ?_
        refine cn_getIv (pc' := 87) (v := nI (k)) ((hf _ _ (by omega) (by omega)).trans h29) fl_M_168 hm.1 rfl d_M_browse_84 rfl ?_
        refine cn_ialdv (pc' := 88) (v := (ns.getD k nd0).1) ((hf _ _ (by omega) (by omega)).trans (hN.2.2.1 k (by omega)).1) (hm.2.2 156 0 16 rfl) (by omega) (by decide) d_M_browse_87 rfl ?_
        refine cn_iload_n (pc' := 89) (k := 2) rfl rfl d_M_browse_88 rfl ?_
        refine cn_icmp_ne (tgt := 112) (pc' := 92) d_M_browse_89 (by decide) rfl (fun hc89 => ?_) (fun hc89 => ?_)
        · refine cn_iinc_n (pc' := 115) (lv' := [(0, .ref 155), (1, .int (nI (1))), (2, .int (nI (n + 1)))]) (k := 2) [1, 2, 0] rfl (Nat.le_of_ble_eq_true rfl) rfl d_M_browse_112 rfl ?_
          refine cn_goto (tgt := 47) d_M_browse_115 (by decide) ?_
          exact ih (n + 1) I (by omega) (by rw [pkd_n hc89]; exact ho) hf
        · refine cn_aload_n (pc' := 93) (k := 0) rfl rfl d_M_browse_92 rfl ?_
          refine cn_getP (pc' := 96) (b := 174) (hm.2.1 36 174 rfl) fl_M_69 hm.1 rfl d_M_browse_93 rfl ?_
          refine cn_iconst (pc' := 97) k_c_1 d_M_browse_96 rfl ?_
          refine cn_dup2 (pc' := 98) rfl rfl d_M_browse_97 rfl ?_
          refine cn_ialdv (pc' := 99) (v := nI ((pkd ns k n).length)) (ho.2.2 1 (by show 1 < (kfl (pkd ns k n)).length + 1 + 1; omega)) (hm.2.2 174 0 200 rfl) (by omega) (by decide) d_M_browse_98 rfl ?_
          refine cn_iconst (pc' := 100) k_c_1 d_M_browse_99 rfl ?_
          refine cn_iadd_n (pc' := 101) d_M_browse_100 rfl ?_
          refine cn_iast (pc' := 102) (hm.2.2 174 0 200 rfl) (by omega) (by decide) d_M_browse_101 rfl ?_
          refine cn_aload_n (pc' := 103) (k := 0) rfl rfl d_M_browse_102 rfl ?_
          refine cn_iconst (pc' := 104) k_c_0 d_M_browse_103 rfl ?_
          refine cn_callV (pc' := 107) (kc1 := 0) (ks1 := 0) (kc2 := 0) (ks2 := 0) (rest := []) (lvj := [(0, .ref 155), (1, .int (nI (0)))]) [.int (nI (0))] mv_M_184 hm.1 rfl rfl rfl (Nat.le_of_ble_eq_true rfl) (Nat.le_of_ble_eq_true rfl) (by omega) (by omega) (by omega) d_M_browse_104 rfl ?_
          refine c_M_say hm (mo_1 ho) (by show (kfl (pkd ns k n)).length + 1 + 1 < 200; omega) (fun I1 ho1 hf1 => ?_)
          show cn_V l en mi_M_browse d 0 0 S I1 P Q 107 [(0, .ref 155), (1, .int (nI (1))), (2, .int (nI (n)))] []
          refine cn_aload_n (pc' := 108) (k := 0) rfl rfl d_M_browse_107 rfl ?_
          refine cn_iload_n (pc' := 109) (k := 2) rfl rfl d_M_browse_108 rfl ?_
          refine cn_callV (pc' := 112) (kc1 := 0) (ks1 := 0) (kc2 := 0) (ks2 := 0) (rest := []) (lvj := [(0, .ref 155), (1, .int (nI (n)))]) [.int (nI (n))] mv_M_184 hm.1 rfl rfl rfl (Nat.le_of_ble_eq_true rfl) (Nat.le_of_ble_eq_true rfl) (by omega) (by omega) (by omega) d_M_browse_109 rfl ?_
          refine c_M_say hm ho1 (by rw [List.length_append]; show (kfl (pkd ns k n)).length + 1 + 1 + 1 < 200; omega) (fun I2 ho2 hf2 => ?_)
          show cn_V l en mi_M_browse d 0 0 S I2 P Q 112 [(0, .ref 155), (1, .int (nI (1))), (2, .int (nI (n)))] []
          refine cn_iinc_n (pc' := 115) (lv' := [(0, .ref 155), (1, .int (nI (1))), (2, .int (nI (n + 1)))]) (k := 2) [1, 2, 0] rfl (Nat.le_of_ble_eq_true rfl) rfl d_M_browse_112 rfl ?_
          refine cn_goto (tgt := 47) d_M_browse_115 (by decide) ?_
          refine ih (n + 1) I2 (by omega) ?_ (hf.tr (fO_wi.tr (hf1.tr hf2)))
          rw [pkd_y hc89, kfl_app, List.length_append, List.length_singleton]
          rw [List.append_assoc] at ho2
          exact ho2
      · exact False.elim (by omega)
theorem c_M_browse (hm : wM S P) (h : MT I (ns, xs, (ps, pn)) [nI 1] T) (hr : mg I g 1 true) (hd1 : 3 ≤ d) (K : ∀ I', MT I' (sp_browse (ns, xs, (ps, pn)) g).2.2 ((sp_browse (ns, xs, (ps, pn)) g).1 :: (sp_browse (ns, xs, (ps, pn)) g).2.1) T → fV I I' → Q none S I' P) : cn_V l en mi_M_browse d 0 0 S I P Q 0 [(0, .ref 155)] [] := by
  have h9 := h
  obtain ⟨hN, hJ, hS, hp, ho⟩ := h
  have hN : mN I ns := hN
  have hJ : mI I xs := hJ
  have hS : mS I ps pn := hS
  have hl16 := hN.2.1
  have hl6 := hJ.2.1
  have hl3 := hS.2.1
  refine cn_aload_n (pc' := 1) (k := 0) rfl rfl d_M_browse_0 rfl ?_
  refine cn_callV (pc' := 4) (kc1 := 0) (ks1 := 0) (kc2 := 0) (ks2 := 0) (rest := []) (lvj := [(0, .ref 155)]) [] mv_M_208 hm.1 rfl rfl rfl (Nat.le_of_ble_eq_true rfl) (Nat.le_of_ble_eq_true rfl) (by omega) (by omega) (by omega) d_M_browse_1 rfl ?_
  refine c_M_readName hm hN hr (by omega) (fun I1 hr1 hn1 hf1 => ?_)
  have hr1 : mg I1 g (p1 g) (w1 g) := hr1
  have h91 := h9.rd hf1.toR
  have hN1 : mN I1 ns := h91.1
  show cn_V l en mi_M_browse d 0 0 S I1 P Q 4 [(0, .ref 155)] []
  refine cn_aload_n (pc' := 5) (k := 0) rfl rfl d_M_browse_4 rfl ?_
  refine cn_callV (pc' := 8) (kc1 := 0) (ks1 := 0) (kc2 := 0) (ks2 := 0) (rest := []) (lvj := [(0, .ref 155)]) [] mv_M_164 hm.1 rfl rfl rfl (Nat.le_of_ble_eq_true rfl) (Nat.le_of_ble_eq_true rfl) (by omega) (by omega) (by omega) d_M_browse_5 rfl ?_
  refine c_M_next hm hr1 (fun I2 hr2 hf2 => ?_)
  have h92 := h91.rd hf2.toR
  have hN2 : mN I2 ns := h92.1
  have hv2 : fV I I2 := hf1.toR.toV.tr hf2.toR.toV
  have h29 : I2 155 29 = ndv ns (rnm g 1) := (hf2 _ _ (by omega)).trans hn1
  show cn_V l en mi_M_browse d 0 0 S I2 P Q 8 [(0, .ref 155)] [.int (g.getD (p1 g) 0)]
  refine cn_istore_n (pc' := 9) (lv' := [(0, .ref 155), (1, .int (g.getD (p1 g) 0))]) rfl [1, 0] (Nat.le_of_ble_eq_true rfl) rfl d_M_browse_8 rfl ?_
  refine cn_aload_n (pc' := 10) (k := 0) rfl rfl d_M_browse_9 rfl ?_
  refine cn_callV (pc' := 13) (kc1 := 0) (ks1 := 0) (kc2 := 0) (ks2 := 0) (rest := []) (lvj := [(0, .ref 155)]) [] mv_M_211 hm.1 rfl rfl rfl (Nat.le_of_ble_eq_true rfl) (Nat.le_of_ble_eq_true rfl) (by omega) (by omega) (by omega) d_M_browse_10 rfl ?_
  refine c_M_whole hm hr2 ?_
  have hwb := tn_le (whl g (rp g (p1 g) 1) (rw_ g (p1 g) 1 (w1 g)))
  show cn_V l en mi_M_browse d 0 0 S I2 P Q 13 [(0, .ref 155), (1, .int (g.getD (p1 g) 0))] [.int (nI ((whl g (rp g (p1 g) 1) (rw_ g (p1 g) 1 (w1 g))).toNat))]
  refine cn_if_eq_n (tgt := 21) (pc' := 16) (by omega) d_M_browse_13 (by decide) rfl (fun hc13 => ?_) (fun hc13 => ?_)
  · refine cn_vret rfl d_M_browse_21 ?_
    have e : sp_browse (ns, xs, (ps, pn)) g = (nI 1, [], ns, xs, (ps, pn)) := by unfold sp_browse; rw [if_neg (fun h => by rw [tn_0 hc13] at h; exact absurd h.1 (by decide))]
    rw [e] at K
    exact K I2 h92 hv2
  · refine cn_iload_n (pc' := 17) (k := 1) rfl rfl d_M_browse_16 rfl ?_
    refine cn_iconst (pc' := 18) k_c_1 d_M_browse_17 rfl ?_
    refine cn_icmp_le (tgt := 22) (pc' := 21) d_M_browse_18 (by decide) rfl (fun hc18 => ?_) (fun hc18 => ?_)
    · rcases ndc ns (rnm g 1) with ⟨hnx, hnv⟩ | ⟨k, hnx, hkl, hnv⟩
      · show cn_V l en mi_M_browse d 0 0 S I2 P Q 22 [(0, .ref 155), (1, .int (g.getD (p1 g) 0))] []
        refine cn_aload_n (pc' := 23) (k := 0) rfl rfl d_M_browse_22 rfl ?_
        refine cn_getIv (pc' := 26) (v := -1) (h29.trans hnv) fl_M_168 hm.1 rfl d_M_browse_23 rfl ?_
        refine cn_if_ge (tgt := 35) (pc' := 29) d_M_browse_26 (by decide) rfl (fun hc26 => ?_) (fun hc26 => ?_)
        · exact absurd hc26 (by decide)
        · refine cn_aload_n (pc' := 30) (k := 0) rfl rfl d_M_browse_29 rfl ?_
          refine cn_iconst (pc' := 31) k_c_3 d_M_browse_30 rfl ?_
          refine cn_callV (pc' := 34) (kc1 := 0) (ks1 := 0) (kc2 := 0) (ks2 := 0) (rest := []) (lvj := [(0, .ref 155), (1, .int (nI (3)))]) [.int (nI (3))] mv_M_187 hm.1 rfl rfl rfl (Nat.le_of_ble_eq_true rfl) (Nat.le_of_ble_eq_true rfl) (by omega) (by omega) (by omega) d_M_browse_31 rfl ?_
          refine c_M_code hm (by omega) (fun I9 ho9 hf9 => ?_)
          have h99 := h92.out hf9 ho9
          have hv9 : fV I I9 := (hv2).tr hf9.toV
          show cn_V l en mi_M_browse d 0 0 S I9 P Q 34 [(0, .ref 155), (1, .int (g.getD (p1 g) 0))] []
          refine cn_vret rfl d_M_browse_34 ?_
          have e : sp_browse (ns, xs, (ps, pn)) g = (nI 3, [], ns, xs, (ps, pn)) := by unfold sp_browse; rw [if_pos ⟨tn_1 hc13, Int32.not_lt.mpr hc18⟩]; dsimp only; rw [hnx]
          rw [e] at K
          exact K I9 h99 hv9
      · have hbk := tn_le (isv ns k)
        show cn_V l en mi_M_browse d 0 0 S I2 P Q 22 [(0, .ref 155), (1, .int (g.getD (p1 g) 0))] []
        refine cn_aload_n (pc' := 23) (k := 0) rfl rfl d_M_browse_22 rfl ?_
        refine cn_getIv (pc' := 26) (v := nI (k)) (h29.trans hnv) fl_M_168 hm.1 rfl d_M_browse_23 rfl ?_
        refine cn_if_ge_n (tgt := 35) (pc' := 29) (by omega) d_M_browse_26 (by decide) rfl (fun hc26 => ?_) (fun hc26 => ?_)
        · refine cn_aload_n (pc' := 36) (k := 0) rfl rfl d_M_browse_35 rfl ?_
          refine cn_iconst (pc' := 37) k_c_0 d_M_browse_36 rfl ?_
          refine cn_callV (pc' := 40) (kc1 := 0) (ks1 := 0) (kc2 := 0) (ks2 := 0) (rest := []) (lvj := [(0, .ref 155), (1, .int (nI (0)))]) [.int (nI (0))] mv_M_187 hm.1 rfl rfl rfl (Nat.le_of_ble_eq_true rfl) (Nat.le_of_ble_eq_true rfl) (by omega) (by omega) (by omega) d_M_browse_37 rfl ?_
          refine c_M_code hm (by omega) (fun I9 ho9 hf9 => ?_)
          have h99 := h92.out hf9 ho9
          have hv9 : fV I I9 := (hv2).tr hf9.toV
          show cn_V l en mi_M_browse d 0 0 S I9 P Q 40 [(0, .ref 155), (1, .int (g.getD (p1 g) 0))] []
          refine cn_aload_n (pc' := 41) (k := 0) rfl rfl d_M_browse_40 rfl ?_
          refine cn_iconst (pc' := 42) k_c_0 d_M_browse_41 rfl ?_
          refine cn_callV (pc' := 45) (kc1 := 0) (ks1 := 0) (kc2 := 0) (ks2 := 0) (rest := []) (lvj := [(0, .ref 155), (1, .int (nI (0)))]) [.int (nI (0))] mv_M_184 hm.1 rfl rfl rfl (Nat.le_of_ble_eq_true rfl) (Nat.le_of_ble_eq_true rfl) (by omega) (by omega) (by omega) d_M_browse_42 rfl ?_
          refine c_M_say hm ho9 (by decide) (fun I8 ho8 hf8 => ?_)
          have ho8 : mo I8 [nI 0, nI 0] := ho8
          show cn_V l en mi_M_browse d 0 0 S I8 P Q 45 [(0, .ref 155), (1, .int (g.getD (p1 g) 0))] []
          refine cn_iconst (pc' := 46) k_c_0 d_M_browse_45 rfl ?_
          refine cn_istore_n (pc' := 47) (lv' := [(0, .ref 155), (1, .int (g.getD (p1 g) 0)), (2, .int (nI (0)))]) rfl [1, 2, 0] (Nat.le_of_ble_eq_true rfl) rfl d_M_browse_46 rfl ?_
          have e : sp_browse (ns, xs, (ps, pn)) g = (nI 0, brw ns k (g.getD (p1 g) 0), ns, xs, (ps, pn)) := by unfold sp_browse; rw [if_pos ⟨tn_1 hc13, Int32.not_lt.mpr hc18⟩]; dsimp only; rw [hnx]
          rw [e] at K
          obtain ⟨u, hu256, hu⟩ := b8_nat (hr.2.2.2.2.2.2 (p1 g))
          rw [hu] at K hc18 ⊢
          have hu1 : u ≤ 1 := (nI_leI (by omega) (by omega)).mp hc18
          have hN8 : mN I8 ns := hN2.congr (fun a k x => (hf8 _ _ (by omega) (by omega)).trans (hf9 _ _ (by omega) (by omega)))
          have h89 : I8 155 29 = nI k := (hf8 _ _ (by omega) (by omega)).trans ((hf9 _ _ (by omega) (by omega)).trans (h29.trans hnv))
          have hu2 : u = 0 ∨ u = 1 := by omega
          rcases hu2 with rfl | rfl
          · rw [brw_0] at K
            exact c_M_browse_47_0 hm I8 hN8 h89 hkl (by omega) (fun I7 ho7 hf7 => K I7 (h99.out (hf8.tr hf7) ho7) (hv9.tr (hf8.tr hf7).toV)) _ 0 I8 (Nat.zero_add _) ho8 fO.rf
          · rw [brw_1 hl16 hN.2.2.2 hkl] at K
            exact c_M_browse_47_1 hm I8 hN8 h89 hkl (by omega) (fun I7 ho7 hf7 => K I7 (h99.out (hf8.tr hf7) ho7) (hv9.tr (hf8.tr hf7).toV)) _ 0 I8 (Nat.zero_add _) ho8 fO.rf
        · exact False.elim (by omega)
    · refine cn_vret rfl d_M_browse_21 ?_
      have e : sp_browse (ns, xs, (ps, pn)) g = (nI 1, [], ns, xs, (ps, pn)) := by unfold sp_browse; rw [if_neg (fun h => h.2 (Int32.not_le.mp hc18))]
      rw [e] at K
      exact K I2 h92 hv2
theorem c_M_watch (hm : wM S P) (h : MT I (ns, xs, (ps, pn)) [nI 1] T) (hr : mg I g 1 true) (hd1 : 3 ≤ d) (K : ∀ I', MT I' (sp_watch (ns, xs, (ps, pn)) g).2.2 ((sp_watch (ns, xs, (ps, pn)) g).1 :: (sp_watch (ns, xs, (ps, pn)) g).2.1) T → fV I I' → Q none S I' P) : cn_V l en mi_M_watch d 0 0 S I P Q 0 [(0, .ref 155)] [] := by
  have h9 := h
  obtain ⟨hN, hJ, hS, hp, ho⟩ := h
  have hN : mN I ns := hN
  have hJ : mI I xs := hJ
  have hS : mS I ps pn := hS
  have hl16 := hN.2.1
  have hl6 := hJ.2.1
  have hl3 := hS.2.1
  refine cn_aload_n (pc' := 1) (k := 0) rfl rfl d_M_watch_0 rfl ?_
  refine cn_callV (pc' := 4) (kc1 := 0) (ks1 := 0) (kc2 := 0) (ks2 := 0) (rest := []) (lvj := [(0, .ref 155)]) [] mv_M_208 hm.1 rfl rfl rfl (Nat.le_of_ble_eq_true rfl) (Nat.le_of_ble_eq_true rfl) (by omega) (by omega) (by omega) d_M_watch_1 rfl ?_
  refine c_M_readName hm hN hr (by omega) (fun I1 hr1 hn1 hf1 => ?_)
  have hr1 : mg I1 g (p1 g) (w1 g) := hr1
  have h91 := h9.rd hf1.toR
  have hN1 : mN I1 ns := h91.1
  show cn_V l en mi_M_watch d 0 0 S I1 P Q 4 [(0, .ref 155)] []
  refine cn_aload_n (pc' := 5) (k := 0) rfl rfl d_M_watch_4 rfl ?_
  refine cn_callV (pc' := 8) (kc1 := 0) (ks1 := 0) (kc2 := 0) (ks2 := 0) (rest := []) (lvj := [(0, .ref 155)]) [] mv_M_164 hm.1 rfl rfl rfl (Nat.le_of_ble_eq_true rfl) (Nat.le_of_ble_eq_true rfl) (by omega) (by omega) (by omega) d_M_watch_5 rfl ?_
  refine c_M_next hm hr1 (fun I2 hr2 hf2 => ?_)
  have h92 := h91.rd hf2.toR
  have hN2 : mN I2 ns := h92.1
  have hv2 : fV I I2 := hf1.toR.toV.tr hf2.toR.toV
  have h29 : I2 155 29 = ndv ns (rnm g 1) := (hf2 _ _ (by omega)).trans hn1
  show cn_V l en mi_M_watch d 0 0 S I2 P Q 8 [(0, .ref 155)] [.int (g.getD (p1 g) 0)]
  refine cn_istore_n (pc' := 9) (lv' := [(0, .ref 155), (1, .int (g.getD (p1 g) 0))]) rfl [1, 0] (Nat.le_of_ble_eq_true rfl) rfl d_M_watch_8 rfl ?_
  refine cn_aload_n (pc' := 10) (k := 0) rfl rfl d_M_watch_9 rfl ?_
  refine cn_callV (pc' := 13) (kc1 := 0) (ks1 := 0) (kc2 := 0) (ks2 := 0) (rest := []) (lvj := [(0, .ref 155)]) [] mv_M_164 hm.1 rfl rfl rfl (Nat.le_of_ble_eq_true rfl) (Nat.le_of_ble_eq_true rfl) (by omega) (by omega) (by omega) d_M_watch_10 rfl ?_
  refine c_M_next hm hr2 (fun I3 hr3 hf3 => ?_)
  rw [rp_add, rw_add] at hr3
  rw [gd_rp]
  have h93 := h92.rd hf3.toR
  have hN3 : mN I3 ns := h93.1
  have hv3 : fV I I3 := hv2.tr hf3.toR.toV
  have h39 : I3 155 29 = ndv ns (rnm g 1) := (hf3 _ _ (by omega)).trans h29
  show cn_V l en mi_M_watch d 0 0 S I3 P Q 13 [(0, .ref 155), (1, .int (g.getD (p1 g) 0))] [.int (g.getD (p1 g + 1) 0)]
  refine cn_istore_n (pc' := 14) (lv' := [(0, .ref 155), (1, .int (g.getD (p1 g) 0)), (2, .int (g.getD (p1 g + 1) 0))]) rfl [1, 2, 0] (Nat.le_of_ble_eq_true rfl) rfl d_M_watch_13 rfl ?_
  refine cn_aload_n (pc' := 15) (k := 0) rfl rfl d_M_watch_14 rfl ?_
  refine cn_callV (pc' := 18) (kc1 := 0) (ks1 := 0) (kc2 := 0) (ks2 := 0) (rest := []) (lvj := [(0, .ref 155)]) [] mv_M_211 hm.1 rfl rfl rfl (Nat.le_of_ble_eq_true rfl) (Nat.le_of_ble_eq_true rfl) (by omega) (by omega) (by omega) d_M_watch_15 rfl ?_
  refine c_M_whole hm hr3 ?_
  have hwb := tn_le (whl g (rp g (p1 g) 2) (rw_ g (p1 g) 2 (w1 g)))
  show cn_V l en mi_M_watch d 0 0 S I3 P Q 18 [(0, .ref 155), (1, .int (g.getD (p1 g) 0)), (2, .int (g.getD (p1 g + 1) 0))] [.int (nI ((whl g (rp g (p1 g) 2) (rw_ g (p1 g) 2 (w1 g))).toNat))]
  refine cn_if_ne_n (tgt := 22) (pc' := 21) (by omega) d_M_watch_18 (by decide) rfl (fun hc18 => ?_) (fun hc18 => ?_)
  · have hJ3 : mI I3 xs := h93.2.1
    rcases ndc ns (rnm g 1) with ⟨hnx, hnv⟩ | ⟨k, hnx, hkl, hnv⟩
    · show cn_V l en mi_M_watch d 0 0 S I3 P Q 22 [(0, .ref 155), (1, .int (g.getD (p1 g) 0)), (2, .int (g.getD (p1 g + 1) 0))] []
      refine cn_aload_n (pc' := 23) (k := 0) rfl rfl d_M_watch_22 rfl ?_
      refine cn_getIv (pc' := 26) (v := -1) (h39.trans hnv) fl_M_168 hm.1 rfl d_M_watch_23 rfl ?_
      refine cn_if_lt (tgt := 41) (pc' := 29) d_M_watch_26 (by decide) rfl (fun hc26 => ?_) (fun hc26 => ?_)
      · refine cn_aload_n (pc' := 42) (k := 0) rfl rfl d_M_watch_41 rfl ?_
        refine cn_aload_n (pc' := 43) (k := 0) rfl rfl d_M_watch_42 rfl ?_
        refine cn_getIv (pc' := 46) (v := -1) (h39.trans hnv) fl_M_168 hm.1 rfl d_M_watch_43 rfl ?_
        refine cn_if_ge (tgt := 53) (pc' := 49) d_M_watch_46 (by decide) rfl (fun hc46 => ?_) (fun hc46 => ?_)
        · exact absurd hc46 (by decide)
        · refine cn_iconst (pc' := 50) k_c_3 d_M_watch_49 rfl ?_
          refine cn_goto (tgt := 54) d_M_watch_50 (by decide) ?_
          refine cn_callV (pc' := 57) (kc1 := 0) (ks1 := 0) (kc2 := 0) (ks2 := 0) (rest := []) (lvj := [(0, .ref 155), (1, .int (nI (3)))]) [.int (nI (3))] mv_M_187 hm.1 rfl rfl rfl (Nat.le_of_ble_eq_true rfl) (Nat.le_of_ble_eq_true rfl) (by omega) (by omega) (by omega) d_M_watch_54 rfl ?_
          refine c_M_code hm (by omega) (fun I9 ho9 hf9 => ?_)
          have h99 := h93.out hf9 ho9
          have hv9 : fV I I9 := (hv3).tr hf9.toV
          show cn_V l en mi_M_watch d 0 0 S I9 P Q 57 [(0, .ref 155), (1, .int (g.getD (p1 g) 0)), (2, .int (g.getD (p1 g + 1) 0))] []
          refine cn_vret rfl d_M_watch_57 ?_
          have ec : vcode ns (rnm g 1) = nI 3 := by unfold vcode; rw [hnx]
          have ed : vdx ns (rnm g 1) = none := by unfold vdx; rw [hnx]
          have e : sp_watch (ns, xs, (ps, pn)) g = (vcode ns (rnm g 1), [], ns, xs, (ps, pn)) := by unfold sp_watch; rw [if_pos (tn_1 hc18)]; dsimp only; rw [ed]
          rw [e, ec] at K
          exact K I9 h99 hv9
      · exact absurd hc26 (by decide)
    · have hbk := tn_le (isv ns k)
      show cn_V l en mi_M_watch d 0 0 S I3 P Q 22 [(0, .ref 155), (1, .int (g.getD (p1 g) 0)), (2, .int (g.getD (p1 g + 1) 0))] []
      refine cn_aload_n (pc' := 23) (k := 0) rfl rfl d_M_watch_22 rfl ?_
      refine cn_getIv (pc' := 26) (v := nI (k)) (h39.trans hnv) fl_M_168 hm.1 rfl d_M_watch_23 rfl ?_
      refine cn_if_lt_n (tgt := 41) (pc' := 29) (by omega) d_M_watch_26 (by decide) rfl (fun hc26 => ?_) (fun hc26 => ?_)
      · exact False.elim (by omega)
      · refine cn_aload_n (pc' := 30) (k := 0) rfl rfl d_M_watch_29 rfl ?_
        refine cn_getP (pc' := 33) (b := 157) (hm.2.1 3 157 rfl) fl_M_17 hm.1 rfl d_M_watch_30 rfl ?_
        refine cn_aload_n (pc' := 34) (k := 0) rfl rfl d_M_watch_33 rfl ?_
        refine cn_getIv (pc' := 37) (v := nI (k)) (h39.trans hnv) fl_M_168 hm.1 rfl d_M_watch_34 rfl ?_
        refine cn_zaldv (pc' := 38) (v := nI ((isv ns k).toNat)) ((hN3).2.2.1 k (by omega)).2.1 (hm.2.2 157 2 16 rfl) (by omega) (by decide) d_M_watch_37 rfl ?_
        refine cn_if_ne_n (tgt := 58) (pc' := 41) (by omega) d_M_watch_38 (by decide) rfl (fun hc38 => ?_) (fun hc38 => ?_)
        · refine cn_aload_n (pc' := 59) (k := 0) rfl rfl d_M_watch_58 rfl ?_
          refine cn_getIv (pc' := 62) (v := nI (xs.length)) hJ3.1 fl_M_82 hm.1 rfl d_M_watch_59 rfl ?_
          refine cn_bipush (pc' := 64) k_b_6 d_M_watch_62 rfl ?_
          refine cn_icmp_ne_n (tgt := 74) (pc' := 67) (by omega) (by omega) d_M_watch_64 (by decide) rfl (fun hc64 => ?_) (fun hc64 => ?_)
          · obtain ⟨b1, b2, b3, b4, b5, b6⟩ := hN3.2.2.1 k hkl
            obtain ⟨c, hc256, hcc⟩ := b8_nat (hr.2.2.2.2.2.2 (p1 g))
            rw [hcc]
            refine cn_aload_n (pc' := 75) (k := 0) rfl rfl d_M_watch_74 rfl ?_
            refine cn_getP (pc' := 78) (b := 161) (hm.2.1 8 161 rfl) fl_M_30 hm.1 rfl d_M_watch_75 rfl ?_
            refine cn_aload_n (pc' := 79) (k := 0) rfl rfl d_M_watch_78 rfl ?_
            refine cn_getIv (pc' := 82) (v := nI (xs.length)) hJ3.1 fl_M_82 hm.1 rfl d_M_watch_79 rfl ?_
            refine cn_aload_n (pc' := 83) (k := 0) rfl rfl d_M_watch_82 rfl ?_
            refine cn_getIv (pc' := 86) (v := nI (k)) (h39.trans hnv) fl_M_168 hm.1 rfl d_M_watch_83 rfl ?_
            refine cn_iast (pc' := 87) (hm.2.2 161 0 6 rfl) (by omega) (by decide) d_M_watch_86 rfl ?_
            refine cn_aload_n (pc' := 88) (k := 0) rfl rfl d_M_watch_87 rfl ?_
            refine cn_getP (pc' := 91) (b := 162) (hm.2.1 9 162 rfl) fl_M_33 hm.1 rfl d_M_watch_88 rfl ?_
            refine cn_aload_n (pc' := 92) (k := 0) rfl rfl d_M_watch_91 rfl ?_
            refine cn_getIv (pc' := 95) (v := nI (xs.length)) (mw_a (by decide) hJ3.1) fl_M_82 hm.1 rfl d_M_watch_92 rfl ?_
            refine cn_iload_n (pc' := 96) (k := 1) rfl rfl d_M_watch_95 rfl ?_
            refine cn_if_ne_n (tgt := 103) (pc' := 99) (by omega) d_M_watch_96 (by decide) rfl (fun hc96 => ?_) (fun hc96 => ?_)
            · refine cn_iload_n (pc' := 104) (k := 1) rfl rfl d_M_watch_103 rfl ?_
              refine cn_iconst (pc' := 105) k_c_4 d_M_watch_104 rfl ?_
              refine cn_icmp_le_n (tgt := 112) (pc' := 108) (by omega) (by omega) d_M_watch_105 (by decide) rfl (fun hc105 => ?_) (fun hc105 => ?_)
              · refine cn_iload_n (pc' := 113) (k := 1) rfl rfl d_M_watch_112 rfl ?_
                refine cn_iast (pc' := 114) (hm.2.2 162 0 6 rfl) (by omega) (by decide) d_M_watch_113 rfl ?_
                refine cn_aload_n (pc' := 115) (k := 0) rfl rfl d_M_watch_114 rfl ?_
                refine cn_getP (pc' := 118) (b := 163) (hm.2.1 10 163 rfl) fl_M_36 hm.1 rfl d_M_watch_115 rfl ?_
                refine cn_aload_n (pc' := 119) (k := 0) rfl rfl d_M_watch_118 rfl ?_
                refine cn_getIv (pc' := 122) (v := nI (xs.length)) (mw_a (by decide) (mw_a (by decide) hJ3.1)) fl_M_82 hm.1 rfl d_M_watch_119 rfl ?_
                refine cn_iload_n (pc' := 123) (k := 2) rfl rfl d_M_watch_122 rfl ?_
                refine cn_if_eq (tgt := 130) (pc' := 126) d_M_watch_123 (by decide) rfl (fun hc123 => ?_) (fun hc123 => ?_)
                · refine cn_iconst (pc' := 131) k_c_0 d_M_watch_130 rfl ?_
                  refine cn_zast (pc' := 132) (hm.2.2 163 2 6 rfl) (by omega) (by decide) d_M_watch_131 rfl ?_
                  rw [show vp_nar .boolean (nI (0)) = nI (0) from rfl]
                  refine cn_aload_n (pc' := 133) (k := 0) rfl rfl d_M_watch_132 rfl ?_
                  refine cn_getP (pc' := 136) (b := 164) (hm.2.1 11 164 rfl) fl_M_39 hm.1 rfl d_M_watch_133 rfl ?_
                  refine cn_aload_n (pc' := 137) (k := 0) rfl rfl d_M_watch_136 rfl ?_
                  refine cn_getIv (pc' := 140) (v := nI (xs.length)) (mw_a (by decide) (mw_a (by decide) (mw_a (by decide) hJ3.1))) fl_M_82 hm.1 rfl d_M_watch_137 rfl ?_
                  refine cn_iconst (pc' := 141) k_c_0 d_M_watch_140 rfl ?_
                  refine cn_iast (pc' := 142) (hm.2.2 164 0 6 rfl) (by omega) (by decide) d_M_watch_141 rfl ?_
                  refine cn_aload_n (pc' := 143) (k := 0) rfl rfl d_M_watch_142 rfl ?_
                  refine cn_aload_n (pc' := 144) (k := 0) rfl rfl d_M_watch_143 rfl ?_
                  refine cn_getIv (pc' := 147) (v := nI (xs.length)) (mw_a (by decide) (mw_a (by decide) (mw_a (by decide) (mw_a (by decide) hJ3.1)))) fl_M_82 hm.1 rfl d_M_watch_144 rfl ?_
                  refine cn_aload_n (pc' := 148) (k := 0) rfl rfl d_M_watch_147 rfl ?_
                  refine cn_getIv (pc' := 151) (v := nI (k)) (mw_a (by decide) (mw_a (by decide) (mw_a (by decide) (mw_a (by decide) (h39.trans hnv))))) fl_M_168 hm.1 rfl d_M_watch_148 rfl ?_
                  refine cn_iconst (pc' := 152) k_c_0 d_M_watch_151 rfl ?_
                  refine cn_callV (pc' := 155) (kc1 := 0) (ks1 := 0) (kc2 := 0) (ks2 := 0) (rest := []) (lvj := [(0, .ref 155), (1, .int (nI (xs.length))), (2, .int (nI (k))), (3, .int (nI (0)))]) [.int (nI (xs.length)), .int (nI (k)), .int (nI (0))] mv_M_121 hm.1 rfl rfl rfl (Nat.le_of_ble_eq_true rfl) (Nat.le_of_ble_eq_true rfl) (by omega) (by omega) (by omega) d_M_watch_152 rfl ?_
                  have hca : capo (nI c) = c := by unfold capo; rw [if_neg (fun h => absurd ((nI_ltI (by omega) (by omega)).mp h) (by omega)), if_neg (fun h => absurd ((nI_ltI (by omega) (by omega)).mp h) (by omega)), nI_clamp (by omega)]
                  have hf4 : ∀ a j, (a < 161 ∨ 164 < a ∨ j ≠ xs.length) → ((cn_wi (cn_wi (cn_wi (cn_wi I3 161 xs.length (nI (k))) 162 xs.length (nI (c))) 163 xs.length (nI (0))) 164 xs.length (nI (0)))) a j = I3 a j := fun a j x => by rw [mw_o (by omega), mw_o (by omega), mw_o (by omega), mw_o (by omega)]
                  have hq4 : mq ((cn_wi (cn_wi (cn_wi (cn_wi I3 161 xs.length (nI (k))) 162 xs.length (nI (c))) 163 xs.length (nI (0))) 164 xs.length (nI (0)))) xs.length [] := ⟨mw_e, Nat.zero_le _, fun j hj => absurd hj (Nat.not_lt_zero j)⟩
                  have g1 : ((cn_wi (cn_wi (cn_wi (cn_wi I3 161 xs.length (nI (k))) 162 xs.length (nI (c))) 163 xs.length (nI (0))) 164 xs.length (nI (0)))) 161 xs.length = nI k := (mw_a (by decide) (mw_a (by decide) (mw_a (by decide) mw_e)))
                  have g2 : ((cn_wi (cn_wi (cn_wi (cn_wi I3 161 xs.length (nI (k))) 162 xs.length (nI (c))) 163 xs.length (nI (0))) 164 xs.length (nI (0)))) 162 xs.length = nI c := (mw_a (by decide) (mw_a (by decide) mw_e))
                  have g3 : ((cn_wi (cn_wi (cn_wi (cn_wi I3 161 xs.length (nI (k))) 162 xs.length (nI (c))) 163 xs.length (nI (0))) 164 xs.length (nI (0)))) 163 xs.length = nI 0 := (mw_a (by decide) mw_e)
                  refine c_M_append (v := (ns.getD k nd0).2.2) hm (by omega) (by omega) hq4 (by decide) (by decide) ((hf4 _ _ (by omega)).trans b4) b5 (fun j hj => (hf4 _ _ (by omega)).trans (b6 j hj)) (fun I5 hq5 hf5 => ?_)
                  have hfa : ∀ a j, (a < 161 ∨ 167 < a) → I5 a j = I3 a j := fun a j x => (hf5 a j (by omega) (by omega) (by omega)).trans (hf4 a j (by omega))
                  show cn_V l en mi_M_watch d 0 0 S I5 P Q 155 [(0, .ref 155), (1, .int (nI (c))), (2, .int (g.getD (p1 g + 1) 0))] []
                  refine cn_aload_n (pc' := 156) (k := 0) rfl rfl d_M_watch_155 rfl ?_
                  refine cn_dup (pc' := 157) rfl d_M_watch_156 rfl ?_
                  refine cn_getIv (pc' := 160) (v := nI (xs.length)) ((hfa 155 7 (by omega)).trans hJ3.1) fl_M_82 hm.1 rfl d_M_watch_157 rfl ?_
                  refine cn_iconst (pc' := 161) k_c_1 d_M_watch_160 rfl ?_
                  refine cn_iadd_n (pc' := 162) d_M_watch_161 rfl ?_
                  refine cn_putI (pc' := 165) fl_M_82 hm.1 rfl rfl rfl rfl d_M_watch_162 rfl ?_
                  refine cn_aload_n (pc' := 166) (k := 0) rfl rfl d_M_watch_165 rfl ?_
                  refine cn_iconst (pc' := 167) k_c_0 d_M_watch_166 rfl ?_
                  refine cn_callV (pc' := 170) (kc1 := 0) (ks1 := 0) (kc2 := 0) (ks2 := 0) (rest := []) (lvj := [(0, .ref 155), (1, .int (nI (0)))]) [.int (nI (0))] mv_M_187 hm.1 rfl rfl rfl (Nat.le_of_ble_eq_true rfl) (Nat.le_of_ble_eq_true rfl) (by omega) (by omega) (by omega) d_M_watch_167 rfl ?_
                  have hx5 : mIt ((cn_wi I5 155 7 (nI (xs.length + 1)))) xs.length (k, c, false, [((ns.getD k nd0).2.2, nI 0)]) := ⟨mw_a (by decide) ((hf5 _ _ (by omega) (by omega) (by omega)).trans g1), by show k < 16; omega, mw_a (by decide) ((hf5 _ _ (by omega) (by omega) (by omega)).trans g2), mw_a (by decide) ((hf5 _ _ (by omega) (by omega) (by omega)).trans g3), by show 1 ≤ c; omega, by show c ≤ 4; omega, by show 1 ≤ c; omega, hq5.congr (mw_o (by omega)) (fun j _ => mw_o (by omega)) (fun j _ => mw_o (by omega)) (fun j k _ _ => mw_o (by omega))⟩
                  have hJ5 := mI_push hJ3 (by omega) mw_e hx5 (fun a j x => by rw [mw_o (by omega), hf5 a j (by omega) (by omega) (by omega), hf4 a j (by omega)])
                  have h95 : MT ((cn_wi I5 155 7 (nI (xs.length + 1)))) (ns, xs ++ [(k, c, false, [((ns.getD k nd0).2.2, nI 0)])], (ps, pn)) [nI 1] T := ⟨hN3.congr (fun a j x => by rw [mw_o (by omega)]; exact hfa a j (by omega)), hJ5, h93.2.2.1.congr (fun a j x => by rw [mw_o (by omega)]; exact hfa a j (by omega)), hp, h93.2.2.2.2.congr (by rw [mw_o (by omega)]; exact hfa _ _ (by omega)) (fun j => by rw [mw_o (by omega)]; exact hfa _ _ (by omega))⟩
                  have hv5 : fV I ((cn_wi I5 155 7 (nI (xs.length + 1)))) := hv3.tr (fun a j x => by rw [mw_o (by omega)]; exact hfa a j (by omega))
                  refine c_M_code hm (by omega) (fun I9 ho9 hf9 => ?_)
                  show cn_V l en mi_M_watch d 0 0 S I9 P Q 170 [(0, .ref 155), (1, .int (nI (c))), (2, .int (g.getD (p1 g + 1) 0))] []
                  refine cn_aload_n (pc' := 171) (k := 0) rfl rfl d_M_watch_170 rfl ?_
                  refine cn_aload_n (pc' := 172) (k := 0) rfl rfl d_M_watch_171 rfl ?_
                  refine cn_getIv (pc' := 175) (v := nI (xs.length + 1)) ((hf9 155 7 (by omega) (by omega)).trans mw_e) fl_M_82 hm.1 rfl d_M_watch_172 rfl ?_
                  refine cn_iconst (pc' := 176) k_c_1 d_M_watch_175 rfl ?_
                  refine cn_isub_n (pc' := 177) (by omega) d_M_watch_176 rfl ?_
                  refine cn_callV (pc' := 180) (kc1 := 0) (ks1 := 0) (kc2 := 0) (ks2 := 0) (rest := []) (lvj := [(0, .ref 155), (1, .int (nI ((xs.length + 1) - 1)))]) [.int (nI ((xs.length + 1) - 1))] mv_M_184 hm.1 rfl rfl rfl (Nat.le_of_ble_eq_true rfl) (Nat.le_of_ble_eq_true rfl) (by omega) (by omega) (by omega) d_M_watch_177 rfl ?_
                  rw [show xs.length + 1 - 1 = xs.length from rfl]
                  refine c_M_say hm ho9 (by decide) (fun I8 ho8 hf8 => ?_)
                  show cn_V l en mi_M_watch d 0 0 S I8 P Q 180 [(0, .ref 155), (1, .int (nI (c))), (2, .int (g.getD (p1 g + 1) 0))] []
                  refine cn_vret rfl d_M_watch_180 ?_
                  have ed : vdx ns (rnm g 1) = some k := by unfold vdx; rw [hnx]; dsimp only; rw [if_pos (tn_1 hc38)]
                  have eo : decide (¬ g.getD (p1 g + 1) 0 = 0) = false := decide_eq_false (fun h => h hc123)
                  have e : sp_watch (ns, xs, (ps, pn)) g = (nI 0, [nI xs.length], ns, xs ++ [(k, c, false, [((ns.getD k nd0).2.2, nI 0)])], (ps, pn)) := by unfold sp_watch; rw [if_pos (tn_1 hc18)]; dsimp only; rw [ed]; dsimp only; rw [if_neg hc64, eo, hcc, hca]
                  rw [e] at K
                  exact K I8 ((h95.out hf9 ho9).out hf8 ho8) (hv5.tr (hf9.toV.tr hf8.toV))
                · refine cn_iconst (pc' := 127) k_c_1 d_M_watch_126 rfl ?_
                  refine cn_goto (tgt := 131) d_M_watch_127 (by decide) ?_
                  refine cn_zast (pc' := 132) (hm.2.2 163 2 6 rfl) (by omega) (by decide) d_M_watch_131 rfl ?_
                  rw [show vp_nar .boolean (nI (1)) = nI (1) from rfl]
                  refine cn_aload_n (pc' := 133) (k := 0) rfl rfl d_M_watch_132 rfl ?_
                  refine cn_getP (pc' := 136) (b := 164) (hm.2.1 11 164 rfl) fl_M_39 hm.1 rfl d_M_watch_133 rfl ?_
                  refine cn_aload_n (pc' := 137) (k := 0) rfl rfl d_M_watch_136 rfl ?_
                  refine cn_getIv (pc' := 140) (v := nI (xs.length)) (mw_a (by decide) (mw_a (by decide) (mw_a (by decide) hJ3.1))) fl_M_82 hm.1 rfl d_M_watch_137 rfl ?_
                  refine cn_iconst (pc' := 141) k_c_0 d_M_watch_140 rfl ?_
                  refine cn_iast (pc' := 142) (hm.2.2 164 0 6 rfl) (by omega) (by decide) d_M_watch_141 rfl ?_
                  refine cn_aload_n (pc' := 143) (k := 0) rfl rfl d_M_watch_142 rfl ?_
                  refine cn_aload_n (pc' := 144) (k := 0) rfl rfl d_M_watch_143 rfl ?_
                  refine cn_getIv (pc' := 147) (v := nI (xs.length)) (mw_a (by decide) (mw_a (by decide) (mw_a (by decide) (mw_a (by decide) hJ3.1)))) fl_M_82 hm.1 rfl d_M_watch_144 rfl ?_
                  refine cn_aload_n (pc' := 148) (k := 0) rfl rfl d_M_watch_147 rfl ?_
                  refine cn_getIv (pc' := 151) (v := nI (k)) (mw_a (by decide) (mw_a (by decide) (mw_a (by decide) (mw_a (by decide) (h39.trans hnv))))) fl_M_168 hm.1 rfl d_M_watch_148 rfl ?_
                  refine cn_iconst (pc' := 152) k_c_0 d_M_watch_151 rfl ?_
                  refine cn_callV (pc' := 155) (kc1 := 0) (ks1 := 0) (kc2 := 0) (ks2 := 0) (rest := []) (lvj := [(0, .ref 155), (1, .int (nI (xs.length))), (2, .int (nI (k))), (3, .int (nI (0)))]) [.int (nI (xs.length)), .int (nI (k)), .int (nI (0))] mv_M_121 hm.1 rfl rfl rfl (Nat.le_of_ble_eq_true rfl) (Nat.le_of_ble_eq_true rfl) (by omega) (by omega) (by omega) d_M_watch_152 rfl ?_
                  have hca : capo (nI c) = c := by unfold capo; rw [if_neg (fun h => absurd ((nI_ltI (by omega) (by omega)).mp h) (by omega)), if_neg (fun h => absurd ((nI_ltI (by omega) (by omega)).mp h) (by omega)), nI_clamp (by omega)]
                  have hf4 : ∀ a j, (a < 161 ∨ 164 < a ∨ j ≠ xs.length) → ((cn_wi (cn_wi (cn_wi (cn_wi I3 161 xs.length (nI (k))) 162 xs.length (nI (c))) 163 xs.length (nI (1))) 164 xs.length (nI (0)))) a j = I3 a j := fun a j x => by rw [mw_o (by omega), mw_o (by omega), mw_o (by omega), mw_o (by omega)]
                  have hq4 : mq ((cn_wi (cn_wi (cn_wi (cn_wi I3 161 xs.length (nI (k))) 162 xs.length (nI (c))) 163 xs.length (nI (1))) 164 xs.length (nI (0)))) xs.length [] := ⟨mw_e, Nat.zero_le _, fun j hj => absurd hj (Nat.not_lt_zero j)⟩
                  have g1 : ((cn_wi (cn_wi (cn_wi (cn_wi I3 161 xs.length (nI (k))) 162 xs.length (nI (c))) 163 xs.length (nI (1))) 164 xs.length (nI (0)))) 161 xs.length = nI k := (mw_a (by decide) (mw_a (by decide) (mw_a (by decide) mw_e)))
                  have g2 : ((cn_wi (cn_wi (cn_wi (cn_wi I3 161 xs.length (nI (k))) 162 xs.length (nI (c))) 163 xs.length (nI (1))) 164 xs.length (nI (0)))) 162 xs.length = nI c := (mw_a (by decide) (mw_a (by decide) mw_e))
                  have g3 : ((cn_wi (cn_wi (cn_wi (cn_wi I3 161 xs.length (nI (k))) 162 xs.length (nI (c))) 163 xs.length (nI (1))) 164 xs.length (nI (0)))) 163 xs.length = nI 1 := (mw_a (by decide) mw_e)
                  refine c_M_append (v := (ns.getD k nd0).2.2) hm (by omega) (by omega) hq4 (by decide) (by decide) ((hf4 _ _ (by omega)).trans b4) b5 (fun j hj => (hf4 _ _ (by omega)).trans (b6 j hj)) (fun I5 hq5 hf5 => ?_)
                  have hfa : ∀ a j, (a < 161 ∨ 167 < a) → I5 a j = I3 a j := fun a j x => (hf5 a j (by omega) (by omega) (by omega)).trans (hf4 a j (by omega))
                  show cn_V l en mi_M_watch d 0 0 S I5 P Q 155 [(0, .ref 155), (1, .int (nI (c))), (2, .int (g.getD (p1 g + 1) 0))] []
                  refine cn_aload_n (pc' := 156) (k := 0) rfl rfl d_M_watch_155 rfl ?_
                  refine cn_dup (pc' := 157) rfl d_M_watch_156 rfl ?_
                  refine cn_getIv (pc' := 160) (v := nI (xs.length)) ((hfa 155 7 (by omega)).trans hJ3.1) fl_M_82 hm.1 rfl d_M_watch_157 rfl ?_
                  refine cn_iconst (pc' := 161) k_c_1 d_M_watch_160 rfl ?_
                  refine cn_iadd_n (pc' := 162) d_M_watch_161 rfl ?_
                  refine cn_putI (pc' := 165) fl_M_82 hm.1 rfl rfl rfl rfl d_M_watch_162 rfl ?_
                  refine cn_aload_n (pc' := 166) (k := 0) rfl rfl d_M_watch_165 rfl ?_
                  refine cn_iconst (pc' := 167) k_c_0 d_M_watch_166 rfl ?_
                  refine cn_callV (pc' := 170) (kc1 := 0) (ks1 := 0) (kc2 := 0) (ks2 := 0) (rest := []) (lvj := [(0, .ref 155), (1, .int (nI (0)))]) [.int (nI (0))] mv_M_187 hm.1 rfl rfl rfl (Nat.le_of_ble_eq_true rfl) (Nat.le_of_ble_eq_true rfl) (by omega) (by omega) (by omega) d_M_watch_167 rfl ?_
                  have hx5 : mIt ((cn_wi I5 155 7 (nI (xs.length + 1)))) xs.length (k, c, true, [((ns.getD k nd0).2.2, nI 0)]) := ⟨mw_a (by decide) ((hf5 _ _ (by omega) (by omega) (by omega)).trans g1), by show k < 16; omega, mw_a (by decide) ((hf5 _ _ (by omega) (by omega) (by omega)).trans g2), mw_a (by decide) ((hf5 _ _ (by omega) (by omega) (by omega)).trans g3), by show 1 ≤ c; omega, by show c ≤ 4; omega, by show 1 ≤ c; omega, hq5.congr (mw_o (by omega)) (fun j _ => mw_o (by omega)) (fun j _ => mw_o (by omega)) (fun j k _ _ => mw_o (by omega))⟩
                  have hJ5 := mI_push hJ3 (by omega) mw_e hx5 (fun a j x => by rw [mw_o (by omega), hf5 a j (by omega) (by omega) (by omega), hf4 a j (by omega)])
                  have h95 : MT ((cn_wi I5 155 7 (nI (xs.length + 1)))) (ns, xs ++ [(k, c, true, [((ns.getD k nd0).2.2, nI 0)])], (ps, pn)) [nI 1] T := ⟨hN3.congr (fun a j x => by rw [mw_o (by omega)]; exact hfa a j (by omega)), hJ5, h93.2.2.1.congr (fun a j x => by rw [mw_o (by omega)]; exact hfa a j (by omega)), hp, h93.2.2.2.2.congr (by rw [mw_o (by omega)]; exact hfa _ _ (by omega)) (fun j => by rw [mw_o (by omega)]; exact hfa _ _ (by omega))⟩
                  have hv5 : fV I ((cn_wi I5 155 7 (nI (xs.length + 1)))) := hv3.tr (fun a j x => by rw [mw_o (by omega)]; exact hfa a j (by omega))
                  refine c_M_code hm (by omega) (fun I9 ho9 hf9 => ?_)
                  show cn_V l en mi_M_watch d 0 0 S I9 P Q 170 [(0, .ref 155), (1, .int (nI (c))), (2, .int (g.getD (p1 g + 1) 0))] []
                  refine cn_aload_n (pc' := 171) (k := 0) rfl rfl d_M_watch_170 rfl ?_
                  refine cn_aload_n (pc' := 172) (k := 0) rfl rfl d_M_watch_171 rfl ?_
                  refine cn_getIv (pc' := 175) (v := nI (xs.length + 1)) ((hf9 155 7 (by omega) (by omega)).trans mw_e) fl_M_82 hm.1 rfl d_M_watch_172 rfl ?_
                  refine cn_iconst (pc' := 176) k_c_1 d_M_watch_175 rfl ?_
                  refine cn_isub_n (pc' := 177) (by omega) d_M_watch_176 rfl ?_
                  refine cn_callV (pc' := 180) (kc1 := 0) (ks1 := 0) (kc2 := 0) (ks2 := 0) (rest := []) (lvj := [(0, .ref 155), (1, .int (nI ((xs.length + 1) - 1)))]) [.int (nI ((xs.length + 1) - 1))] mv_M_184 hm.1 rfl rfl rfl (Nat.le_of_ble_eq_true rfl) (Nat.le_of_ble_eq_true rfl) (by omega) (by omega) (by omega) d_M_watch_177 rfl ?_
                  rw [show xs.length + 1 - 1 = xs.length from rfl]
                  refine c_M_say hm ho9 (by decide) (fun I8 ho8 hf8 => ?_)
                  show cn_V l en mi_M_watch d 0 0 S I8 P Q 180 [(0, .ref 155), (1, .int (nI (c))), (2, .int (g.getD (p1 g + 1) 0))] []
                  refine cn_vret rfl d_M_watch_180 ?_
                  have ed : vdx ns (rnm g 1) = some k := by unfold vdx; rw [hnx]; dsimp only; rw [if_pos (tn_1 hc38)]
                  have eo : decide (¬ g.getD (p1 g + 1) 0 = 0) = true := decide_eq_true hc123
                  have e : sp_watch (ns, xs, (ps, pn)) g = (nI 0, [nI xs.length], ns, xs ++ [(k, c, true, [((ns.getD k nd0).2.2, nI 0)])], (ps, pn)) := by unfold sp_watch; rw [if_pos (tn_1 hc18)]; dsimp only; rw [ed]; dsimp only; rw [if_neg hc64, eo, hcc, hca]
                  rw [e] at K
                  exact K I8 ((h95.out hf9 ho9).out hf8 ho8) (hv5.tr (hf9.toV.tr hf8.toV))
              · refine cn_iconst (pc' := 109) k_c_4 d_M_watch_108 rfl ?_
                refine cn_goto (tgt := 113) d_M_watch_109 (by decide) ?_
                refine cn_iast (pc' := 114) (hm.2.2 162 0 6 rfl) (by omega) (by decide) d_M_watch_113 rfl ?_
                refine cn_aload_n (pc' := 115) (k := 0) rfl rfl d_M_watch_114 rfl ?_
                refine cn_getP (pc' := 118) (b := 163) (hm.2.1 10 163 rfl) fl_M_36 hm.1 rfl d_M_watch_115 rfl ?_
                refine cn_aload_n (pc' := 119) (k := 0) rfl rfl d_M_watch_118 rfl ?_
                refine cn_getIv (pc' := 122) (v := nI (xs.length)) (mw_a (by decide) (mw_a (by decide) hJ3.1)) fl_M_82 hm.1 rfl d_M_watch_119 rfl ?_
                refine cn_iload_n (pc' := 123) (k := 2) rfl rfl d_M_watch_122 rfl ?_
                refine cn_if_eq (tgt := 130) (pc' := 126) d_M_watch_123 (by decide) rfl (fun hc123 => ?_) (fun hc123 => ?_)
                · refine cn_iconst (pc' := 131) k_c_0 d_M_watch_130 rfl ?_
                  refine cn_zast (pc' := 132) (hm.2.2 163 2 6 rfl) (by omega) (by decide) d_M_watch_131 rfl ?_
                  rw [show vp_nar .boolean (nI (0)) = nI (0) from rfl]
                  refine cn_aload_n (pc' := 133) (k := 0) rfl rfl d_M_watch_132 rfl ?_
                  refine cn_getP (pc' := 136) (b := 164) (hm.2.1 11 164 rfl) fl_M_39 hm.1 rfl d_M_watch_133 rfl ?_
                  refine cn_aload_n (pc' := 137) (k := 0) rfl rfl d_M_watch_136 rfl ?_
                  refine cn_getIv (pc' := 140) (v := nI (xs.length)) (mw_a (by decide) (mw_a (by decide) (mw_a (by decide) hJ3.1))) fl_M_82 hm.1 rfl d_M_watch_137 rfl ?_
                  refine cn_iconst (pc' := 141) k_c_0 d_M_watch_140 rfl ?_
                  refine cn_iast (pc' := 142) (hm.2.2 164 0 6 rfl) (by omega) (by decide) d_M_watch_141 rfl ?_
                  refine cn_aload_n (pc' := 143) (k := 0) rfl rfl d_M_watch_142 rfl ?_
                  refine cn_aload_n (pc' := 144) (k := 0) rfl rfl d_M_watch_143 rfl ?_
                  refine cn_getIv (pc' := 147) (v := nI (xs.length)) (mw_a (by decide) (mw_a (by decide) (mw_a (by decide) (mw_a (by decide) hJ3.1)))) fl_M_82 hm.1 rfl d_M_watch_144 rfl ?_
                  refine cn_aload_n (pc' := 148) (k := 0) rfl rfl d_M_watch_147 rfl ?_
                  refine cn_getIv (pc' := 151) (v := nI (k)) (mw_a (by decide) (mw_a (by decide) (mw_a (by decide) (mw_a (by decide) (h39.trans hnv))))) fl_M_168 hm.1 rfl d_M_watch_148 rfl ?_
                  refine cn_iconst (pc' := 152) k_c_0 d_M_watch_151 rfl ?_
                  refine cn_callV (pc' := 155) (kc1 := 0) (ks1 := 0) (kc2 := 0) (ks2 := 0) (rest := []) (lvj := [(0, .ref 155), (1, .int (nI (xs.length))), (2, .int (nI (k))), (3, .int (nI (0)))]) [.int (nI (xs.length)), .int (nI (k)), .int (nI (0))] mv_M_121 hm.1 rfl rfl rfl (Nat.le_of_ble_eq_true rfl) (Nat.le_of_ble_eq_true rfl) (by omega) (by omega) (by omega) d_M_watch_152 rfl ?_
                  have hca : capo (nI c) = 4 := by unfold capo; rw [if_neg (fun h => absurd ((nI_ltI (by omega) (by omega)).mp h) (by omega)), if_pos ((nI_ltI (by omega) (by omega)).mpr (by omega))]
                  have hf4 : ∀ a j, (a < 161 ∨ 164 < a ∨ j ≠ xs.length) → ((cn_wi (cn_wi (cn_wi (cn_wi I3 161 xs.length (nI (k))) 162 xs.length (nI (4))) 163 xs.length (nI (0))) 164 xs.length (nI (0)))) a j = I3 a j := fun a j x => by rw [mw_o (by omega), mw_o (by omega), mw_o (by omega), mw_o (by omega)]
                  have hq4 : mq ((cn_wi (cn_wi (cn_wi (cn_wi I3 161 xs.length (nI (k))) 162 xs.length (nI (4))) 163 xs.length (nI (0))) 164 xs.length (nI (0)))) xs.length [] := ⟨mw_e, Nat.zero_le _, fun j hj => absurd hj (Nat.not_lt_zero j)⟩
                  have g1 : ((cn_wi (cn_wi (cn_wi (cn_wi I3 161 xs.length (nI (k))) 162 xs.length (nI (4))) 163 xs.length (nI (0))) 164 xs.length (nI (0)))) 161 xs.length = nI k := (mw_a (by decide) (mw_a (by decide) (mw_a (by decide) mw_e)))
                  have g2 : ((cn_wi (cn_wi (cn_wi (cn_wi I3 161 xs.length (nI (k))) 162 xs.length (nI (4))) 163 xs.length (nI (0))) 164 xs.length (nI (0)))) 162 xs.length = nI 4 := (mw_a (by decide) (mw_a (by decide) mw_e))
                  have g3 : ((cn_wi (cn_wi (cn_wi (cn_wi I3 161 xs.length (nI (k))) 162 xs.length (nI (4))) 163 xs.length (nI (0))) 164 xs.length (nI (0)))) 163 xs.length = nI 0 := (mw_a (by decide) mw_e)
                  refine c_M_append (v := (ns.getD k nd0).2.2) hm (by omega) (by omega) hq4 (by decide) (by decide) ((hf4 _ _ (by omega)).trans b4) b5 (fun j hj => (hf4 _ _ (by omega)).trans (b6 j hj)) (fun I5 hq5 hf5 => ?_)
                  have hfa : ∀ a j, (a < 161 ∨ 167 < a) → I5 a j = I3 a j := fun a j x => (hf5 a j (by omega) (by omega) (by omega)).trans (hf4 a j (by omega))
                  show cn_V l en mi_M_watch d 0 0 S I5 P Q 155 [(0, .ref 155), (1, .int (nI (c))), (2, .int (g.getD (p1 g + 1) 0))] []
                  refine cn_aload_n (pc' := 156) (k := 0) rfl rfl d_M_watch_155 rfl ?_
                  refine cn_dup (pc' := 157) rfl d_M_watch_156 rfl ?_
                  refine cn_getIv (pc' := 160) (v := nI (xs.length)) ((hfa 155 7 (by omega)).trans hJ3.1) fl_M_82 hm.1 rfl d_M_watch_157 rfl ?_
                  refine cn_iconst (pc' := 161) k_c_1 d_M_watch_160 rfl ?_
                  refine cn_iadd_n (pc' := 162) d_M_watch_161 rfl ?_
                  refine cn_putI (pc' := 165) fl_M_82 hm.1 rfl rfl rfl rfl d_M_watch_162 rfl ?_
                  refine cn_aload_n (pc' := 166) (k := 0) rfl rfl d_M_watch_165 rfl ?_
                  refine cn_iconst (pc' := 167) k_c_0 d_M_watch_166 rfl ?_
                  refine cn_callV (pc' := 170) (kc1 := 0) (ks1 := 0) (kc2 := 0) (ks2 := 0) (rest := []) (lvj := [(0, .ref 155), (1, .int (nI (0)))]) [.int (nI (0))] mv_M_187 hm.1 rfl rfl rfl (Nat.le_of_ble_eq_true rfl) (Nat.le_of_ble_eq_true rfl) (by omega) (by omega) (by omega) d_M_watch_167 rfl ?_
                  have hx5 : mIt ((cn_wi I5 155 7 (nI (xs.length + 1)))) xs.length (k, 4, false, [((ns.getD k nd0).2.2, nI 0)]) := ⟨mw_a (by decide) ((hf5 _ _ (by omega) (by omega) (by omega)).trans g1), by show k < 16; omega, mw_a (by decide) ((hf5 _ _ (by omega) (by omega) (by omega)).trans g2), mw_a (by decide) ((hf5 _ _ (by omega) (by omega) (by omega)).trans g3), by show 1 ≤ 4; omega, by show 4 ≤ 4; omega, by show 1 ≤ 4; omega, hq5.congr (mw_o (by omega)) (fun j _ => mw_o (by omega)) (fun j _ => mw_o (by omega)) (fun j k _ _ => mw_o (by omega))⟩
                  have hJ5 := mI_push hJ3 (by omega) mw_e hx5 (fun a j x => by rw [mw_o (by omega), hf5 a j (by omega) (by omega) (by omega), hf4 a j (by omega)])
                  have h95 : MT ((cn_wi I5 155 7 (nI (xs.length + 1)))) (ns, xs ++ [(k, 4, false, [((ns.getD k nd0).2.2, nI 0)])], (ps, pn)) [nI 1] T := ⟨hN3.congr (fun a j x => by rw [mw_o (by omega)]; exact hfa a j (by omega)), hJ5, h93.2.2.1.congr (fun a j x => by rw [mw_o (by omega)]; exact hfa a j (by omega)), hp, h93.2.2.2.2.congr (by rw [mw_o (by omega)]; exact hfa _ _ (by omega)) (fun j => by rw [mw_o (by omega)]; exact hfa _ _ (by omega))⟩
                  have hv5 : fV I ((cn_wi I5 155 7 (nI (xs.length + 1)))) := hv3.tr (fun a j x => by rw [mw_o (by omega)]; exact hfa a j (by omega))
                  refine c_M_code hm (by omega) (fun I9 ho9 hf9 => ?_)
                  show cn_V l en mi_M_watch d 0 0 S I9 P Q 170 [(0, .ref 155), (1, .int (nI (c))), (2, .int (g.getD (p1 g + 1) 0))] []
                  refine cn_aload_n (pc' := 171) (k := 0) rfl rfl d_M_watch_170 rfl ?_
                  refine cn_aload_n (pc' := 172) (k := 0) rfl rfl d_M_watch_171 rfl ?_
                  refine cn_getIv (pc' := 175) (v := nI (xs.length + 1)) ((hf9 155 7 (by omega) (by omega)).trans mw_e) fl_M_82 hm.1 rfl d_M_watch_172 rfl ?_
                  refine cn_iconst (pc' := 176) k_c_1 d_M_watch_175 rfl ?_
                  refine cn_isub_n (pc' := 177) (by omega) d_M_watch_176 rfl ?_
                  refine cn_callV (pc' := 180) (kc1 := 0) (ks1 := 0) (kc2 := 0) (ks2 := 0) (rest := []) (lvj := [(0, .ref 155), (1, .int (nI ((xs.length + 1) - 1)))]) [.int (nI ((xs.length + 1) - 1))] mv_M_184 hm.1 rfl rfl rfl (Nat.le_of_ble_eq_true rfl) (Nat.le_of_ble_eq_true rfl) (by omega) (by omega) (by omega) d_M_watch_177 rfl ?_
                  rw [show xs.length + 1 - 1 = xs.length from rfl]
                  refine c_M_say hm ho9 (by decide) (fun I8 ho8 hf8 => ?_)
                  show cn_V l en mi_M_watch d 0 0 S I8 P Q 180 [(0, .ref 155), (1, .int (nI (c))), (2, .int (g.getD (p1 g + 1) 0))] []
                  refine cn_vret rfl d_M_watch_180 ?_
                  have ed : vdx ns (rnm g 1) = some k := by unfold vdx; rw [hnx]; dsimp only; rw [if_pos (tn_1 hc38)]
                  have eo : decide (¬ g.getD (p1 g + 1) 0 = 0) = false := decide_eq_false (fun h => h hc123)
                  have e : sp_watch (ns, xs, (ps, pn)) g = (nI 0, [nI xs.length], ns, xs ++ [(k, 4, false, [((ns.getD k nd0).2.2, nI 0)])], (ps, pn)) := by unfold sp_watch; rw [if_pos (tn_1 hc18)]; dsimp only; rw [ed]; dsimp only; rw [if_neg hc64, eo, hcc, hca]
                  rw [e] at K
                  exact K I8 ((h95.out hf9 ho9).out hf8 ho8) (hv5.tr (hf9.toV.tr hf8.toV))
                · refine cn_iconst (pc' := 127) k_c_1 d_M_watch_126 rfl ?_
                  refine cn_goto (tgt := 131) d_M_watch_127 (by decide) ?_
                  refine cn_zast (pc' := 132) (hm.2.2 163 2 6 rfl) (by omega) (by decide) d_M_watch_131 rfl ?_
                  rw [show vp_nar .boolean (nI (1)) = nI (1) from rfl]
                  refine cn_aload_n (pc' := 133) (k := 0) rfl rfl d_M_watch_132 rfl ?_
                  refine cn_getP (pc' := 136) (b := 164) (hm.2.1 11 164 rfl) fl_M_39 hm.1 rfl d_M_watch_133 rfl ?_
                  refine cn_aload_n (pc' := 137) (k := 0) rfl rfl d_M_watch_136 rfl ?_
                  refine cn_getIv (pc' := 140) (v := nI (xs.length)) (mw_a (by decide) (mw_a (by decide) (mw_a (by decide) hJ3.1))) fl_M_82 hm.1 rfl d_M_watch_137 rfl ?_
                  refine cn_iconst (pc' := 141) k_c_0 d_M_watch_140 rfl ?_
                  refine cn_iast (pc' := 142) (hm.2.2 164 0 6 rfl) (by omega) (by decide) d_M_watch_141 rfl ?_
                  refine cn_aload_n (pc' := 143) (k := 0) rfl rfl d_M_watch_142 rfl ?_
                  refine cn_aload_n (pc' := 144) (k := 0) rfl rfl d_M_watch_143 rfl ?_
                  refine cn_getIv (pc' := 147) (v := nI (xs.length)) (mw_a (by decide) (mw_a (by decide) (mw_a (by decide) (mw_a (by decide) hJ3.1)))) fl_M_82 hm.1 rfl d_M_watch_144 rfl ?_
                  refine cn_aload_n (pc' := 148) (k := 0) rfl rfl d_M_watch_147 rfl ?_
                  refine cn_getIv (pc' := 151) (v := nI (k)) (mw_a (by decide) (mw_a (by decide) (mw_a (by decide) (mw_a (by decide) (h39.trans hnv))))) fl_M_168 hm.1 rfl d_M_watch_148 rfl ?_
                  refine cn_iconst (pc' := 152) k_c_0 d_M_watch_151 rfl ?_
                  refine cn_callV (pc' := 155) (kc1 := 0) (ks1 := 0) (kc2 := 0) (ks2 := 0) (rest := []) (lvj := [(0, .ref 155), (1, .int (nI (xs.length))), (2, .int (nI (k))), (3, .int (nI (0)))]) [.int (nI (xs.length)), .int (nI (k)), .int (nI (0))] mv_M_121 hm.1 rfl rfl rfl (Nat.le_of_ble_eq_true rfl) (Nat.le_of_ble_eq_true rfl) (by omega) (by omega) (by omega) d_M_watch_152 rfl ?_
                  have hca : capo (nI c) = 4 := by unfold capo; rw [if_neg (fun h => absurd ((nI_ltI (by omega) (by omega)).mp h) (by omega)), if_pos ((nI_ltI (by omega) (by omega)).mpr (by omega))]
                  have hf4 : ∀ a j, (a < 161 ∨ 164 < a ∨ j ≠ xs.length) → ((cn_wi (cn_wi (cn_wi (cn_wi I3 161 xs.length (nI (k))) 162 xs.length (nI (4))) 163 xs.length (nI (1))) 164 xs.length (nI (0)))) a j = I3 a j := fun a j x => by rw [mw_o (by omega), mw_o (by omega), mw_o (by omega), mw_o (by omega)]
                  have hq4 : mq ((cn_wi (cn_wi (cn_wi (cn_wi I3 161 xs.length (nI (k))) 162 xs.length (nI (4))) 163 xs.length (nI (1))) 164 xs.length (nI (0)))) xs.length [] := ⟨mw_e, Nat.zero_le _, fun j hj => absurd hj (Nat.not_lt_zero j)⟩
                  have g1 : ((cn_wi (cn_wi (cn_wi (cn_wi I3 161 xs.length (nI (k))) 162 xs.length (nI (4))) 163 xs.length (nI (1))) 164 xs.length (nI (0)))) 161 xs.length = nI k := (mw_a (by decide) (mw_a (by decide) (mw_a (by decide) mw_e)))
                  have g2 : ((cn_wi (cn_wi (cn_wi (cn_wi I3 161 xs.length (nI (k))) 162 xs.length (nI (4))) 163 xs.length (nI (1))) 164 xs.length (nI (0)))) 162 xs.length = nI 4 := (mw_a (by decide) (mw_a (by decide) mw_e))
                  have g3 : ((cn_wi (cn_wi (cn_wi (cn_wi I3 161 xs.length (nI (k))) 162 xs.length (nI (4))) 163 xs.length (nI (1))) 164 xs.length (nI (0)))) 163 xs.length = nI 1 := (mw_a (by decide) mw_e)
                  refine c_M_append (v := (ns.getD k nd0).2.2) hm (by omega) (by omega) hq4 (by decide) (by decide) ((hf4 _ _ (by omega)).trans b4) b5 (fun j hj => (hf4 _ _ (by omega)).trans (b6 j hj)) (fun I5 hq5 hf5 => ?_)
                  have hfa : ∀ a j, (a < 161 ∨ 167 < a) → I5 a j = I3 a j := fun a j x => (hf5 a j (by omega) (by omega) (by omega)).trans (hf4 a j (by omega))
                  show cn_V l en mi_M_watch d 0 0 S I5 P Q 155 [(0, .ref 155), (1, .int (nI (c))), (2, .int (g.getD (p1 g + 1) 0))] []
                  refine cn_aload_n (pc' := 156) (k := 0) rfl rfl d_M_watch_155 rfl ?_
                  refine cn_dup (pc' := 157) rfl d_M_watch_156 rfl ?_
                  refine cn_getIv (pc' := 160) (v := nI (xs.length)) ((hfa 155 7 (by omega)).trans hJ3.1) fl_M_82 hm.1 rfl d_M_watch_157 rfl ?_
                  refine cn_iconst (pc' := 161) k_c_1 d_M_watch_160 rfl ?_
                  refine cn_iadd_n (pc' := 162) d_M_watch_161 rfl ?_
                  refine cn_putI (pc' := 165) fl_M_82 hm.1 rfl rfl rfl rfl d_M_watch_162 rfl ?_
                  refine cn_aload_n (pc' := 166) (k := 0) rfl rfl d_M_watch_165 rfl ?_
                  refine cn_iconst (pc' := 167) k_c_0 d_M_watch_166 rfl ?_
                  refine cn_callV (pc' := 170) (kc1 := 0) (ks1 := 0) (kc2 := 0) (ks2 := 0) (rest := []) (lvj := [(0, .ref 155), (1, .int (nI (0)))]) [.int (nI (0))] mv_M_187 hm.1 rfl rfl rfl (Nat.le_of_ble_eq_true rfl) (Nat.le_of_ble_eq_true rfl) (by omega) (by omega) (by omega) d_M_watch_167 rfl ?_
                  have hx5 : mIt ((cn_wi I5 155 7 (nI (xs.length + 1)))) xs.length (k, 4, true, [((ns.getD k nd0).2.2, nI 0)]) := ⟨mw_a (by decide) ((hf5 _ _ (by omega) (by omega) (by omega)).trans g1), by show k < 16; omega, mw_a (by decide) ((hf5 _ _ (by omega) (by omega) (by omega)).trans g2), mw_a (by decide) ((hf5 _ _ (by omega) (by omega) (by omega)).trans g3), by show 1 ≤ 4; omega, by show 4 ≤ 4; omega, by show 1 ≤ 4; omega, hq5.congr (mw_o (by omega)) (fun j _ => mw_o (by omega)) (fun j _ => mw_o (by omega)) (fun j k _ _ => mw_o (by omega))⟩
                  have hJ5 := mI_push hJ3 (by omega) mw_e hx5 (fun a j x => by rw [mw_o (by omega), hf5 a j (by omega) (by omega) (by omega), hf4 a j (by omega)])
                  have h95 : MT ((cn_wi I5 155 7 (nI (xs.length + 1)))) (ns, xs ++ [(k, 4, true, [((ns.getD k nd0).2.2, nI 0)])], (ps, pn)) [nI 1] T := ⟨hN3.congr (fun a j x => by rw [mw_o (by omega)]; exact hfa a j (by omega)), hJ5, h93.2.2.1.congr (fun a j x => by rw [mw_o (by omega)]; exact hfa a j (by omega)), hp, h93.2.2.2.2.congr (by rw [mw_o (by omega)]; exact hfa _ _ (by omega)) (fun j => by rw [mw_o (by omega)]; exact hfa _ _ (by omega))⟩
                  have hv5 : fV I ((cn_wi I5 155 7 (nI (xs.length + 1)))) := hv3.tr (fun a j x => by rw [mw_o (by omega)]; exact hfa a j (by omega))
                  refine c_M_code hm (by omega) (fun I9 ho9 hf9 => ?_)
                  show cn_V l en mi_M_watch d 0 0 S I9 P Q 170 [(0, .ref 155), (1, .int (nI (c))), (2, .int (g.getD (p1 g + 1) 0))] []
                  refine cn_aload_n (pc' := 171) (k := 0) rfl rfl d_M_watch_170 rfl ?_
                  refine cn_aload_n (pc' := 172) (k := 0) rfl rfl d_M_watch_171 rfl ?_
                  refine cn_getIv (pc' := 175) (v := nI (xs.length + 1)) ((hf9 155 7 (by omega) (by omega)).trans mw_e) fl_M_82 hm.1 rfl d_M_watch_172 rfl ?_
                  refine cn_iconst (pc' := 176) k_c_1 d_M_watch_175 rfl ?_
                  refine cn_isub_n (pc' := 177) (by omega) d_M_watch_176 rfl ?_
                  refine cn_callV (pc' := 180) (kc1 := 0) (ks1 := 0) (kc2 := 0) (ks2 := 0) (rest := []) (lvj := [(0, .ref 155), (1, .int (nI ((xs.length + 1) - 1)))]) [.int (nI ((xs.length + 1) - 1))] mv_M_184 hm.1 rfl rfl rfl (Nat.le_of_ble_eq_true rfl) (Nat.le_of_ble_eq_true rfl) (by omega) (by omega) (by omega) d_M_watch_177 rfl ?_
                  rw [show xs.length + 1 - 1 = xs.length from rfl]
                  refine c_M_say hm ho9 (by decide) (fun I8 ho8 hf8 => ?_)
                  show cn_V l en mi_M_watch d 0 0 S I8 P Q 180 [(0, .ref 155), (1, .int (nI (c))), (2, .int (g.getD (p1 g + 1) 0))] []
                  refine cn_vret rfl d_M_watch_180 ?_
                  have ed : vdx ns (rnm g 1) = some k := by unfold vdx; rw [hnx]; dsimp only; rw [if_pos (tn_1 hc38)]
                  have eo : decide (¬ g.getD (p1 g + 1) 0 = 0) = true := decide_eq_true hc123
                  have e : sp_watch (ns, xs, (ps, pn)) g = (nI 0, [nI xs.length], ns, xs ++ [(k, 4, true, [((ns.getD k nd0).2.2, nI 0)])], (ps, pn)) := by unfold sp_watch; rw [if_pos (tn_1 hc18)]; dsimp only; rw [ed]; dsimp only; rw [if_neg hc64, eo, hcc, hca]
                  rw [e] at K
                  exact K I8 ((h95.out hf9 ho9).out hf8 ho8) (hv5.tr (hf9.toV.tr hf8.toV))
            · refine cn_iconst (pc' := 100) k_c_1 d_M_watch_99 rfl ?_
              refine cn_goto (tgt := 113) d_M_watch_100 (by decide) ?_
              refine cn_iast (pc' := 114) (hm.2.2 162 0 6 rfl) (by omega) (by decide) d_M_watch_113 rfl ?_
              refine cn_aload_n (pc' := 115) (k := 0) rfl rfl d_M_watch_114 rfl ?_
              refine cn_getP (pc' := 118) (b := 163) (hm.2.1 10 163 rfl) fl_M_36 hm.1 rfl d_M_watch_115 rfl ?_
              refine cn_aload_n (pc' := 119) (k := 0) rfl rfl d_M_watch_118 rfl ?_
              refine cn_getIv (pc' := 122) (v := nI (xs.length)) (mw_a (by decide) (mw_a (by decide) hJ3.1)) fl_M_82 hm.1 rfl d_M_watch_119 rfl ?_
              refine cn_iload_n (pc' := 123) (k := 2) rfl rfl d_M_watch_122 rfl ?_
              refine cn_if_eq (tgt := 130) (pc' := 126) d_M_watch_123 (by decide) rfl (fun hc123 => ?_) (fun hc123 => ?_)
              · refine cn_iconst (pc' := 131) k_c_0 d_M_watch_130 rfl ?_
                refine cn_zast (pc' := 132) (hm.2.2 163 2 6 rfl) (by omega) (by decide) d_M_watch_131 rfl ?_
                rw [show vp_nar .boolean (nI (0)) = nI (0) from rfl]
                refine cn_aload_n (pc' := 133) (k := 0) rfl rfl d_M_watch_132 rfl ?_
                refine cn_getP (pc' := 136) (b := 164) (hm.2.1 11 164 rfl) fl_M_39 hm.1 rfl d_M_watch_133 rfl ?_
                refine cn_aload_n (pc' := 137) (k := 0) rfl rfl d_M_watch_136 rfl ?_
                refine cn_getIv (pc' := 140) (v := nI (xs.length)) (mw_a (by decide) (mw_a (by decide) (mw_a (by decide) hJ3.1))) fl_M_82 hm.1 rfl d_M_watch_137 rfl ?_
                refine cn_iconst (pc' := 141) k_c_0 d_M_watch_140 rfl ?_
                refine cn_iast (pc' := 142) (hm.2.2 164 0 6 rfl) (by omega) (by decide) d_M_watch_141 rfl ?_
                refine cn_aload_n (pc' := 143) (k := 0) rfl rfl d_M_watch_142 rfl ?_
                refine cn_aload_n (pc' := 144) (k := 0) rfl rfl d_M_watch_143 rfl ?_
                refine cn_getIv (pc' := 147) (v := nI (xs.length)) (mw_a (by decide) (mw_a (by decide) (mw_a (by decide) (mw_a (by decide) hJ3.1)))) fl_M_82 hm.1 rfl d_M_watch_144 rfl ?_
                refine cn_aload_n (pc' := 148) (k := 0) rfl rfl d_M_watch_147 rfl ?_
                refine cn_getIv (pc' := 151) (v := nI (k)) (mw_a (by decide) (mw_a (by decide) (mw_a (by decide) (mw_a (by decide) (h39.trans hnv))))) fl_M_168 hm.1 rfl d_M_watch_148 rfl ?_
                refine cn_iconst (pc' := 152) k_c_0 d_M_watch_151 rfl ?_
                refine cn_callV (pc' := 155) (kc1 := 0) (ks1 := 0) (kc2 := 0) (ks2 := 0) (rest := []) (lvj := [(0, .ref 155), (1, .int (nI (xs.length))), (2, .int (nI (k))), (3, .int (nI (0)))]) [.int (nI (xs.length)), .int (nI (k)), .int (nI (0))] mv_M_121 hm.1 rfl rfl rfl (Nat.le_of_ble_eq_true rfl) (Nat.le_of_ble_eq_true rfl) (by omega) (by omega) (by omega) d_M_watch_152 rfl ?_
                have hca : capo (nI c) = 1 := by unfold capo; rw [if_pos ((nI_ltI (by omega) (by omega)).mpr (by omega))]
                have hf4 : ∀ a j, (a < 161 ∨ 164 < a ∨ j ≠ xs.length) → ((cn_wi (cn_wi (cn_wi (cn_wi I3 161 xs.length (nI (k))) 162 xs.length (nI (1))) 163 xs.length (nI (0))) 164 xs.length (nI (0)))) a j = I3 a j := fun a j x => by rw [mw_o (by omega), mw_o (by omega), mw_o (by omega), mw_o (by omega)]
                have hq4 : mq ((cn_wi (cn_wi (cn_wi (cn_wi I3 161 xs.length (nI (k))) 162 xs.length (nI (1))) 163 xs.length (nI (0))) 164 xs.length (nI (0)))) xs.length [] := ⟨mw_e, Nat.zero_le _, fun j hj => absurd hj (Nat.not_lt_zero j)⟩
                have g1 : ((cn_wi (cn_wi (cn_wi (cn_wi I3 161 xs.length (nI (k))) 162 xs.length (nI (1))) 163 xs.length (nI (0))) 164 xs.length (nI (0)))) 161 xs.length = nI k := (mw_a (by decide) (mw_a (by decide) (mw_a (by decide) mw_e)))
                have g2 : ((cn_wi (cn_wi (cn_wi (cn_wi I3 161 xs.length (nI (k))) 162 xs.length (nI (1))) 163 xs.length (nI (0))) 164 xs.length (nI (0)))) 162 xs.length = nI 1 := (mw_a (by decide) (mw_a (by decide) mw_e))
                have g3 : ((cn_wi (cn_wi (cn_wi (cn_wi I3 161 xs.length (nI (k))) 162 xs.length (nI (1))) 163 xs.length (nI (0))) 164 xs.length (nI (0)))) 163 xs.length = nI 0 := (mw_a (by decide) mw_e)
                refine c_M_append (v := (ns.getD k nd0).2.2) hm (by omega) (by omega) hq4 (by decide) (by decide) ((hf4 _ _ (by omega)).trans b4) b5 (fun j hj => (hf4 _ _ (by omega)).trans (b6 j hj)) (fun I5 hq5 hf5 => ?_)
                have hfa : ∀ a j, (a < 161 ∨ 167 < a) → I5 a j = I3 a j := fun a j x => (hf5 a j (by omega) (by omega) (by omega)).trans (hf4 a j (by omega))
                show cn_V l en mi_M_watch d 0 0 S I5 P Q 155 [(0, .ref 155), (1, .int (nI (c))), (2, .int (g.getD (p1 g + 1) 0))] []
                refine cn_aload_n (pc' := 156) (k := 0) rfl rfl d_M_watch_155 rfl ?_
                refine cn_dup (pc' := 157) rfl d_M_watch_156 rfl ?_
                refine cn_getIv (pc' := 160) (v := nI (xs.length)) ((hfa 155 7 (by omega)).trans hJ3.1) fl_M_82 hm.1 rfl d_M_watch_157 rfl ?_
                refine cn_iconst (pc' := 161) k_c_1 d_M_watch_160 rfl ?_
                refine cn_iadd_n (pc' := 162) d_M_watch_161 rfl ?_
                refine cn_putI (pc' := 165) fl_M_82 hm.1 rfl rfl rfl rfl d_M_watch_162 rfl ?_
                refine cn_aload_n (pc' := 166) (k := 0) rfl rfl d_M_watch_165 rfl ?_
                refine cn_iconst (pc' := 167) k_c_0 d_M_watch_166 rfl ?_
                refine cn_callV (pc' := 170) (kc1 := 0) (ks1 := 0) (kc2 := 0) (ks2 := 0) (rest := []) (lvj := [(0, .ref 155), (1, .int (nI (0)))]) [.int (nI (0))] mv_M_187 hm.1 rfl rfl rfl (Nat.le_of_ble_eq_true rfl) (Nat.le_of_ble_eq_true rfl) (by omega) (by omega) (by omega) d_M_watch_167 rfl ?_
                have hx5 : mIt ((cn_wi I5 155 7 (nI (xs.length + 1)))) xs.length (k, 1, false, [((ns.getD k nd0).2.2, nI 0)]) := ⟨mw_a (by decide) ((hf5 _ _ (by omega) (by omega) (by omega)).trans g1), by show k < 16; omega, mw_a (by decide) ((hf5 _ _ (by omega) (by omega) (by omega)).trans g2), mw_a (by decide) ((hf5 _ _ (by omega) (by omega) (by omega)).trans g3), by show 1 ≤ 1; omega, by show 1 ≤ 4; omega, by show 1 ≤ 1; omega, hq5.congr (mw_o (by omega)) (fun j _ => mw_o (by omega)) (fun j _ => mw_o (by omega)) (fun j k _ _ => mw_o (by omega))⟩
                have hJ5 := mI_push hJ3 (by omega) mw_e hx5 (fun a j x => by rw [mw_o (by omega), hf5 a j (by omega) (by omega) (by omega), hf4 a j (by omega)])
                have h95 : MT ((cn_wi I5 155 7 (nI (xs.length + 1)))) (ns, xs ++ [(k, 1, false, [((ns.getD k nd0).2.2, nI 0)])], (ps, pn)) [nI 1] T := ⟨hN3.congr (fun a j x => by rw [mw_o (by omega)]; exact hfa a j (by omega)), hJ5, h93.2.2.1.congr (fun a j x => by rw [mw_o (by omega)]; exact hfa a j (by omega)), hp, h93.2.2.2.2.congr (by rw [mw_o (by omega)]; exact hfa _ _ (by omega)) (fun j => by rw [mw_o (by omega)]; exact hfa _ _ (by omega))⟩
                have hv5 : fV I ((cn_wi I5 155 7 (nI (xs.length + 1)))) := hv3.tr (fun a j x => by rw [mw_o (by omega)]; exact hfa a j (by omega))
                refine c_M_code hm (by omega) (fun I9 ho9 hf9 => ?_)
                show cn_V l en mi_M_watch d 0 0 S I9 P Q 170 [(0, .ref 155), (1, .int (nI (c))), (2, .int (g.getD (p1 g + 1) 0))] []
                refine cn_aload_n (pc' := 171) (k := 0) rfl rfl d_M_watch_170 rfl ?_
                refine cn_aload_n (pc' := 172) (k := 0) rfl rfl d_M_watch_171 rfl ?_
                refine cn_getIv (pc' := 175) (v := nI (xs.length + 1)) ((hf9 155 7 (by omega) (by omega)).trans mw_e) fl_M_82 hm.1 rfl d_M_watch_172 rfl ?_
                refine cn_iconst (pc' := 176) k_c_1 d_M_watch_175 rfl ?_
                refine cn_isub_n (pc' := 177) (by omega) d_M_watch_176 rfl ?_
                refine cn_callV (pc' := 180) (kc1 := 0) (ks1 := 0) (kc2 := 0) (ks2 := 0) (rest := []) (lvj := [(0, .ref 155), (1, .int (nI ((xs.length + 1) - 1)))]) [.int (nI ((xs.length + 1) - 1))] mv_M_184 hm.1 rfl rfl rfl (Nat.le_of_ble_eq_true rfl) (Nat.le_of_ble_eq_true rfl) (by omega) (by omega) (by omega) d_M_watch_177 rfl ?_
                rw [show xs.length + 1 - 1 = xs.length from rfl]
                refine c_M_say hm ho9 (by decide) (fun I8 ho8 hf8 => ?_)
                show cn_V l en mi_M_watch d 0 0 S I8 P Q 180 [(0, .ref 155), (1, .int (nI (c))), (2, .int (g.getD (p1 g + 1) 0))] []
                refine cn_vret rfl d_M_watch_180 ?_
                have ed : vdx ns (rnm g 1) = some k := by unfold vdx; rw [hnx]; dsimp only; rw [if_pos (tn_1 hc38)]
                have eo : decide (¬ g.getD (p1 g + 1) 0 = 0) = false := decide_eq_false (fun h => h hc123)
                have e : sp_watch (ns, xs, (ps, pn)) g = (nI 0, [nI xs.length], ns, xs ++ [(k, 1, false, [((ns.getD k nd0).2.2, nI 0)])], (ps, pn)) := by unfold sp_watch; rw [if_pos (tn_1 hc18)]; dsimp only; rw [ed]; dsimp only; rw [if_neg hc64, eo, hcc, hca]
                rw [e] at K
                exact K I8 ((h95.out hf9 ho9).out hf8 ho8) (hv5.tr (hf9.toV.tr hf8.toV))
              · refine cn_iconst (pc' := 127) k_c_1 d_M_watch_126 rfl ?_
                refine cn_goto (tgt := 131) d_M_watch_127 (by decide) ?_
                refine cn_zast (pc' := 132) (hm.2.2 163 2 6 rfl) (by omega) (by decide) d_M_watch_131 rfl ?_
                rw [show vp_nar .boolean (nI (1)) = nI (1) from rfl]
                refine cn_aload_n (pc' := 133) (k := 0) rfl rfl d_M_watch_132 rfl ?_
                refine cn_getP (pc' := 136) (b := 164) (hm.2.1 11 164 rfl) fl_M_39 hm.1 rfl d_M_watch_133 rfl ?_
                refine cn_aload_n (pc' := 137) (k := 0) rfl rfl d_M_watch_136 rfl ?_
                refine cn_getIv (pc' := 140) (v := nI (xs.length)) (mw_a (by decide) (mw_a (by decide) (mw_a (by decide) hJ3.1))) fl_M_82 hm.1 rfl d_M_watch_137 rfl ?_
                refine cn_iconst (pc' := 141) k_c_0 d_M_watch_140 rfl ?_
                refine cn_iast (pc' := 142) (hm.2.2 164 0 6 rfl) (by omega) (by decide) d_M_watch_141 rfl ?_
                refine cn_aload_n (pc' := 143) (k := 0) rfl rfl d_M_watch_142 rfl ?_
                refine cn_aload_n (pc' := 144) (k := 0) rfl rfl d_M_watch_143 rfl ?_
                refine cn_getIv (pc' := 147) (v := nI (xs.length)) (mw_a (by decide) (mw_a (by decide) (mw_a (by decide) (mw_a (by decide) hJ3.1)))) fl_M_82 hm.1 rfl d_M_watch_144 rfl ?_
                refine cn_aload_n (pc' := 148) (k := 0) rfl rfl d_M_watch_147 rfl ?_
                refine cn_getIv (pc' := 151) (v := nI (k)) (mw_a (by decide) (mw_a (by decide) (mw_a (by decide) (mw_a (by decide) (h39.trans hnv))))) fl_M_168 hm.1 rfl d_M_watch_148 rfl ?_
                refine cn_iconst (pc' := 152) k_c_0 d_M_watch_151 rfl ?_
                refine cn_callV (pc' := 155) (kc1 := 0) (ks1 := 0) (kc2 := 0) (ks2 := 0) (rest := []) (lvj := [(0, .ref 155), (1, .int (nI (xs.length))), (2, .int (nI (k))), (3, .int (nI (0)))]) [.int (nI (xs.length)), .int (nI (k)), .int (nI (0))] mv_M_121 hm.1 rfl rfl rfl (Nat.le_of_ble_eq_true rfl) (Nat.le_of_ble_eq_true rfl) (by omega) (by omega) (by omega) d_M_watch_152 rfl ?_
                have hca : capo (nI c) = 1 := by unfold capo; rw [if_pos ((nI_ltI (by omega) (by omega)).mpr (by omega))]
                have hf4 : ∀ a j, (a < 161 ∨ 164 < a ∨ j ≠ xs.length) → ((cn_wi (cn_wi (cn_wi (cn_wi I3 161 xs.length (nI (k))) 162 xs.length (nI (1))) 163 xs.length (nI (1))) 164 xs.length (nI (0)))) a j = I3 a j := fun a j x => by rw [mw_o (by omega), mw_o (by omega), mw_o (by omega), mw_o (by omega)]
                have hq4 : mq ((cn_wi (cn_wi (cn_wi (cn_wi I3 161 xs.length (nI (k))) 162 xs.length (nI (1))) 163 xs.length (nI (1))) 164 xs.length (nI (0)))) xs.length [] := ⟨mw_e, Nat.zero_le _, fun j hj => absurd hj (Nat.not_lt_zero j)⟩
                have g1 : ((cn_wi (cn_wi (cn_wi (cn_wi I3 161 xs.length (nI (k))) 162 xs.length (nI (1))) 163 xs.length (nI (1))) 164 xs.length (nI (0)))) 161 xs.length = nI k := (mw_a (by decide) (mw_a (by decide) (mw_a (by decide) mw_e)))
                have g2 : ((cn_wi (cn_wi (cn_wi (cn_wi I3 161 xs.length (nI (k))) 162 xs.length (nI (1))) 163 xs.length (nI (1))) 164 xs.length (nI (0)))) 162 xs.length = nI 1 := (mw_a (by decide) (mw_a (by decide) mw_e))
                have g3 : ((cn_wi (cn_wi (cn_wi (cn_wi I3 161 xs.length (nI (k))) 162 xs.length (nI (1))) 163 xs.length (nI (1))) 164 xs.length (nI (0)))) 163 xs.length = nI 1 := (mw_a (by decide) mw_e)
                refine c_M_append (v := (ns.getD k nd0).2.2) hm (by omega) (by omega) hq4 (by decide) (by decide) ((hf4 _ _ (by omega)).trans b4) b5 (fun j hj => (hf4 _ _ (by omega)).trans (b6 j hj)) (fun I5 hq5 hf5 => ?_)
                have hfa : ∀ a j, (a < 161 ∨ 167 < a) → I5 a j = I3 a j := fun a j x => (hf5 a j (by omega) (by omega) (by omega)).trans (hf4 a j (by omega))
                show cn_V l en mi_M_watch d 0 0 S I5 P Q 155 [(0, .ref 155), (1, .int (nI (c))), (2, .int (g.getD (p1 g + 1) 0))] []
                refine cn_aload_n (pc' := 156) (k := 0) rfl rfl d_M_watch_155 rfl ?_
                refine cn_dup (pc' := 157) rfl d_M_watch_156 rfl ?_
                refine cn_getIv (pc' := 160) (v := nI (xs.length)) ((hfa 155 7 (by omega)).trans hJ3.1) fl_M_82 hm.1 rfl d_M_watch_157 rfl ?_
                refine cn_iconst (pc' := 161) k_c_1 d_M_watch_160 rfl ?_
                refine cn_iadd_n (pc' := 162) d_M_watch_161 rfl ?_
                refine cn_putI (pc' := 165) fl_M_82 hm.1 rfl rfl rfl rfl d_M_watch_162 rfl ?_
                refine cn_aload_n (pc' := 166) (k := 0) rfl rfl d_M_watch_165 rfl ?_
                refine cn_iconst (pc' := 167) k_c_0 d_M_watch_166 rfl ?_
                refine cn_callV (pc' := 170) (kc1 := 0) (ks1 := 0) (kc2 := 0) (ks2 := 0) (rest := []) (lvj := [(0, .ref 155), (1, .int (nI (0)))]) [.int (nI (0))] mv_M_187 hm.1 rfl rfl rfl (Nat.le_of_ble_eq_true rfl) (Nat.le_of_ble_eq_true rfl) (by omega) (by omega) (by omega) d_M_watch_167 rfl ?_
                have hx5 : mIt ((cn_wi I5 155 7 (nI (xs.length + 1)))) xs.length (k, 1, true, [((ns.getD k nd0).2.2, nI 0)]) := ⟨mw_a (by decide) ((hf5 _ _ (by omega) (by omega) (by omega)).trans g1), by show k < 16; omega, mw_a (by decide) ((hf5 _ _ (by omega) (by omega) (by omega)).trans g2), mw_a (by decide) ((hf5 _ _ (by omega) (by omega) (by omega)).trans g3), by show 1 ≤ 1; omega, by show 1 ≤ 4; omega, by show 1 ≤ 1; omega, hq5.congr (mw_o (by omega)) (fun j _ => mw_o (by omega)) (fun j _ => mw_o (by omega)) (fun j k _ _ => mw_o (by omega))⟩
                have hJ5 := mI_push hJ3 (by omega) mw_e hx5 (fun a j x => by rw [mw_o (by omega), hf5 a j (by omega) (by omega) (by omega), hf4 a j (by omega)])
                have h95 : MT ((cn_wi I5 155 7 (nI (xs.length + 1)))) (ns, xs ++ [(k, 1, true, [((ns.getD k nd0).2.2, nI 0)])], (ps, pn)) [nI 1] T := ⟨hN3.congr (fun a j x => by rw [mw_o (by omega)]; exact hfa a j (by omega)), hJ5, h93.2.2.1.congr (fun a j x => by rw [mw_o (by omega)]; exact hfa a j (by omega)), hp, h93.2.2.2.2.congr (by rw [mw_o (by omega)]; exact hfa _ _ (by omega)) (fun j => by rw [mw_o (by omega)]; exact hfa _ _ (by omega))⟩
                have hv5 : fV I ((cn_wi I5 155 7 (nI (xs.length + 1)))) := hv3.tr (fun a j x => by rw [mw_o (by omega)]; exact hfa a j (by omega))
                refine c_M_code hm (by omega) (fun I9 ho9 hf9 => ?_)
                show cn_V l en mi_M_watch d 0 0 S I9 P Q 170 [(0, .ref 155), (1, .int (nI (c))), (2, .int (g.getD (p1 g + 1) 0))] []
                refine cn_aload_n (pc' := 171) (k := 0) rfl rfl d_M_watch_170 rfl ?_
                refine cn_aload_n (pc' := 172) (k := 0) rfl rfl d_M_watch_171 rfl ?_
                refine cn_getIv (pc' := 175) (v := nI (xs.length + 1)) ((hf9 155 7 (by omega) (by omega)).trans mw_e) fl_M_82 hm.1 rfl d_M_watch_172 rfl ?_
                refine cn_iconst (pc' := 176) k_c_1 d_M_watch_175 rfl ?_
                refine cn_isub_n (pc' := 177) (by omega) d_M_watch_176 rfl ?_
                refine cn_callV (pc' := 180) (kc1 := 0) (ks1 := 0) (kc2 := 0) (ks2 := 0) (rest := []) (lvj := [(0, .ref 155), (1, .int (nI ((xs.length + 1) - 1)))]) [.int (nI ((xs.length + 1) - 1))] mv_M_184 hm.1 rfl rfl rfl (Nat.le_of_ble_eq_true rfl) (Nat.le_of_ble_eq_true rfl) (by omega) (by omega) (by omega) d_M_watch_177 rfl ?_
                rw [show xs.length + 1 - 1 = xs.length from rfl]
                refine c_M_say hm ho9 (by decide) (fun I8 ho8 hf8 => ?_)
                show cn_V l en mi_M_watch d 0 0 S I8 P Q 180 [(0, .ref 155), (1, .int (nI (c))), (2, .int (g.getD (p1 g + 1) 0))] []
                refine cn_vret rfl d_M_watch_180 ?_
                have ed : vdx ns (rnm g 1) = some k := by unfold vdx; rw [hnx]; dsimp only; rw [if_pos (tn_1 hc38)]
                have eo : decide (¬ g.getD (p1 g + 1) 0 = 0) = true := decide_eq_true hc123
                have e : sp_watch (ns, xs, (ps, pn)) g = (nI 0, [nI xs.length], ns, xs ++ [(k, 1, true, [((ns.getD k nd0).2.2, nI 0)])], (ps, pn)) := by unfold sp_watch; rw [if_pos (tn_1 hc18)]; dsimp only; rw [ed]; dsimp only; rw [if_neg hc64, eo, hcc, hca]
                rw [e] at K
                exact K I8 ((h95.out hf9 ho9).out hf8 ho8) (hv5.tr (hf9.toV.tr hf8.toV))
          · refine cn_aload_n (pc' := 68) (k := 0) rfl rfl d_M_watch_67 rfl ?_
            refine cn_bipush (pc' := 70) k_b_6 d_M_watch_68 rfl ?_
            refine cn_callV (pc' := 73) (kc1 := 0) (ks1 := 0) (kc2 := 0) (ks2 := 0) (rest := []) (lvj := [(0, .ref 155), (1, .int (nI (6)))]) [.int (nI (6))] mv_M_187 hm.1 rfl rfl rfl (Nat.le_of_ble_eq_true rfl) (Nat.le_of_ble_eq_true rfl) (by omega) (by omega) (by omega) d_M_watch_70 rfl ?_
            refine c_M_code hm (by omega) (fun I9 ho9 hf9 => ?_)
            have h99 := h93.out hf9 ho9
            have hv9 : fV I I9 := (hv3).tr hf9.toV
            show cn_V l en mi_M_watch d 0 0 S I9 P Q 73 [(0, .ref 155), (1, .int (g.getD (p1 g) 0)), (2, .int (g.getD (p1 g + 1) 0))] []
            refine cn_vret rfl d_M_watch_73 ?_
            have ed : vdx ns (rnm g 1) = some k := by unfold vdx; rw [hnx]; dsimp only; rw [if_pos (tn_1 hc38)]
            have e : sp_watch (ns, xs, (ps, pn)) g = (nI 6, [], ns, xs, (ps, pn)) := by unfold sp_watch; rw [if_pos (tn_1 hc18)]; dsimp only; rw [ed]; dsimp only; rw [if_pos hc64]
            rw [e] at K
            exact K I9 h99 hv9
        · refine cn_aload_n (pc' := 42) (k := 0) rfl rfl d_M_watch_41 rfl ?_
          refine cn_aload_n (pc' := 43) (k := 0) rfl rfl d_M_watch_42 rfl ?_
          refine cn_getIv (pc' := 46) (v := nI (k)) (h39.trans hnv) fl_M_168 hm.1 rfl d_M_watch_43 rfl ?_
          refine cn_if_ge_n (tgt := 53) (pc' := 49) (by omega) d_M_watch_46 (by decide) rfl (fun hc46 => ?_) (fun hc46 => ?_)
          · refine cn_iconst (pc' := 54) k_c_4 d_M_watch_53 rfl ?_
            refine cn_callV (pc' := 57) (kc1 := 0) (ks1 := 0) (kc2 := 0) (ks2 := 0) (rest := []) (lvj := [(0, .ref 155), (1, .int (nI (4)))]) [.int (nI (4))] mv_M_187 hm.1 rfl rfl rfl (Nat.le_of_ble_eq_true rfl) (Nat.le_of_ble_eq_true rfl) (by omega) (by omega) (by omega) d_M_watch_54 rfl ?_
            refine c_M_code hm (by omega) (fun I9 ho9 hf9 => ?_)
            have h99 := h93.out hf9 ho9
            have hv9 : fV I I9 := (hv3).tr hf9.toV
            show cn_V l en mi_M_watch d 0 0 S I9 P Q 57 [(0, .ref 155), (1, .int (g.getD (p1 g) 0)), (2, .int (g.getD (p1 g + 1) 0))] []
            refine cn_vret rfl d_M_watch_57 ?_
            have ec : vcode ns (rnm g 1) = nI 4 := by unfold vcode; rw [hnx]; dsimp only; rw [if_neg (by rw [tn_0 hc38]; decide)]
            have ed : vdx ns (rnm g 1) = none := by unfold vdx; rw [hnx]; dsimp only; rw [if_neg (by rw [tn_0 hc38]; decide)]
            have e : sp_watch (ns, xs, (ps, pn)) g = (vcode ns (rnm g 1), [], ns, xs, (ps, pn)) := by unfold sp_watch; rw [if_pos (tn_1 hc18)]; dsimp only; rw [ed]
            rw [e, ec] at K
            exact K I9 h99 hv9
          · exact False.elim (by omega)
  · refine cn_vret rfl d_M_watch_21 ?_
    have e : sp_watch (ns, xs, (ps, pn)) g = (nI 1, [], ns, xs, (ps, pn)) := by unfold sp_watch; rw [if_neg (by rw [tn_0 hc18]; decide)]
    rw [e] at K
    exact K I3 h93 hv3
theorem c_M_find_loop {x : Int32} (hm : wM S P) (hS : mS I ps pn) (hp : pOK ps pn T) (K1 : ∀ k, k < ps.length → (ps.getD k pad).1 = x → (∀ j, j < ps.length → j ≠ k → (ps.getD j pad).1 ≠ x) → Q (some (.int (nI k))) S I P) (K0 : (∀ j, j < ps.length → (ps.getD j pad).1 ≠ x) → Q (some (.int (-1))) S I P) : ∀ (r i : Nat) (f : Int32), i + r = ps.length → ((f = -1 ∧ ∀ j, j < i → (ps.getD j pad).1 ≠ x) ∨ ∃ k, k < i ∧ f = nI k ∧ (ps.getD k pad).1 = x) → cn_V l en mi_M_find d 0 0 S I P Q 4 [(0, .ref 155), (1, .int x), (2, .int f), (3, .int (nI i))] [] := by
  have hl3 := hS.2.1
  intro r
  induction r with
  | zero =>
    intro i f hir hf
    refine cn_iload_n (pc' := 5) (k := 3) rfl rfl d_M_find_4 rfl ?_
    refine cn_aload_n (pc' := 6) (k := 0) rfl rfl d_M_find_5 rfl ?_
    refine cn_getIv (pc' := 9) (v := nI (ps.length)) hS.1 fl_M_85 hm.1 rfl d_M_find_6 rfl ?_
    refine cn_icmp_ge_n (tgt := 34) (pc' := 12) (by omega) (by omega) d_M_find_9 (by decide) rfl (fun hc9 => ?_) (fun hc9 => ?_)
    · refine cn_iload_n (pc' := 35) (k := 2) rfl rfl d_M_find_34 rfl ?_
      refine cn_iret rfl d_M_find_35 ?_
      obtain rfl : i = ps.length := by omega
      rcases hf with ⟨rfl, h2⟩ | ⟨k, h1, rfl, h2⟩
      · exact K0 h2
      · obtain ⟨c, -, -, h3, -⟩ := hp
        refine K1 k h1 h2 (fun j hj hjk e => ?_)
        rcases Nat.lt_or_gt_of_ne hjk with h4 | h4
        · have := h3 j k h4 h1; rw [h2, e] at this; omega
        · have := h3 k j h4 hj; rw [h2, e] at this; omega
    · exact absurd hc9 (by omega)
  | succ r ih =>
    intro i f hir hf
    refine cn_iload_n (pc' := 5) (k := 3) rfl rfl d_M_find_4 rfl ?_
    refine cn_aload_n (pc' := 6) (k := 0) rfl rfl d_M_find_5 rfl ?_
    refine cn_getIv (pc' := 9) (v := nI (ps.length)) hS.1 fl_M_85 hm.1 rfl d_M_find_6 rfl ?_
    refine cn_icmp_ge_n (tgt := 34) (pc' := 12) (by omega) (by omega) d_M_find_9 (by decide) rfl (fun hc9 => ?_) (fun hc9 => ?_)
    · exact absurd hc9 (by omega)
    · refine cn_aload_n (pc' := 13) (k := 0) rfl rfl d_M_find_12 rfl ?_
      refine cn_getP (pc' := 16) (b := 168) (hm.2.1 17 168 rfl) fl_M_51 hm.1 rfl d_M_find_13 rfl ?_
      refine cn_iload_n (pc' := 17) (k := 3) rfl rfl d_M_find_16 rfl ?_
      refine cn_ialdv (pc' := 18) (v := (ps.getD i pad).1) (hS.2.2.2 i (by omega)).1 (hm.2.2 168 0 3 rfl) (by omega) (by decide) d_M_find_17 rfl ?_
      refine cn_iload_n (pc' := 19) (k := 1) rfl rfl d_M_find_18 rfl ?_
      refine cn_icmp_ne (tgt := 26) (pc' := 22) d_M_find_19 (by decide) rfl (fun hc19 => ?_) (fun hc19 => ?_)
      · refine cn_iload_n (pc' := 27) (k := 2) rfl rfl d_M_find_26 rfl ?_
        refine cn_istore_n (pc' := 28) (lv' := [(0, .ref 155), (1, .int (x)), (2, .int (f)), (3, .int (nI (i)))]) rfl [1, 2, 0, 3] (Nat.le_of_ble_eq_true rfl) rfl d_M_find_27 rfl ?_
        refine cn_iinc_n (pc' := 31) (lv' := [(0, .ref 155), (1, .int (x)), (2, .int (f)), (3, .int (nI (i + 1)))]) (k := 3) [1, 2, 3, 0] rfl (Nat.le_of_ble_eq_true rfl) rfl d_M_find_28 rfl ?_
        refine cn_goto (tgt := 4) d_M_find_31 (by decide) ?_
        refine ih (i + 1) f (by omega) ?_
        rcases hf with ⟨h1, h2⟩ | ⟨k, h1, h2⟩
        · exact Or.inl ⟨h1, fun j hj => by
            by_cases e : j = i
            · subst e; exact hc19
            · exact h2 j (by omega)⟩
        · exact Or.inr ⟨k, by omega, h2⟩
      · refine cn_iload_n (pc' := 23) (k := 3) rfl rfl d_M_find_22 rfl ?_
        refine cn_goto (tgt := 27) d_M_find_23 (by decide) ?_
        refine cn_istore_n (pc' := 28) (lv' := [(0, .ref 155), (1, .int (x)), (2, .int (nI (i))), (3, .int (nI (i)))]) rfl [1, 2, 0, 3] (Nat.le_of_ble_eq_true rfl) rfl d_M_find_27 rfl ?_
        refine cn_iinc_n (pc' := 31) (lv' := [(0, .ref 155), (1, .int (x)), (2, .int (nI (i))), (3, .int (nI (i + 1)))]) (k := 3) [1, 2, 3, 0] rfl (Nat.le_of_ble_eq_true rfl) rfl d_M_find_28 rfl ?_
        refine cn_goto (tgt := 4) d_M_find_31 (by decide) ?_
        exact ih (i + 1) _ (by omega) (Or.inr ⟨i, by omega, rfl, hc19⟩)
theorem c_M_find {x : Int32} (hm : wM S P) (hS : mS I ps pn) (hp : pOK ps pn T) (K1 : ∀ k, k < ps.length → (ps.getD k pad).1 = x → (∀ j, j < ps.length → j ≠ k → (ps.getD j pad).1 ≠ x) → Q (some (.int (nI k))) S I P) (K0 : (∀ j, j < ps.length → (ps.getD j pad).1 ≠ x) → Q (some (.int (-1))) S I P) : cn_V l en mi_M_find d 0 0 S I P Q 0 [(0, .ref 155), (1, .int x)] [] := by
  refine cn_iconst (pc' := 1) k_c_m1 d_M_find_0 rfl ?_
  refine cn_istore_n (pc' := 2) (lv' := [(0, .ref 155), (1, .int (x)), (2, .int (-1))]) rfl [1, 2, 0] (Nat.le_of_ble_eq_true rfl) rfl d_M_find_1 rfl ?_
  refine cn_iconst (pc' := 3) k_c_0 d_M_find_2 rfl ?_
  refine cn_istore_n (pc' := 4) (lv' := [(0, .ref 155), (1, .int (x)), (2, .int (-1)), (3, .int (nI (0)))]) rfl [1, 2, 3, 0] (Nat.le_of_ble_eq_true rfl) rfl d_M_find_3 rfl ?_
  exact c_M_find_loop hm hS hp K1 K0 ps.length 0 (-1) (by omega) (Or.inl ⟨rfl, fun j hj => absurd hj (Nat.not_lt_zero j)⟩)
theorem c_M_again_38 {k : Nat} {nu : Int32} {v : List Int32} (hm : wM S P) (hk : k < 3) (hv : v.length ≤ 194) (I0 : cn_I) (h169 : I0 169 k = nI v.length) (h170 : ∀ j, j < v.length → I0 170 (200 * k + j) = v.getD j 0) (hd1 : 1 ≤ d) (K : ∀ I', mo I' (nI 0 :: v) → fO I0 I' → Q none S I' P) : ∀ (r i : Nat) (I : cn_I), i + r = v.length → mo I (nI 0 :: v.take i) → fO I0 I → cn_V l en mi_M_again d 0 0 S I P Q 38 [(0, .ref 155), (1, .int nu), (2, .int (nI k)), (3, .int (nI i))] [] := by
  intro r
  induction r with
  | zero =>
    intro i I hir ho hf
    refine cn_iload_n (pc' := 39) (k := 3) rfl rfl d_M_again_38 rfl ?_
    refine cn_aload_n (pc' := 40) (k := 0) rfl rfl d_M_again_39 rfl ?_
    refine cn_getP (pc' := 43) (b := 169) (hm.2.1 18 169 rfl) fl_M_54 hm.1 rfl d_M_again_40 rfl ?_
    refine cn_iload_n (pc' := 44) (k := 2) rfl rfl d_M_again_43 rfl ?_
    refine cn_ialdv (pc' := 45) (v := nI (v.length)) ((hf _ _ (by omega) (by omega)).trans h169) (hm.2.2 169 0 3 rfl) (by omega) (by decide) d_M_again_44 rfl ?_
    refine cn_icmp_ge_n (tgt := 70) (pc' := 48) (by omega) (by omega) d_M_again_45 (by decide) rfl (fun hc45 => ?_) (fun hc45 => ?_)
    · refine cn_vret rfl d_M_again_70 ?_
      rw [List.take_of_length_le (by omega)] at ho
      exact K I ho hf
    · exact absurd hc45 (by omega)
  | succ r ih =>
    intro i I hir ho hf
    refine cn_iload_n (pc' := 39) (k := 3) rfl rfl d_M_again_38 rfl ?_
    refine cn_aload_n (pc' := 40) (k := 0) rfl rfl d_M_again_39 rfl ?_
    refine cn_getP (pc' := 43) (b := 169) (hm.2.1 18 169 rfl) fl_M_54 hm.1 rfl d_M_again_40 rfl ?_
    refine cn_iload_n (pc' := 44) (k := 2) rfl rfl d_M_again_43 rfl ?_
    refine cn_ialdv (pc' := 45) (v := nI (v.length)) ((hf _ _ (by omega) (by omega)).trans h169) (hm.2.2 169 0 3 rfl) (by omega) (by decide) d_M_again_44 rfl ?_
    refine cn_icmp_ge_n (tgt := 70) (pc' := 48) (by omega) (by omega) d_M_again_45 (by decide) rfl (fun hc45 => ?_) (fun hc45 => ?_)
    · exact absurd hc45 (by omega)
    · refine cn_aload_n (pc' := 49) (k := 0) rfl rfl d_M_again_48 rfl ?_
      refine cn_aload_n (pc' := 50) (k := 0) rfl rfl d_M_again_49 rfl ?_
      refine cn_getP (pc' := 53) (b := 170) (hm.2.1 19 170 rfl) fl_M_57 hm.1 rfl d_M_again_50 rfl ?_
      refine cn_sipush (pc' := 56) k_s_200 d_M_again_53 rfl ?_
      refine cn_iload_n (pc' := 57) (k := 2) rfl rfl d_M_again_56 rfl ?_
      refine cn_imul_n (pc' := 58) d_M_again_57 rfl ?_
      refine cn_iload_n (pc' := 59) (k := 3) rfl rfl d_M_again_58 rfl ?_
      refine cn_iadd_n (pc' := 60) d_M_again_59 rfl ?_
      refine cn_ialdv (pc' := 61) (v := v.getD i 0) ((hf _ _ (by omega) (by omega)).trans (h170 i (by omega))) (hm.2.2 170 0 600 rfl) (by omega) (by decide) d_M_again_60 rfl ?_
      refine cn_callV (pc' := 64) (kc1 := 0) (ks1 := 0) (kc2 := 0) (ks2 := 0) (rest := []) (lvj := [(0, .ref 155), (1, .int (v.getD i 0))]) [.int (v.getD i 0)] mv_M_184 hm.1 rfl rfl rfl (Nat.le_of_ble_eq_true rfl) (Nat.le_of_ble_eq_true rfl) (by omega) (by omega) (by omega) d_M_again_61 rfl ?_
      refine c_M_say hm ho (by show (v.take i).length + 1 < 200; rw [List.length_take]; omega) (fun I1 ho1 hf1 => ?_)
      show cn_V l en mi_M_again d 0 0 S I1 P Q 64 [(0, .ref 155), (1, .int (nu)), (2, .int (nI (k))), (3, .int (nI (i)))] []
      refine cn_iinc_n (pc' := 67) (lv' := [(0, .ref 155), (1, .int (nu)), (2, .int (nI (k))), (3, .int (nI (i + 1)))]) (k := 3) [1, 2, 3, 0] rfl (Nat.le_of_ble_eq_true rfl) rfl d_M_again_64 rfl ?_
      refine cn_goto (tgt := 38) d_M_again_67 (by decide) ?_
      exact ih (i + 1) I1 (by omega) (by rw [tk_succ (by omega)]; exact ho1) (hf.tr hf1)
theorem c_M_again (hm : wM S P) (h : MT I (ns, xs, (ps, pn)) [nI 1] T) (hr : mg I g 1 true) (hd1 : 3 ≤ d) (K : ∀ I', MT I' (sp_again (ns, xs, (ps, pn)) g).2.2 ((sp_again (ns, xs, (ps, pn)) g).1 :: (sp_again (ns, xs, (ps, pn)) g).2.1) T → fV I I' → Q none S I' P) : cn_V l en mi_M_again d 0 0 S I P Q 0 [(0, .ref 155)] [] := by
  have h9 := h
  obtain ⟨hN, hJ, hS, hp, ho⟩ := h
  have hN : mN I ns := hN
  have hJ : mI I xs := hJ
  have hS : mS I ps pn := hS
  have hl16 := hN.2.1
  have hl6 := hJ.2.1
  have hl3 := hS.2.1
  refine cn_aload_n (pc' := 1) (k := 0) rfl rfl d_M_again_0 rfl ?_
  refine cn_iconst (pc' := 2) k_c_4 d_M_again_1 rfl ?_
  refine cn_callV (pc' := 5) (kc1 := 0) (ks1 := 0) (kc2 := 0) (ks2 := 0) (rest := []) (lvj := [(0, .ref 155), (1, .int (nI (4)))]) [.int (nI (4))] mv_M_171 hm.1 rfl rfl rfl (Nat.le_of_ble_eq_true rfl) (Nat.le_of_ble_eq_true rfl) (by omega) (by omega) (by omega) d_M_again_2 rfl ?_
  refine c_M_number (n := 4) hm (by decide) (by omega) hr (fun I1 hr1 hf1 => ?_)
  rw [nmk_4]
  have h91 := h9.rd hf1.toR
  have hv1 : fV I I1 := hf1.toR.toV
  show cn_V l en mi_M_again d 0 0 S I1 P Q 5 [(0, .ref 155)] [.int (rn4 g 1)]
  refine cn_istore_n (pc' := 6) (lv' := [(0, .ref 155), (1, .int (rn4 g 1))]) rfl [1, 0] (Nat.le_of_ble_eq_true rfl) rfl d_M_again_5 rfl ?_
  refine cn_aload_n (pc' := 7) (k := 0) rfl rfl d_M_again_6 rfl ?_
  refine cn_callV (pc' := 10) (kc1 := 0) (ks1 := 0) (kc2 := 0) (ks2 := 0) (rest := []) (lvj := [(0, .ref 155)]) [] mv_M_211 hm.1 rfl rfl rfl (Nat.le_of_ble_eq_true rfl) (Nat.le_of_ble_eq_true rfl) (by omega) (by omega) (by omega) d_M_again_7 rfl ?_
  refine c_M_whole hm hr1 ?_
  have hwb := tn_le (whl g (rp g 1 4) (rw_ g 1 4 true))
  show cn_V l en mi_M_again d 0 0 S I1 P Q 10 [(0, .ref 155), (1, .int (rn4 g 1))] [.int (nI ((whl g (rp g 1 4) (rw_ g 1 4 true)).toNat))]
  refine cn_if_ne_n (tgt := 14) (pc' := 13) (by omega) d_M_again_10 (by decide) rfl (fun hc10 => ?_) (fun hc10 => ?_)
  · refine cn_aload_n (pc' := 15) (k := 0) rfl rfl d_M_again_14 rfl ?_
    refine cn_iload_n (pc' := 16) (k := 1) rfl rfl d_M_again_15 rfl ?_
    refine cn_callV (pc' := 19) (kc1 := 0) (ks1 := 0) (kc2 := 0) (ks2 := 0) (rest := []) (lvj := [(0, .ref 155), (1, .int (rn4 g 1))]) [.int (rn4 g 1)] mv_M_218 hm.1 rfl rfl rfl (Nat.le_of_ble_eq_true rfl) (Nat.le_of_ble_eq_true rfl) (by omega) (by omega) (by omega) d_M_again_16 rfl ?_
    refine c_M_find (ps := ps) hm h91.2.2.1 hp (fun k hkl hkx hkn => ?_) (fun hno => ?_)
    · show cn_V l en mi_M_again d 0 0 S I1 P Q 19 [(0, .ref 155), (1, .int (rn4 g 1))] [.int (nI (k))]
      refine cn_istore_n (pc' := 20) (lv' := [(0, .ref 155), (1, .int (rn4 g 1)), (2, .int (nI (k)))]) rfl [1, 2, 0] (Nat.le_of_ble_eq_true rfl) rfl d_M_again_19 rfl ?_
      refine cn_iload_n (pc' := 21) (k := 2) rfl rfl d_M_again_20 rfl ?_
      refine cn_if_ge_n (tgt := 31) (pc' := 24) (by omega) d_M_again_21 (by decide) rfl (fun hc21 => ?_) (fun hc21 => ?_)
      · refine cn_aload_n (pc' := 32) (k := 0) rfl rfl d_M_again_31 rfl ?_
        refine cn_iconst (pc' := 33) k_c_0 d_M_again_32 rfl ?_
        refine cn_callV (pc' := 36) (kc1 := 0) (ks1 := 0) (kc2 := 0) (ks2 := 0) (rest := []) (lvj := [(0, .ref 155), (1, .int (nI (0)))]) [.int (nI (0))] mv_M_187 hm.1 rfl rfl rfl (Nat.le_of_ble_eq_true rfl) (Nat.le_of_ble_eq_true rfl) (by omega) (by omega) (by omega) d_M_again_33 rfl ?_
        refine c_M_code hm (by omega) (fun I9 ho9 hf9 => ?_)
        have h99 := h91.out hf9 ho9
        have hv9 : fV I I9 := (hv1).tr hf9.toV
        show cn_V l en mi_M_again d 0 0 S I9 P Q 36 [(0, .ref 155), (1, .int (rn4 g 1)), (2, .int (nI (k)))] []
        refine cn_iconst (pc' := 37) k_c_0 d_M_again_36 rfl ?_
        refine cn_istore_n (pc' := 38) (lv' := [(0, .ref 155), (1, .int (rn4 g 1)), (2, .int (nI (k))), (3, .int (nI (0)))]) rfl [1, 2, 3, 0] (Nat.le_of_ble_eq_true rfl) rfl d_M_again_37 rfl ?_
        have e : sp_again (ns, xs, (ps, pn)) g = (nI 0, (ps.getD k pad).2, ns, xs, (ps, pn)) := by unfold sp_again; rw [if_pos (tn_1 hc10)]; dsimp only; rw [fnd_some ps k hkl hkx (fun j hj => hkn j (by omega) (by omega))]
        rw [e] at K
        obtain ⟨b1, b2, b3, b4⟩ := h91.2.2.1.2.2.2 k hkl
        exact c_M_again_38 (v := (ps.getD k pad).2) hm (by omega) b3 I9 ((hf9 _ _ (by omega) (by omega)).trans b2) (fun j hj => (hf9 _ _ (by omega) (by omega)).trans (b4 j hj)) (by omega) (fun I8 ho8 hf8 => K I8 (h99.out hf8 ho8) (hv9.tr hf8.toV)) _ 0 I9 (Nat.zero_add _) ho9 fO.rf
      · exact False.elim (by omega)
    · show cn_V l en mi_M_again d 0 0 S I1 P Q 19 [(0, .ref 155), (1, .int (rn4 g 1))] [.int (-1)]
      refine cn_istore_n (pc' := 20) (lv' := [(0, .ref 155), (1, .int (rn4 g 1)), (2, .int (-1))]) rfl [1, 2, 0] (Nat.le_of_ble_eq_true rfl) rfl d_M_again_19 rfl ?_
      refine cn_iload_n (pc' := 21) (k := 2) rfl rfl d_M_again_20 rfl ?_
      refine cn_if_ge (tgt := 31) (pc' := 24) d_M_again_21 (by decide) rfl (fun hc21 => ?_) (fun hc21 => ?_)
      · exact absurd hc21 (by decide)
      · refine cn_aload_n (pc' := 25) (k := 0) rfl rfl d_M_again_24 rfl ?_
        refine cn_bipush (pc' := 27) k_b_8 d_M_again_25 rfl ?_
        refine cn_callV (pc' := 30) (kc1 := 0) (ks1 := 0) (kc2 := 0) (ks2 := 0) (rest := []) (lvj := [(0, .ref 155), (1, .int (nI (8)))]) [.int (nI (8))] mv_M_187 hm.1 rfl rfl rfl (Nat.le_of_ble_eq_true rfl) (Nat.le_of_ble_eq_true rfl) (by omega) (by omega) (by omega) d_M_again_27 rfl ?_
        refine c_M_code hm (by omega) (fun I9 ho9 hf9 => ?_)
        have h99 := h91.out hf9 ho9
        have hv9 : fV I I9 := (hv1).tr hf9.toV
        show cn_V l en mi_M_again d 0 0 S I9 P Q 30 [(0, .ref 155), (1, .int (rn4 g 1)), (2, .int (-1))] []
        refine cn_vret rfl d_M_again_30 ?_
        have e : sp_again (ns, xs, (ps, pn)) g = (nI 8, [], ns, xs, (ps, pn)) := by unfold sp_again; rw [if_pos (tn_1 hc10)]; dsimp only; rw [fnd_none ps hno]
        rw [e] at K
        exact K I9 h99 hv9
  · refine cn_vret rfl d_M_again_13 ?_
    have e : sp_again (ns, xs, (ps, pn)) g = (nI 1, [], ns, xs, (ps, pn)) := by unfold sp_again; rw [if_neg (by rw [tn_0 hc10]; decide)]
    rw [e] at K
    exact K I1 h91 hv1
end
