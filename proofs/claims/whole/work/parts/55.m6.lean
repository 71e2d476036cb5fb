/-- nothing changed but the parcels -/
def fD (I I' : cn_I) : Prop := ∀ a k, (a ≠ 155 ∨ k ≠ 15) → (a < 168 ∨ 170 < a) → I' a k = I a k
theorem fD.rf {I : cn_I} : fD I I := fun _ _ _ _ => rfl
theorem fD.tr {I I1 I2 : cn_I} (h1 : fD I I1) (h2 : fD I1 I2) : fD I I2 := fun a k x y => (h2 a k x y).trans (h1 a k x y)
theorem mPa_copy {I I' : cn_I} {f t : Nat} {x : sPar} (h : mPa I f x) (e1 : I' 168 t = I 168 f) (e2 : I' 169 t = I 169 f) (e3 : ∀ k, k < 200 → I' 170 (200 * t + k) = I 170 (200 * f + k)) : mPa I' t x :=
  ⟨e1.trans h.1, e2.trans h.2.1, h.2.2.1, fun k hk => (e3 k (by have := h.2.2.1; omega)).trans (h.2.2.2 k hk)⟩
theorem pOK_erase {ps : List sPar} {pn : Int32} {T k : Nat} (h : pOK ps pn T) (hk : k < ps.length) : pOK (ps.eraseIdx k) pn T := by
  obtain ⟨c, h1, h2, h3, h4⟩ := h
  have hl := List.length_eraseIdx_of_lt hk
  refine ⟨c, h1, h2, fun i j hij hj => ?_, fun i hi => ?_⟩
  · rw [hl] at hj
    rw [pd_erase, pd_erase]
    by_cases e1 : i < k
    · rw [if_pos e1]
      by_cases e2 : j < k
      · rw [if_pos e2]; exact h3 i j hij (by omega)
      · rw [if_neg e2]; exact h3 i (j + 1) (by omega) (by omega)
    · rw [if_neg e1, if_neg (by omega)]; exact h3 (i + 1) (j + 1) (by omega) (by omega)
  · rw [hl] at hi
    rw [pd_erase]
    by_cases e1 : i < k
    · rw [if_pos e1]; exact h4 i (by omega)
    · rw [if_neg e1]; exact h4 (i + 1) (by omega)
theorem pOK_push {ps : List sPar} {pn : Int32} {T : Nat} {u : List Int32} (h : pOK ps pn T) (hT : T < 1000000) : pOK (ps ++ [(pn + nI 1, u)]) (pn + nI 1) (T + 1) := by
  obtain ⟨c, h1, rfl, h3, h4⟩ := h
  have e : nI c + nI 1 = nI (c + 1) := nI_add c 1
  have ec : (nI (c + 1)).toNatClampNeg = c + 1 := nI_clamp (by omega)
  rw [e]
  refine ⟨c + 1, by omega, rfl, fun i j hij hj => ?_, fun i hi => ?_⟩
  · rw [List.length_append] at hj
    have hj : j < ps.length + 1 := hj
    by_cases e1 : j = ps.length
    · subst e1
      rw [pd_l hij, pd_last, ec]
      have := h4 i hij
      omega
    · rw [pd_l (by omega), pd_l (by omega)]; exact h3 i j hij (by omega)
  · rw [List.length_append] at hi
    have hi : i < ps.length + 1 := hi
    by_cases e1 : i = ps.length
    · subst e1
      rw [pd_last, ec]; exact Nat.le_refl _
    · rw [pd_l (by omega)]
      have := h4 i (by omega)
      omega
/-- the first item with a notice -/
def fb : Nat → List sItem → Int32
  | _, [] => -1
  | i, x :: t => if 0 < x.2.2.2.length then nI i else fb (i + 1) t
theorem fb_c : ∀ (xs : List sItem) (i : Nat), (fb i xs = -1 ∧ ntot xs = 0) ∨ ∃ j, j < xs.length ∧ fb i xs = nI (i + j) ∧ 0 < (xs.getD j it0).2.2.2.length ∧ ∀ m, m < j → (xs.getD m it0).2.2.2.length = 0
  | [], i => Or.inl ⟨rfl, rfl⟩
  | x :: t, i => by
    unfold fb
    by_cases h : 0 < x.2.2.2.length
    · rw [if_pos h]
      exact Or.inr ⟨0, Nat.succ_pos _, rfl, h, fun m hm => absurd hm (Nat.not_lt_zero m)⟩
    · rw [if_neg h]
      rcases fb_c t (i + 1) with ⟨h1, h2⟩ | ⟨j, h1, h2, h3, h4⟩
      · refine Or.inl ⟨h1, ?_⟩
        show x.2.2.2.length + ntot t = 0
        omega
      · refine Or.inr ⟨j + 1, Nat.succ_lt_succ h1, by rw [h2, show i + 1 + j = i + (j + 1) by omega], h3, fun m hm => ?_⟩
        cases m with
        | zero => show x.2.2.2.length = 0; omega
        | succ m => exact h4 m (by omega)
theorem tkx_z : ∀ (i : Nat) (xs : List sItem), tkx i 0 xs = ([], xs)
  | _, [] => rfl
  | i, x :: t => by
    rw [tkx_skip (Or.inl rfl), tkx_z (i + 1) t]
theorem tkx_first : ∀ (xs : List sItem) (j i m : Nat), j < xs.length → (∀ k, k < j → (xs.getD k it0).2.2.2.length = 0) → 0 < (xs.getD j it0).2.2.2.length → tkx i (m + 1) xs = (ntb (i + j) [(xs.getD j it0).2.2.2.getD 0 ntd] ++ (tkx i m (xs.set j ((xs.getD j it0).1, (xs.getD j it0).2.1, (xs.getD j it0).2.2.1, (xs.getD j it0).2.2.2.tail))).1, (tkx i m (xs.set j ((xs.getD j it0).1, (xs.getD j it0).2.1, (xs.getD j it0).2.2.1, (xs.getD j it0).2.2.2.tail))).2)
  | [], j, _, _, hj, _, _ => absurd hj (Nat.not_lt_zero j)
  | x :: t, 0, i, m, _, _, h => tkx_one h
  | x :: t, j + 1, i, m, hj, h0, h => by
    have hx : x.2.2.2.length = 0 := h0 0 (Nat.succ_pos _)
    rw [tkx_skip (Or.inr hx), tkx_first t j (i + 1) m (Nat.lt_of_succ_lt_succ hj) (fun k hk => h0 (k + 1) (Nat.succ_lt_succ hk)) h]
    show _ = (ntb (i + (j + 1)) [(t.getD j it0).2.2.2.getD 0 ntd] ++ (tkx i m (x :: t.set j _)).1, (tkx i m (x :: t.set j _)).2)
    rw [tkx_skip (Or.inr hx), show i + 1 + j = i + (j + 1) by omega]
    rfl
theorem ntot_set : ∀ (xs : List sItem) (j : Nat), j < xs.length → 0 < (xs.getD j it0).2.2.2.length → ntot (xs.set j ((xs.getD j it0).1, (xs.getD j it0).2.1, (xs.getD j it0).2.2.1, (xs.getD j it0).2.2.2.tail)) + 1 = ntot xs
  | [], j, hj, _ => absurd hj (Nat.not_lt_zero j)
  | x :: t, 0, _, h => by
    have h : 0 < x.2.2.2.length := h
    show x.2.2.2.tail.length + ntot t + 1 = x.2.2.2.length + ntot t
    rw [List.length_tail]; omega
  | x :: t, j + 1, hj, h => by
    have ih := ntot_set t j (Nat.lt_of_succ_lt_succ hj) h
    show x.2.2.2.length + ntot (t.set j _) + 1 = x.2.2.2.length + ntot t
    rw [← ih]; rfl
theorem mI_set {I I' : cn_I} {xs : List sItem} {j : Nat} {x : sItem} (h : mI I xs) (hj : j < xs.length) (h7 : I' 155 7 = I 155 7) (hx : mIt I' j x) (hf : fQ I I' j) : mI I' (xs.set j x) := by
  refine ⟨by rw [List.length_set]; exact h7.trans h.1, by rw [List.length_set]; exact h.2.1, fun i hi => ?_⟩
  rw [List.length_set] at hi
  rw [it_set xs j i x hj]
  by_cases e : i = j
  · subst e; rw [if_pos rfl]; exact hx
  · rw [if_neg e]; exact (h.2.2 i hi).fQ hf e
theorem mo_5 {I : cn_I} {a0 x y : Int32} {a t : List Int32} (ha : a.length = 4) (h : mo I (a0 :: (a ++ x :: t))) : mo (cn_wi I 174 5 y) (a0 :: (a ++ y :: t)) := by
  match a, ha with
  | [b1, b2, b3, b4], _ =>
    refine ⟨mw_a (by decide) h.1, h.2.1, fun j hj => ?_⟩
    match j, hj with
    | 0, hj => exact mw_k (by decide) (h.2.2 0 hj)
    | 1, hj => exact mw_k (by decide) (h.2.2 1 hj)
    | 2, hj => exact mw_k (by decide) (h.2.2 2 hj)
    | 3, hj => exact mw_k (by decide) (h.2.2 3 hj)
    | 4, hj => exact mw_k (by decide) (h.2.2 4 hj)
    | 5, _ => exact mw_e
    | j + 6, hj => exact mw_k (by omega) (h.2.2 (j + 6) hj)
theorem mo_5v {I : cn_I} {a0 x : Int32} {a t : List Int32} (ha : a.length = 4) (h : mo I (a0 :: (a ++ x :: t))) : I 174 5 = x := by
  match a, ha with
  | [b1, b2, b3, b4], _ => exact h.2.2 5 (by show 5 < t.length + 1 + 1 + 1 + 1 + 1 + 1; omega)
theorem pub_eq {ns : List sNode} {xs : List sItem} {ps : List sPar} {pn : Int32} {g : List Int32} {c : Nat} (hgc : g.getD 1 0 = nI c) (hc4 : c ≤ 4) : sp_publish (ns, xs, (ps, pn)) g = (if whl g (rp g 1 (1 + 4 * c)) (rw_ g 1 (1 + 4 * c) true) = true then (if min (ntot xs) 3 = 0 then (nI 7, [], ns, xs, ((nums g 2 c).foldl pdrop ps, pn)) else (nI 0, pubc xs pn, ns, (tkx 0 (min (ntot xs) 3) xs).2, ((if ((nums g 2 c).foldl pdrop ps).length = 3 then ((nums g 2 c).foldl pdrop ps).eraseIdx 0 else (nums g 2 c).foldl pdrop ps) ++ [(pn + nI 1, pubc xs pn)], pn + nI 1))) else (nI 1, [], ns, xs, (ps, pn))) := by
  unfold sp_publish
  rw [hgc, if_neg (fun h => absurd ((nI_ltI (by omega) (by omega)).mp h) (by omega)), nI_clamp (by omega)]
  rfl
theorem sub_m1 (n : Nat) : nI n - nI 1 = nI n + Int32.ofInt (-1) := by
  rw [Int32.sub_eq_add_neg]; rfl
section
variable {l : Launch} {en : cn_E} {d : Nat} {S : cn_S} {I : cn_I} {P : cn_P} {Q : Option Value → cn_S → cn_I → cn_P → Prop}
variable {ns : List sNode} {xs : List sItem} {ps : List sPar} {pn : Int32} {T : Nat} {g : List Int32}
theorem c_M_dropParcel_50 {k j : Nat} (hm : wM S P) (hj : j < 2) (I0 : cn_I) (K : ∀ I', I' 168 j = I0 168 (j + 1) → I' 169 j = I0 169 (j + 1) → (∀ b, b < 200 → I' 170 (200 * j + b) = I0 170 (200 * (j + 1) + b)) → (∀ a m, (a ≠ 168 ∨ m ≠ j) → (a ≠ 169 ∨ m ≠ j) → (a ≠ 170 ∨ m < 200 * j ∨ 200 * j + 200 ≤ m) → I' a m = I0 a m) → cn_V l en mi_M_dropParcel d 0 0 S I' P Q 91 [(0, .ref 155), (1, .int (nI k)), (2, .int (nI j)), (3, .int (nI 200))] []) : ∀ (r b : Nat) (I : cn_I), b + r = 200 → I 168 j = I0 168 (j + 1) → I 169 j = I0 169 (j + 1) → (∀ m, m < b → I 170 (200 * j + m) = I0 170 (200 * (j + 1) + m)) → (∀ a m, (a ≠ 168 ∨ m ≠ j) → (a ≠ 169 ∨ m ≠ j) → (a ≠ 170 ∨ m < 200 * j ∨ 200 * j + 200 ≤ m) → I a m = I0 a m) → cn_V l en mi_M_dropParcel d 0 0 S I P Q 50 [(0, .ref 155), (1, .int (nI k)), (2, .int (nI j)), (3, .int (nI b))] [] := by
  intro r
  induction r with
  | zero =>
    intro b I hbr h1 h2 hb hf
    refine cn_iload_n (pc' := 51) (k := 3) rfl rfl d_M_dropParcel_50 rfl ?_
    refine cn_sipush (pc' := 54) k_s_200 d_M_dropParcel_51 rfl ?_
    refine cn_icmp_ge_n (tgt := 91) (pc' := 57) (by omega) (by omega) d_M_dropParcel_54 (by decide) rfl (fun hc54 => ?_) (fun hc54 => ?_)
    · obtain rfl : b = 200 := by omega
      exact K I h1 h2 hb hf
    · exact absurd hc54 (by omega)
  | succ r ih =>
    intro b I hbr h1 h2 hb hf
    refine cn_iload_n (pc' := 51) (k := 3) rfl rfl d_M_dropParcel_50 rfl ?_
    refine cn_sipush (pc' := 54) k_s_200 d_M_dropParcel_51 rfl ?_
    refine cn_icmp_ge_n (tgt := 91) (pc' := 57) (by omega) (by omega) d_M_dropParcel_54 (by decide) rfl (fun hc54 => ?_) (fun hc54 => ?_)
    · exact absurd hc54 (by omega)
    · refine cn_aload_n (pc' := 58) (k := 0) rfl rfl d_M_dropParcel_57 rfl ?_
      refine cn_getP (pc' := 61) (b := 170) (hm.2.1 19 170 rfl) fl_M_57 hm.1 rfl d_M_dropParcel_58 rfl ?_
      refine cn_sipush (pc' := 64) k_s_200 d_M_dropParcel_61 rfl ?_
      refine cn_iload_n (pc' := 65) (k := 2) rfl rfl d_M_dropParcel_64 rfl ?_
      refine cn_imul_n (pc' := 66) d_M_dropParcel_65 rfl ?_
      refine cn_iload_n (pc' := 67) (k := 3) rfl rfl d_M_dropParcel_66 rfl ?_
      refine cn_iadd_n (pc' := 68) d_M_dropParcel_67 rfl ?_
      refine cn_aload_n (pc' := 69) (k := 0) rfl rfl d_M_dropParcel_68 rfl ?_
      refine cn_getP (pc' := 72) (b := 170) (hm.2.1 19 170 rfl) fl_M_57 hm.1 rfl d_M_dropParcel_69 rfl ?_
      refine cn_sipush (pc' := 75) k_s_200 d_M_dropParcel_72 rfl ?_
      refine cn_iload_n (pc' := 76) (k := 2) rfl rfl d_M_dropParcel_75 rfl ?_
      refine cn_imul_n (pc' := 77) d_M_dropParcel_76 rfl ?_
      refine cn_sipush (pc' := 80) k_s_200 d_M_dropParcel_77 rfl ?_
      refine cn_iadd_n (pc' := 81) d_M_dropParcel_80 rfl ?_
      refine cn_iload_n (pc' := 82) (k := 3) rfl rfl d_M_dropParcel_81 rfl ?_
      refine cn_iadd_n (pc' := 83) d_M_dropParcel_82 rfl ?_
      refine cn_ialdv (pc' := 84) (v := I0 170 (200 * (j + 1) + b)) ((hf _ _ (by omega) (by omega) (by omega)).trans (by rw [show 200 * j + 200 + b = 200 * (j + 1) + b by omega])) (hm.2.2 170 0 600 rfl) (by omega) (by decide) d_M_dropParcel_83 rfl ?_
      refine cn_iast (pc' := 85) (hm.2.2 170 0 600 rfl) (by omega) (by decide) d_M_dropParcel_84 rfl ?_
      refine cn_iinc_n (pc' := 88) (lv' := [(0, .ref 155), (1, .int (nI (k))), (2, .int (nI (j))), (3, .int (nI (b + 1)))]) (k := 3) [1, 2, 3, 0] rfl (Nat.le_of_ble_eq_true rfl) rfl d_M_dropParcel_85 rfl ?_
      refine cn_goto (tgt := 50) d_M_dropParcel_88 (by decide) ?_
      refine ih (b + 1) _ (by omega) (mw_a (by decide) h1) (mw_a (by decide) h2) (fun m hm2 => ?_) (fun a m x y z => by rw [mw_o (by omega)]; exact hf a m x y z)
      by_cases e : m = b
      · subst e; exact mw_e
      · rw [mw_o (by omega)]; exact hb m (by omega)
theorem c_M_dropParcel_12 {k : Nat} (hm : wM S P) (hk : k < ps.length) (hl3 : ps.length ≤ 3) (I0 : cn_I) (K : ∀ I', mS I' (ps.eraseIdx k) pn → fD I0 I' → Q none S I' P) : ∀ (r j : Nat) (I : cn_I), j + r + 1 = ps.length → k ≤ j → I 155 15 = nI (ps.length - 1) → I 155 16 = pn → (∀ m, m < ps.length → mPa I m (ps.getD (if k ≤ m ∧ m < j then m + 1 else m) pad)) → fD I0 I → cn_V l en mi_M_dropParcel d 0 0 S I P Q 12 [(0, .ref 155), (1, .int (nI k)), (2, .int (nI j))] [] := by
  intro r
  induction r with
  | zero =>
    intro j I hjr hkj h15 h16 hP hf
    refine cn_iload_n (pc' := 13) (k := 2) rfl rfl d_M_dropParcel_12 rfl ?_
    refine cn_aload_n (pc' := 14) (k := 0) rfl rfl d_M_dropParcel_13 rfl ?_
    refine cn_getIv (pc' := 17) (v := nI (ps.length - 1)) h15 fl_M_85 hm.1 rfl d_M_dropParcel_14 rfl ?_
    refine cn_icmp_ge_n (tgt := 97) (pc' := 20) (by omega) (by omega) d_M_dropParcel_17 (by decide) rfl (fun hc17 => ?_) (fun hc17 => ?_)
    · refine cn_vret rfl d_M_dropParcel_97 ?_
      have hl := List.length_eraseIdx_of_lt hk
      refine K I ⟨by rw [hl]; exact h15, by rw [hl]; omega, h16, fun m hm2 => ?_⟩ hf
      rw [hl] at hm2
      rw [pd_erase]
      have h3 := hP m (by omega)
      by_cases e : m < k
      · rw [if_pos e]; rw [if_neg (by omega)] at h3; exact h3
      · rw [if_neg e]; rw [if_pos (by omega)] at h3; exact h3
    · exact absurd hc17 (by omega)
  | succ r ih =>
    intro j I hjr hkj h15 h16 hP hf
    refine cn_iload_n (pc' := 13) (k := 2) rfl rfl d_M_dropParcel_12 rfl ?_
    refine cn_aload_n (pc' := 14) (k := 0) rfl rfl d_M_dropParcel_13 rfl ?_
    refine cn_getIv (pc' := 17) (v := nI (ps.length - 1)) h15 fl_M_85 hm.1 rfl d_M_dropParcel_14 rfl ?_
    refine cn_icmp_ge_n (tgt := 97) (pc' := 20) (by omega) (by omega) d_M_dropParcel_17 (by decide) rfl (fun hc17 => ?_) (fun hc17 => ?_)
    · exact absurd hc17 (by omega)
    · refine cn_aload_n (pc' := 21) (k := 0) rfl rfl d_M_dropParcel_20 rfl ?_
      refine cn_getP (pc' := 24) (b := 168) (hm.2.1 17 168 rfl) fl_M_51 hm.1 rfl d_M_dropParcel_21 rfl ?_
      refine cn_iload_n (pc' := 25) (k := 2) rfl rfl d_M_dropParcel_24 rfl ?_
      refine cn_aload_n (pc' := 26) (k := 0) rfl rfl d_M_dropParcel_25 rfl ?_
      refine cn_getP (pc' := 29) (b := 168) (hm.2.1 17 168 rfl) fl_M_51 hm.1 rfl d_M_dropParcel_26 rfl ?_
      refine cn_iload_n (pc' := 30) (k := 2) rfl rfl d_M_dropParcel_29 rfl ?_
      refine cn_iconst (pc' := 31) k_c_1 d_M_dropParcel_30 rfl ?_
      refine cn_iadd_n (pc' := 32) d_M_dropParcel_31 rfl ?_
      refine cn_ialdv (pc' := 33) (v := I 168 (j + 1)) rfl (hm.2.2 168 0 3 rfl) (by omega) (by decide) d_M_dropParcel_32 rfl ?_
      refine cn_iast (pc' := 34) (hm.2.2 168 0 3 rfl) (by omega) (by decide) d_M_dropParcel_33 rfl ?_
      refine cn_aload_n (pc' := 35) (k := 0) rfl rfl d_M_dropParcel_34 rfl ?_
      refine cn_getP (pc' := 38) (b := 169) (hm.2.1 18 169 rfl) fl_M_54 hm.1 rfl d_M_dropParcel_35 rfl ?_
      refine cn_iload_n (pc' := 39) (k := 2) rfl rfl d_M_dropParcel_38 rfl ?_
      refine cn_aload_n (pc' := 40) (k := 0) rfl rfl d_M_dropParcel_39 rfl ?_
      refine cn_getP (pc' := 43) (b := 169) (hm.2.1 18 169 rfl) fl_M_54 hm.1 rfl d_M_dropParcel_40 rfl ?_
      refine cn_iload_n (pc' := 44) (k := 2) rfl rfl d_M_dropParcel_43 rfl ?_
      refine cn_iconst (pc' := 45) k_c_1 d_M_dropParcel_44 rfl ?_
      refine cn_iadd_n (pc' := 46) d_M_dropParcel_45 rfl ?_
      refine cn_ialdv (pc' := 47) (v := I 169 (j + 1)) (mw_a (by decide) rfl) (hm.2.2 169 0 3 rfl) (by omega) (by decide) d_M_dropParcel_46 rfl ?_
      refine cn_iast (pc' := 48) (hm.2.2 169 0 3 rfl) (by omega) (by decide) d_M_dropParcel_47 rfl ?_
      refine cn_iconst (pc' := 49) k_c_0 d_M_dropParcel_48 rfl ?_
      refine cn_istore_n (pc' := 50) (lv' := [(0, .ref 155), (1, .int (nI (k))), (2, .int (nI (j))), (3, .int (nI (0)))]) rfl [1, 2, 3, 0] (Nat.le_of_ble_eq_true rfl) rfl d_M_dropParcel_49 rfl ?_
      refine c_M_dropParcel_50 (k := k) (j := j) hm (by omega) I (fun I1 e1 e2 e3 hf1 => ?_) 200 0 _ (by omega) (mw_a (by decide) mw_e) mw_e (fun b hb => absurd hb (Nat.not_lt_zero b)) (fun a m x y z => by rw [mw_o (by omega), mw_o (by omega)])
      refine cn_iinc_n (pc' := 94) (lv' := [(0, .ref 155), (1, .int (nI (k))), (2, .int (nI (j + 1))), (3, .int (nI (200)))]) (k := 2) [1, 2, 0, 3] rfl (Nat.le_of_ble_eq_true rfl) rfl d_M_dropParcel_91 rfl ?_
      refine cn_goto (tgt := 12) d_M_dropParcel_94 (by decide) ?_
      refine cn_fewer (lv := [(0, .ref 155), (1, .int (nI (k))), (2, .int (nI (j + 1)))]) (fun q hq => by simp only [List.mem_cons, List.not_mem_nil, or_false] at hq ⊢; rcases hq with h | h | h <;> simp only [h, true_or, or_true]) ?_
      refine ih (j + 1) I1 (by omega) (by omega) ((hf1 _ _ (by omega) (by omega) (by omega)).trans h15) ((hf1 _ _ (by omega) (by omega) (by omega)).trans h16) (fun m hm2 => ?_) (hf.tr (fun a m x y => hf1 a m (by omega) (by omega) (by omega)))
      by_cases e : m = j
      · subst e
        rw [if_pos ⟨hkj, Nat.lt_succ_self m⟩]
        have h3 := hP (m + 1) (by omega)
        rw [if_neg (by omega)] at h3
        exact mPa_copy h3 e1 e2 e3
      · have h3 := hP m hm2
        by_cases e4 : k ≤ m ∧ m < j
        · rw [if_pos (by omega)]; rw [if_pos e4] at h3
          exact h3.congr (hf1 _ _ (by omega) (by omega) (by omega)) (hf1 _ _ (by omega) (by omega) (by omega)) (fun b hb => hf1 _ _ (by omega) (by omega) (by have := h3.2.2.1; omega))
        · rw [if_neg (by omega)]; rw [if_neg e4] at h3
          exact h3.congr (hf1 _ _ (by omega) (by omega) (by omega)) (hf1 _ _ (by omega) (by omega) (by omega)) (fun b hb => hf1 _ _ (by omega) (by omega) (by have := h3.2.2.1; omega))
theorem c_M_dropParcel {k : Nat} (hm : wM S P) (hS : mS I ps pn) (hk : k < ps.length) (K : ∀ I', mS I' (ps.eraseIdx k) pn → fD I I' → Q none S I' P) : cn_V l en mi_M_dropParcel d 0 0 S I P Q 0 [(0, .ref 155), (1, .int (nI k))] [] := by
  have hl3 := hS.2.1
  refine cn_aload_n (pc' := 1) (k := 0) rfl rfl d_M_dropParcel_0 rfl ?_
  refine cn_dup (pc' := 2) rfl d_M_dropParcel_1 rfl ?_
  refine cn_getIv (pc' := 5) (v := nI (ps.length)) hS.1 fl_M_85 hm.1 rfl d_M_dropParcel_2 rfl ?_
  refine cn_iconst (pc' := 6) k_c_1 d_M_dropParcel_5 rfl ?_
  refine cn_isub_n (pc' := 7) (by omega) d_M_dropParcel_6 rfl ?_
  refine cn_putI (pc' := 10) fl_M_85 hm.1 rfl rfl rfl rfl d_M_dropParcel_7 rfl ?_
  refine cn_iload_n (pc' := 11) (k := 1) rfl rfl d_M_dropParcel_10 rfl ?_
  refine cn_istore_n (pc' := 12) (lv' := [(0, .ref 155), (1, .int (nI (k))), (2, .int (nI (k)))]) rfl [1, 2, 0] (Nat.le_of_ble_eq_true rfl) rfl d_M_dropParcel_11 rfl ?_
  exact c_M_dropParcel_12 hm hk hl3 I K (ps.length - 1 - k) k _ (by omega) (Nat.le_refl _) mw_e (mw_k (by decide) hS.2.2.1) (fun m hm2 => by rw [if_neg (by omega)]; exact (hS.2.2.2 m hm2).congr (mw_o (by omega)) (mw_o (by omega)) (fun j _ => mw_o (by omega))) (fun a k x y => mw_o (by omega))
theorem c_M_busy_9 (hm : wM S P) (hJ : mI I xs) (K : Q (some (.int (fb 0 xs))) S I P) : ∀ j, j ≤ xs.length → cn_V l en mi_M_busy d 0 0 S I P Q 9 [(0, .ref 155), (1, .int (fb j (xs.drop j))), (2, .int (nI j + Int32.ofInt (-1)))] [] := by
  have hl6 := hJ.2.1
  intro j
  induction j with
  | zero =>
    intro _
    rw [show nI 0 + Int32.ofInt (-1) = -1 from by decide +kernel]
    refine cn_iload_n (pc' := 10) (k := 2) rfl rfl d_M_busy_9 rfl ?_
    refine cn_if_lt (tgt := 34) (pc' := 13) d_M_busy_10 (by decide) rfl (fun hc10 => ?_) (fun hc10 => ?_)
    · refine cn_iload_n (pc' := 35) (k := 1) rfl rfl d_M_busy_34 rfl ?_
      refine cn_iret rfl d_M_busy_35 ?_
      exact K
    · exact absurd hc10 (by decide)
  | succ j ih =>
    intro hj
    rw [show nI (j + 1) + Int32.ofInt (-1) = nI j from pk_m1 j]
    have hq4 : (xs.getD j it0).2.2.2.length ≤ 4 := (hJ.2.2 j (by omega)).2.2.2.2.2.2.2.2.1
    refine cn_iload_n (pc' := 10) (k := 2) rfl rfl d_M_busy_9 rfl ?_
    refine cn_if_lt_n (tgt := 34) (pc' := 13) (by omega) d_M_busy_10 (by decide) rfl (fun hc10 => ?_) (fun hc10 => ?_)
    · exact False.elim (by omega)
    · refine cn_aload_n (pc' := 14) (k := 0) rfl rfl d_M_busy_13 rfl ?_
      refine cn_getP (pc' := 17) (b := 164) (hm.2.1 11 164 rfl) fl_M_39 hm.1 rfl d_M_busy_14 rfl ?_
      refine cn_iload_n (pc' := 18) (k := 2) rfl rfl d_M_busy_17 rfl ?_
      refine cn_ialdv (pc' := 19) (v := nI ((xs.getD j it0).2.2.2.length)) (hJ.2.2 j (by omega)).2.2.2.2.2.2.2.1 (hm.2.2 164 0 6 rfl) (by omega) (by decide) d_M_busy_18 rfl ?_
      refine cn_if_le_n (tgt := 26) (pc' := 22) (by omega) d_M_busy_19 (by decide) rfl (fun hc19 => ?_) (fun hc19 => ?_)
      · refine cn_iload_n (pc' := 27) (k := 1) rfl rfl d_M_busy_26 rfl ?_
        refine cn_istore_n (pc' := 28) (lv' := [(0, .ref 155), (1, .int (fb (j + 1) (xs.drop (j + 1)))), (2, .int (nI (j)))]) rfl [1, 0, 2] (Nat.le_of_ble_eq_true rfl) rfl d_M_busy_27 rfl ?_
        refine cn_iinc (pc' := 31) (lv' := [(0, .ref 155), (1, .int (fb (j + 1) (xs.drop (j + 1)))), (2, .int (nI (j) + Int32.ofInt (-1)))]) (k := 2) [1, 2, 0] rfl rfl (Nat.le_of_ble_eq_true rfl) rfl d_M_busy_28 rfl ?_
        refine cn_goto (tgt := 9) d_M_busy_31 (by decide) ?_
        have ih := ih (by omega)
        rw [drop_cons (show j < xs.length by omega)] at ih
        rw [show fb j (xs.getD j it0 :: xs.drop (j + 1)) = fb (j + 1) (xs.drop (j + 1)) from if_neg (by omega)] at ih
        exact ih
      · refine cn_iload_n (pc' := 23) (k := 2) rfl rfl d_M_busy_22 rfl ?_
        refine cn_goto (tgt := 27) d_M_busy_23 (by decide) ?_
        refine cn_istore_n (pc' := 28) (lv' := [(0, .ref 155), (1, .int (nI (j))), (2, .int (nI (j)))]) rfl [1, 0, 2] (Nat.le_of_ble_eq_true rfl) rfl d_M_busy_27 rfl ?_
        refine cn_iinc (pc' := 31) (lv' := [(0, .ref 155), (1, .int (nI (j))), (2, .int (nI (j) + Int32.ofInt (-1)))]) (k := 2) [1, 2, 0] rfl rfl (Nat.le_of_ble_eq_true rfl) rfl d_M_busy_28 rfl ?_
        refine cn_goto (tgt := 9) d_M_busy_31 (by decide) ?_
        have ih := ih (by omega)
        rw [drop_cons (show j < xs.length by omega)] at ih
        rw [show fb j (xs.getD j it0 :: xs.drop (j + 1)) = nI j from if_pos (by omega)] at ih
        exact ih
theorem c_M_busy (hm : wM S P) (hJ : mI I xs) (K : Q (some (.int (fb 0 xs))) S I P) : cn_V l en mi_M_busy d 0 0 S I P Q 0 [(0, .ref 155)] [] := by
  refine cn_iconst (pc' := 1) k_c_m1 d_M_busy_0 rfl ?_
  refine cn_istore_n (pc' := 2) (lv' := [(0, .ref 155), (1, .int (-1))]) rfl [1, 0] (Nat.le_of_ble_eq_true rfl) rfl d_M_busy_1 rfl ?_
  refine cn_aload_n (pc' := 3) (k := 0) rfl rfl d_M_busy_2 rfl ?_
  refine cn_getIv (pc' := 6) (v := nI (xs.length)) hJ.1 fl_M_82 hm.1 rfl d_M_busy_3 rfl ?_
  refine cn_iconst (pc' := 7) k_c_1 d_M_busy_6 rfl ?_
  refine cn_isub (pc' := 8) d_M_busy_7 rfl ?_
  refine cn_istore_n (pc' := 9) (lv' := [(0, .ref 155), (1, .int (-1)), (2, .int ((nI (xs.length)) - (nI (1))))]) rfl [1, 2, 0] (Nat.le_of_ble_eq_true rfl) rfl d_M_busy_8 rfl ?_
  have h := c_M_busy_9 (l := l) (en := en) (d := d) (Q := Q) hm hJ K xs.length (Nat.le_refl _)
  rw [List.drop_length] at h
  rw [sub_m1]
  exact h
theorem c_M_sayNotice_7 {i : Nat} {u v : List Int32} {mk : Int32} (hm : wM S P) (hi : i < 6) (hv : v.length ≤ 61) (hu : u.length + 63 ≤ 200) (hmk : mk &&& 255 = mk) (hd1 : 1 ≤ d) (I0 : cn_I) (h165 : I0 165 (4 * i) = nI v.length) (h166 : I0 166 (4 * i) = mk) (h167 : ∀ k, k < v.length → I0 167 (256 * i + k) = v.getD k 0) (K : ∀ I', mo I' (u ++ ntb i [(v, mk)]) → fO I0 I' → Q none S I' P) : ∀ (r k : Nat) (I : cn_I), k + r = v.length → mo I (u ++ nI i :: v.take k) → fO I0 I → cn_V l en mi_M_sayNotice d 0 0 S I P Q 7 [(0, .ref 155), (1, .int (nI i)), (2, .int (nI k))] [] := by
  intro r
  induction r with
  | zero =>
    intro k I hkr ho hf
    refine cn_iload_n (pc' := 8) (k := 2) rfl rfl d_M_sayNotice_7 rfl ?_
    refine cn_aload_n (pc' := 9) (k := 0) rfl rfl d_M_sayNotice_8 rfl ?_
    refine cn_getP (pc' := 12) (b := 165) (hm.2.1 12 165 rfl) fl_M_42 hm.1 rfl d_M_sayNotice_9 rfl ?_
    refine cn_iconst (pc' := 13) k_c_4 d_M_sayNotice_12 rfl ?_
    refine cn_iload_n (pc' := 14) (k := 1) rfl rfl d_M_sayNotice_13 rfl ?_
    refine cn_imul_n (pc' := 15) d_M_sayNotice_14 rfl ?_
    refine cn_ialdv (pc' := 16) (v := nI (v.length)) ((hf _ _ (by omega) (by omega)).trans h165) (hm.2.2 165 0 24 rfl) (by omega) (by decide) d_M_sayNotice_15 rfl ?_
    refine cn_icmp_ge_n (tgt := 41) (pc' := 19) (by omega) (by omega) d_M_sayNotice_16 (by decide) rfl (fun hc16 => ?_) (fun hc16 => ?_)
    · refine cn_aload_n (pc' := 42) (k := 0) rfl rfl d_M_sayNotice_41 rfl ?_
      refine cn_aload_n (pc' := 43) (k := 0) rfl rfl d_M_sayNotice_42 rfl ?_
      refine cn_getP (pc' := 46) (b := 166) (hm.2.1 13 166 rfl) fl_M_45 hm.1 rfl d_M_sayNotice_43 rfl ?_
      refine cn_iconst (pc' := 47) k_c_4 d_M_sayNotice_46 rfl ?_
      refine cn_iload_n (pc' := 48) (k := 1) rfl rfl d_M_sayNotice_47 rfl ?_
      refine cn_imul_n (pc' := 49) d_M_sayNotice_48 rfl ?_
      refine cn_ialdv (pc' := 50) (v := mk) ((hf _ _ (by omega) (by omega)).trans h166) (hm.2.2 166 0 24 rfl) (by omega) (by decide) d_M_sayNotice_49 rfl ?_
      refine cn_callV (pc' := 53) (kc1 := 0) (ks1 := 0) (kc2 := 0) (ks2 := 0) (rest := []) (lvj := [(0, .ref 155), (1, .int (mk))]) [.int (mk)] mv_M_184 hm.1 rfl rfl rfl (Nat.le_of_ble_eq_true rfl) (Nat.le_of_ble_eq_true rfl) (by omega) (by omega) (by omega) d_M_sayNotice_50 rfl ?_
      refine c_M_say hm ho (by rw [List.length_append]; show u.length + ((v.take k).length + 1) < 200; rw [List.length_take]; omega) (fun I1 ho1 hf1 => ?_)
      show cn_V l en mi_M_sayNotice d 0 0 S I1 P Q 53 [(0, .ref 155), (1, .int (nI (i))), (2, .int (nI (k)))] []
      refine cn_vret rfl d_M_sayNotice_53 ?_
      rw [List.take_of_length_le (by omega), List.append_assoc] at ho1
      have e : ntb i [(v, mk)] = (nI i :: v) ++ [mk] := by simp [ntb, hmk]
      rw [e] at K
      exact K I1 ho1 (hf.tr hf1)
    · exact absurd hc16 (by omega)
  | succ r ih =>
    intro k I hkr ho hf
    refine cn_iload_n (pc' := 8) (k := 2) rfl rfl d_M_sayNotice_7 rfl ?_
    refine cn_aload_n (pc' := 9) (k := 0) rfl rfl d_M_sayNotice_8 rfl ?_
    refine cn_getP (pc' := 12) (b := 165) (hm.2.1 12 165 rfl) fl_M_42 hm.1 rfl d_M_sayNotice_9 rfl ?_
    refine cn_iconst (pc' := 13) k_c_4 d_M_sayNotice_12 rfl ?_
    refine cn_iload_n (pc' := 14) (k := 1) rfl rfl d_M_sayNotice_13 rfl ?_
    refine cn_imul_n (pc' := 15) d_M_sayNotice_14 rfl ?_
    refine cn_ialdv (pc' := 16) (v := nI (v.length)) ((hf _ _ (by omega) (by omega)).trans h165) (hm.2.2 165 0 24 rfl) (by omega) (by decide) d_M_sayNotice_15 rfl ?_
    refine cn_icmp_ge_n (tgt := 41) (pc' := 19) (by omega) (by omega) d_M_sayNotice_16 (by decide) rfl (fun hc16 => ?_) (fun hc16 => ?_)
    · exact absurd hc16 (by omega)
    · refine cn_aload_n (pc' := 20) (k := 0) rfl rfl d_M_sayNotice_19 rfl ?_
      refine cn_aload_n (pc' := 21) (k := 0) rfl rfl d_M_sayNotice_20 rfl ?_
      refine cn_getP (pc' := 24) (b := 167) (hm.2.1 14 167 rfl) fl_M_48 hm.1 rfl d_M_sayNotice_21 rfl ?_
      refine cn_sipush (pc' := 27) k_s_256 d_M_sayNotice_24 rfl ?_
      refine cn_iload_n (pc' := 28) (k := 1) rfl rfl d_M_sayNotice_27 rfl ?_
      refine cn_imul_n (pc' := 29) d_M_sayNotice_28 rfl ?_
      refine cn_iload_n (pc' := 30) (k := 2) rfl rfl d_M_sayNotice_29 rfl ?_
      refine cn_iadd_n (pc' := 31) d_M_sayNotice_30 rfl ?_
      refine cn_ialdv (pc' := 32) (v := v.getD k 0) ((hf _ _ (by omega) (by omega)).trans (h167 k (by omega))) (hm.2.2 167 0 1536 rfl) (by omega) (by decide) d_M_sayNotice_31 rfl ?_
      refine cn_callV (pc' := 35) (kc1 := 0) (ks1 := 0) (kc2 := 0) (ks2 := 0) (rest := []) (lvj := [(0, .ref 155), (1, .int (v.getD k 0))]) [.int (v.getD k 0)] mv_M_184 hm.1 rfl rfl rfl (Nat.le_of_ble_eq_true rfl) (Nat.le_of_ble_eq_true rfl) (by omega) (by omega) (by omega) d_M_sayNotice_32 rfl ?_
      refine c_M_say hm ho (by rw [List.length_append]; show u.length + ((v.take k).length + 1) < 200; rw [List.length_take]; omega) (fun I1 ho1 hf1 => ?_)
      show cn_V l en mi_M_sayNotice d 0 0 S I1 P Q 35 [(0, .ref 155), (1, .int (nI (i))), (2, .int (nI (k)))] []
      refine cn_iinc_n (pc' := 38) (lv' := [(0, .ref 155), (1, .int (nI (i))), (2, .int (nI (k + 1)))]) (k := 2) [1, 2, 0] rfl (Nat.le_of_ble_eq_true rfl) rfl d_M_sayNotice_35 rfl ?_
      refine cn_goto (tgt := 7) d_M_sayNotice_38 (by decide) ?_
      exact ih (k + 1) I1 (by omega) (by rw [tk_succ (by omega)]; rw [List.append_assoc] at ho1; exact ho1) (hf.tr hf1)
theorem c_M_sayNotice {i : Nat} {u : List Int32} {t : sNt} (hm : wM S P) (hi : i < 6) (ht : mnt I (4 * i) t) (ho : mo I u) (hu : u.length + 63 ≤ 200) (hd1 : 1 ≤ d) (K : ∀ I', mo I' (u ++ ntb i [t]) → fO I I' → Q none S I' P) : cn_V l en mi_M_sayNotice d 0 0 S I P Q 0 [(0, .ref 155), (1, .int (nI i))] [] := by
  obtain ⟨v, mk⟩ := t
  obtain ⟨t1, t2, t3, t4, t5⟩ := ht
  refine cn_aload_n (pc' := 1) (k := 0) rfl rfl d_M_sayNotice_0 rfl ?_
  refine cn_iload_n (pc' := 2) (k := 1) rfl rfl d_M_sayNotice_1 rfl ?_
  refine cn_callV (pc' := 5) (kc1 := 0) (ks1 := 0) (kc2 := 0) (ks2 := 0) (rest := []) (lvj := [(0, .ref 155), (1, .int (nI (i)))]) [.int (nI (i))] mv_M_184 hm.1 rfl rfl rfl (Nat.le_of_ble_eq_true rfl) (Nat.le_of_ble_eq_true rfl) (by omega) (by omega) (by omega) d_M_sayNotice_2 rfl ?_
  refine c_M_say hm ho (by omega) (fun I1 ho1 hf1 => ?_)
  show cn_V l en mi_M_sayNotice d 0 0 S I1 P Q 5 [(0, .ref 155), (1, .int (nI (i)))] []
  refine cn_iconst (pc' := 6) k_c_0 d_M_sayNotice_5 rfl ?_
  refine cn_istore_n (pc' := 7) (lv' := [(0, .ref 155), (1, .int (nI (i))), (2, .int (nI (0)))]) rfl [1, 2, 0] (Nat.le_of_ble_eq_true rfl) rfl d_M_sayNotice_6 rfl ?_
  exact c_M_sayNotice_7 (v := v) (mk := mk) hm hi t2 hu t4 hd1 I1 ((hf1 _ _ (by omega) (by omega)).trans t1) ((hf1 _ _ (by omega) (by omega)).trans t3) (fun k hk => (hf1 _ _ (by omega) (by omega)).trans (by rw [show 256 * i + k = 64 * (4 * i) + k by omega]; exact t5 k hk)) (fun I2 ho2 hf2 => K I2 ho2 (hf1.tr hf2)) v.length 0 I1 (Nat.zero_add _) ho1 fO.rf
theorem c_M_keep_43 {k : Nat} {c : List Int32} {a0 : Int32} (hm : wM S P) (hk : k < 3) (hc : c.length ≤ 194) (I0 : cn_I) (h15 : I0 155 15 = nI k) (ho : mo I0 (a0 :: c)) (K : ∀ I', I' 155 15 = nI (k + 1) → (∀ j, j < c.length → I' 170 (200 * k + j) = c.getD j 0) → (∀ a m, (a ≠ 155 ∨ m ≠ 15) → (a ≠ 170 ∨ m < 200 * k ∨ 200 * k + 200 ≤ m) → I' a m = I0 a m) → Q none S I' P) : ∀ (r i : Nat) (I : cn_I), i + r = c.length + 1 → 1 ≤ i → (∀ j, j + 1 < i → I 170 (200 * k + j) = c.getD j 0) → (∀ a m, (a ≠ 170 ∨ m < 200 * k ∨ 200 * k + 200 ≤ m) → I a m = I0 a m) → cn_V l en mi_M_keep d 0 0 S I P Q 43 [(0, .ref 155), (1, .int (nI i))] [] := by
  intro r
  induction r with
  | zero =>
    intro i I hir hi1 hb hf
    refine cn_iload_n (pc' := 44) (k := 1) rfl rfl d_M_keep_43 rfl ?_
    refine cn_aload_n (pc' := 45) (k := 0) rfl rfl d_M_keep_44 rfl ?_
    refine cn_getIv (pc' := 48) (v := nI (c.length + 1)) ((hf _ _ (by omega)).trans ho.1) fl_M_94 hm.1 rfl d_M_keep_45 rfl ?_
    refine cn_icmp_ge_n (tgt := 80) (pc' := 51) (by omega) (by omega) d_M_keep_48 (by decide) rfl (fun hc48 => ?_) (fun hc48 => ?_)
    · refine cn_aload_n (pc' := 81) (k := 0) rfl rfl d_M_keep_80 rfl ?_
      refine cn_dup (pc' := 82) rfl d_M_keep_81 rfl ?_
      refine cn_getIv (pc' := 85) (v := nI (k)) ((hf _ _ (by omega)).trans h15) fl_M_85 hm.1 rfl d_M_keep_82 rfl ?_
      refine cn_iconst (pc' := 86) k_c_1 d_M_keep_85 rfl ?_
      refine cn_iadd_n (pc' := 87) d_M_keep_86 rfl ?_
      refine cn_putI (pc' := 90) fl_M_85 hm.1 rfl rfl rfl rfl d_M_keep_87 rfl ?_
      refine cn_vret rfl d_M_keep_90 ?_
      refine K _ mw_e (fun j hj => by rw [mw_o (by omega)]; exact hb j (by omega)) (fun a m x y => by rw [mw_o (by omega)]; exact hf a m y)
    · exact absurd hc48 (by omega)
  | succ r ih =>
    intro i I hir hi1 hb hf
    refine cn_iload_n (pc' := 44) (k := 1) rfl rfl d_M_keep_43 rfl ?_
    refine cn_aload_n (pc' := 45) (k := 0) rfl rfl d_M_keep_44 rfl ?_
    refine cn_getIv (pc' := 48) (v := nI (c.length + 1)) ((hf _ _ (by omega)).trans ho.1) fl_M_94 hm.1 rfl d_M_keep_45 rfl ?_
    refine cn_icmp_ge_n (tgt := 80) (pc' := 51) (by omega) (by omega) d_M_keep_48 (by decide) rfl (fun hc48 => ?_) (fun hc48 => ?_)
    · exact absurd hc48 (by omega)
    · refine cn_aload_n (pc' := 52) (k := 0) rfl rfl d_M_keep_51 rfl ?_
      refine cn_getP (pc' := 55) (b := 170) (hm.2.1 19 170 rfl) fl_M_57 hm.1 rfl d_M_keep_52 rfl ?_
      refine cn_sipush (pc' := 58) k_s_200 d_M_keep_55 rfl ?_
      refine cn_aload_n (pc' := 59) (k := 0) rfl rfl d_M_keep_58 rfl ?_
      refine cn_getIv (pc' := 62) (v := nI (k)) ((hf _ _ (by omega)).trans h15) fl_M_85 hm.1 rfl d_M_keep_59 rfl ?_
      refine cn_imul_n (pc' := 63) d_M_keep_62 rfl ?_
      refine cn_iload_n (pc' := 64) (k := 1) rfl rfl d_M_keep_63 rfl ?_
      refine cn_iadd_n (pc' := 65) d_M_keep_64 rfl ?_
      refine cn_iconst (pc' := 66) k_c_1 d_M_keep_65 rfl ?_
      refine cn_isub_n (pc' := 67) (by omega) d_M_keep_66 rfl ?_
      refine cn_aload_n (pc' := 68) (k := 0) rfl rfl d_M_keep_67 rfl ?_
      refine cn_getP (pc' := 71) (b := 174) (hm.2.1 36 174 rfl) fl_M_69 hm.1 rfl d_M_keep_68 rfl ?_
      refine cn_iload_n (pc' := 72) (k := 1) rfl rfl d_M_keep_71 rfl ?_
      refine cn_ialdv (pc' := 73) (v := (a0 :: c).getD i 0) ((hf _ _ (by omega)).trans (ho.2.2 i (by show i < c.length + 1; omega))) (hm.2.2 174 0 200 rfl) (by omega) (by decide) d_M_keep_72 rfl ?_
      refine cn_iast (pc' := 74) (hm.2.2 170 0 600 rfl) (by omega) (by decide) d_M_keep_73 rfl ?_
      refine cn_iinc_n (pc' := 77) (lv' := [(0, .ref 155), (1, .int (nI (i + 1)))]) (k := 1) [1, 0] rfl (Nat.le_of_ble_eq_true rfl) rfl d_M_keep_74 rfl ?_
      refine cn_goto (tgt := 43) d_M_keep_77 (by decide) ?_
      refine ih (i + 1) _ (by omega) (by omega) (fun j hj => ?_) (fun a m x => by rw [mw_o (by omega)]; exact hf a m x)
      by_cases e : j + 1 = i
      · subst e; rw [show 200 * k + (j + 1) - 1 = 200 * k + j by omega]; exact mw_e
      · rw [mw_o (by omega)]; exact hb j (by omega)
theorem c_M_keep_13 {c : List Int32} {a0 : Int32} (hm : wM S P) (hS : mS I ps pn) (hl : ps.length < 3) (ho : mo I (a0 :: c)) (hc : c.length ≤ 194) (K : ∀ I', mS I' (ps ++ [(pn, c)]) pn → fD I I' → Q none S I' P) : cn_V l en mi_M_keep d 0 0 S I P Q 13 [(0, .ref 155)] [] := by
  refine cn_aload_n (pc' := 14) (k := 0) rfl rfl d_M_keep_13 rfl ?_
  refine cn_getP (pc' := 17) (b := 168) (hm.2.1 17 168 rfl) fl_M_51 hm.1 rfl d_M_keep_14 rfl ?_
  refine cn_aload_n (pc' := 18) (k := 0) rfl rfl d_M_keep_17 rfl ?_
  refine cn_getIv (pc' := 21) (v := nI (ps.length)) hS.1 fl_M_85 hm.1 rfl d_M_keep_18 rfl ?_
  refine cn_aload_n (pc' := 22) (k := 0) rfl rfl d_M_keep_21 rfl ?_
  refine cn_getIv (pc' := 25) (v := pn) hS.2.2.1 fl_M_88 hm.1 rfl d_M_keep_22 rfl ?_
  refine cn_iast (pc' := 26) (hm.2.2 168 0 3 rfl) (by omega) (by decide) d_M_keep_25 rfl ?_
  refine cn_aload_n (pc' := 27) (k := 0) rfl rfl d_M_keep_26 rfl ?_
  refine cn_getP (pc' := 30) (b := 169) (hm.2.1 18 169 rfl) fl_M_54 hm.1 rfl d_M_keep_27 rfl ?_
  refine cn_aload_n (pc' := 31) (k := 0) rfl rfl d_M_keep_30 rfl ?_
  refine cn_getIv (pc' := 34) (v := nI (ps.length)) (mw_a (by decide) hS.1) fl_M_85 hm.1 rfl d_M_keep_31 rfl ?_
  refine cn_aload_n (pc' := 35) (k := 0) rfl rfl d_M_keep_34 rfl ?_
  refine cn_getIv (pc' := 38) (v := nI (c.length + 1)) (mw_a (by decide) ho.1) fl_M_94 hm.1 rfl d_M_keep_35 rfl ?_
  refine cn_iconst (pc' := 39) k_c_1 d_M_keep_38 rfl ?_
  refine cn_isub_n (pc' := 40) (by omega) d_M_keep_39 rfl ?_
  refine cn_iast (pc' := 41) (hm.2.2 169 0 3 rfl) (by omega) (by decide) d_M_keep_40 rfl ?_
  refine cn_iconst (pc' := 42) k_c_1 d_M_keep_41 rfl ?_
  refine cn_istore_n (pc' := 43) (lv' := [(0, .ref 155), (1, .int (nI (1)))]) rfl [1, 0] (Nat.le_of_ble_eq_true rfl) rfl d_M_keep_42 rfl ?_
  rw [show c.length + 1 - 1 = c.length from rfl]
  refine c_M_keep_43 (k := ps.length) (c := c) (a0 := a0) hm hl hc _ (mw_a (by decide) (mw_a (by decide) hS.1)) (ho.congr (by rw [mw_o (by omega), mw_o (by omega)]) (fun j => by rw [mw_o (by omega), mw_o (by omega)])) (fun I1 e1 e2 hf1 => ?_) c.length 1 _ (by omega) (by omega) (fun j hj => absurd hj (by omega)) (fun _ _ _ => rfl)
  refine K I1 ⟨by rw [List.length_append]; exact e1, by rw [List.length_append]; exact hl, (hf1 _ _ (by omega) (by omega)).trans (mw_a (by decide) (mw_a (by decide) hS.2.2.1)), fun k hk => ?_⟩ (fun a m x y => by rw [hf1 a m (by omega) (by omega), mw_o (by omega), mw_o (by omega)])
  rw [List.length_append] at hk
  have hk : k < ps.length + 1 := hk
  by_cases e : k = ps.length
  · subst e
    rw [pd_last]
    exact ⟨(hf1 _ _ (by omega) (by omega)).trans (mw_a (by decide) mw_e), (hf1 _ _ (by omega) (by omega)).trans mw_e, hc, e2⟩
  · rw [pd_l (by omega)]
    have h3 := hS.2.2.2 k (by omega)
    exact h3.congr (by rw [hf1 _ _ (by omega) (by omega), mw_o (by omega), mw_o (by omega)]) (by rw [hf1 _ _ (by omega) (by omega), mw_o (by omega), mw_o (by omega)]) (fun j hj => by rw [hf1 _ _ (by omega) (by have := h3.2.2.1; omega), mw_o (by omega), mw_o (by omega)])
theorem c_M_keep {c : List Int32} {a0 : Int32} (hm : wM S P) (hS : mS I ps pn) (ho : mo I (a0 :: c)) (hc : c.length ≤ 194) (hd1 : 1 ≤ d) (K : ∀ I', mS I' ((if ps.length = 3 then ps.eraseIdx 0 else ps) ++ [(pn, c)]) pn → fD I I' → Q none S I' P) : cn_V l en mi_M_keep d 0 0 S I P Q 0 [(0, .ref 155)] [] := by
  have hl3 := hS.2.1
  refine cn_aload_n (pc' := 1) (k := 0) rfl rfl d_M_keep_0 rfl ?_
  refine cn_getIv (pc' := 4) (v := nI (ps.length)) hS.1 fl_M_85 hm.1 rfl d_M_keep_1 rfl ?_
  refine cn_iconst (pc' := 5) k_c_3 d_M_keep_4 rfl ?_
  refine cn_icmp_ne_n (tgt := 13) (pc' := 8) (by omega) (by omega) d_M_keep_5 (by decide) rfl (fun hc5 => ?_) (fun hc5 => ?_)
  · rw [if_neg hc5] at K
    exact c_M_keep_13 hm hS (by omega) ho hc K
  · refine cn_aload_n (pc' := 9) (k := 0) rfl rfl d_M_keep_8 rfl ?_
    refine cn_iconst (pc' := 10) k_c_0 d_M_keep_9 rfl ?_
    refine cn_callV (pc' := 13) (kc1 := 0) (ks1 := 0) (kc2 := 0) (ks2 := 0) (rest := []) (lvj := [(0, .ref 155), (1, .int (nI (0)))]) [.int (nI (0))] mv_M_221 hm.1 rfl rfl rfl (Nat.le_of_ble_eq_true rfl) (Nat.le_of_ble_eq_true rfl) (by omega) (by omega) (by omega) d_M_keep_10 rfl ?_
    refine c_M_dropParcel (k := 0) hm hS (by omega) (fun I1 hS1 hf1 => ?_)
    show cn_V l en mi_M_keep d 0 0 S I1 P Q 13 [(0, .ref 155)] []
    rw [if_pos hc5] at K
    exact c_M_keep_13 hm hS1 (by rw [List.length_eraseIdx_of_lt (by omega)]; omega) (ho.congr (hf1 _ _ (by omega) (by omega)) (fun j => hf1 _ _ (by omega) (by omega))) hc (fun I2 hS2 hf2 => K I2 hS2 (hf1.tr hf2))
theorem c_M_publish_12 {c f : Nat} (hm : wM S P) (hc4 : c ≤ 4) (hd1 : 2 ≤ d) (I0 : cn_I) (K : ∀ I', mg I' g (rp g 1 (1 + 4 * c)) (rw_ g 1 (1 + 4 * c) true) → fN I0 I' → cn_V l en mi_M_publish d 0 0 S I' P Q 34 [(0, .ref 155), (1, .int (nI c)), (2, .int (nI f)), (3, .int (nI c))] []) : ∀ (r k : Nat) (I : cn_I), k + r = c → mg I g (rp g 1 (1 + 4 * k)) (rw_ g 1 (1 + 4 * k) true) → fN I0 I → cn_V l en mi_M_publish d 0 0 S I P Q 12 [(0, .ref 155), (1, .int (nI c)), (2, .int (nI f)), (3, .int (nI k))] [] := by
  intro r
  induction r with
  | zero =>
    intro k I hkr hr hf
    refine cn_iload_n (pc' := 13) (k := 3) rfl rfl d_M_publish_12 rfl ?_
    refine cn_iload_n (pc' := 14) (k := 1) rfl rfl d_M_publish_13 rfl ?_
    refine cn_icmp_ge_n (tgt := 34) (pc' := 17) (by omega) (by omega) d_M_publish_14 (by decide) rfl (fun hc14 => ?_) (fun hc14 => ?_)
    · obtain rfl : k = c := by omega
      exact K I hr hf
    · exact absurd hc14 (by omega)
  | succ r ih =>
    intro k I hkr hr hf
    refine cn_iload_n (pc' := 13) (k := 3) rfl rfl d_M_publish_12 rfl ?_
    refine cn_iload_n (pc' := 14) (k := 1) rfl rfl d_M_publish_13 rfl ?_
    refine cn_icmp_ge_n (tgt := 34) (pc' := 17) (by omega) (by omega) d_M_publish_14 (by decide) rfl (fun hc14 => ?_) (fun hc14 => ?_)
    · exact absurd hc14 (by omega)
    · refine cn_iload_n (pc' := 18) (k := 1) rfl rfl d_M_publish_17 rfl ?_
      refine cn_iconst (pc' := 19) k_c_4 d_M_publish_18 rfl ?_
      refine cn_icmp_gt_n (tgt := 34) (pc' := 22) (by omega) (by omega) d_M_publish_19 (by decide) rfl (fun hc19 => ?_) (fun hc19 => ?_)
      · exact absurd hc19 (by omega)
      · refine cn_aload_n (pc' := 23) (k := 0) rfl rfl d_M_publish_22 rfl ?_
        refine cn_iconst (pc' := 24) k_c_4 d_M_publish_23 rfl ?_
        refine cn_callV (pc' := 27) (kc1 := 0) (ks1 := 0) (kc2 := 0) (ks2 := 0) (rest := []) (lvj := [(0, .ref 155), (1, .int (nI (4)))]) [.int (nI (4))] mv_M_171 hm.1 rfl rfl rfl (Nat.le_of_ble_eq_true rfl) (Nat.le_of_ble_eq_true rfl) (by omega) (by omega) (by omega) d_M_publish_24 rfl ?_
        refine c_M_number (n := 4) hm (by decide) (by omega) hr (fun I1 hr1 hf1 => ?_)
        rw [rp_add, rw_add, show 1 + 4 * k + 4 = 1 + 4 * (k + 1) by omega] at hr1
        show cn_V l en mi_M_publish d 0 0 S I1 P Q 27 [(0, .ref 155), (1, .int (nI (c))), (2, .int (nI (f))), (3, .int (nI (k)))] [.int (nmk g (rp g 1 (1 + 4 * k)) 4)]
        refine cn_pop (pc' := 28) rfl d_M_publish_27 rfl ?_
        refine cn_iinc_n (pc' := 31) (lv' := [(0, .ref 155), (1, .int (nI (c))), (2, .int (nI (f))), (3, .int (nI (k + 1)))]) (k := 3) [1, 2, 3, 0] rfl (Nat.le_of_ble_eq_true rfl) rfl d_M_publish_28 rfl ?_
        refine cn_goto (tgt := 12) d_M_publish_31 (by decide) ?_
        exact ih (k + 1) I1 (by omega) hr1 (hf.tr hf1)
theorem c_M_publish_54 {c f : Nat} (hm : wM S P) (hc4 : c ≤ 4) (hg : 2 + 4 * c ≤ g.length) (hd1 : 2 ≤ d) (I0 : cn_I) (K : ∀ I', MT I' (ns, xs, ((nums g 2 c).foldl pdrop ps, pn)) [nI 1] T → fV I0 I' → cn_V l en mi_M_publish d 0 0 S I' P Q 91 [(0, .ref 155), (1, .int (nI c)), (2, .int (nI f)), (3, .int (nI c))] []) : ∀ (r k : Nat) (I : cn_I) (ps' : List sPar), k + r = c → mg I g (2 + 4 * k) true → MT I (ns, xs, (ps', pn)) [nI 1] T → ((nums g 2 c).drop k).foldl pdrop ps' = (nums g 2 c).foldl pdrop ps → fV I0 I → cn_V l en mi_M_publish d 0 0 S I P Q 54 [(0, .ref 155), (1, .int (nI c)), (2, .int (nI f)), (3, .int (nI k))] [] := by
  intro r
  induction r with
  | zero =>
    intro k I ps' hkr hr h hfo hf
    refine cn_iload_n (pc' := 55) (k := 3) rfl rfl d_M_publish_54 rfl ?_
    refine cn_iload_n (pc' := 56) (k := 1) rfl rfl d_M_publish_55 rfl ?_
    refine cn_icmp_ge_n (tgt := 91) (pc' := 59) (by omega) (by omega) d_M_publish_56 (by decide) rfl (fun hc56 => ?_) (fun hc56 => ?_)
    · obtain rfl : k = c := by omega
      rw [List.drop_of_length_le (by rw [nums_len]; omega)] at hfo
      have hfo : ps' = (nums g 2 k).foldl pdrop ps := hfo
      subst hfo
      exact K I h hf
    · exact absurd hc56 (by omega)
  | succ r ih =>
    intro k I ps' hkr hr h hfo hf
    refine cn_iload_n (pc' := 55) (k := 3) rfl rfl d_M_publish_54 rfl ?_
    refine cn_iload_n (pc' := 56) (k := 1) rfl rfl d_M_publish_55 rfl ?_
    refine cn_icmp_ge_n (tgt := 91) (pc' := 59) (by omega) (by omega) d_M_publish_56 (by decide) rfl (fun hc56 => ?_) (fun hc56 => ?_)
    · exact absurd hc56 (by omega)
    · refine cn_aload_n (pc' := 60) (k := 0) rfl rfl d_M_publish_59 rfl ?_
      refine cn_iconst (pc' := 61) k_c_4 d_M_publish_60 rfl ?_
      refine cn_callV (pc' := 64) (kc1 := 0) (ks1 := 0) (kc2 := 0) (ks2 := 0) (rest := []) (lvj := [(0, .ref 155), (1, .int (nI (4)))]) [.int (nI (4))] mv_M_171 hm.1 rfl rfl rfl (Nat.le_of_ble_eq_true rfl) (Nat.le_of_ble_eq_true rfl) (by omega) (by omega) (by omega) d_M_publish_61 rfl ?_
      refine c_M_number (n := 4) hm (by decide) (by omega) hr (fun I1 hr1 hf1 => ?_)
      rw [show rp g (2 + 4 * k) 4 = 2 + 4 * (k + 1) by unfold rp; omega, show rw_ g (2 + 4 * k) 4 true = true by unfold rw_; rw [decide_eq_true (by omega)]; rfl] at hr1
      rw [nmk_4]
      have h1 := h.rd hf1.toR
      have hl3 : ps'.length ≤ 3 := h.2.2.1.2.1
      rw [drop_i32 (by rw [nums_len]; omega), List.foldl_cons, nums_at (by omega)] at hfo
      show cn_V l en mi_M_publish d 0 0 S I1 P Q 64 [(0, .ref 155), (1, .int (nI (c))), (2, .int (nI (f))), (3, .int (nI (k)))] [.int (rn4 g (2 + 4 * k))]
      refine cn_istore (pc' := 66) (lv' := [(0, .ref 155), (1, .int (nI (c))), (2, .int (nI (f))), (3, .int (nI (k))), (4, .int (rn4 g (2 + 4 * k)))]) [1, 2, 3, 4, 0] (Nat.le_of_ble_eq_true rfl) rfl d_M_publish_64 rfl ?_
      refine cn_aload_n (pc' := 67) (k := 0) rfl rfl d_M_publish_66 rfl ?_
      refine cn_iload (pc' := 69) (k := 4) rfl d_M_publish_67 rfl ?_
      refine cn_callV (pc' := 72) (kc1 := 0) (ks1 := 0) (kc2 := 0) (ks2 := 0) (rest := []) (lvj := [(0, .ref 155), (1, .int (rn4 g (2 + 4 * k)))]) [.int (rn4 g (2 + 4 * k))] mv_M_218 hm.1 rfl rfl rfl (Nat.le_of_ble_eq_true rfl) (Nat.le_of_ble_eq_true rfl) (by omega) (by omega) (by omega) d_M_publish_69 rfl ?_
      refine c_M_find (ps := ps') hm h1.2.2.1 h.2.2.2.1 (fun m hml hmx hmn => ?_) (fun hno => ?_)
      · show cn_V l en mi_M_publish d 0 0 S I1 P Q 72 [(0, .ref 155), (1, .int (nI (c))), (2, .int (nI (f))), (3, .int (nI (k))), (4, .int (rn4 g (2 + 4 * k)))] [.int (nI (m))]
        refine cn_istore (pc' := 74) (lv' := [(0, .ref 155), (1, .int (nI (c))), (2, .int (nI (f))), (3, .int (nI (k))), (4, .int (rn4 g (2 + 4 * k))), (5, .int (nI (m)))]) [1, 2, 3, 4, 5, 0] (Nat.le_of_ble_eq_true rfl) rfl d_M_publish_72 rfl ?_
        refine cn_iload (pc' := 76) (k := 5) rfl d_M_publish_74 rfl ?_
        refine cn_if_lt_n (tgt := 85) (pc' := 79) (by omega) d_M_publish_76 (by decide) rfl (fun hc76 => ?_) (fun hc76 => ?_)
        · exact False.elim (by omega)
        · refine cn_aload_n (pc' := 80) (k := 0) rfl rfl d_M_publish_79 rfl ?_
          refine cn_iload (pc' := 82) (k := 5) rfl d_M_publish_80 rfl ?_
          refine cn_callV (pc' := 85) (kc1 := 0) (ks1 := 0) (kc2 := 0) (ks2 := 0) (rest := []) (lvj := [(0, .ref 155), (1, .int (nI (m)))]) [.int (nI (m))] mv_M_221 hm.1 rfl rfl rfl (Nat.le_of_ble_eq_true rfl) (Nat.le_of_ble_eq_true rfl) (by omega) (by omega) (by omega) d_M_publish_82 rfl ?_
          refine c_M_dropParcel (k := m) hm h1.2.2.1 hml (fun I2 hS2 hf2 => ?_)
          show cn_V l en mi_M_publish d 0 0 S I2 P Q 85 [(0, .ref 155), (1, .int (nI (c))), (2, .int (nI (f))), (3, .int (nI (k))), (4, .int (rn4 g (2 + 4 * k))), (5, .int (nI (m)))] []
          refine cn_iinc_n (pc' := 88) (lv' := [(0, .ref 155), (1, .int (nI (c))), (2, .int (nI (f))), (3, .int (nI (k + 1))), (4, .int (rn4 g (2 + 4 * k))), (5, .int (nI (m)))]) (k := 3) [1, 2, 3, 0, 4, 5] rfl (Nat.le_of_ble_eq_true rfl) rfl d_M_publish_85 rfl ?_
          refine cn_goto (tgt := 54) d_M_publish_88 (by decide) ?_
          refine cn_fewer (lv := [(0, .ref 155), (1, .int (nI (c))), (2, .int (nI (f))), (3, .int (nI (k + 1)))]) (fun q hq => by simp only [List.mem_cons, List.not_mem_nil, or_false] at hq ⊢; rcases hq with h | h | h | h <;> simp only [h, true_or, or_true]) ?_
          rw [pdrop_some ps' m hml hmx (fun j hj => hmn j (by omega) (by omega))] at hfo
          exact ih (k + 1) I2 (ps'.eraseIdx m) (by omega) (hr1.congr (hf2 _ _ (by omega) (by omega)) (hf2 _ _ (by omega) (by omega)) (hf2 _ _ (by omega) (by omega)) (fun j => hf2 _ _ (by omega) (by omega))) ⟨h1.1.congr (fun a j x => hf2 _ _ (by omega) (by omega)), h1.2.1.congr (fun a j x => hf2 _ _ (by omega) (by omega)), hS2, pOK_erase h.2.2.2.1 hml, h1.2.2.2.2.congr (hf2 _ _ (by omega) (by omega)) (fun j => hf2 _ _ (by omega) (by omega))⟩ hfo (hf.tr (hf1.toR.toV.tr (fun a j x => hf2 _ _ (by omega) (by omega))))
      · show cn_V l en mi_M_publish d 0 0 S I1 P Q 72 [(0, .ref 155), (1, .int (nI (c))), (2, .int (nI (f))), (3, .int (nI (k))), (4, .int (rn4 g (2 + 4 * k)))] [.int (-1)]
        refine cn_istore (pc' := 74) (lv' := [(0, .ref 155), (1, .int (nI (c))), (2, .int (nI (f))), (3, .int (nI (k))), (4, .int (rn4 g (2 + 4 * k))), (5, .int (-1))]) [1, 2, 3, 4, 5, 0] (Nat.le_of_ble_eq_true rfl) rfl d_M_publish_72 rfl ?_
        refine cn_iload (pc' := 76) (k := 5) rfl d_M_publish_74 rfl ?_
        refine cn_if_lt (tgt := 85) (pc' := 79) d_M_publish_76 (by decide) rfl (fun hc76 => ?_) (fun hc76 => ?_)
        · refine cn_iinc_n (pc' := 88) (lv' := [(0, .ref 155), (1, .int (nI (c))), (2, .int (nI (f))), (3, .int (nI (k + 1))), (4, .int (rn4 g (2 + 4 * k))), (5, .int (-1))]) (k := 3) [1, 2, 3, 0, 4, 5] rfl (Nat.le_of_ble_eq_true rfl) rfl d_M_publish_85 rfl ?_
          refine cn_goto (tgt := 54) d_M_publish_88 (by decide) ?_
          refine cn_fewer (lv := [(0, .ref 155), (1, .int (nI (c))), (2, .int (nI (f))), (3, .int (nI (k + 1)))]) (fun q hq => by simp only [List.mem_cons, List.not_mem_nil, or_false] at hq ⊢; rcases hq with h | h | h | h <;> simp only [h, true_or, or_true]) ?_
          rw [pdrop_none ps' hno] at hfo
          exact ih (k + 1) I1 _ (by omega) hr1 h1 hfo (hf.tr hf1.toR.toV)
        · exact absurd hc76 (by decide)
theorem c_M_publish_135 {v1 v2 : Int32} {a : List Int32} (ha : a.length = 4) (hm : wM S P) (hd1 : 3 ≤ d) (I0 : cn_I) : ∀ (r k : Nat) (I : cn_I) (xs : List sItem) (t : List Int32), k + r = 3 → mI I xs → mo I (nI 0 :: (a ++ nI k :: t)) → t.length ≤ 63 * k → (∀ b j, (b < 164 ∨ 167 < b) → (b ≠ 155 ∨ j ≠ 35) → b ≠ 174 → I b j = I0 b j) → (∀ I', mI I' (tkx 0 (min (ntot xs) r) xs).2 → mo I' (nI 0 :: (a ++ nI (k + min (ntot xs) r) :: (t ++ (tkx 0 (min (ntot xs) r) xs).1))) → (t ++ (tkx 0 (min (ntot xs) r) xs).1).length ≤ 189 → (∀ b j, (b < 164 ∨ 167 < b) → (b ≠ 155 ∨ j ≠ 35) → b ≠ 174 → I' b j = I0 b j) → ∀ v3, cn_V l en mi_M_publish d 0 0 S I' P Q 181 [(0, .ref 155), (1, .int v1), (2, .int v2), (3, .int v3)] []) → cn_V l en mi_M_publish d 0 0 S I P Q 135 [(0, .ref 155), (1, .int v1), (2, .int v2), (3, .int (nI k))] [] := by
  intro r
  induction r with
  | zero =>
    intro k I xs t hkr hJ ho ht hf K
    have hl6 := hJ.2.1
    refine cn_iload_n (pc' := 136) (k := 3) rfl rfl d_M_publish_135 rfl ?_
    refine cn_iconst (pc' := 137) k_c_3 d_M_publish_136 rfl ?_
    refine cn_icmp_ge_n (tgt := 181) (pc' := 140) (by omega) (by omega) d_M_publish_137 (by decide) rfl (fun hc137 => ?_) (fun hc137 => ?_)
    · rw [Nat.min_zero, tkx_z, List.append_nil] at K
      exact K I hJ ho (by omega) hf _
    · exact absurd hc137 (by omega)
  | succ r ih =>
    intro k I xs t hkr hJ ho ht hf K
    have hl6 := hJ.2.1
    refine cn_iload_n (pc' := 136) (k := 3) rfl rfl d_M_publish_135 rfl ?_
    refine cn_iconst (pc' := 137) k_c_3 d_M_publish_136 rfl ?_
    refine cn_icmp_ge_n (tgt := 181) (pc' := 140) (by omega) (by omega) d_M_publish_137 (by decide) rfl (fun hc137 => ?_) (fun hc137 => ?_)
    · exact absurd hc137 (by omega)
    · refine cn_aload_n (pc' := 141) (k := 0) rfl rfl d_M_publish_140 rfl ?_
      refine cn_callV (pc' := 144) (kc1 := 0) (ks1 := 0) (kc2 := 0) (ks2 := 0) (rest := []) (lvj := [(0, .ref 155)]) [] mv_M_224 hm.1 rfl rfl rfl (Nat.le_of_ble_eq_true rfl) (Nat.le_of_ble_eq_true rfl) (by omega) (by omega) (by omega) d_M_publish_141 rfl ?_
      refine c_M_busy hm hJ ?_
      rcases fb_c xs 0 with ⟨hfb, hnt⟩ | ⟨i, hil, hfb, hq0, hq1⟩
      · rw [hfb]
        show cn_V l en mi_M_publish d 0 0 S I P Q 144 [(0, .ref 155), (1, .int (v1)), (2, .int (v2)), (3, .int (nI (k)))] [.int (-1)]
        refine cn_if_lt (tgt := 181) (pc' := 147) d_M_publish_144 (by decide) rfl (fun hc144 => ?_) (fun hc144 => ?_)
        · rw [hnt, Nat.zero_min, tkx_z, List.append_nil] at K
          exact K I hJ ho (by omega) hf _
        · exact absurd hc144 (by decide)
      · rw [hfb, Nat.zero_add]
        show cn_V l en mi_M_publish d 0 0 S I P Q 144 [(0, .ref 155), (1, .int (v1)), (2, .int (v2)), (3, .int (nI (k)))] [.int (nI (i))]
        refine cn_if_lt_n (tgt := 181) (pc' := 147) (by omega) d_M_publish_144 (by decide) rfl (fun hc144 => ?_) (fun hc144 => ?_)
        · exact False.elim (by omega)
        · refine cn_aload_n (pc' := 148) (k := 0) rfl rfl d_M_publish_147 rfl ?_
          refine cn_callV (pc' := 151) (kc1 := 0) (ks1 := 0) (kc2 := 0) (ks2 := 0) (rest := []) (lvj := [(0, .ref 155)]) [] mv_M_224 hm.1 rfl rfl rfl (Nat.le_of_ble_eq_true rfl) (Nat.le_of_ble_eq_true rfl) (by omega) (by omega) (by omega) d_M_publish_148 rfl ?_
          refine c_M_busy hm hJ ?_
          rw [hfb, Nat.zero_add]
          obtain ⟨b1, b2, b3, b4, b5, b6, b7, b8⟩ := id (hJ.2.2 i hil)
          show cn_V l en mi_M_publish d 0 0 S I P Q 151 [(0, .ref 155), (1, .int (v1)), (2, .int (v2)), (3, .int (nI (k)))] [.int (nI (i))]
          refine cn_istore (pc' := 153) (lv' := [(0, .ref 155), (1, .int (v1)), (2, .int (v2)), (3, .int (nI (k))), (4, .int (nI (i)))]) [1, 2, 3, 4, 0] (Nat.le_of_ble_eq_true rfl) rfl d_M_publish_151 rfl ?_
          refine cn_aload_n (pc' := 154) (k := 0) rfl rfl d_M_publish_153 rfl ?_
          refine cn_getP (pc' := 157) (b := 174) (hm.2.1 36 174 rfl) fl_M_69 hm.1 rfl d_M_publish_154 rfl ?_
          refine cn_iconst (pc' := 158) k_c_5 d_M_publish_157 rfl ?_
          refine cn_dup2 (pc' := 159) rfl rfl d_M_publish_158 rfl ?_
          refine cn_ialdv (pc' := 160) (v := nI (k)) (mo_5v ha ho) (hm.2.2 174 0 200 rfl) (by omega) (by decide) d_M_publish_159 rfl ?_
          refine cn_iconst (pc' := 161) k_c_1 d_M_publish_160 rfl ?_
          refine cn_iadd_n (pc' := 162) d_M_publish_161 rfl ?_
          refine cn_iast (pc' := 163) (hm.2.2 174 0 200 rfl) (by omega) (by decide) d_M_publish_162 rfl ?_
          refine cn_aload_n (pc' := 164) (k := 0) rfl rfl d_M_publish_163 rfl ?_
          refine cn_iload (pc' := 166) (k := 4) rfl d_M_publish_164 rfl ?_
          refine cn_callV (pc' := 169) (kc1 := 0) (ks1 := 0) (kc2 := 0) (ks2 := 0) (rest := []) (lvj := [(0, .ref 155), (1, .int (nI (i)))]) [.int (nI (i))] mv_M_230 hm.1 rfl rfl rfl (Nat.le_of_ble_eq_true rfl) (Nat.le_of_ble_eq_true rfl) (by omega) (by omega) (by omega) d_M_publish_166 rfl ?_
          have hll : (nI 0 :: (a ++ nI (k + 1) :: t)).length = t.length + 6 := by show (a ++ nI (k + 1) :: t).length + 1 = _; rw [List.length_append, ha]; show 4 + (t.length + 1) + 1 = _; omega
          refine c_M_sayNotice (t := (xs.getD i it0).2.2.2.getD 0 ntd) hm (by omega) ((b8.2.2 0 hq0).congr (mw_o (by omega)) (mw_o (by omega)) (fun k _ => mw_o (by omega))) (mo_5 ha ho) (by rw [hll]; omega) (by omega) (fun I1 ho1 hf1 => ?_)
          have hf01 : fO I I1 := fO_wi.tr hf1
          show cn_V l en mi_M_publish d 0 0 S I1 P Q 169 [(0, .ref 155), (1, .int (v1)), (2, .int (v2)), (3, .int (nI (k))), (4, .int (nI (i)))] []
          refine cn_aload_n (pc' := 170) (k := 0) rfl rfl d_M_publish_169 rfl ?_
          refine cn_iload (pc' := 172) (k := 4) rfl d_M_publish_170 rfl ?_
          refine cn_callV (pc' := 175) (kc1 := 0) (ks1 := 0) (kc2 := 0) (ks2 := 0) (rest := []) (lvj := [(0, .ref 155), (1, .int (nI (i)))]) [.int (nI (i))] mv_M_117 hm.1 rfl rfl rfl (Nat.le_of_ble_eq_true rfl) (Nat.le_of_ble_eq_true rfl) (by omega) (by omega) (by omega) d_M_publish_172 rfl ?_
          refine c_M_dropFirst (q := (xs.getD i it0).2.2.2) hm (by omega) (b8.congr (hf01 _ _ (by omega) (by omega)) (fun j _ => hf01 _ _ (by omega) (by omega)) (fun j _ => hf01 _ _ (by omega) (by omega)) (fun j k _ _ => hf01 _ _ (by omega) (by omega))) hq0 (by omega) (fun I2 hq2 hf2 => ?_)
          show cn_V l en mi_M_publish d 0 0 S I2 P Q 175 [(0, .ref 155), (1, .int (v1)), (2, .int (v2)), (3, .int (nI (k))), (4, .int (nI (i)))] []
          refine cn_iinc_n (pc' := 178) (lv' := [(0, .ref 155), (1, .int (v1)), (2, .int (v2)), (3, .int (nI (k + 1))), (4, .int (nI (i)))]) (k := 3) [1, 2, 3, 0, 4] rfl (Nat.le_of_ble_eq_true rfl) rfl d_M_publish_175 rfl ?_
          refine cn_goto (tgt := 135) d_M_publish_178 (by decide) ?_
          refine cn_fewer (lv := [(0, .ref 155), (1, .int (v1)), (2, .int (v2)), (3, .int (nI (k + 1)))]) (fun q hq => by simp only [List.mem_cons, List.not_mem_nil, or_false] at hq ⊢; rcases hq with h | h | h | h <;> simp only [h, true_or, or_true]) ?_
          have hx2 : mIt I2 i ((xs.getD i it0).1, (xs.getD i it0).2.1, (xs.getD i it0).2.2.1, (xs.getD i it0).2.2.2.tail) := mIt_q (hJ.2.2 i hil) hq2 (by rw [List.length_tail]; omega) (fun a x y => (hf2 _ _ (by omega) (by omega) (by omega)).trans (hf01 _ _ (by omega) (by omega)))
          have hJ1 : mI I1 xs := hJ.congr (fun a j x => hf01 _ _ (by omega) (by omega))
          have hJ2 := mI_set hJ1 hil (hf2 _ _ (by omega) (by omega) (by omega)) hx2 hf2
          have hns := ntot_set xs i hil hq0
          have hmin : min (ntot xs) (r + 1) = min (ntot (xs.set i ((xs.getD i it0).1, (xs.getD i it0).2.1, (xs.getD i it0).2.2.1, (xs.getD i it0).2.2.2.tail))) r + 1 := by omega
          rw [hmin, tkx_first xs i 0 _ hil hq1 hq0, Nat.zero_add] at K
          have hnb : (ntb i [(xs.getD i it0).2.2.2.getD 0 ntd]).length ≤ 63 := by
            have h61 := (b8.2.2 0 hq0).2.1
            have e : ntb i [(xs.getD i it0).2.2.2.getD 0 ntd] = nI i :: (((xs.getD i it0).2.2.2.getD 0 ntd).1 ++ [((xs.getD i it0).2.2.2.getD 0 ntd).2 &&& 255]) := by simp [ntb]
            rw [e]
            show (_ ++ [_]).length + 1 ≤ 63
            rw [List.length_append]; show ((xs.getD i it0).2.2.2.getD 0 ntd).1.length + 1 + 1 ≤ 63; omega
          rw [List.cons_append, List.append_assoc, List.cons_append] at ho1
          refine ih (k + 1) I2 _ (t ++ ntb i [(xs.getD i it0).2.2.2.getD 0 ntd]) (by omega) hJ2 (ho1.congr (hf2 _ _ (by omega) (by omega) (by omega)) (fun j => hf2 _ _ (by omega) (by omega) (by omega))) (by rw [List.length_append]; omega) (fun b j x y z => by rw [hf2 b j (by omega) (by omega) (by omega), hf01 b j y z]; exact hf b j x y z) (fun I3 hJ3 ho3 hl3 hf3 v3 => ?_)
          rw [List.append_assoc] at ho3 hl3
          refine K I3 hJ3 ?_ hl3 hf3 v3
          rw [show k + (min (ntot (xs.set i ((xs.getD i it0).1, (xs.getD i it0).2.1, (xs.getD i it0).2.2.1, (xs.getD i it0).2.2.2.tail))) r + 1) = k + 1 + min (ntot (xs.set i ((xs.getD i it0).1, (xs.getD i it0).2.1, (xs.getD i it0).2.2.1, (xs.getD i it0).2.2.2.tail))) r by omega]
          exact ho3
theorem c_M_publish (hm : wM S P) (h : MT I (ns, xs, (ps, pn)) [nI 1] T) (hr : mg I g 1 true) (hT : T < 1000000) (hd1 : 4 ≤ d) (K : ∀ I', MT I' (sp_publish (ns, xs, (ps, pn)) g).2.2 ((sp_publish (ns, xs, (ps, pn)) g).1 :: (sp_publish (ns, xs, (ps, pn)) g).2.1) (T + 1) → fV I I' → Q none S I' P) : cn_V l en mi_M_publish d 0 0 S I P Q 0 [(0, .ref 155)] [] := by
  have h9 := h
  obtain ⟨hN, hJ, hS, hp, ho⟩ := h
  have hN : mN I ns := hN
  have hJ : mI I xs := hJ
  have hS : mS I ps pn := hS
  have hl16 := hN.2.1
  have hl6 := hJ.2.1
  have hl3 := hS.2.1
  refine cn_aload_n (pc' := 1) (k := 0) rfl rfl d_M_publish_0 rfl ?_
  refine cn_callV (pc' := 4) (kc1 := 0) (ks1 := 0) (kc2 := 0) (ks2 := 0) (rest := []) (lvj := [(0, .ref 155)]) [] mv_M_164 hm.1 rfl rfl rfl (Nat.le_of_ble_eq_true rfl) (Nat.le_of_ble_eq_true rfl) (by omega) (by omega) (by omega) d_M_publish_1 rfl ?_
  refine c_M_next hm hr (fun I1 hr1 hf1 => ?_)
  obtain ⟨c, hc256, hgc⟩ := b8_nat (hr.2.2.2.2.2.2 1)
  rw [hgc]
  have hg64 := hr.2.2.2.2.1
  show cn_V l en mi_M_publish d 0 0 S I1 P Q 4 [(0, .ref 155)] [.int (nI (c))]
  refine cn_istore_n (pc' := 5) (lv' := [(0, .ref 155), (1, .int (nI (c)))]) rfl [1, 0] (Nat.le_of_ble_eq_true rfl) rfl d_M_publish_4 rfl ?_
  refine cn_aload_n (pc' := 6) (k := 0) rfl rfl d_M_publish_5 rfl ?_
  refine cn_getIv (pc' := 9) (v := nI (rp g 1 1)) hr1.2.1 fl_M_158 hm.1 rfl d_M_publish_6 rfl ?_
  refine cn_istore_n (pc' := 10) (lv' := [(0, .ref 155), (1, .int (nI (c))), (2, .int (nI (rp g 1 1)))]) rfl [1, 2, 0] (Nat.le_of_ble_eq_true rfl) rfl d_M_publish_9 rfl ?_
  refine cn_iconst (pc' := 11) k_c_0 d_M_publish_10 rfl ?_
  refine cn_istore_n (pc' := 12) (lv' := [(0, .ref 155), (1, .int (nI (c))), (2, .int (nI (rp g 1 1))), (3, .int (nI (0)))]) rfl [1, 2, 3, 0] (Nat.le_of_ble_eq_true rfl) rfl d_M_publish_11 rfl ?_
  by_cases hc4 : c ≤ 4
  · rw [pub_eq hgc hc4] at K
    refine c_M_publish_12 hm hc4 (by omega) I (fun I2 hr2 hf2 => ?_) c 0 I1 (by omega) hr1 hf1
    have h92 := h9.rd hf2.toR
    have hv2 : fV I I2 := hf2.toR.toV
    refine cn_aload_n (pc' := 35) (k := 0) rfl rfl d_M_publish_34 rfl ?_
    refine cn_callV (pc' := 38) (kc1 := 0) (ks1 := 0) (kc2 := 0) (ks2 := 0) (rest := []) (lvj := [(0, .ref 155)]) [] mv_M_211 hm.1 rfl rfl rfl (Nat.le_of_ble_eq_true rfl) (Nat.le_of_ble_eq_true rfl) (by omega) (by omega) (by omega) d_M_publish_35 rfl ?_
    refine c_M_whole hm hr2 ?_
    have hwb := tn_le (whl g (rp g 1 (1 + 4 * c)) (rw_ g 1 (1 + 4 * c) true))
    show cn_V l en mi_M_publish d 0 0 S I2 P Q 38 [(0, .ref 155), (1, .int (nI (c))), (2, .int (nI (rp g 1 1))), (3, .int (nI (c)))] [.int (nI ((whl g (rp g 1 (1 + 4 * c)) (rw_ g 1 (1 + 4 * c) true)).toNat))]
    refine cn_if_eq_n (tgt := 46) (pc' := 41) (by omega) d_M_publish_38 (by decide) rfl (fun hc38 => ?_) (fun hc38 => ?_)
    · refine cn_vret rfl d_M_publish_46 ?_
      rw [if_neg (by rw [tn_0 hc38]; decide)] at K
      exact K I2 ⟨h92.1, h92.2.1, h92.2.2.1, h92.2.2.2.1.mono (by omega), h92.2.2.2.2⟩ hv2
    · refine cn_iload_n (pc' := 42) (k := 1) rfl rfl d_M_publish_41 rfl ?_
      refine cn_iconst (pc' := 43) k_c_4 d_M_publish_42 rfl ?_
      refine cn_icmp_le_n (tgt := 47) (pc' := 46) (by omega) (by omega) d_M_publish_43 (by decide) rfl (fun hc43 => ?_) (fun hc43 => ?_)
      · refine cn_aload_n (pc' := 48) (k := 0) rfl rfl d_M_publish_47 rfl ?_
        refine cn_iload_n (pc' := 49) (k := 2) rfl rfl d_M_publish_48 rfl ?_
        refine cn_putI (pc' := 52) fl_M_158 hm.1 rfl rfl rfl rfl d_M_publish_49 rfl ?_
        refine cn_iconst (pc' := 53) k_c_0 d_M_publish_52 rfl ?_
        refine cn_istore_n (pc' := 54) (lv' := [(0, .ref 155), (1, .int (nI (c))), (2, .int (nI (rp g 1 1))), (3, .int (nI (0)))]) rfl [1, 2, 3, 0] (Nat.le_of_ble_eq_true rfl) rfl d_M_publish_53 rfl ?_
        rw [if_pos (tn_1 hc38)] at K
        have hwh := tn_1 hc38
        obtain ⟨hw1, hw2⟩ : rw_ g 1 (1 + 4 * c) true = true ∧ rp g 1 (1 + 4 * c) = g.length := by unfold whl at hwh; simpa using hwh
        have hgl : 2 + 4 * c ≤ g.length := by unfold rw_ at hw1; simp at hw1; omega
        have e11 : rp g 1 1 = 2 := by unfold rp; omega
        rw [e11]
        have hr3 : mg (cn_wi I2 155 27 (nI 2)) g (2 + 4 * 0) true := ⟨mw_k (by decide) hr2.1, mw_e, mw_k (by decide) (by rw [hr2.2.2.1, hw1]), by omega, hg64, fun j hj => mw_a (by decide) (hr2.2.2.2.2.2.1 j hj), hr2.2.2.2.2.2.2⟩
        have hf23 : fR I2 (cn_wi I2 155 27 (nI 2)) := fun b j x y z => mw_o (by omega)
        refine c_M_publish_54 (ps := ps) hm hc4 hgl (by omega) I (fun I3 h93 hv3 => ?_) c 0 _ ps (by omega) hr3 (h92.rd hf23) (by rw [List.drop_zero]) (hv2.tr hf23.toV)
        refine cn_aload_n (pc' := 92) (k := 0) rfl rfl d_M_publish_91 rfl ?_
        refine cn_callV (pc' := 95) (kc1 := 0) (ks1 := 0) (kc2 := 0) (ks2 := 0) (rest := []) (lvj := [(0, .ref 155)]) [] mv_M_224 hm.1 rfl rfl rfl (Nat.le_of_ble_eq_true rfl) (Nat.le_of_ble_eq_true rfl) (by omega) (by omega) (by omega) d_M_publish_92 rfl ?_
        refine c_M_busy hm h93.2.1 ?_
        rcases fb_c xs 0 with ⟨hfb, hnt⟩ | ⟨i, hil, hfb, hq0, hq1⟩
        · rw [hfb]
          show cn_V l en mi_M_publish d 0 0 S I3 P Q 95 [(0, .ref 155), (1, .int (nI (c))), (2, .int (nI (2))), (3, .int (nI (c)))] [.int (-1)]
          refine cn_if_ge (tgt := 105) (pc' := 98) d_M_publish_95 (by decide) rfl (fun hc95 => ?_) (fun hc95 => ?_)
          · exact absurd hc95 (by decide)
          · refine cn_aload_n (pc' := 99) (k := 0) rfl rfl d_M_publish_98 rfl ?_
            refine cn_bipush (pc' := 101) k_b_7 d_M_publish_99 rfl ?_
            refine cn_callV (pc' := 104) (kc1 := 0) (ks1 := 0) (kc2 := 0) (ks2 := 0) (rest := []) (lvj := [(0, .ref 155), (1, .int (nI (7)))]) [.int (nI (7))] mv_M_187 hm.1 rfl rfl rfl (Nat.le_of_ble_eq_true rfl) (Nat.le_of_ble_eq_true rfl) (by omega) (by omega) (by omega) d_M_publish_101 rfl ?_
            refine c_M_code hm (by omega) (fun I9 ho9 hf9 => ?_)
            have h99 := h93.out hf9 ho9
            have hv9 : fV I I9 := (hv3).tr hf9.toV
            show cn_V l en mi_M_publish d 0 0 S I9 P Q 104 [(0, .ref 155), (1, .int (nI (c))), (2, .int (nI (2))), (3, .int (nI (c)))] []
            refine cn_vret rfl d_M_publish_104 ?_
            rw [if_pos (by rw [hnt]; rfl)] at K
            exact K I9 ⟨h99.1, h99.2.1, h99.2.2.1, h99.2.2.2.1.mono (by omega), h99.2.2.2.2⟩ hv9
        · rw [hfb, Nat.zero_add]
          have hnp := ntot_set xs i hil hq0
          show cn_V l en mi_M_publish d 0 0 S I3 P Q 95 [(0, .ref 155), (1, .int (nI (c))), (2, .int (nI (2))), (3, .int (nI (c)))] [.int (nI (i))]
          refine cn_if_ge_n (tgt := 105) (pc' := 98) (by omega) d_M_publish_95 (by decide) rfl (fun hc95 => ?_) (fun hc95 => ?_)
          · refine cn_aload_n (pc' := 106) (k := 0) rfl rfl d_M_publish_105 rfl ?_
            refine cn_dup (pc' := 107) rfl d_M_publish_106 rfl ?_
            refine cn_getIv (pc' := 110) (v := pn) h93.2.2.1.2.2.1 fl_M_88 hm.1 rfl d_M_publish_107 rfl ?_
            refine cn_iconst (pc' := 111) k_c_1 d_M_publish_110 rfl ?_
            refine cn_iadd (pc' := 112) d_M_publish_111 rfl ?_
            refine cn_putI (pc' := 115) fl_M_88 hm.1 rfl rfl rfl rfl d_M_publish_112 rfl ?_
            refine cn_aload_n (pc' := 116) (k := 0) rfl rfl d_M_publish_115 rfl ?_
            refine cn_iconst (pc' := 117) k_c_0 d_M_publish_116 rfl ?_
            refine cn_callV (pc' := 120) (kc1 := 0) (ks1 := 0) (kc2 := 0) (ks2 := 0) (rest := []) (lvj := [(0, .ref 155), (1, .int (nI (0)))]) [.int (nI (0))] mv_M_187 hm.1 rfl rfl rfl (Nat.le_of_ble_eq_true rfl) (Nat.le_of_ble_eq_true rfl) (by omega) (by omega) (by omega) d_M_publish_117 rfl ?_
            refine c_M_code hm (by omega) (fun I4 ho4 hf4 => ?_)
            have h416 : I4 155 16 = pn + nI 1 := (hf4 _ _ (by omega) (by omega)).trans mw_e
            show cn_V l en mi_M_publish d 0 0 S I4 P Q 120 [(0, .ref 155), (1, .int (nI (c))), (2, .int (nI (2))), (3, .int (nI (c)))] []
            refine cn_aload_n (pc' := 121) (k := 0) rfl rfl d_M_publish_120 rfl ?_
            refine cn_aload_n (pc' := 122) (k := 0) rfl rfl d_M_publish_121 rfl ?_
            refine cn_getIv (pc' := 125) (v := pn + nI 1) h416 fl_M_88 hm.1 rfl d_M_publish_122 rfl ?_
            refine cn_callV (pc' := 128) (kc1 := 0) (ks1 := 0) (kc2 := 0) (ks2 := 0) (rest := []) (lvj := [(0, .ref 155), (1, .int (pn + nI 1))]) [.int (pn + nI 1)] mv_M_227 hm.1 rfl rfl rfl (Nat.le_of_ble_eq_true rfl) (Nat.le_of_ble_eq_true rfl) (by omega) (by omega) (by omega) d_M_publish_125 rfl ?_
            refine c_M_sayNumber hm ho4 (by decide) (by omega) (fun I5 ho5 hf5 => ?_)
            show cn_V l en mi_M_publish d 0 0 S I5 P Q 128 [(0, .ref 155), (1, .int (nI (c))), (2, .int (nI (2))), (3, .int (nI (c)))] []
            refine cn_aload_n (pc' := 129) (k := 0) rfl rfl d_M_publish_128 rfl ?_
            refine cn_iconst (pc' := 130) k_c_0 d_M_publish_129 rfl ?_
            refine cn_callV (pc' := 133) (kc1 := 0) (ks1 := 0) (kc2 := 0) (ks2 := 0) (rest := []) (lvj := [(0, .ref 155), (1, .int (nI (0)))]) [.int (nI (0))] mv_M_184 hm.1 rfl rfl rfl (Nat.le_of_ble_eq_true rfl) (Nat.le_of_ble_eq_true rfl) (by omega) (by omega) (by omega) d_M_publish_130 rfl ?_
            refine c_M_say hm ho5 (by rw [List.length_append, lbs_len]; decide) (fun I6 ho6 hf6 => ?_)
            have ho6 : mo I6 (nI 0 :: ((lbs (pn + nI 1).toInt64 4) ++ nI 0 :: [])) := ho6
            have hf36 : ∀ b j, (b ≠ 155 ∨ j ≠ 16) → (b ≠ 155 ∨ j ≠ 35) → b ≠ 174 → I6 b j = I3 b j := fun b j x y z => by rw [hf6 b j y z, hf5 b j y z, hf4 b j y z, mw_o (by omega)]
            have h616 : I6 155 16 = pn + nI 1 := by rw [hf6 _ _ (by omega) (by omega), hf5 _ _ (by omega) (by omega)]; exact h416
            show cn_V l en mi_M_publish d 0 0 S I6 P Q 133 [(0, .ref 155), (1, .int (nI (c))), (2, .int (nI (2))), (3, .int (nI (c)))] []
            refine cn_iconst (pc' := 134) k_c_0 d_M_publish_133 rfl ?_
            refine cn_istore_n (pc' := 135) (lv' := [(0, .ref 155), (1, .int (nI (c))), (2, .int (nI (2))), (3, .int (nI (0)))]) rfl [1, 2, 3, 0] (Nat.le_of_ble_eq_true rfl) rfl d_M_publish_134 rfl ?_
            have hJ6 : mI I6 xs := h93.2.1.congr (fun b j x => hf36 b j (by omega) (by omega) (by omega))
            rw [if_neg (by omega)] at K
            refine c_M_publish_135 (a := (lbs (pn + nI 1).toInt64 4)) (lbs_len _ _) hm (by omega) I6 3 0 I6 xs [] (by omega) hJ6 ho6 (by decide) (fun _ _ _ _ _ => rfl) (fun I7 hJ7 ho7 hl7 hf7 v3 => ?_)
            rw [Nat.zero_add, List.nil_append] at ho7
            rw [List.nil_append] at hl7
            have epc : (lbs (pn + nI 1).toInt64 4) ++ nI (min (ntot xs) 3) :: (tkx 0 (min (ntot xs) 3) xs).1 = pubc xs pn := rfl
            have hpl : ((lbs (pn + nI 1).toInt64 4) ++ nI (min (ntot xs) 3) :: (tkx 0 (min (ntot xs) 3) xs).1).length ≤ 194 := by rw [List.length_append, lbs_len]; show 4 + (_ + 1) ≤ 194; omega
            have hS7 : mS I7 ((nums g 2 c).foldl pdrop ps) (pn + nI 1) := by
              obtain ⟨z1, z2, z3, z4⟩ := h93.2.2.1
              have hr7 : ∀ b j, (b = 155 ∧ j = 15) ∨ (168 ≤ b ∧ b ≤ 170) → I7 b j = I3 b j := fun b j x => by rw [hf7 b j (by omega) (by omega) (by omega)]; exact hf36 b j (by omega) (by omega) (by omega)
              exact ⟨(hr7 _ _ (by omega)).trans z1, z2, (hf7 _ _ (by omega) (by omega) (by omega)).trans h616, fun k hk => (z4 k hk).congr (hr7 _ _ (by omega)) (hr7 _ _ (by omega)) (fun j _ => hr7 _ _ (by omega))⟩
            refine cn_aload_n (pc' := 182) (k := 0) rfl rfl d_M_publish_181 rfl ?_
            refine cn_callV (pc' := 185) (kc1 := 0) (ks1 := 0) (kc2 := 0) (ks2 := 0) (rest := []) (lvj := [(0, .ref 155)]) [] mv_M_233 hm.1 rfl rfl rfl (Nat.le_of_ble_eq_true rfl) (Nat.le_of_ble_eq_true rfl) (by omega) (by omega) (by omega) d_M_publish_182 rfl ?_
            refine c_M_keep hm hS7 ho7 hpl (by omega) (fun I8 hS8 hf8 => ?_)
            rw [epc] at hS8
            have hpk : pOK ((if ((nums g 2 c).foldl pdrop ps).length = 3 then ((nums g 2 c).foldl pdrop ps).eraseIdx 0 else (nums g 2 c).foldl pdrop ps) ++ [(pn + nI 1, pubc xs pn)]) (pn + nI 1) (T + 1) := by
              refine pOK_push ?_ hT
              split
              · exact pOK_erase h93.2.2.2.1 (by omega)
              · exact h93.2.2.2.1
            show cn_V l en mi_M_publish d 0 0 S I8 P Q 185 [(0, .ref 155), (1, .int (nI (c))), (2, .int (nI (2))), (3, .int (v3))] []
            refine cn_vret rfl d_M_publish_185 ?_
            refine K I8 ⟨?_, ?_, hS8, hpk, ?_⟩ ?_
            · exact h93.1.congr (fun b j x => by rw [hf8 b j (by omega) (by omega), hf7 b j (by omega) (by omega) (by omega)]; exact hf36 b j (by omega) (by omega) (by omega))
            · exact hJ7.congr (fun b j x => hf8 b j (by omega) (by omega))
            · rw [epc] at ho7; exact ho7.congr (hf8 _ _ (by omega) (by omega)) (fun j => hf8 _ _ (by omega) (by omega))
            · exact hv3.tr (fun b j x => by rw [hf8 b j (by omega) (by omega), hf7 b j (by omega) (by omega) (by omega)]; exact hf36 b j (by omega) (by omega) (by omega))
          · exact False.elim (by omega)
      · exact absurd hc43 (by omega)
  · refine cn_iload_n (pc' := 13) (k := 3) rfl rfl d_M_publish_12 rfl ?_
    refine cn_iload_n (pc' := 14) (k := 1) rfl rfl d_M_publish_13 rfl ?_
    refine cn_icmp_ge_n (tgt := 34) (pc' := 17) (by omega) (by omega) d_M_publish_14 (by decide) rfl (fun hc14 => ?_) (fun hc14 => ?_)
    · exact absurd hc14 (by omega)
    · refine cn_iload_n (pc' := 18) (k := 1) rfl rfl d_M_publish_17 rfl ?_
      refine cn_iconst (pc' := 19) k_c_4 d_M_publish_18 rfl ?_
      refine cn_icmp_gt_n (tgt := 34) (pc' := 22) (by omega) (by omega) d_M_publish_19 (by decide) rfl (fun hc19 => ?_) (fun hc19 => ?_)
      · refine cn_aload_n (pc' := 35) (k := 0) rfl rfl d_M_publish_34 rfl ?_
        refine cn_callV (pc' := 38) (kc1 := 0) (ks1 := 0) (kc2 := 0) (ks2 := 0) (rest := []) (lvj := [(0, .ref 155)]) [] mv_M_211 hm.1 rfl rfl rfl (Nat.le_of_ble_eq_true rfl) (Nat.le_of_ble_eq_true rfl) (by omega) (by omega) (by omega) d_M_publish_35 rfl ?_
        refine c_M_whole hm hr1 ?_
        have hwb := tn_le (whl g (rp g 1 1) (rw_ g 1 1 true))
        show cn_V l en mi_M_publish d 0 0 S I1 P Q 38 [(0, .ref 155), (1, .int (nI (c))), (2, .int (nI (rp g 1 1))), (3, .int (nI (0)))] [.int (nI ((whl g (rp g 1 1) (rw_ g 1 1 true)).toNat))]
        refine cn_if_eq_n (tgt := 46) (pc' := 41) (by omega) d_M_publish_38 (by decide) rfl (fun hc38 => ?_) (fun hc38 => ?_)
        · refine cn_vret rfl d_M_publish_46 ?_
          have e : sp_publish (ns, xs, (ps, pn)) g = (nI 1, [], ns, xs, (ps, pn)) := by unfold sp_publish; rw [hgc, if_pos ((nI_ltI (by omega) (by omega)).mpr (by omega))]
          rw [e] at K
          have h91 := h9.rd hf1.toR
          exact K I1 ⟨h91.1, h91.2.1, h91.2.2.1, h91.2.2.2.1.mono (by omega), h91.2.2.2.2⟩ hf1.toR.toV
        · refine cn_iload_n (pc' := 42) (k := 1) rfl rfl d_M_publish_41 rfl ?_
          refine cn_iconst (pc' := 43) k_c_4 d_M_publish_42 rfl ?_
          refine cn_icmp_le_n (tgt := 47) (pc' := 46) (by omega) (by omega) d_M_publish_43 (by decide) rfl (fun hc43 => ?_) (fun hc43 => ?_)
          · exact absurd hc43 (by omega)
          · refine cn_vret rfl d_M_publish_46 ?_
            have e : sp_publish (ns, xs, (ps, pn)) g = (nI 1, [], ns, xs, (ps, pn)) := by unfold sp_publish; rw [hgc, if_pos ((nI_ltI (by omega) (by omega)).mpr (by omega))]
            rw [e] at K
            have h91 := h9.rd hf1.toR
            exact K I1 ⟨h91.1, h91.2.1, h91.2.2.1, h91.2.2.2.1.mono (by omega), h91.2.2.2.2⟩ hf1.toR.toV
      · exact absurd hc19 (by omega)
end
