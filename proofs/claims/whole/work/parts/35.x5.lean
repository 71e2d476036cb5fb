theorem vcode_eq0 {ns : List sNode} {n : Int32} (h : vcode ns n = 0) : ∃ k, n = nI k ∧ k < ns.length ∧ isv ns k = true := by
  unfold vcode at h
  cases h1 : ndx ns n with
  | none => rw [h1] at h; dsimp only at h; exact absurd h (by decide)
  | some k =>
    rw [h1] at h
    dsimp only at h
    by_cases hv : isv ns k = true
    · unfold ndx at h1
      by_cases hn : n < 0
      · rw [if_pos hn] at h1; cases h1
      · rw [if_neg hn] at h1
        obtain ⟨j, hj, rfl⟩ := nI_of hn
        rw [nI_clamp hj] at h1
        by_cases hl : j < ns.length
        · rw [if_pos hl] at h1; cases h1; exact ⟨_, rfl, hl, hv⟩
        · rw [if_neg hl] at h1; cases h1
    · rw [if_neg hv] at h; exact absurd h (by decide)
theorem vcode_ne0 {ns : List sNode} {n : Int32} (h : ¬ vcode ns n = 0) : vdx ns n = none := by
  unfold vdx
  unfold vcode at h
  cases h1 : ndx ns n with
  | none => rfl
  | some k =>
    rw [h1] at h
    dsimp only at h ⊢
    by_cases hv : isv ns k = true
    · rw [if_pos hv] at h; exact absurd rfl h
    · rw [if_neg hv]
theorem mvb_len (g : List Int32) (p n : Nat) : (mvb g p n).length = n := by simp [mvb]
theorem pvs_ulen {f : Nat → Option (List Int32 × Nat)} (hf : ∀ p a, f p = some a → a.1.length + p = a.2) : ∀ (n p : Nat) (b : List Int32 × Nat), pvs f n p = some b → b.1.length + p = b.2
  | 0, p, b, h => by
    simp only [pvs, Option.some.injEq] at h
    subst h
    simp
  | n + 1, p, b, h => by
    simp only [pvs] at h
    cases h1 : f p with
    | none => simp [h1] at h
    | some a =>
      simp only [h1] at h
      cases h2 : pvs f n a.2 with
      | none => simp [h2] at h
      | some c =>
        simp only [h2, Option.some.injEq] at h
        subst h
        have q1 := hf p a h1
        have q2 := pvs_ulen hf n a.2 c h2
        simp only [List.length_append]
        omega
theorem pvc_ulen {g : List Int32} {lst : Nat → Option (List Int32 × Nat)} (hl : ∀ p a, lst p = some a → a.1.length + p = a.2) (p : Nat) (a : List Int32 × Nat) (h : pvc g lst p = some a) : a.1.length + p = a.2 := by
  unfold pvc at h
  repeat' split at h
  all_goals first
    | (cases h; done)
    | exact hl p a h
    | (cases h; simp only [mvb_len]; omega)
    | (cases h; simp only [List.length_cons, List.length_nil]; omega)
theorem pv_ulen (g : List Int32) : ∀ (k p : Nat) (a : List Int32 × Nat), pv g k p = some a → a.1.length + p = a.2
  | 0, p, a, h => pvc_ulen (fun _ _ h => by cases h) p a h
  | k + 1, p, a, h => pvc_ulen (fun q b h => by
      unfold pvl at h
      split at h
      · cases h
      · cases h1 : pvs (pv g k) (rn4 g (q + 1)).toNatClampNeg (q + 5) with
        | none => simp [h1] at h
        | some c =>
          simp only [h1, Option.some.injEq] at h
          subst h
          have := pvs_ulen (pv_ulen g k) _ _ c h1
          simp only [List.length_append, mvb_len]
          omega) p a h
theorem p1_ge {g : List Int32} (h : w1 g = true) : 3 ≤ p1 g ∧ p1 g ≤ g.length := by
  unfold w1 rnw rw_ at h
  simp only [Bool.and_eq_true, Bool.or_eq_true, decide_eq_true_eq, Bool.true_and] at h
  obtain ⟨h1, h2⟩ := h
  have h3 : rnk g 1 = 2 ∨ rnk g 1 = 4 := by
    unfold rnk
    rcases h2 with h2 | h2
    · rw [if_pos h2]; exact Or.inl rfl
    · by_cases h4 : g.getD 1 0 = 0
      · rw [if_pos h4]; exact Or.inl rfl
      · rw [if_neg h4, if_pos h2]; exact Or.inr rfl
  unfold p1 rp
  omega
section
variable {l : Launch} {en : cn_E} {d : Nat} {S : cn_S} {I : cn_I} {P : cn_P} {Q : Option Value → cn_S → cn_I → cn_P → Prop}
variable {ns : List sNode} {xs : List sItem} {ps : List sPar} {pn : Int32} {ch : sCh} {rq : Int32}
theorem c_X_serveRead {g : List Int32} (h : RC S I P (ns, xs, (ps, pn), ch, (rq, [nI 0]))) (hr : rd I 15 g 1 true) (hd1 : 4 ≤ d) (K : ∀ (I' : cn_I) (P' : cn_P), RC S I' P' ((sp_read (ns, xs, (ps, pn)) g).2.2.1, (sp_read (ns, xs, (ps, pn)) g).2.2.2.1, (sp_read (ns, xs, (ps, pn)) g).2.2.2.2, ch, (rq, nI 0 :: (sp_read (ns, xs, (ps, pn)) g).2.1)) → frX I I' P P' → Q (some (.int (sp_read (ns, xs, (ps, pn)) g).1)) S I' P') : cn_V l en mi_X_serveRead d 0 0 S I P Q 0 [(0, .ref 0), (1, .ref 15)] [] := by
  have h9 := h
  obtain ⟨hw, hX, hN, hI, hS, hC, hR, hV⟩ := h
  have hX : rX I ns.length xs.length rq := hX
  have hN : rN I ns := hN
  have hI : rI I P xs := hI
  have hS : rS I P ps pn := hS
  have hC : chs I 14 ch := hC
  have hR : rR I [nI 0] := hR
  have h01 := hX.1
  have hl16 := hN.1
  have hl6 := hI.1
  obtain ⟨⟨π, hk⟩, hpn⟩ := hS
  have hl3 := hk.2.1
  refine cn_aload_n (pc' := 1) (k := 1) rfl rfl d_X_serveRead_0 rfl ?_
  refine cn_callV (pc' := 4) (kc1 := 0) (ks1 := 0) (kc2 := 0) (ks2 := 0) (rest := []) (lvj := [(0, .ref 15)]) [] mv_X_202 hw.me.1 rfl rfl rfl (Nat.le_of_ble_eq_true rfl) (Nat.le_of_ble_eq_true rfl) (by omega) (by omega) (by omega) d_X_serveRead_1 rfl ?_
  refine c_Me_readName hw.me hr (by omega) (fun I1 hr1 hf1 => ?_)
  have hr1 : rd I1 15 g (p1 g) (w1 g) := hr1
  show cn_V l en mi_X_serveRead d 0 0 S I1 P Q 4 [(0, .ref 0), (1, .ref 15)] [.int (rnm g 1)]
  refine cn_istore_n (pc' := 5) (lv' := [(0, .ref 0), (1, .ref 15), (2, .int (rnm g 1))]) rfl [1, 2, 0] (Nat.le_of_ble_eq_true rfl) rfl d_X_serveRead_4 rfl ?_
  refine cn_aload_n (pc' := 6) (k := 1) rfl rfl d_X_serveRead_5 rfl ?_
  refine cn_callV (pc' := 9) (kc1 := 0) (ks1 := 0) (kc2 := 0) (ks2 := 0) (rest := []) (lvj := [(0, .ref 15)]) [] mv_X_205 hw.me.1 rfl rfl rfl (Nat.le_of_ble_eq_true rfl) (Nat.le_of_ble_eq_true rfl) (by omega) (by omega) (by omega) d_X_serveRead_6 rfl ?_
  refine c_Me_isReadWhole hw.me hr1 (by omega) ?_
  have hwb := tn_le (whl g (p1 g) (w1 g))
  show cn_V l en mi_X_serveRead d 0 0 S I1 P Q 9 [(0, .ref 0), (1, .ref 15), (2, .int (rnm g 1))] [.int (nI ((whl g (p1 g) (w1 g)).toNat))]
  refine cn_if_ne_n (tgt := 14) (pc' := 12) (by omega) d_X_serveRead_9 (by decide) rfl (fun hc9 => ?_) (fun hc9 => ?_)
  · refine cn_aload_n (pc' := 15) (k := 0) rfl rfl d_X_serveRead_14 rfl ?_
    refine cn_iload_n (pc' := 16) (k := 2) rfl rfl d_X_serveRead_15 rfl ?_
    refine cn_callV (pc' := 19) (kc1 := 0) (ks1 := 0) (kc2 := 0) (ks2 := 0) (rest := []) (lvj := [(0, .ref 0), (1, .int (rnm g 1))]) [.int (rnm g 1)] mv_X_209 hw.1 rfl rfl rfl (Nat.le_of_ble_eq_true rfl) (Nat.le_of_ble_eq_true rfl) (by omega) (by omega) (by omega) d_X_serveRead_16 rfl ?_
    refine c_X_checkVariable (ns := ns) hw (by rw [hf1 0 (by omega)]; exact h01) (hN.congr (fun a x1 x2 => hf1 a (by omega))) (by omega) ?_
    show cn_V l en mi_X_serveRead d 0 0 S I1 P Q 19 [(0, .ref 0), (1, .ref 15), (2, .int (rnm g 1))] [.int (vcode ns (rnm g 1))]
    refine cn_istore_n (pc' := 20) (lv' := [(0, .ref 0), (1, .ref 15), (2, .int (rnm g 1)), (3, .int (vcode ns (rnm g 1)))]) rfl [1, 2, 3, 0] (Nat.le_of_ble_eq_true rfl) rfl d_X_serveRead_19 rfl ?_
    refine cn_iload_n (pc' := 21) (k := 3) rfl rfl d_X_serveRead_20 rfl ?_
    refine cn_if_ne (tgt := 40) (pc' := 24) d_X_serveRead_21 (by decide) rfl (fun hc21 => ?_) (fun hc21 => ?_)
    · refine cn_iload_n (pc' := 41) (k := 3) rfl rfl d_X_serveRead_40 rfl ?_
      refine cn_iret rfl d_X_serveRead_41 ?_
      have e : sp_read (ns, xs, (ps, pn)) g = (vcode ns (rnm g 1), [], ns, xs, (ps, pn)) := by unfold sp_read; rw [if_pos (tn_1 hc9)]; dsimp only; rw [vcode_ne0 hc21]
      rw [e] at K
      exact K I1 P (h9.row15 hf1) (frX.f1 hf1 (by decide))
    · obtain ⟨k, hnk, hkl, hv⟩ := vcode_eq0 hc21
      rw [hnk]
      refine cn_aload_n (pc' := 25) (k := 0) rfl rfl d_X_serveRead_24 rfl ?_
      refine cn_getP (pc' := 28) (b := 18) hw.2.1.2.2.2.2.1 fl_X_40 hw.1 rfl d_X_serveRead_25 rfl ?_
      refine cn_aload_n (pc' := 29) (k := 0) rfl rfl d_X_serveRead_28 rfl ?_
      refine cn_getP (pc' := 32) (b := 1) hw.2.1.1 fl_X_11 hw.1 rfl d_X_serveRead_29 rfl ?_
      refine cn_iload_n (pc' := 33) (k := 2) rfl rfl d_X_serveRead_32 rfl ?_
      refine cn_aald (pc' := 34) (b := (23 + 3 * k)) hw.2.2.1.1 (by decide) (by decide) rfl (by omega) (by decide) (hw.nd (i := k) (by omega)).1 d_X_serveRead_33 rfl ?_
      refine cn_getP (pc' := 37) (b := (24 + 3 * k)) (hw.nv (i := k) (by omega)).1 fl_X_154 (hw.nd (i := k) (by omega)).2.1 rfl d_X_serveRead_34 rfl ?_
      refine cn_callV (pc' := 40) (kc1 := 0) (ks1 := 0) (kc2 := 0) (ks2 := 0) (rest := []) (lvj := [(0, .ref 18), (1, .ref ((24 + 3 * k)))]) [.ref ((24 + 3 * k))] mv_X_164 hw.re.1 rfl rfl rfl (Nat.le_of_ble_eq_true rfl) (Nat.le_of_ble_eq_true rfl) (by omega) (by omega) (by omega) d_X_serveRead_37 rfl ?_
      obtain ⟨n1, n2, n3, n4⟩ := hN.2.1 k hkl
      refine c_By_append (b := 18) (c := 24 + 3 * k) (cap := 195) (cap2 := 61) hw.re (hR.1.keep1 hf1 (by omega) (by omega)) hR.2 (hw.nv (by omega)).2 (n3.keep1 hf1 (by omega) (by omega)) n4 (by omega) (by omega) (by omega) (fun I2 hy2 hf2 => ?_)
      have hln : (nI 0 :: (ns.getD k nd0).2.2).length ≤ 195 := by show (ns.getD k nd0).2.2.length + 1 ≤ 195; omega
      have hy2 : ys I2 18 (nI 0 :: (ns.getD k nd0).2.2) := by have := hy2; rw [List.take_of_length_le (show ([nI 0] ++ (ns.getD k nd0).2.2).length ≤ 195 from hln)] at this; exact this
      show cn_V l en mi_X_serveRead d 0 0 S I2 P Q 40 [(0, .ref 0), (1, .ref 15), (2, .int (nI (k))), (3, .int (vcode ns (nI (k))))] []
      refine cn_iload_n (pc' := 41) (k := 3) rfl rfl d_X_serveRead_40 rfl ?_
      refine cn_iret rfl d_X_serveRead_41 ?_
      have e : sp_read (ns, xs, (ps, pn)) g = (vcode ns (nI k), (ns.getD k nd0).2.2, ns, xs, (ps, pn)) := by unfold sp_read; rw [if_pos (tn_1 hc9), hnk, vdx_some hkl (by omega) hv]
      rw [e] at K
      exact K I2 P ((h9.row15 hf1).reply hf2 hy2 hln) ((frX.f1 hf1 (by decide)).tr (frX.f2 hf2 (by decide)))
  · refine cn_iconst (pc' := 13) k_c_1 d_X_serveRead_12 rfl ?_
    refine cn_iret rfl d_X_serveRead_13 ?_
    have e : sp_read (ns, xs, (ps, pn)) g = (nI 1, [], ns, xs, (ps, pn)) := by unfold sp_read; rw [if_neg (by rw [tn_0 hc9]; decide)]
    rw [e] at K
    exact K I1 P (h9.row15 hf1) (frX.f1 hf1 (by decide))
theorem c_X_serveWrite {g : List Int32} (h : RC S I P (ns, xs, (ps, pn), ch, (rq, [nI 0]))) (hr : rd I 15 g 1 true) (hd1 : 12 ≤ d) (K : ∀ (I' : cn_I) (P' : cn_P), RC S I' P' ((sp_write (ns, xs, (ps, pn)) g).2.2.1, (sp_write (ns, xs, (ps, pn)) g).2.2.2.1, (sp_write (ns, xs, (ps, pn)) g).2.2.2.2, ch, (rq, nI 0 :: (sp_write (ns, xs, (ps, pn)) g).2.1)) → frX I I' P P' → Q (some (.int (sp_write (ns, xs, (ps, pn)) g).1)) S I' P') : cn_V l en mi_X_serveWrite d 0 0 S I P Q 0 [(0, .ref 0), (1, .ref 15)] [] := by
  have h9 := h
  obtain ⟨hw, hX, hN, hI, hS, hC, hR, hV⟩ := h
  have hX : rX I ns.length xs.length rq := hX
  have hN : rN I ns := hN
  have hI : rI I P xs := hI
  have hS : rS I P ps pn := hS
  have hC : chs I 14 ch := hC
  have hR : rR I [nI 0] := hR
  have h01 := hX.1
  have hl16 := hN.1
  have hl6 := hI.1
  obtain ⟨⟨π, hk⟩, hpn⟩ := hS
  have hl3 := hk.2.1
  refine cn_aload_n (pc' := 1) (k := 1) rfl rfl d_X_serveWrite_0 rfl ?_
  refine cn_callV (pc' := 4) (kc1 := 0) (ks1 := 0) (kc2 := 0) (ks2 := 0) (rest := []) (lvj := [(0, .ref 15)]) [] mv_X_202 hw.me.1 rfl rfl rfl (Nat.le_of_ble_eq_true rfl) (Nat.le_of_ble_eq_true rfl) (by omega) (by omega) (by omega) d_X_serveWrite_1 rfl ?_
  refine c_Me_readName hw.me hr (by omega) (fun I1 hr1 hf1 => ?_)
  have hr1 : rd I1 15 g (p1 g) (w1 g) := hr1
  show cn_V l en mi_X_serveWrite d 0 0 S I1 P Q 4 [(0, .ref 0), (1, .ref 15)] [.int (rnm g 1)]
  refine cn_istore_n (pc' := 5) (lv' := [(0, .ref 0), (1, .ref 15), (2, .int (rnm g 1))]) rfl [1, 2, 0] (Nat.le_of_ble_eq_true rfl) rfl d_X_serveWrite_4 rfl ?_
  refine cn_aload_n (pc' := 6) (k := 0) rfl rfl d_X_serveWrite_5 rfl ?_
  refine cn_getP (pc' := 9) (b := 20) hw.2.1.2.2.2.2.2.1 fl_X_44 hw.1 rfl d_X_serveWrite_6 rfl ?_
  refine cn_callV (pc' := 12) (kc1 := 0) (ks1 := 0) (kc2 := 0) (ks2 := 0) (rest := []) (lvj := [(0, .ref 20)]) [] mv_X_71 hw.ic.1 rfl rfl rfl (Nat.le_of_ble_eq_true rfl) (Nat.le_of_ble_eq_true rfl) (by omega) (by omega) (by omega) d_X_serveWrite_9 rfl ?_
  refine c_By_clear (b := 20) (cap := 61) hw.ic (fun I2 hy2 hf2 => ?_)
  have hr2 := hr1.keep hf2 (by omega) (by omega) (by omega) (by omega)
  show cn_V l en mi_X_serveWrite d 0 0 S I2 P Q 12 [(0, .ref 0), (1, .ref 15), (2, .int (rnm g 1))] []
  refine cn_aload_n (pc' := 13) (k := 1) rfl rfl d_X_serveWrite_12 rfl ?_
  refine cn_aload_n (pc' := 14) (k := 0) rfl rfl d_X_serveWrite_13 rfl ?_
  refine cn_getP (pc' := 17) (b := 20) hw.2.1.2.2.2.2.2.1 fl_X_44 hw.1 rfl d_X_serveWrite_14 rfl ?_
  refine cn_iconst (pc' := 18) k_c_0 d_X_serveWrite_17 rfl ?_
  refine cn_callV (pc' := 21) (kc1 := 0) (ks1 := 0) (kc2 := 0) (ks2 := 0) (rest := []) (lvj := [(0, .ref 15), (1, .ref 20), (2, .int (nI (0)))]) [.ref 20, .int (nI (0))] mv_X_212 hw.me.1 rfl rfl rfl (Nat.le_of_ble_eq_true rfl) (Nat.le_of_ble_eq_true rfl) (by omega) (by omega) (by omega) d_X_serveWrite_18 rfl ?_
  refine c_RV (l := l) (en := en) (S := S) (P := P) (g := g) hw.me hw.ic (Or.inr (by decide)) 3 (by decide) _ I2 _ _ _ _ (by omega) hr2 hy2 (Nat.zero_le _) (fun I3 p3 w3 v3 hr3 hy3 hc3 hf3 hq3 => ?_)
  have hf03 : fr3 I I3 15 20 := ((hf1.to3).tr hf2.to3).tr hf3
  show cn_V l en mi_X_serveWrite d 0 0 S I3 P Q 21 [(0, .ref 0), (1, .ref 15), (2, .int (rnm g 1))] []
  refine cn_aload_n (pc' := 22) (k := 1) rfl rfl d_X_serveWrite_21 rfl ?_
  refine cn_callV (pc' := 25) (kc1 := 0) (ks1 := 0) (kc2 := 0) (ks2 := 0) (rest := []) (lvj := [(0, .ref 15)]) [] mv_X_205 hw.me.1 rfl rfl rfl (Nat.le_of_ble_eq_true rfl) (Nat.le_of_ble_eq_true rfl) (by omega) (by omega) (by omega) d_X_serveWrite_22 rfl ?_
  refine c_Me_isReadWhole hw.me hr3 (by omega) ?_
  have hwb := tn_le (whl g (p3) (w3))
  show cn_V l en mi_X_serveWrite d 0 0 S I3 P Q 25 [(0, .ref 0), (1, .ref 15), (2, .int (rnm g 1))] [.int (nI ((whl g (p3) (w3)).toNat))]
  refine cn_if_ne_n (tgt := 30) (pc' := 28) (by omega) d_X_serveWrite_25 (by decide) rfl (fun hc25 => ?_) (fun hc25 => ?_)
  · have hwt := tn_1 hc25
    obtain ⟨hw3, hp3⟩ : w3 = true ∧ p3 = g.length := by unfold whl at hwt; simpa using hwt
    have hw1 : w1 g = true := by cases hh : w1 g with | true => rfl | false => exact absurd (hq3.1 hh) (by rw [hw3]; decide)
    obtain ⟨a, ha⟩ : ∃ a, pv g 3 (p1 g) = some a := by cases hh : pv g 3 (p1 g) with | some a => exact ⟨a, rfl⟩ | none => exact absurd (hq3.2.1 hw1 hh) (by rw [hw3]; decide)
    obtain ⟨-, ha2, hv3⟩ := hq3.2.2 hw1 a ha
    have hge := p1_ge hw1
    have hul := pv_ulen g 3 (p1 g) a ha
    have hgl := hr.2.2.2.2
    have hal : a.1.length ≤ 61 := by omega
    rw [List.nil_append, List.take_of_length_le hal] at hv3
    subst hv3
    have hwv : wval g = some a := by unfold wval; rw [if_pos hw1]; exact ha
    have hag : a.2 = g.length := ha2.symm.trans hp3
    refine cn_aload_n (pc' := 31) (k := 0) rfl rfl d_X_serveWrite_30 rfl ?_
    refine cn_iload_n (pc' := 32) (k := 2) rfl rfl d_X_serveWrite_31 rfl ?_
    refine cn_callV (pc' := 35) (kc1 := 0) (ks1 := 0) (kc2 := 0) (ks2 := 0) (rest := []) (lvj := [(0, .ref 0), (1, .int (rnm g 1))]) [.int (rnm g 1)] mv_X_209 hw.1 rfl rfl rfl (Nat.le_of_ble_eq_true rfl) (Nat.le_of_ble_eq_true rfl) (by omega) (by omega) (by omega) d_X_serveWrite_32 rfl ?_
    refine c_X_checkVariable (ns := ns) hw (by rw [hf03 0 (by omega) (by omega) (by omega)]; exact h01) (hN.congr (fun a x1 x2 => hf03 a (by omega) (by omega) (by omega))) (by omega) ?_
    show cn_V l en mi_X_serveWrite d 0 0 S I3 P Q 35 [(0, .ref 0), (1, .ref 15), (2, .int (rnm g 1))] [.int (vcode ns (rnm g 1))]
    refine cn_istore_n (pc' := 36) (lv' := [(0, .ref 0), (1, .ref 15), (2, .int (rnm g 1)), (3, .int (vcode ns (rnm g 1)))]) rfl [1, 2, 3, 0] (Nat.le_of_ble_eq_true rfl) rfl d_X_serveWrite_35 rfl ?_
    refine cn_iload_n (pc' := 37) (k := 3) rfl rfl d_X_serveWrite_36 rfl ?_
    refine cn_if_eq (tgt := 42) (pc' := 40) d_X_serveWrite_37 (by decide) rfl (fun hc37 => ?_) (fun hc37 => ?_)
    · obtain ⟨k, hnk, hkl, hv⟩ := vcode_eq0 hc37
      rw [hnk]
      refine cn_aload_n (pc' := 43) (k := 0) rfl rfl d_X_serveWrite_42 rfl ?_
      refine cn_getP (pc' := 46) (b := 1) hw.2.1.1 fl_X_11 hw.1 rfl d_X_serveWrite_43 rfl ?_
      refine cn_iload_n (pc' := 47) (k := 2) rfl rfl d_X_serveWrite_46 rfl ?_
      refine cn_aald (pc' := 48) (b := (23 + 3 * k)) hw.2.2.1.1 (by decide) (by decide) rfl (by omega) (by decide) (hw.nd (i := k) (by omega)).1 d_X_serveWrite_47 rfl ?_
      refine cn_getIv (pc' := 51) (v := (ns.getD k nd0).2.1) (by rw [hf03 _ (by omega) (by omega) (by omega)]; exact (hN.2.1 k hkl).2.1) fl_X_89 (hw.nd (i := k) (by omega)).2.1 rfl d_X_serveWrite_48 rfl ?_
      refine cn_istore (pc' := 53) (lv' := [(0, .ref 0), (1, .ref 15), (2, .int (nI (k))), (3, .int (vcode ns (nI (k)))), (4, .int ((ns.getD k nd0).2.1))]) [1, 2, 3, 4, 0] (Nat.le_of_ble_eq_true rfl) rfl d_X_serveWrite_51 rfl ?_
      refine cn_iload (pc' := 55) (k := 4) rfl d_X_serveWrite_53 rfl ?_
      refine cn_if_eq (tgt := 73) (pc' := 58) d_X_serveWrite_55 (by decide) rfl (fun hc55 => ?_) (fun hc55 => ?_)
      · refine cn_aload_n (pc' := 74) (k := 0) rfl rfl d_X_serveWrite_73 rfl ?_
        refine cn_iload_n (pc' := 75) (k := 2) rfl rfl d_X_serveWrite_74 rfl ?_
        refine cn_callV (pc' := 78) (kc1 := 0) (ks1 := 0) (kc2 := 0) (ks2 := 0) (rest := []) (lvj := [(0, .ref 0), (1, .int (nI (k)))]) [.int (nI (k))] mv_X_99 hw.1 rfl rfl rfl (Nat.le_of_ble_eq_true rfl) (Nat.le_of_ble_eq_true rfl) (by omega) (by omega) (by omega) d_X_serveWrite_75 rfl ?_
        have hRC := h9.rdv hf03 hy3 hal
        obtain ⟨-, hX3, hN3, hI3, -⟩ := id hRC
        refine c_X_changeValue (ns := ns) (xs := xs) hw hX3.1 hN3 hI3 hX3.2.1 hkl hy3 hal (by omega) (fun I4 P4 hw4 hN4 hI4 hf4 hP4 => ?_)
        show cn_V l en mi_X_serveWrite d 0 0 S I4 P4 Q 78 [(0, .ref 0), (1, .ref 15), (2, .int (nI (k))), (3, .int (vcode ns (nI (k)))), (4, .int ((ns.getD k nd0).2.1))] [.int (nI ((chg ns xs k a.1).1.toNat))]
        refine cn_pop (pc' := 79) rfl d_X_serveWrite_78 rfl ?_
        refine cn_iconst (pc' := 80) k_c_0 d_X_serveWrite_79 rfl ?_
        refine cn_iret rfl d_X_serveWrite_80 ?_
        have e : sp_write (ns, xs, (ps, pn)) g = (nI 0, [], (chg ns xs k a.1).2.1, (chg ns xs k a.1).2.2, (ps, pn)) := by unfold sp_write; rw [hwv]; dsimp only; rw [if_pos hag, hnk, vdx_some hkl (by omega) hv]; dsimp only; rw [if_neg (fun h9 => h9.1 hc55)]
        rw [e] at K
        exact K I4 P4 (hRC.chg hw4 hN4 hI4 (chg_len _ _ _ _).1 (chg_len _ _ _ _).2 hf4 hP4) ((frX.f3 hf03).tr (frX.fc hf4 hP4))
      · refine cn_iload (pc' := 60) (k := 4) rfl d_X_serveWrite_58 rfl ?_
        refine cn_aload_n (pc' := 61) (k := 0) rfl rfl d_X_serveWrite_60 rfl ?_
        refine cn_getP (pc' := 64) (b := 20) hw.2.1.2.2.2.2.2.1 fl_X_44 hw.1 rfl d_X_serveWrite_61 rfl ?_
        refine cn_iconst (pc' := 65) k_c_0 d_X_serveWrite_64 rfl ?_
        refine cn_callV (pc' := 68) (kc1 := 0) (ks1 := 0) (kc2 := 0) (ks2 := 0) (rest := [.int ((ns.getD k nd0).2.1)]) (lvj := [(0, .ref 20), (1, .int (nI (0)))]) [.int (nI (0))] mv_X_135 hw.ic.1 rfl rfl rfl (Nat.le_of_ble_eq_true rfl) (Nat.le_of_ble_eq_true rfl) (by omega) (by omega) (by omega) d_X_serveWrite_65 rfl ?_
        refine c_By_at (b := 20) (cap := 61) hw.ic hy3 hal ?_
        rw [show ya a.1 (nI 0) = a.1.getD 0 0 from rfl]
        show cn_V l en mi_X_serveWrite d 0 0 S I3 P Q 68 [(0, .ref 0), (1, .ref 15), (2, .int (nI (k))), (3, .int (vcode ns (nI (k)))), (4, .int ((ns.getD k nd0).2.1))] [.int (a.1.getD 0 0), .int ((ns.getD k nd0).2.1)]
        refine cn_icmp_eq (tgt := 73) (pc' := 71) d_X_serveWrite_68 (by decide) rfl (fun hc68 => ?_) (fun hc68 => ?_)
        · refine cn_aload_n (pc' := 74) (k := 0) rfl rfl d_X_serveWrite_73 rfl ?_
          refine cn_iload_n (pc' := 75) (k := 2) rfl rfl d_X_serveWrite_74 rfl ?_
          refine cn_callV (pc' := 78) (kc1 := 0) (ks1 := 0) (kc2 := 0) (ks2 := 0) (rest := []) (lvj := [(0, .ref 0), (1, .int (nI (k)))]) [.int (nI (k))] mv_X_99 hw.1 rfl rfl rfl (Nat.le_of_ble_eq_true rfl) (Nat.le_of_ble_eq_true rfl) (by omega) (by omega) (by omega) d_X_serveWrite_75 rfl ?_
          have hRC := h9.rdv hf03 hy3 hal
          obtain ⟨-, hX3, hN3, hI3, -⟩ := id hRC
          refine c_X_changeValue (ns := ns) (xs := xs) hw hX3.1 hN3 hI3 hX3.2.1 hkl hy3 hal (by omega) (fun I4 P4 hw4 hN4 hI4 hf4 hP4 => ?_)
          show cn_V l en mi_X_serveWrite d 0 0 S I4 P4 Q 78 [(0, .ref 0), (1, .ref 15), (2, .int (nI (k))), (3, .int (vcode ns (nI (k)))), (4, .int ((ns.getD k nd0).2.1))] [.int (nI ((chg ns xs k a.1).1.toNat))]
          refine cn_pop (pc' := 79) rfl d_X_serveWrite_78 rfl ?_
          refine cn_iconst (pc' := 80) k_c_0 d_X_serveWrite_79 rfl ?_
          refine cn_iret rfl d_X_serveWrite_80 ?_
          have e : sp_write (ns, xs, (ps, pn)) g = (nI 0, [], (chg ns xs k a.1).2.1, (chg ns xs k a.1).2.2, (ps, pn)) := by unfold sp_write; rw [hwv]; dsimp only; rw [if_pos hag, hnk, vdx_some hkl (by omega) hv]; dsimp only; rw [if_neg (fun h9 => h9.2 hc68)]
          rw [e] at K
          exact K I4 P4 (hRC.chg hw4 hN4 hI4 (chg_len _ _ _ _).1 (chg_len _ _ _ _).2 hf4 hP4) ((frX.f3 hf03).tr (frX.fc hf4 hP4))
        · refine cn_iconst (pc' := 72) k_c_5 d_X_serveWrite_71 rfl ?_
          refine cn_iret rfl d_X_serveWrite_72 ?_
          have e : sp_write (ns, xs, (ps, pn)) g = (nI 5, [], ns, xs, (ps, pn)) := by unfold sp_write; rw [hwv]; dsimp only; rw [if_pos hag, hnk, vdx_some hkl (by omega) hv]; dsimp only; rw [if_pos ⟨hc55, hc68⟩]
          rw [e] at K
          exact K I3 P (h9.rdv hf03 hy3 hc3) (frX.f3 hf03)
    · refine cn_iload_n (pc' := 41) (k := 3) rfl rfl d_X_serveWrite_40 rfl ?_
      refine cn_iret rfl d_X_serveWrite_41 ?_
      have e : sp_write (ns, xs, (ps, pn)) g = (vcode ns (rnm g 1), [], ns, xs, (ps, pn)) := by unfold sp_write; rw [hwv]; dsimp only; rw [if_pos hag, vcode_ne0 hc37]
      rw [e] at K
      exact K I3 P (h9.rdv hf03 hy3 hc3) (frX.f3 hf03)
  · refine cn_iconst (pc' := 29) k_c_1 d_X_serveWrite_28 rfl ?_
    refine cn_iret rfl d_X_serveWrite_29 ?_
    have e : sp_write (ns, xs, (ps, pn)) g = (nI 1, [], ns, xs, (ps, pn)) := by
      unfold sp_write wval
      cases hw1 : w1 g with
      | false => rw [if_neg (by decide)]
      | true =>
        rw [if_pos rfl]
        cases hp : pv g 3 (p1 g) with
        | none => rfl
        | some a =>
          obtain ⟨b1, b2, b3⟩ := hq3.2.2 hw1 a hp
          dsimp only
          rw [if_neg (fun h9 => by have := tn_0 hc25; unfold whl at this; rw [b1, b2, h9] at this; simp at this)]
    rw [e] at K
    exact K I3 P (h9.rdv hf03 hy3 hc3) (frX.f3 hf03)
end
