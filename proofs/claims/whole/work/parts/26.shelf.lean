section
variable {l : Launch} {en : cn_E} {d : Nat} {S : cn_S} {I : cn_I} {P : cn_P} {Q : Option Value → cn_S → cn_I → cn_P → Prop}
variable {it : Nat} {q : List sNt} {π : Nat → Nat}
theorem c_It_addNotice_2 {c capc mn : Nat} {old : Bool} {v : List Int32} (hi : yi S P it) (hq : yq I P it q π) (hold : I it 3 = nI old.toNat) (h4 : q.length < 4) (hmn : mn ≤ 1) (hb2 : yb S P c capc) (hy2 : ys I c v) (hv : v.length ≤ 61) (hvc : v.length ≤ capc) (hdis : c + 1 < it ∨ it + 14 ≤ c) (hd1 : 2 ≤ d) (K : ∀ (I' : cn_I), yq I' P it (if mn = 0 then q ++ [(v, nI 0)] else if old = true then mk1 (q ++ [(v, nI 0)]) else q ++ [(v, nI 1)]) π → fri I I' it → Q none S I' P) : cn_V l en mi_It_addNotice d 0 0 S I P Q 40 [(0, .ref it), (1, .ref c), (2, .int (nI mn))] [] := by
  have hπ : π q.length < 4 := hq.2.2.1.1 _ h4
  have hob := tn_le old
  obtain ⟨hN1, hN2, hN3⟩ := hi.2.2.2 _ hπ
  refine cn_aload_n (pc' := 41) (k := 0) rfl rfl d_It_addNotice_40 rfl ?_
  refine cn_getP (pc' := 44) (b := (it + 1)) hi.2.1 fl_It_11 hi.1 rfl d_It_addNotice_41 rfl ?_
  refine cn_aload_n (pc' := 45) (k := 0) rfl rfl d_It_addNotice_44 rfl ?_
  refine cn_getIv (pc' := 48) (v := nI (q.length)) hq.1 fl_It_29 hi.1 rfl d_It_addNotice_45 rfl ?_
  refine cn_aald (pc' := 49) (b := (it + 2 + 3 * π q.length)) hi.2.2.1 (by decide) (by decide) rfl (by omega) (by decide) (hq.2.2.1.2.2 _ h4) d_It_addNotice_48 rfl ?_
  refine cn_astore_n (pc' := 50) (lv' := [(0, .ref it), (1, .ref c), (2, .int (nI (mn))), (3, .ref ((it + 2 + 3 * π q.length)))]) rfl [1, 2, 3, 0] (Nat.le_of_ble_eq_true rfl) rfl d_It_addNotice_49 rfl ?_
  refine cn_aload_n (pc' := 51) (k := 3) rfl rfl d_It_addNotice_50 rfl ?_
  refine cn_getP (pc' := 54) (b := (it + 3 + 3 * π q.length)) hN2 fl_It_35 hN1 rfl d_It_addNotice_51 rfl ?_
  refine cn_callV (pc' := 57) (kc1 := 0) (ks1 := 0) (kc2 := 0) (ks2 := 0) (rest := []) (lvj := [(0, .ref ((it + 3 + 3 * π q.length)))]) [] mv_It_39 hN3.1 rfl rfl rfl (Nat.le_of_ble_eq_true rfl) (Nat.le_of_ble_eq_true rfl) (by omega) (by omega) (by omega) d_It_addNotice_54 rfl ?_
  refine c_By_clear (b := it + 3 + 3 * π q.length) (cap := 61) hN3 (fun I1 hy1 hf1 => ?_)
  show cn_V l en mi_It_addNotice d 0 0 S I1 P Q 57 [(0, .ref it), (1, .ref c), (2, .int (nI (mn))), (3, .ref ((it + 2 + 3 * π q.length)))] []
  refine cn_aload_n (pc' := 58) (k := 3) rfl rfl d_It_addNotice_57 rfl ?_
  refine cn_getP (pc' := 61) (b := (it + 3 + 3 * π q.length)) hN2 fl_It_35 hN1 rfl d_It_addNotice_58 rfl ?_
  refine cn_aload_n (pc' := 62) (k := 1) rfl rfl d_It_addNotice_61 rfl ?_
  refine cn_callV (pc' := 65) (kc1 := 0) (ks1 := 0) (kc2 := 0) (ks2 := 0) (rest := []) (lvj := [(0, .ref ((it + 3 + 3 * π q.length))), (1, .ref c)]) [.ref c] mv_It_44 hN3.1 rfl rfl rfl (Nat.le_of_ble_eq_true rfl) (Nat.le_of_ble_eq_true rfl) (by omega) (by omega) (by omega) d_It_addNotice_62 rfl ?_
  refine c_By_append (b := it + 3 + 3 * π q.length) (c := c) (cap := 61) (cap2 := capc) hN3 hy1 (Nat.zero_le _) hb2 (hy2.keep hf1 (by omega) (by omega) (by omega)) hvc (by omega) (by omega) (by omega) (fun I2 hy3 hf2 => ?_)
  rw [List.nil_append, List.take_of_length_le hv] at hy3
  show cn_V l en mi_It_addNotice d 0 0 S I2 P Q 65 [(0, .ref it), (1, .ref c), (2, .int (nI (mn))), (3, .ref ((it + 2 + 3 * π q.length)))] []
  refine cn_aload_n (pc' := 66) (k := 3) rfl rfl d_It_addNotice_65 rfl ?_
  refine cn_iconst (pc' := 67) k_c_0 d_It_addNotice_66 rfl ?_
  refine cn_putI (pc' := 70) fl_It_48 hN1 rfl rfl rfl rfl d_It_addNotice_67 rfl ?_
  refine cn_aload_n (pc' := 71) (k := 0) rfl rfl d_It_addNotice_70 rfl ?_
  refine cn_dup (pc' := 72) rfl d_It_addNotice_71 rfl ?_
  refine cn_getIv (pc' := 75) (v := nI (q.length)) (by rw [cn_wi_ne (by omega), hf2 it (by omega) (by omega), hf1 it (by omega) (by omega)]; exact hq.1) fl_It_29 hi.1 rfl d_It_addNotice_72 rfl ?_
  refine cn_iconst (pc' := 76) k_c_1 d_It_addNotice_75 rfl ?_
  refine cn_iadd_n (pc' := 77) d_It_addNotice_76 rfl ?_
  refine cn_putI (pc' := 80) fl_It_29 hi.1 rfl rfl rfl rfl d_It_addNotice_77 rfl ?_
  refine cn_iload_n (pc' := 81) (k := 2) rfl rfl d_It_addNotice_80 rfl ?_
  refine cn_if_eq_n (tgt := 110) (pc' := 84) (by omega) d_It_addNotice_81 (by decide) rfl (fun hc81 => ?_) (fun hc81 => ?_)
  · refine cn_vret rfl d_It_addNotice_110 ?_
    have hfr : ∀ a, a ≠ it → a ≠ it + 2 + 3 * π q.length → a ≠ it + 3 + 3 * π q.length → a ≠ it + 4 + 3 * π q.length → cn_wi (cn_wi I2 (it + 2 + 3 * π q.length) 1 (nI 0)) it 4 (nI (q.length + 1)) a = I a := fun a x1 x2 x3 x4 => by rw [cn_wi_ne x1, cn_wi_ne x2, hf2 a x3 (by omega), hf1 a x3 (by omega)]
    have hit : ∀ k, k ≠ 4 → cn_wi (cn_wi I2 (it + 2 + 3 * π q.length) 1 (nI 0)) it 4 (nI (q.length + 1)) it k = I it k := fun k hk => by rw [cn_wi_row, show upd (cn_wi I2 (it + 2 + 3 * π q.length) 1 (nI 0) it) 4 (nI (q.length + 1)) k = cn_wi I2 (it + 2 + 3 * π q.length) 1 (nI 0) it k from if_neg hk, cn_wi_ne (by omega), hf2 it (by omega) (by omega), hf1 it (by omega) (by omega)]
    have hys : ys (cn_wi (cn_wi I2 (it + 2 + 3 * π q.length) 1 (nI 0)) it 4 (nI (q.length + 1))) (it + 3 + 3 * π q.length) v := ys_cong1 (ys_cong1 hy3 (by omega) (by omega)) (by omega) (by omega)
    have hmk : cn_wi (cn_wi I2 (it + 2 + 3 * π q.length) 1 (nI 0)) it 4 (nI (q.length + 1)) (it + 2 + 3 * π q.length) 1 = nI 0 := by rw [cn_wi_ne (by omega)]; simp [cn_wi, upd]
    have e : mn = 0 := hc81
    refine K _ ?_ ⟨fun a h => hfr a (by omega) (by omega) (by omega) (by omega), hit 1 (by omega), hit 2 (by omega), hit 3 (by omega)⟩
    rw [if_pos e]
    exact yq_push hq h4 (by simp [cn_wi, upd]) hys hv hmk hfr
  · refine cn_aload_n (pc' := 85) (k := 0) rfl rfl d_It_addNotice_84 rfl ?_
    refine cn_getP (pc' := 88) (b := (it + 1)) hi.2.1 fl_It_11 hi.1 rfl d_It_addNotice_85 rfl ?_
    refine cn_aload_n (pc' := 89) (k := 0) rfl rfl d_It_addNotice_88 rfl ?_
    refine cn_getIv (pc' := 92) (v := nI (old.toNat)) (by simp only [cn_wi_row]; rw [show upd (cn_wi I2 (it + 2 + 3 * π q.length) 1 (nI 0) it) 4 (nI (q.length + 1)) 3 = cn_wi I2 (it + 2 + 3 * π q.length) 1 (nI 0) it 3 from rfl, cn_wi_ne (by omega), hf2 it (by omega) (by omega), hf1 it (by omega) (by omega)]; exact hold) fl_It_25 hi.1 rfl d_It_addNotice_89 rfl ?_
    refine cn_if_eq_n (tgt := 99) (pc' := 95) (by omega) d_It_addNotice_92 (by decide) rfl (fun hc92 => ?_) (fun hc92 => ?_)
    · refine cn_aload_n (pc' := 100) (k := 0) rfl rfl d_It_addNotice_99 rfl ?_
      refine cn_getIv (pc' := 103) (v := nI (q.length + 1)) (by simp [cn_wi, upd]) fl_It_29 hi.1 rfl d_It_addNotice_100 rfl ?_
      refine cn_iconst (pc' := 104) k_c_1 d_It_addNotice_103 rfl ?_
      refine cn_isub_n (pc' := 105) (by omega) d_It_addNotice_104 rfl ?_
      refine cn_aald (pc' := 106) (b := (it + 2 + 3 * π q.length)) hi.2.2.1 (by decide) (by decide) rfl (by omega) (by decide) (by rw [Nat.add_sub_cancel]; exact hq.2.2.1.2.2 _ h4) d_It_addNotice_105 rfl ?_
      refine cn_iconst (pc' := 107) k_c_1 d_It_addNotice_106 rfl ?_
      refine cn_putI (pc' := 110) fl_It_48 hN1 rfl rfl rfl rfl d_It_addNotice_107 rfl ?_
      refine cn_vret rfl d_It_addNotice_110 ?_
      have hfr : ∀ a, a ≠ it → a ≠ it + 2 + 3 * π q.length → a ≠ it + 3 + 3 * π q.length → a ≠ it + 4 + 3 * π q.length → cn_wi (cn_wi I2 (it + 2 + 3 * π q.length) 1 (nI 0)) it 4 (nI (q.length + 1)) a = I a := fun a x1 x2 x3 x4 => by rw [cn_wi_ne x1, cn_wi_ne x2, hf2 a x3 (by omega), hf1 a x3 (by omega)]
      have hit : ∀ k, k ≠ 4 → cn_wi (cn_wi I2 (it + 2 + 3 * π q.length) 1 (nI 0)) it 4 (nI (q.length + 1)) it k = I it k := fun k hk => by rw [cn_wi_row, show upd (cn_wi I2 (it + 2 + 3 * π q.length) 1 (nI 0) it) 4 (nI (q.length + 1)) k = cn_wi I2 (it + 2 + 3 * π q.length) 1 (nI 0) it k from if_neg hk, cn_wi_ne (by omega), hf2 it (by omega) (by omega), hf1 it (by omega) (by omega)]
      have hys : ys (cn_wi (cn_wi I2 (it + 2 + 3 * π q.length) 1 (nI 0)) it 4 (nI (q.length + 1))) (it + 3 + 3 * π q.length) v := ys_cong1 (ys_cong1 hy3 (by omega) (by omega)) (by omega) (by omega)
      have hmk : cn_wi (cn_wi I2 (it + 2 + 3 * π q.length) 1 (nI 0)) it 4 (nI (q.length + 1)) (it + 2 + 3 * π q.length) 1 = nI 0 := by rw [cn_wi_ne (by omega)]; simp [cn_wi, upd]
      have e : ¬ old = true := by rw [tn_0 hc92]; decide
      refine K _ ?_ ⟨fun a h => by rw [cn_wi_ne (by omega)]; exact hfr a (by omega) (by omega) (by omega) (by omega), by rw [cn_wi_ne (by omega)]; exact hit 1 (by omega), by rw [cn_wi_ne (by omega)]; exact hit 2 (by omega), by rw [cn_wi_ne (by omega)]; exact hit 3 (by omega)⟩
      rw [if_neg hc81, if_neg e]
      exact yq_push hq h4 (by rw [cn_wi_ne (by omega)]; simp [cn_wi, upd]) (ys_cong1 hys (by omega) (by omega)) hv (by simp [cn_wi, upd]) (fun a x1 x2 x3 x4 => by rw [cn_wi_ne x2]; exact hfr a x1 x2 x3 x4)
    · refine cn_iconst (pc' := 96) k_c_0 d_It_addNotice_95 rfl ?_
      refine cn_goto (tgt := 105) d_It_addNotice_96 (by decide) ?_
      refine cn_aald (pc' := 106) (b := (it + 2 + 3 * π 0)) hi.2.2.1 (by decide) (by decide) rfl (by omega) (by decide) (hq.2.2.1.2.2 0 (by omega)) d_It_addNotice_105 rfl ?_
      refine cn_iconst (pc' := 107) k_c_1 d_It_addNotice_106 rfl ?_
      refine cn_putI (pc' := 110) fl_It_48 (hi.2.2.2 _ (hq.2.2.1.1 _ (by omega))).1 rfl rfl rfl rfl d_It_addNotice_107 rfl ?_
      refine cn_vret rfl d_It_addNotice_110 ?_
      have hfr : ∀ a, a ≠ it → a ≠ it + 2 + 3 * π q.length → a ≠ it + 3 + 3 * π q.length → a ≠ it + 4 + 3 * π q.length → cn_wi (cn_wi I2 (it + 2 + 3 * π q.length) 1 (nI 0)) it 4 (nI (q.length + 1)) a = I a := fun a x1 x2 x3 x4 => by rw [cn_wi_ne x1, cn_wi_ne x2, hf2 a x3 (by omega), hf1 a x3 (by omega)]
      have hit : ∀ k, k ≠ 4 → cn_wi (cn_wi I2 (it + 2 + 3 * π q.length) 1 (nI 0)) it 4 (nI (q.length + 1)) it k = I it k := fun k hk => by rw [cn_wi_row, show upd (cn_wi I2 (it + 2 + 3 * π q.length) 1 (nI 0) it) 4 (nI (q.length + 1)) k = cn_wi I2 (it + 2 + 3 * π q.length) 1 (nI 0) it k from if_neg hk, cn_wi_ne (by omega), hf2 it (by omega) (by omega), hf1 it (by omega) (by omega)]
      have hys : ys (cn_wi (cn_wi I2 (it + 2 + 3 * π q.length) 1 (nI 0)) it 4 (nI (q.length + 1))) (it + 3 + 3 * π q.length) v := ys_cong1 (ys_cong1 hy3 (by omega) (by omega)) (by omega) (by omega)
      have hmk : cn_wi (cn_wi I2 (it + 2 + 3 * π q.length) 1 (nI 0)) it 4 (nI (q.length + 1)) (it + 2 + 3 * π q.length) 1 = nI 0 := by rw [cn_wi_ne (by omega)]; simp [cn_wi, upd]
      have e : old = true := tn_1 hc92
      have hπ0 : π 0 < 4 := hq.2.2.1.1 0 (by omega)
      refine K _ ?_ ⟨fun a h => by rw [cn_wi_ne (by omega)]; exact hfr a (by omega) (by omega) (by omega) (by omega), by rw [cn_wi_ne (by omega)]; exact hit 1 (by omega), by rw [cn_wi_ne (by omega)]; exact hit 2 (by omega), by rw [cn_wi_ne (by omega)]; exact hit 3 (by omega)⟩
      rw [if_neg hc81, if_pos e]
      exact yq_mk1 (yq_push hq h4 (by simp [cn_wi, upd]) hys hv hmk hfr) (by rw [List.length_append]; exact Nat.succ_pos _)
theorem c_It_addNotice {c capc cap : Nat} {old : Bool} {v : List Int32} (hi : yi S P it) (hq : yq I P it q π) (hcap : I it 2 = nI cap) (hold : I it 3 = nI old.toNat) (hc1 : 1 ≤ cap) (hc4 : cap ≤ 4) (hql : q.length ≤ cap) (hb2 : yb S P c capc) (hy2 : ys I c v) (hv : v.length ≤ 61) (hvc : v.length ≤ capc) (hdis : c + 1 < it ∨ it + 14 ≤ c) (hd1 : 3 ≤ d) (K : ∀ (I' : cn_I) (P' : cn_P) (π' : Nat → Nat), yq I' P' it (nq cap old q v) π' → fri I I' it → frP P P' (it + 1) → Q none S I' P') : cn_V l en mi_It_addNotice d 0 0 S I P Q 0 [(0, .ref it), (1, .ref c)] [] := by
  refine cn_aload_n (pc' := 1) (k := 0) rfl rfl d_It_addNotice_0 rfl ?_
  refine cn_getIv (pc' := 4) (v := nI (q.length)) hq.1 fl_It_29 hi.1 rfl d_It_addNotice_1 rfl ?_
  refine cn_aload_n (pc' := 5) (k := 0) rfl rfl d_It_addNotice_4 rfl ?_
  refine cn_getIv (pc' := 8) (v := nI (cap)) hcap fl_It_17 hi.1 rfl d_It_addNotice_5 rfl ?_
  refine cn_icmp_ne_n (tgt := 23) (pc' := 11) (by omega) (by omega) d_It_addNotice_8 (by decide) rfl (fun hc8 => ?_) (fun hc8 => ?_)
  · refine cn_iconst (pc' := 24) k_c_0 d_It_addNotice_23 rfl ?_
    refine cn_istore_n (pc' := 25) (lv' := [(0, .ref it), (1, .ref c), (2, .int (nI (0)))]) rfl [1, 2, 0] (Nat.le_of_ble_eq_true rfl) rfl d_It_addNotice_24 rfl ?_
    refine cn_aload_n (pc' := 26) (k := 0) rfl rfl d_It_addNotice_25 rfl ?_
    refine cn_getIv (pc' := 29) (v := nI (q.length)) hq.1 fl_It_29 hi.1 rfl d_It_addNotice_26 rfl ?_
    refine cn_aload_n (pc' := 30) (k := 0) rfl rfl d_It_addNotice_29 rfl ?_
    refine cn_getIv (pc' := 33) (v := nI (cap)) hcap fl_It_17 hi.1 rfl d_It_addNotice_30 rfl ?_
    refine cn_icmp_ne_n (tgt := 40) (pc' := 36) (by omega) (by omega) d_It_addNotice_33 (by decide) rfl (fun hc33 => ?_) (fun hc33 => ?_)
    · refine c_It_addNotice_2 hi hq hold (by omega) (by omega) hb2 hy2 hv hvc hdis (by omega) (fun I2 hq2 hf2 => ?_)
      rw [if_pos rfl] at hq2
      refine K I2 P π ?_ hf2 (fun a _ => rfl)
      unfold nq; rw [if_neg (by omega)]; exact hq2
    · exact absurd hc33 (by omega)
  · refine cn_aload_n (pc' := 12) (k := 0) rfl rfl d_It_addNotice_11 rfl ?_
    refine cn_getIv (pc' := 15) (v := nI (cap)) hcap fl_It_17 hi.1 rfl d_It_addNotice_12 rfl ?_
    refine cn_iconst (pc' := 16) k_c_1 d_It_addNotice_15 rfl ?_
    refine cn_icmp_le_n (tgt := 23) (pc' := 19) (by omega) (by omega) d_It_addNotice_16 (by decide) rfl (fun hc16 => ?_) (fun hc16 => ?_)
    · refine cn_iconst (pc' := 24) k_c_0 d_It_addNotice_23 rfl ?_
      refine cn_istore_n (pc' := 25) (lv' := [(0, .ref it), (1, .ref c), (2, .int (nI (0)))]) rfl [1, 2, 0] (Nat.le_of_ble_eq_true rfl) rfl d_It_addNotice_24 rfl ?_
      refine cn_aload_n (pc' := 26) (k := 0) rfl rfl d_It_addNotice_25 rfl ?_
      refine cn_getIv (pc' := 29) (v := nI (q.length)) hq.1 fl_It_29 hi.1 rfl d_It_addNotice_26 rfl ?_
      refine cn_aload_n (pc' := 30) (k := 0) rfl rfl d_It_addNotice_29 rfl ?_
      refine cn_getIv (pc' := 33) (v := nI (cap)) hcap fl_It_17 hi.1 rfl d_It_addNotice_30 rfl ?_
      refine cn_icmp_ne_n (tgt := 40) (pc' := 36) (by omega) (by omega) d_It_addNotice_33 (by decide) rfl (fun hc33 => ?_) (fun hc33 => ?_)
      · exact absurd (by omega) hc33
      · refine cn_aload_n (pc' := 37) (k := 0) rfl rfl d_It_addNotice_36 rfl ?_
        refine cn_callV (pc' := 40) (kc1 := 0) (ks1 := 0) (kc2 := 0) (ks2 := 0) (rest := []) (lvj := [(0, .ref it)]) [] mv_It_32 hi.1 rfl rfl rfl (Nat.le_of_ble_eq_true rfl) (Nat.le_of_ble_eq_true rfl) (by omega) (by omega) (by omega) d_It_addNotice_37 rfl ?_
        refine c_It_discard hi hq (by omega) hold (by omega) (fun I1 P1 π1 hq1 hf1 hP1 => ?_)
        show cn_V l en mi_It_addNotice d 0 0 S I1 P1 Q 40 [(0, .ref it), (1, .ref c), (2, .int (nI (0)))] []
        have hi1 : yi S P1 it := hi.keepP hP1
        have hyb1 : yb S P1 c capc := ⟨hb2.1, by rw [hP1 c (by omega)]; exact hb2.2.1, hb2.2.2⟩
        have hys1 : ys I1 c v := hy2.congr (hf1.1 c (by omega)) (hf1.1 (c + 1) (by omega))
        have hlen : (if old = true then q.tail else q.dropLast).length = q.length - 1 := by cases old <;> simp
        refine c_It_addNotice_2 (old := old) hi1 hq1 (by rw [hf1.2.2.2]; exact hold) (by omega) (by omega) hyb1 hys1 hv hvc hdis (by omega) (fun I2 hq2 hf2 => ?_)
        refine K I2 P1 π1 ?_ ⟨fun a h => (hf2.1 a h).trans (hf1.1 a h), hf2.2.1.trans hf1.2.1, hf2.2.2.1.trans hf1.2.2.1, hf2.2.2.2.trans hf1.2.2.2⟩ hP1
        rw [if_pos rfl] at hq2
        unfold nq; rw [if_pos (by omega)]
        cases old
        · simp only [if_true, if_false, Bool.false_eq_true] at hq2 ⊢
          rw [if_neg (by omega)]; exact hq2
        · simp only [if_true, if_false, Bool.false_eq_true] at hq2 ⊢
          rw [if_neg (by omega)]; exact hq2
    · refine cn_iconst (pc' := 20) k_c_1 d_It_addNotice_19 rfl ?_
      refine cn_goto (tgt := 24) d_It_addNotice_20 (by decide) ?_
      refine cn_istore_n (pc' := 25) (lv' := [(0, .ref it), (1, .ref c), (2, .int (nI (1)))]) rfl [1, 2, 0] (Nat.le_of_ble_eq_true rfl) rfl d_It_addNotice_24 rfl ?_
      refine cn_aload_n (pc' := 26) (k := 0) rfl rfl d_It_addNotice_25 rfl ?_
      refine cn_getIv (pc' := 29) (v := nI (q.length)) hq.1 fl_It_29 hi.1 rfl d_It_addNotice_26 rfl ?_
      refine cn_aload_n (pc' := 30) (k := 0) rfl rfl d_It_addNotice_29 rfl ?_
      refine cn_getIv (pc' := 33) (v := nI (cap)) hcap fl_It_17 hi.1 rfl d_It_addNotice_30 rfl ?_
      refine cn_icmp_ne_n (tgt := 40) (pc' := 36) (by omega) (by omega) d_It_addNotice_33 (by decide) rfl (fun hc33 => ?_) (fun hc33 => ?_)
      · exact absurd (by omega) hc33
      · refine cn_aload_n (pc' := 37) (k := 0) rfl rfl d_It_addNotice_36 rfl ?_
        refine cn_callV (pc' := 40) (kc1 := 0) (ks1 := 0) (kc2 := 0) (ks2 := 0) (rest := []) (lvj := [(0, .ref it)]) [] mv_It_32 hi.1 rfl rfl rfl (Nat.le_of_ble_eq_true rfl) (Nat.le_of_ble_eq_true rfl) (by omega) (by omega) (by omega) d_It_addNotice_37 rfl ?_
        refine c_It_discard hi hq (by omega) hold (by omega) (fun I1 P1 π1 hq1 hf1 hP1 => ?_)
        show cn_V l en mi_It_addNotice d 0 0 S I1 P1 Q 40 [(0, .ref it), (1, .ref c), (2, .int (nI (1)))] []
        have hi1 : yi S P1 it := hi.keepP hP1
        have hyb1 : yb S P1 c capc := ⟨hb2.1, by rw [hP1 c (by omega)]; exact hb2.2.1, hb2.2.2⟩
        have hys1 : ys I1 c v := hy2.congr (hf1.1 c (by omega)) (hf1.1 (c + 1) (by omega))
        have hlen : (if old = true then q.tail else q.dropLast).length = q.length - 1 := by cases old <;> simp
        refine c_It_addNotice_2 (old := old) hi1 hq1 (by rw [hf1.2.2.2]; exact hold) (by omega) (by omega) hyb1 hys1 hv hvc hdis (by omega) (fun I2 hq2 hf2 => ?_)
        refine K I2 P1 π1 ?_ ⟨fun a h => (hf2.1 a h).trans (hf1.1 a h), hf2.2.1.trans hf1.2.1, hf2.2.2.1.trans hf1.2.2.1, hf2.2.2.2.trans hf1.2.2.2⟩ hP1
        rw [if_neg (by decide)] at hq2
        unfold nq; rw [if_pos (by omega)]
        cases old
        · simp only [if_true, if_false, Bool.false_eq_true] at hq2 ⊢
          rw [if_pos (by omega)]; exact hq2
        · simp only [if_true, if_false, Bool.false_eq_true] at hq2 ⊢
          rw [if_pos (by omega)]; exact hq2
end
