/-- live, begun, the latest sequence number, the message in part (request, chunks), the bytes of the message -/
abbrev sCh : Type := Bool × Bool × Int32 × Option (Int32 × Nat) × List Int32
def yc (S : cn_S) (P : cn_P) (h : Nat) : Prop := cn_ob S h 1 ∧ P h 0 = some (h + 1) ∧ ym S P (h + 1)
def chs (I : cn_I) (h : Nat) (c : sCh) : Prop := I h 1 = nI c.1.toNat ∧ I h 2 = nI c.2.1.toNat ∧ I h 3 = c.2.2.1 ∧ I h 4 = nI c.2.2.2.1.isSome.toNat ∧ (∀ q, c.2.2.2.1 = some q → I h 5 = q.1 ∧ I h 6 = nI q.2 ∧ q.2 ≤ 12) ∧ ys I (h + 2) c.2.2.2.2 ∧ c.2.2.2.2.length ≤ 64
def sp_next (latest seq : Int32) : Bool := decide (seq = latest + nI 1) || (decide (nI 1000 ≤ latest) && (decide (0 ≤ seq) && decide (seq ≤ nI 9)))
def sp_close (c : sCh) (kd : Nat) (seq req : Int32) (cnt : Nat) : Bool := (c.2.1 && !sp_next c.2.2.1 seq) || (match c.2.2.2.1 with
  | none => false
  | some q => decide (req ≠ q.1) || (decide (kd ≠ 2) && (decide (64 < c.2.2.2.2.length + cnt) || decide (q.2 = 12))))
def sp_take (c : sCh) (kd : Nat) (seq req : Int32) (x : Int64) (cnt : Nat) : sCh := if kd = 2 then (c.1, true, seq, none, c.2.2.2.2) else match c.2.2.2.1 with
  | none => (c.1, true, seq, if kd = 0 then some (req, 1) else none, lbs x cnt)
  | some q => (c.1, true, seq, if kd = 0 then some (q.1, q.2 + 1) else none, c.2.2.2.2 ++ lbs x cnt)
/-- nothing changed but the channel's own cell and its message's bytes -/
def frc (I I' : cn_I) (h : Nat) : Prop := ∀ a, a ≠ h → a ≠ h + 2 → a ≠ h + 3 → I' a = I a
theorem lbs_len (x : Int64) (n : Nat) : (lbs x n).length = n := by simp [lbs]
theorem ys_cong1 {I : cn_I} {h k b : Nat} {z : Int32} {v : List Int32} (hy : ys I b v) (h1 : b ≠ h) (h2 : b + 1 ≠ h) : ys (cn_wi I h k z) b v := hy.congr (cn_wi_ne h1) (cn_wi_ne h2)
theorem tn_le (b : Bool) : b.toNat ≤ 1 := by cases b <;> decide
theorem tn_1 {b : Bool} (h : ¬ b.toNat = 0) : b = true := by cases b <;> simp_all
theorem tn_0 {b : Bool} (h : b.toNat = 0) : b = false := by cases b <;> simp_all
section
variable {l : Launch} {en : cn_E} {d : Nat} {S : cn_S} {I : cn_I} {P : cn_P} {Q : Option Value → cn_S → cn_I → cn_P → Prop}
variable {h : Nat} {c : sCh}
theorem c_Ch_isNext {seq : Int32} (hc0 : yc S P h) (hs : chs I h c) (K : Q (some (.int (nI (sp_next c.2.2.1 seq).toNat))) S I P) : cn_V l en mi_Ch_isNext d 0 0 S I P Q 0 [(0, .ref h), (1, .int seq)] [] := by
  refine cn_iload_n (pc' := 1) (k := 1) rfl rfl d_Ch_isNext_0 rfl ?_
  refine cn_aload_n (pc' := 2) (k := 0) rfl rfl d_Ch_isNext_1 rfl ?_
  refine cn_getIv (pc' := 5) (v := c.2.2.1) hs.2.2.1 fl_Ch_48 hc0.1 rfl d_Ch_isNext_2 rfl ?_
  refine cn_iconst (pc' := 6) k_c_1 d_Ch_isNext_5 rfl ?_
  refine cn_iadd (pc' := 7) d_Ch_isNext_6 rfl ?_
  refine cn_icmp_eq (tgt := 30) (pc' := 10) d_Ch_isNext_7 (by decide) rfl (fun hc7 => ?_) (fun hc7 => ?_)
  · refine cn_iconst (pc' := 31) k_c_1 d_Ch_isNext_30 rfl ?_
    refine cn_goto (tgt := 35) d_Ch_isNext_31 (by decide) ?_
    refine cn_zret rfl (Or.inr rfl) d_Ch_isNext_35 ?_
    have e : (sp_next c.2.2.1 seq).toNat = 1 := by
      unfold sp_next
      simp [hc7]
    rw [e] at K
    exact K
  · refine cn_aload_n (pc' := 11) (k := 0) rfl rfl d_Ch_isNext_10 rfl ?_
    refine cn_getIv (pc' := 14) (v := c.2.2.1) hs.2.2.1 fl_Ch_48 hc0.1 rfl d_Ch_isNext_11 rfl ?_
    refine cn_sipush (pc' := 17) k_s_1000 d_Ch_isNext_14 rfl ?_
    refine cn_icmp_lt (tgt := 34) (pc' := 20) d_Ch_isNext_17 (by decide) rfl (fun hc17 => ?_) (fun hc17 => ?_)
    · have hx17 : ¬ nI 1000 ≤ c.2.2.1 := Int32.not_le.mpr hc17
      refine cn_iconst (pc' := 35) k_c_0 d_Ch_isNext_34 rfl ?_
      refine cn_zret rfl (Or.inl rfl) d_Ch_isNext_35 ?_
      have e : (sp_next c.2.2.1 seq).toNat = 0 := by
        unfold sp_next
        simp [hc7, hx17]
      rw [e] at K
      exact K
    · have hx17 : nI 1000 ≤ c.2.2.1 := Int32.not_lt.mp hc17
      refine cn_iload_n (pc' := 21) (k := 1) rfl rfl d_Ch_isNext_20 rfl ?_
      refine cn_if_lt (tgt := 34) (pc' := 24) d_Ch_isNext_21 (by decide) rfl (fun hc21 => ?_) (fun hc21 => ?_)
      · have hx21 : ¬ 0 ≤ seq := Int32.not_le.mpr hc21
        refine cn_iconst (pc' := 35) k_c_0 d_Ch_isNext_34 rfl ?_
        refine cn_zret rfl (Or.inl rfl) d_Ch_isNext_35 ?_
        have e : (sp_next c.2.2.1 seq).toNat = 0 := by
          unfold sp_next
          simp [hc7, hx17, hx21]
        rw [e] at K
        exact K
      · have hx21 : 0 ≤ seq := Int32.not_lt.mp hc21
        refine cn_iload_n (pc' := 25) (k := 1) rfl rfl d_Ch_isNext_24 rfl ?_
        refine cn_bipush (pc' := 27) k_b_9 d_Ch_isNext_25 rfl ?_
        refine cn_icmp_gt (tgt := 34) (pc' := 30) d_Ch_isNext_27 (by decide) rfl (fun hc27 => ?_) (fun hc27 => ?_)
        · have hx27 : ¬ seq ≤ nI 9 := Int32.not_le.mpr hc27
          refine cn_iconst (pc' := 35) k_c_0 d_Ch_isNext_34 rfl ?_
          refine cn_zret rfl (Or.inl rfl) d_Ch_isNext_35 ?_
          have e : (sp_next c.2.2.1 seq).toNat = 0 := by
            unfold sp_next
            simp [hc7, hx17, hx21, hx27]
          rw [e] at K
          exact K
        · have hx27 : seq ≤ nI 9 := Int32.not_lt.mp hc27
          refine cn_iconst (pc' := 31) k_c_1 d_Ch_isNext_30 rfl ?_
          refine cn_goto (tgt := 35) d_Ch_isNext_31 (by decide) ?_
          refine cn_zret rfl (Or.inr rfl) d_Ch_isNext_35 ?_
          have e : (sp_next c.2.2.1 seq).toNat = 1 := by
            unfold sp_next
            simp [hc7, hx17, hx21, hx27]
          rw [e] at K
          exact K
theorem c_Ch_restart (hc0 : yc S P h) (hs : chs I h c) (K : ∀ I', chs I' h (true, false, c.2.2.1, none, c.2.2.2.2) → frc I I' h → Q none S I' P) : cn_V l en mi_Ch_restart d 0 0 S I P Q 0 [(0, .ref h)] [] := by
  refine cn_aload_n (pc' := 1) (k := 0) rfl rfl d_Ch_restart_0 rfl ?_
  refine cn_iconst (pc' := 2) k_c_1 d_Ch_restart_1 rfl ?_
  refine cn_putI (pc' := 5) fl_Ch_18 hc0.1 rfl rfl rfl rfl d_Ch_restart_2 rfl ?_
  refine cn_aload_n (pc' := 6) (k := 0) rfl rfl d_Ch_restart_5 rfl ?_
  refine cn_iconst (pc' := 7) k_c_0 d_Ch_restart_6 rfl ?_
  refine cn_putI (pc' := 10) fl_Ch_22 hc0.1 rfl rfl rfl rfl d_Ch_restart_7 rfl ?_
  refine cn_aload_n (pc' := 11) (k := 0) rfl rfl d_Ch_restart_10 rfl ?_
  refine cn_iconst (pc' := 12) k_c_0 d_Ch_restart_11 rfl ?_
  refine cn_putI (pc' := 15) fl_Ch_25 hc0.1 rfl rfl rfl rfl d_Ch_restart_12 rfl ?_
  refine cn_vret rfl d_Ch_restart_15 ?_
  refine K _ ⟨by simp [cn_wi, upd], by simp [cn_wi, upd], by simp [cn_wi, upd, hs.2.2.1], by simp [cn_wi, upd], fun q hq => (by cases hq), ?_, hs.2.2.2.2.2.2⟩ (fun a h1 _ _ => by simp [cn_wi, h1])
  exact ys_cong1 (ys_cong1 (ys_cong1 hs.2.2.2.2.2.1 (by omega) (by omega)) (by omega) (by omega)) (by omega) (by omega)
theorem c_Ch_close (hc0 : yc S P h) (hs : chs I h c) (K : ∀ I', chs I' h (false, c.2.1, c.2.2.1, none, c.2.2.2.2) → frc I I' h → Q none S I' P) : cn_V l en mi_Ch_close d 0 0 S I P Q 0 [(0, .ref h)] [] := by
  refine cn_aload_n (pc' := 1) (k := 0) rfl rfl d_Ch_close_0 rfl ?_
  refine cn_iconst (pc' := 2) k_c_0 d_Ch_close_1 rfl ?_
  refine cn_putI (pc' := 5) fl_Ch_18 hc0.1 rfl rfl rfl rfl d_Ch_close_2 rfl ?_
  refine cn_aload_n (pc' := 6) (k := 0) rfl rfl d_Ch_close_5 rfl ?_
  refine cn_iconst (pc' := 7) k_c_0 d_Ch_close_6 rfl ?_
  refine cn_putI (pc' := 10) fl_Ch_25 hc0.1 rfl rfl rfl rfl d_Ch_close_7 rfl ?_
  refine cn_vret rfl d_Ch_close_10 ?_
  refine K _ ⟨by simp [cn_wi, upd], by simp [cn_wi, upd, hs.2.1], by simp [cn_wi, upd, hs.2.2.1], by simp [cn_wi, upd], fun q hq => (by cases hq), ?_, hs.2.2.2.2.2.2⟩ (fun a h1 _ _ => by simp [cn_wi, h1])
  exact ys_cong1 (ys_cong1 hs.2.2.2.2.2.1 (by omega) (by omega)) (by omega) (by omega)
theorem c_Ch_mustClose {kd cnt : Nat} {seq req : Int32} (hc0 : yc S P h) (hs : chs I h c) (hkd : kd ≤ 2) (hcnt : cnt ≤ 8) (hd1 : 1 ≤ d) (K : Q (some (.int (nI (sp_close c kd seq req cnt).toNat))) S I P) : cn_V l en mi_Ch_mustClose d 0 0 S I P Q 0 [(0, .ref h), (1, .int (nI kd)), (2, .int seq), (3, .int req), (4, .int (nI cnt))] [] := by
  have hb1 := tn_le c.2.1
  have hb2 := tn_le c.2.2.2.1.isSome
  have hb3 := tn_le (sp_next c.2.2.1 seq)
  have hml := hs.2.2.2.2.2.2
  refine cn_aload_n (pc' := 1) (k := 0) rfl rfl d_Ch_mustClose_0 rfl ?_
  refine cn_getIv (pc' := 4) (v := nI (c.2.1.toNat)) hs.2.1 fl_Ch_22 hc0.1 rfl d_Ch_mustClose_1 rfl ?_
  refine cn_if_eq_n (tgt := 17) (pc' := 7) (by omega) d_Ch_mustClose_4 (by decide) rfl (fun hc4 => ?_) (fun hc4 => ?_)
  · have hx4 : c.2.1 = false := tn_0 hc4
    refine cn_aload_n (pc' := 18) (k := 0) rfl rfl d_Ch_mustClose_17 rfl ?_
    refine cn_getIv (pc' := 21) (v := nI (c.2.2.2.1.isSome.toNat)) hs.2.2.2.1 fl_Ch_25 hc0.1 rfl d_Ch_mustClose_18 rfl ?_
    refine cn_if_eq_n (tgt := 34) (pc' := 24) (by omega) d_Ch_mustClose_21 (by decide) rfl (fun hc21 => ?_) (fun hc21 => ?_)
    · have hq : c.2.2.2.1 = none := by cases hh : c.2.2.2.1 with | none => rfl | some x => rw [hh] at hc21; cases hc21
      refine cn_iload_n (pc' := 35) (k := 1) rfl rfl d_Ch_mustClose_34 rfl ?_
      refine cn_iconst (pc' := 36) k_c_2 d_Ch_mustClose_35 rfl ?_
      refine cn_icmp_eq_n (tgt := 77) (pc' := 39) (by omega) (by omega) d_Ch_mustClose_36 (by decide) rfl (fun hc36 => ?_) (fun hc36 => ?_)
      · refine cn_iconst (pc' := 78) k_c_0 d_Ch_mustClose_77 rfl ?_
        refine cn_zret rfl (Or.inl rfl) d_Ch_mustClose_78 ?_
        have e : (sp_close c kd seq req cnt).toNat = 0 := by
          unfold sp_close
          rw [hx4]
          rw [hq]
          simp [hc36]
        rw [e] at K
        exact K
      · refine cn_aload_n (pc' := 40) (k := 0) rfl rfl d_Ch_mustClose_39 rfl ?_
        refine cn_getIv (pc' := 43) (v := nI (c.2.2.2.1.isSome.toNat)) hs.2.2.2.1 fl_Ch_25 hc0.1 rfl d_Ch_mustClose_40 rfl ?_
        refine cn_if_eq_n (tgt := 77) (pc' := 46) (by omega) d_Ch_mustClose_43 (by decide) rfl (fun hc43 => ?_) (fun hc43 => ?_)
        · refine cn_iconst (pc' := 78) k_c_0 d_Ch_mustClose_77 rfl ?_
          refine cn_zret rfl (Or.inl rfl) d_Ch_mustClose_78 ?_
          have e : (sp_close c kd seq req cnt).toNat = 0 := by
            unfold sp_close
            rw [hx4]
            rw [hq]
            simp [hc36]
          rw [e] at K
          exact K
        · exact absurd (by rw [hq]; rfl) hc43
    · obtain ⟨q, hq⟩ := Option.isSome_iff_exists.mp (tn_1 hc21)
      have hq6 := (hs.2.2.2.2.1 q hq).2.2
      refine cn_iload_n (pc' := 25) (k := 3) rfl rfl d_Ch_mustClose_24 rfl ?_
      refine cn_aload_n (pc' := 26) (k := 0) rfl rfl d_Ch_mustClose_25 rfl ?_
      refine cn_getIv (pc' := 29) (v := q.1) (hs.2.2.2.2.1 q hq).1 fl_Ch_32 hc0.1 rfl d_Ch_mustClose_26 rfl ?_
      refine cn_icmp_eq (tgt := 34) (pc' := 32) d_Ch_mustClose_29 (by decide) rfl (fun hc29 => ?_) (fun hc29 => ?_)
      · refine cn_iload_n (pc' := 35) (k := 1) rfl rfl d_Ch_mustClose_34 rfl ?_
        refine cn_iconst (pc' := 36) k_c_2 d_Ch_mustClose_35 rfl ?_
        refine cn_icmp_eq_n (tgt := 77) (pc' := 39) (by omega) (by omega) d_Ch_mustClose_36 (by decide) rfl (fun hc36 => ?_) (fun hc36 => ?_)
        · refine cn_iconst (pc' := 78) k_c_0 d_Ch_mustClose_77 rfl ?_
          refine cn_zret rfl (Or.inl rfl) d_Ch_mustClose_78 ?_
          have e : (sp_close c kd seq req cnt).toNat = 0 := by
            unfold sp_close
            rw [hx4]
            rw [hq]
            simp [hc29, hc36]
          rw [e] at K
          exact K
        · refine cn_aload_n (pc' := 40) (k := 0) rfl rfl d_Ch_mustClose_39 rfl ?_
          refine cn_getIv (pc' := 43) (v := nI (c.2.2.2.1.isSome.toNat)) hs.2.2.2.1 fl_Ch_25 hc0.1 rfl d_Ch_mustClose_40 rfl ?_
          refine cn_if_eq_n (tgt := 77) (pc' := 46) (by omega) d_Ch_mustClose_43 (by decide) rfl (fun hc43 => ?_) (fun hc43 => ?_)
          · exact absurd hc43 (by rw [hq]; exact Nat.one_ne_zero)
          · refine cn_aload_n (pc' := 47) (k := 0) rfl rfl d_Ch_mustClose_46 rfl ?_
            refine cn_getP (pc' := 50) (b := (h + 1)) hc0.2.1 fl_Ch_12 hc0.1 rfl d_Ch_mustClose_47 rfl ?_
            refine cn_getP (pc' := 53) (b := (h + 2)) hc0.2.2.2.1 fl_Ch_36 hc0.2.2.1 rfl d_Ch_mustClose_50 rfl ?_
            refine cn_getIv (pc' := 56) (v := nI (c.2.2.2.2.length)) hs.2.2.2.2.2.1.1 fl_Ch_40 hc0.2.2.2.2.1 rfl d_Ch_mustClose_53 rfl ?_
            refine cn_iload (pc' := 58) (k := 4) rfl d_Ch_mustClose_56 rfl ?_
            refine cn_iadd_n (pc' := 59) d_Ch_mustClose_58 rfl ?_
            refine cn_bipush (pc' := 61) k_b_64 d_Ch_mustClose_59 rfl ?_
            refine cn_icmp_gt_n (tgt := 73) (pc' := 64) (by omega) (by omega) d_Ch_mustClose_61 (by decide) rfl (fun hc61 => ?_) (fun hc61 => ?_)
            · have hx61 : 64 < c.2.2.2.2.length + cnt := hc61
              refine cn_iconst (pc' := 74) k_c_1 d_Ch_mustClose_73 rfl ?_
              refine cn_goto (tgt := 78) d_Ch_mustClose_74 (by decide) ?_
              refine cn_zret rfl (Or.inr rfl) d_Ch_mustClose_78 ?_
              have e : (sp_close c kd seq req cnt).toNat = 1 := by
                unfold sp_close
                rw [hx4]
                rw [hq]
                simp [hc29, hc36, hx61]
              rw [e] at K
              exact K
            · have hx61 : ¬ 64 < c.2.2.2.2.length + cnt := hc61
              refine cn_aload_n (pc' := 65) (k := 0) rfl rfl d_Ch_mustClose_64 rfl ?_
              refine cn_getIv (pc' := 68) (v := nI (q.2)) (hs.2.2.2.2.1 q hq).2.1 fl_Ch_45 hc0.1 rfl d_Ch_mustClose_65 rfl ?_
              refine cn_bipush (pc' := 70) k_b_12 d_Ch_mustClose_68 rfl ?_
              refine cn_icmp_ne_n (tgt := 77) (pc' := 73) (by omega) (by omega) d_Ch_mustClose_70 (by decide) rfl (fun hc70 => ?_) (fun hc70 => ?_)
              · refine cn_iconst (pc' := 78) k_c_0 d_Ch_mustClose_77 rfl ?_
                refine cn_zret rfl (Or.inl rfl) d_Ch_mustClose_78 ?_
                have e : (sp_close c kd seq req cnt).toNat = 0 := by
                  unfold sp_close
                  rw [hx4]
                  rw [hq]
                  simp [hc29, hc36, hx61, hc70]
                rw [e] at K
                exact K
              · refine cn_iconst (pc' := 74) k_c_1 d_Ch_mustClose_73 rfl ?_
                refine cn_goto (tgt := 78) d_Ch_mustClose_74 (by decide) ?_
                refine cn_zret rfl (Or.inr rfl) d_Ch_mustClose_78 ?_
                have e : (sp_close c kd seq req cnt).toNat = 1 := by
                  unfold sp_close
                  rw [hx4]
                  rw [hq]
                  simp [hc29, hc36, hx61, hc70]
                rw [e] at K
                exact K
      · refine cn_iconst (pc' := 33) k_c_1 d_Ch_mustClose_32 rfl ?_
        refine cn_zret rfl (Or.inr rfl) d_Ch_mustClose_33 ?_
        have e : (sp_close c kd seq req cnt).toNat = 1 := by
          unfold sp_close
          rw [hx4]
          rw [hq]
          simp [hc29]
        rw [e] at K
        exact K
  · have hx4 : c.2.1 = true := tn_1 hc4
    refine cn_aload_n (pc' := 8) (k := 0) rfl rfl d_Ch_mustClose_7 rfl ?_
    refine cn_iload_n (pc' := 9) (k := 2) rfl rfl d_Ch_mustClose_8 rfl ?_
    refine cn_callV (pc' := 12) (kc1 := 0) (ks1 := 0) (kc2 := 0) (ks2 := 0) (rest := []) (lvj := [(0, .ref h), (1, .int (seq))]) [.int (seq)] mv_Ch_28 hc0.1 rfl rfl rfl (Nat.le_of_ble_eq_true rfl) (Nat.le_of_ble_eq_true rfl) (by omega) (by omega) (by omega) d_Ch_mustClose_9 rfl ?_
    refine c_Ch_isNext hc0 hs ?_
    show cn_V l en mi_Ch_mustClose d 0 0 S I P Q 12 [(0, .ref h), (1, .int (nI (kd))), (2, .int (seq)), (3, .int (req)), (4, .int (nI (cnt)))] [.int (nI ((sp_next c.2.2.1 seq).toNat))]
    refine cn_if_ne_n (tgt := 17) (pc' := 15) (by omega) d_Ch_mustClose_12 (by decide) rfl (fun hc12 => ?_) (fun hc12 => ?_)
    · have hx12 : sp_next c.2.2.1 seq = true := tn_1 hc12
      refine cn_aload_n (pc' := 18) (k := 0) rfl rfl d_Ch_mustClose_17 rfl ?_
      refine cn_getIv (pc' := 21) (v := nI (c.2.2.2.1.isSome.toNat)) hs.2.2.2.1 fl_Ch_25 hc0.1 rfl d_Ch_mustClose_18 rfl ?_
      refine cn_if_eq_n (tgt := 34) (pc' := 24) (by omega) d_Ch_mustClose_21 (by decide) rfl (fun hc21 => ?_) (fun hc21 => ?_)
      · have hq : c.2.2.2.1 = none := by cases hh : c.2.2.2.1 with | none => rfl | some x => rw [hh] at hc21; cases hc21
        refine cn_iload_n (pc' := 35) (k := 1) rfl rfl d_Ch_mustClose_34 rfl ?_
        refine cn_iconst (pc' := 36) k_c_2 d_Ch_mustClose_35 rfl ?_
        refine cn_icmp_eq_n (tgt := 77) (pc' := 39) (by omega) (by omega) d_Ch_mustClose_36 (by decide) rfl (fun hc36 => ?_) (fun hc36 => ?_)
        · refine cn_iconst (pc' := 78) k_c_0 d_Ch_mustClose_77 rfl ?_
          refine cn_zret rfl (Or.inl rfl) d_Ch_mustClose_78 ?_
          have e : (sp_close c kd seq req cnt).toNat = 0 := by
            unfold sp_close
            rw [hx4]
            rw [hx12]
            rw [hq]
            simp [hc36]
          rw [e] at K
          exact K
        · refine cn_aload_n (pc' := 40) (k := 0) rfl rfl d_Ch_mustClose_39 rfl ?_
          refine cn_getIv (pc' := 43) (v := nI (c.2.2.2.1.isSome.toNat)) hs.2.2.2.1 fl_Ch_25 hc0.1 rfl d_Ch_mustClose_40 rfl ?_
          refine cn_if_eq_n (tgt := 77) (pc' := 46) (by omega) d_Ch_mustClose_43 (by decide) rfl (fun hc43 => ?_) (fun hc43 => ?_)
          · refine cn_iconst (pc' := 78) k_c_0 d_Ch_mustClose_77 rfl ?_
            refine cn_zret rfl (Or.inl rfl) d_Ch_mustClose_78 ?_
            have e : (sp_close c kd seq req cnt).toNat = 0 := by
              unfold sp_close
              rw [hx4]
              rw [hx12]
              rw [hq]
              simp [hc36]
            rw [e] at K
            exact K
          · exact absurd (by rw [hq]; rfl) hc43
      · obtain ⟨q, hq⟩ := Option.isSome_iff_exists.mp (tn_1 hc21)
        have hq6 := (hs.2.2.2.2.1 q hq).2.2
        refine cn_iload_n (pc' := 25) (k := 3) rfl rfl d_Ch_mustClose_24 rfl ?_
        refine cn_aload_n (pc' := 26) (k := 0) rfl rfl d_Ch_mustClose_25 rfl ?_
        refine cn_getIv (pc' := 29) (v := q.1) (hs.2.2.2.2.1 q hq).1 fl_Ch_32 hc0.1 rfl d_Ch_mustClose_26 rfl ?_
        refine cn_icmp_eq (tgt := 34) (pc' := 32) d_Ch_mustClose_29 (by decide) rfl (fun hc29 => ?_) (fun hc29 => ?_)
        · refine cn_iload_n (pc' := 35) (k := 1) rfl rfl d_Ch_mustClose_34 rfl ?_
          refine cn_iconst (pc' := 36) k_c_2 d_Ch_mustClose_35 rfl ?_
          refine cn_icmp_eq_n (tgt := 77) (pc' := 39) (by omega) (by omega) d_Ch_mustClose_36 (by decide) rfl (fun hc36 => ?_) (fun hc36 => ?_)
          · refine cn_iconst (pc' := 78) k_c_0 d_Ch_mustClose_77 rfl ?_
            refine cn_zret rfl (Or.inl rfl) d_Ch_mustClose_78 ?_
            have e : (sp_close c kd seq req cnt).toNat = 0 := by
              unfold sp_close
              rw [hx4]
              rw [hx12]
              rw [hq]
              simp [hc29, hc36]
            rw [e] at K
            exact K
          · refine cn_aload_n (pc' := 40) (k := 0) rfl rfl d_Ch_mustClose_39 rfl ?_
            refine cn_getIv (pc' := 43) (v := nI (c.2.2.2.1.isSome.toNat)) hs.2.2.2.1 fl_Ch_25 hc0.1 rfl d_Ch_mustClose_40 rfl ?_
            refine cn_if_eq_n (tgt := 77) (pc' := 46) (by omega) d_Ch_mustClose_43 (by decide) rfl (fun hc43 => ?_) (fun hc43 => ?_)
            · exact absurd hc43 (by rw [hq]; exact Nat.one_ne_zero)
            · refine cn_aload_n (pc' := 47) (k := 0) rfl rfl d_Ch_mustClose_46 rfl ?_
              refine cn_getP (pc' := 50) (b := (h + 1)) hc0.2.1 fl_Ch_12 hc0.1 rfl d_Ch_mustClose_47 rfl ?_
              refine cn_getP (pc' := 53) (b := (h + 2)) hc0.2.2.2.1 fl_Ch_36 hc0.2.2.1 rfl d_Ch_mustClose_50 rfl ?_
              refine cn_getIv (pc' := 56) (v := nI (c.2.2.2.2.length)) hs.2.2.2.2.2.1.1 fl_Ch_40 hc0.2.2.2.2.1 rfl d_Ch_mustClose_53 rfl ?_
              refine cn_iload (pc' := 58) (k := 4) rfl d_Ch_mustClose_56 rfl ?_
              refine cn_iadd_n (pc' := 59) d_Ch_mustClose_58 rfl ?_
              refine cn_bipush (pc' := 61) k_b_64 d_Ch_mustClose_59 rfl ?_
              refine cn_icmp_gt_n (tgt := 73) (pc' := 64) (by omega) (by omega) d_Ch_mustClose_61 (by decide) rfl (fun hc61 => ?_) (fun hc61 => ?_)
              · have hx61 : 64 < c.2.2.2.2.length + cnt := hc61
                refine cn_iconst (pc' := 74) k_c_1 d_Ch_mustClose_73 rfl ?_
                refine cn_goto (tgt := 78) d_Ch_mustClose_74 (by decide) ?_
                refine cn_zret rfl (Or.inr rfl) d_Ch_mustClose_78 ?_
                have e : (sp_close c kd seq req cnt).toNat = 1 := by
                  unfold sp_close
                  rw [hx4]
                  rw [hx12]
                  rw [hq]
                  simp [hc29, hc36, hx61]
                rw [e] at K
                exact K
              · have hx61 : ¬ 64 < c.2.2.2.2.length + cnt := hc61
                refine cn_aload_n (pc' := 65) (k := 0) rfl rfl d_Ch_mustClose_64 rfl ?_
                refine cn_getIv (pc' := 68) (v := nI (q.2)) (hs.2.2.2.2.1 q hq).2.1 fl_Ch_45 hc0.1 rfl d_Ch_mustClose_65 rfl ?_
                refine cn_bipush (pc' := 70) k_b_12 d_Ch_mustClose_68 rfl ?_
                refine cn_icmp_ne_n (tgt := 77) (pc' := 73) (by omega) (by omega) d_Ch_mustClose_70 (by decide) rfl (fun hc70 => ?_) (fun hc70 => ?_)
                · refine cn_iconst (pc' := 78) k_c_0 d_Ch_mustClose_77 rfl ?_
                  refine cn_zret rfl (Or.inl rfl) d_Ch_mustClose_78 ?_
                  have e : (sp_close c kd seq req cnt).toNat = 0 := by
                    unfold sp_close
                    rw [hx4]
                    rw [hx12]
                    rw [hq]
                    simp [hc29, hc36, hx61, hc70]
                  rw [e] at K
                  exact K
                · refine cn_iconst (pc' := 74) k_c_1 d_Ch_mustClose_73 rfl ?_
                  refine cn_goto (tgt := 78) d_Ch_mustClose_74 (by decide) ?_
                  refine cn_zret rfl (Or.inr rfl) d_Ch_mustClose_78 ?_
                  have e : (sp_close c kd seq req cnt).toNat = 1 := by
                    unfold sp_close
                    rw [hx4]
                    rw [hx12]
                    rw [hq]
                    simp [hc29, hc36, hx61, hc70]
                  rw [e] at K
                  exact K
        · refine cn_iconst (pc' := 33) k_c_1 d_Ch_mustClose_32 rfl ?_
          refine cn_zret rfl (Or.inr rfl) d_Ch_mustClose_33 ?_
          have e : (sp_close c kd seq req cnt).toNat = 1 := by
            unfold sp_close
            rw [hx4]
            rw [hx12]
            rw [hq]
            simp [hc29]
          rw [e] at K
          exact K
    · have hx12 : sp_next c.2.2.1 seq = false := tn_0 hc12
      refine cn_iconst (pc' := 16) k_c_1 d_Ch_mustClose_15 rfl ?_
      refine cn_zret rfl (Or.inr rfl) d_Ch_mustClose_16 ?_
      have e : (sp_close c kd seq req cnt).toNat = 1 := by
        unfold sp_close
        rw [hx4]
        rw [hx12]
        simp []
      rw [e] at K
      exact K
theorem c_Ch_take {kd cnt : Nat} {seq req : Int32} {x : Int64} (hc0 : yc S P h) (hs : chs I h c) (hkd : kd ≤ 2) (hcnt : cnt ≤ 8) (hok : kd = 2 ∨ ∀ q, c.2.2.2.1 = some q → q.2 < 12 ∧ c.2.2.2.2.length + cnt ≤ 64) (hd1 : 2 ≤ d) (K : ∀ I', chs I' h (sp_take c kd seq req x cnt) → frc I I' h → Q none S I' P) : cn_V l en mi_Ch_take d 0 0 S I P Q 0 [(0, .ref h), (1, .int (nI kd)), (2, .int seq), (3, .int req), (4, .long x), (6, .int (nI cnt))] [] := by
  have hb2 := tn_le c.2.2.2.1.isSome
  have hml := hs.2.2.2.2.2.2
  have hyb := hc0.2.2.2.2
  refine cn_aload_n (pc' := 1) (k := 0) rfl rfl d_Ch_take_0 rfl ?_
  refine cn_iconst (pc' := 2) k_c_1 d_Ch_take_1 rfl ?_
  refine cn_putI (pc' := 5) fl_Ch_22 hc0.1 rfl rfl rfl rfl d_Ch_take_2 rfl ?_
  refine cn_aload_n (pc' := 6) (k := 0) rfl rfl d_Ch_take_5 rfl ?_
  refine cn_iload_n (pc' := 7) (k := 2) rfl rfl d_Ch_take_6 rfl ?_
  refine cn_putI (pc' := 10) fl_Ch_48 hc0.1 rfl rfl rfl rfl d_Ch_take_7 rfl ?_
  refine cn_iload_n (pc' := 11) (k := 1) rfl rfl d_Ch_take_10 rfl ?_
  refine cn_iconst (pc' := 12) k_c_2 d_Ch_take_11 rfl ?_
  refine cn_icmp_ne_n (tgt := 21) (pc' := 15) (by omega) (by omega) d_Ch_take_12 (by decide) rfl (fun hc12 => ?_) (fun hc12 => ?_)
  · refine cn_aload_n (pc' := 22) (k := 0) rfl rfl d_Ch_take_21 rfl ?_
    refine cn_getIv (pc' := 25) (v := nI (c.2.2.2.1.isSome.toNat)) (by simp [cn_wi, upd, hs.2.2.2.1]) fl_Ch_25 hc0.1 rfl d_Ch_take_22 rfl ?_
    refine cn_if_ne_n (tgt := 48) (pc' := 28) (by omega) d_Ch_take_25 (by decide) rfl (fun hc25 => ?_) (fun hc25 => ?_)
    · obtain ⟨q, hq⟩ := Option.isSome_iff_exists.mp (tn_1 hc25)
      obtain ⟨hq5, hq6, hq12⟩ := hs.2.2.2.2.1 q hq
      obtain ⟨hlt, hle⟩ := (hok.resolve_left hc12) q hq
      refine cn_aload_n (pc' := 49) (k := 0) rfl rfl d_Ch_take_48 rfl ?_
      refine cn_getP (pc' := 52) (b := (h + 1)) hc0.2.1 fl_Ch_12 hc0.1 rfl d_Ch_take_49 rfl ?_
      refine cn_getP (pc' := 55) (b := (h + 2)) hc0.2.2.2.1 fl_Ch_36 hc0.2.2.1 rfl d_Ch_take_52 rfl ?_
      refine cn_lload (pc' := 57) (k := 4) rfl d_Ch_take_55 rfl ?_
      refine cn_iload (pc' := 59) (k := 5) rfl d_Ch_take_57 rfl ?_
      refine cn_callV (pc' := 62) (kc1 := 0) (ks1 := 0) (kc2 := 0) (ks2 := 0) (rest := []) (lvj := [(0, .ref ((h + 2))), (1, .long (x)), (3, .int (nI (cnt)))]) [.long (x), .int (nI (cnt))] mv_Ch_54 hc0.2.2.2.2.1 rfl rfl rfl (Nat.le_of_ble_eq_true rfl) (Nat.le_of_ble_eq_true rfl) (by omega) (by omega) (by omega) d_Ch_take_59 rfl ?_
      refine c_By_addNumber (b := h + 2) (cap := 64) hyb (ys_cong1 (ys_cong1 hs.2.2.2.2.2.1 (by omega) (by omega)) (by omega) (by omega)) hml (by omega) (by omega) (fun I1 hy1 hf1 => ?_)
      rw [List.take_of_length_le (by rw [List.length_append, lbs_len]; omega)] at hy1
      show cn_V l en mi_Ch_take d 0 0 S I1 P Q 62 [(0, .ref h), (1, .int (nI (kd))), (2, .int (seq)), (3, .int (req)), (4, .long (x)), (6, .int (nI (cnt)))] []
      refine cn_aload_n (pc' := 63) (k := 0) rfl rfl d_Ch_take_62 rfl ?_
      refine cn_dup (pc' := 64) rfl d_Ch_take_63 rfl ?_
      refine cn_getIv (pc' := 67) (v := nI (q.2)) (by rw [hf1 h (by omega) (by omega)]; simp [cn_wi, upd, (hs.2.2.2.2.1 q hq).2.1]) fl_Ch_45 hc0.1 rfl d_Ch_take_64 rfl ?_
      refine cn_iconst (pc' := 68) k_c_1 d_Ch_take_67 rfl ?_
      refine cn_iadd_n (pc' := 69) d_Ch_take_68 rfl ?_
      refine cn_putI (pc' := 72) fl_Ch_45 hc0.1 rfl rfl rfl rfl d_Ch_take_69 rfl ?_
      refine cn_aload_n (pc' := 73) (k := 0) rfl rfl d_Ch_take_72 rfl ?_
      refine cn_iload_n (pc' := 74) (k := 1) rfl rfl d_Ch_take_73 rfl ?_
      refine cn_if_ne_n (tgt := 81) (pc' := 77) (by omega) d_Ch_take_74 (by decide) rfl (fun hc74 => ?_) (fun hc74 => ?_)
      · refine cn_iconst (pc' := 82) k_c_0 d_Ch_take_81 rfl ?_
        refine cn_putI (pc' := 85) fl_Ch_25 hc0.1 rfl rfl rfl rfl d_Ch_take_82 rfl ?_
        refine cn_vret rfl d_Ch_take_85 ?_
        have e : sp_take c kd seq req x cnt = (c.1, true, seq, none, c.2.2.2.2 ++ lbs x cnt) := by unfold sp_take; rw [if_neg hc12, hq]; dsimp only; rw [if_neg hc74]
        rw [e] at K
        have hrow : I1 h = _ := hf1 h (by omega) (by omega)
        refine K _ ⟨by simp [cn_wi, upd, hrow, hs.1], by simp [cn_wi, upd, hrow], by simp [cn_wi, upd, hrow], by simp [cn_wi, upd], fun q9 hq9 => (by cases hq9), ys_cong1 (ys_cong1 hy1 (by omega) (by omega)) (by omega) (by omega), ?_⟩ ?_
        · show (c.2.2.2.2 ++ lbs x cnt).length ≤ 64; rw [List.length_append, lbs_len]; omega
        · intro a h1 h2 h3
          rw [cn_wi_ne h1, cn_wi_ne h1, hf1 a h2 h3, cn_wi_ne h1, cn_wi_ne h1]
      · refine cn_iconst (pc' := 78) k_c_1 d_Ch_take_77 rfl ?_
        refine cn_goto (tgt := 82) d_Ch_take_78 (by decide) ?_
        refine cn_putI (pc' := 85) fl_Ch_25 hc0.1 rfl rfl rfl rfl d_Ch_take_82 rfl ?_
        refine cn_vret rfl d_Ch_take_85 ?_
        have e : sp_take c kd seq req x cnt = (c.1, true, seq, some (q.1, q.2 + 1), c.2.2.2.2 ++ lbs x cnt) := by unfold sp_take; rw [if_neg hc12, hq]; dsimp only; rw [if_pos hc74]
        rw [e] at K
        have hrow : I1 h = _ := hf1 h (by omega) (by omega)
        refine K _ ⟨by simp [cn_wi, upd, hrow, hs.1], by simp [cn_wi, upd, hrow], by simp [cn_wi, upd, hrow], by simp [cn_wi, upd], fun q9 hq9 => (by cases hq9; exact ⟨by simp [cn_wi, upd, hrow, hq5], by simp [cn_wi, upd], by show q.2 + 1 ≤ 12; omega⟩), ys_cong1 (ys_cong1 hy1 (by omega) (by omega)) (by omega) (by omega), ?_⟩ ?_
        · show (c.2.2.2.2 ++ lbs x cnt).length ≤ 64; rw [List.length_append, lbs_len]; omega
        · intro a h1 h2 h3
          rw [cn_wi_ne h1, cn_wi_ne h1, hf1 a h2 h3, cn_wi_ne h1, cn_wi_ne h1]
    · have hq : c.2.2.2.1 = none := by cases hh : c.2.2.2.1 with | none => rfl | some x => rw [hh] at hc25; cases hc25
      refine cn_aload_n (pc' := 29) (k := 0) rfl rfl d_Ch_take_28 rfl ?_
      refine cn_getP (pc' := 32) (b := (h + 1)) hc0.2.1 fl_Ch_12 hc0.1 rfl d_Ch_take_29 rfl ?_
      refine cn_getP (pc' := 35) (b := (h + 2)) hc0.2.2.2.1 fl_Ch_36 hc0.2.2.1 rfl d_Ch_take_32 rfl ?_
      refine cn_callV (pc' := 38) (kc1 := 0) (ks1 := 0) (kc2 := 0) (ks2 := 0) (rest := []) (lvj := [(0, .ref ((h + 2)))]) [] mv_Ch_51 hc0.2.2.2.2.1 rfl rfl rfl (Nat.le_of_ble_eq_true rfl) (Nat.le_of_ble_eq_true rfl) (by omega) (by omega) (by omega) d_Ch_take_35 rfl ?_
      refine c_By_clear (b := h + 2) (cap := 64) hyb (fun I1 hy1 hf1 => ?_)
      show cn_V l en mi_Ch_take d 0 0 S I1 P Q 38 [(0, .ref h), (1, .int (nI (kd))), (2, .int (seq)), (3, .int (req)), (4, .long (x)), (6, .int (nI (cnt)))] []
      refine cn_aload_n (pc' := 39) (k := 0) rfl rfl d_Ch_take_38 rfl ?_
      refine cn_iload_n (pc' := 40) (k := 3) rfl rfl d_Ch_take_39 rfl ?_
      refine cn_putI (pc' := 43) fl_Ch_32 hc0.1 rfl rfl rfl rfl d_Ch_take_40 rfl ?_
      refine cn_aload_n (pc' := 44) (k := 0) rfl rfl d_Ch_take_43 rfl ?_
      refine cn_iconst (pc' := 45) k_c_0 d_Ch_take_44 rfl ?_
      refine cn_putI (pc' := 48) fl_Ch_45 hc0.1 rfl rfl rfl rfl d_Ch_take_45 rfl ?_
      refine cn_aload_n (pc' := 49) (k := 0) rfl rfl d_Ch_take_48 rfl ?_
      refine cn_getP (pc' := 52) (b := (h + 1)) hc0.2.1 fl_Ch_12 hc0.1 rfl d_Ch_take_49 rfl ?_
      refine cn_getP (pc' := 55) (b := (h + 2)) hc0.2.2.2.1 fl_Ch_36 hc0.2.2.1 rfl d_Ch_take_52 rfl ?_
      refine cn_lload (pc' := 57) (k := 4) rfl d_Ch_take_55 rfl ?_
      refine cn_iload (pc' := 59) (k := 5) rfl d_Ch_take_57 rfl ?_
      refine cn_callV (pc' := 62) (kc1 := 0) (ks1 := 0) (kc2 := 0) (ks2 := 0) (rest := []) (lvj := [(0, .ref ((h + 2))), (1, .long (x)), (3, .int (nI (cnt)))]) [.long (x), .int (nI (cnt))] mv_Ch_54 hc0.2.2.2.2.1 rfl rfl rfl (Nat.le_of_ble_eq_true rfl) (Nat.le_of_ble_eq_true rfl) (by omega) (by omega) (by omega) d_Ch_take_59 rfl ?_
      refine c_By_addNumber (b := h + 2) (cap := 64) hyb (ys_cong1 (ys_cong1 hy1 (by omega) (by omega)) (by omega) (by omega)) (Nat.zero_le _) (by omega) (by omega) (fun I2 hy2 hf2 => ?_)
      rw [List.nil_append, List.take_of_length_le (by rw [lbs_len]; omega)] at hy2
      show cn_V l en mi_Ch_take d 0 0 S I2 P Q 62 [(0, .ref h), (1, .int (nI (kd))), (2, .int (seq)), (3, .int (req)), (4, .long (x)), (6, .int (nI (cnt)))] []
      refine cn_aload_n (pc' := 63) (k := 0) rfl rfl d_Ch_take_62 rfl ?_
      refine cn_dup (pc' := 64) rfl d_Ch_take_63 rfl ?_
      refine cn_getIv (pc' := 67) (v := nI (0)) (by rw [hf2 h (by omega) (by omega)]; simp [cn_wi, upd]) fl_Ch_45 hc0.1 rfl d_Ch_take_64 rfl ?_
      refine cn_iconst (pc' := 68) k_c_1 d_Ch_take_67 rfl ?_
      refine cn_iadd_n (pc' := 69) d_Ch_take_68 rfl ?_
      refine cn_putI (pc' := 72) fl_Ch_45 hc0.1 rfl rfl rfl rfl d_Ch_take_69 rfl ?_
      refine cn_aload_n (pc' := 73) (k := 0) rfl rfl d_Ch_take_72 rfl ?_
      refine cn_iload_n (pc' := 74) (k := 1) rfl rfl d_Ch_take_73 rfl ?_
      refine cn_if_ne_n (tgt := 81) (pc' := 77) (by omega) d_Ch_take_74 (by decide) rfl (fun hc74 => ?_) (fun hc74 => ?_)
      · refine cn_iconst (pc' := 82) k_c_0 d_Ch_take_81 rfl ?_
        refine cn_putI (pc' := 85) fl_Ch_25 hc0.1 rfl rfl rfl rfl d_Ch_take_82 rfl ?_
        refine cn_vret rfl d_Ch_take_85 ?_
        have e : sp_take c kd seq req x cnt = (c.1, true, seq, none, lbs x cnt) := by unfold sp_take; rw [if_neg hc12, hq]; dsimp only; rw [if_neg hc74]
        rw [e] at K
        have hrow : I2 h = _ := hf2 h (by omega) (by omega)
        have hrow1 : I1 h = _ := hf1 h (by omega) (by omega)
        refine K _ ⟨by simp [cn_wi, upd, hrow, hrow1, hs.1], by simp [cn_wi, upd, hrow, hrow1], by simp [cn_wi, upd, hrow, hrow1], by simp [cn_wi, upd], fun q9 hq9 => (by cases hq9), ys_cong1 (ys_cong1 hy2 (by omega) (by omega)) (by omega) (by omega), ?_⟩ ?_
        · show (lbs x cnt).length ≤ 64; rw [lbs_len]; omega
        · intro a h1 h2 h3
          rw [cn_wi_ne h1, cn_wi_ne h1, hf2 a h2 h3, cn_wi_ne h1, cn_wi_ne h1, hf1 a h2 h3, cn_wi_ne h1, cn_wi_ne h1]
      · refine cn_iconst (pc' := 78) k_c_1 d_Ch_take_77 rfl ?_
        refine cn_goto (tgt := 82) d_Ch_take_78 (by decide) ?_
        refine cn_putI (pc' := 85) fl_Ch_25 hc0.1 rfl rfl rfl rfl d_Ch_take_82 rfl ?_
        refine cn_vret rfl d_Ch_take_85 ?_
        have e : sp_take c kd seq req x cnt = (c.1, true, seq, some (req, 1), lbs x cnt) := by unfold sp_take; rw [if_neg hc12, hq]; dsimp only; rw [if_pos hc74]
        rw [e] at K
        have hrow : I2 h = _ := hf2 h (by omega) (by omega)
        have hrow1 : I1 h = _ := hf1 h (by omega) (by omega)
        refine K _ ⟨by simp [cn_wi, upd, hrow, hrow1, hs.1], by simp [cn_wi, upd, hrow, hrow1], by simp [cn_wi, upd, hrow, hrow1], by simp [cn_wi, upd], fun q9 hq9 => (by cases hq9; exact ⟨by simp [cn_wi, upd, hrow, hrow1], by simp [cn_wi, upd], by show 1 ≤ 12; omega⟩), ys_cong1 (ys_cong1 hy2 (by omega) (by omega)) (by omega) (by omega), ?_⟩ ?_
        · show (lbs x cnt).length ≤ 64; rw [lbs_len]; omega
        · intro a h1 h2 h3
          rw [cn_wi_ne h1, cn_wi_ne h1, hf2 a h2 h3, cn_wi_ne h1, cn_wi_ne h1, hf1 a h2 h3, cn_wi_ne h1, cn_wi_ne h1]
  · have hx12 : kd = 2 := by omega
    refine cn_aload_n (pc' := 16) (k := 0) rfl rfl d_Ch_take_15 rfl ?_
    refine cn_iconst (pc' := 17) k_c_0 d_Ch_take_16 rfl ?_
    refine cn_putI (pc' := 20) fl_Ch_25 hc0.1 rfl rfl rfl rfl d_Ch_take_17 rfl ?_
    refine cn_vret rfl d_Ch_take_20 ?_
    have e : sp_take c kd seq req x cnt = (c.1, true, seq, none, c.2.2.2.2) := by unfold sp_take; rw [if_pos hx12]
    rw [e] at K
    refine K _ ⟨by simp [cn_wi, upd, hs.1], by simp [cn_wi, upd], by simp [cn_wi, upd], by simp [cn_wi, upd], fun q hq => (by cases hq), ?_, hml⟩ (fun a h1 _ _ => by simp [cn_wi, h1])
    exact ys_cong1 (ys_cong1 (ys_cong1 hs.2.2.2.2.2.1 (by omega) (by omega)) (by omega) (by omega)) (by omega) (by omega)
end
/-- the value with which a variable of a type begins -/
def sv0 (t : Int32) : List Int32 := if t = nI 1 then [nI 1, 0] else if t = nI 6 then nI 6 :: lbs 0 4 else if t = nI 8 then nI 8 :: lbs 0 8 else if t = nI 12 then nI 12 :: lbs (-1) 4 else [t &&& 255]
def yn (S : cn_S) (P : cn_P) (a : Nat) : Prop := cn_ob S a 4 ∧ P a 2 = some (a + 1) ∧ yb S P (a + 1) 61
section
variable {l : Launch} {en : cn_E} {d : Nat} {S : cn_S} {I : cn_I} {P : cn_P} {Q : Option Value → cn_S → cn_I → cn_P → Prop}
variable {a : Nat}
theorem c_No_become_f {par : Int32} (hn : yn S P a) (K : Q none S (cn_wi (cn_wi I a 0 par) a 1 (-1)) P) : cn_V l en mi_No_become d 0 0 S I P Q 0 [(0, .ref a), (1, .int par), (2, .int (-1))] [] := by
  refine cn_aload_n (pc' := 1) (k := 0) rfl rfl d_No_become_0 rfl ?_
  refine cn_iload_n (pc' := 2) (k := 1) rfl rfl d_No_become_1 rfl ?_
  refine cn_putI (pc' := 5) fl_No_20 hn.1 rfl rfl rfl rfl d_No_become_2 rfl ?_
  refine cn_aload_n (pc' := 6) (k := 0) rfl rfl d_No_become_5 rfl ?_
  refine cn_iload_n (pc' := 7) (k := 2) rfl rfl d_No_become_6 rfl ?_
  refine cn_putI (pc' := 10) fl_No_24 hn.1 rfl rfl rfl rfl d_No_become_7 rfl ?_
  refine cn_iload_n (pc' := 11) (k := 2) rfl rfl d_No_become_10 rfl ?_
  refine cn_iconst (pc' := 12) k_c_m1 d_No_become_11 rfl ?_
  refine cn_icmp_ne (tgt := 16) (pc' := 15) d_No_become_12 (by decide) rfl (fun hc12 => ?_) (fun hc12 => ?_)
  · exact absurd rfl hc12
  · refine cn_vret rfl d_No_become_15 ?_
    exact K
theorem c_No_become_v {par t : Int32} (hn : yn S P a) (ht : t = nI 0 ∨ t = nI 1 ∨ t = nI 6 ∨ t = nI 8 ∨ t = nI 12) (hy : ys I (a + 1) []) (hd1 : 2 ≤ d) (K : ∀ I', ys I' (a + 1) (sv0 t) → I' a 0 = par → I' a 1 = t → (∀ b, b ≠ a → b ≠ a + 1 → b ≠ a + 2 → I' b = I b) → Q none S I' P) : cn_V l en mi_No_become d 0 0 S I P Q 0 [(0, .ref a), (1, .int par), (2, .int t)] [] := by
  refine cn_aload_n (pc' := 1) (k := 0) rfl rfl d_No_become_0 rfl ?_
  refine cn_iload_n (pc' := 2) (k := 1) rfl rfl d_No_become_1 rfl ?_
  refine cn_putI (pc' := 5) fl_No_20 hn.1 rfl rfl rfl rfl d_No_become_2 rfl ?_
  refine cn_aload_n (pc' := 6) (k := 0) rfl rfl d_No_become_5 rfl ?_
  refine cn_iload_n (pc' := 7) (k := 2) rfl rfl d_No_become_6 rfl ?_
  refine cn_putI (pc' := 10) fl_No_24 hn.1 rfl rfl rfl rfl d_No_become_7 rfl ?_
  refine cn_iload_n (pc' := 11) (k := 2) rfl rfl d_No_become_10 rfl ?_
  refine cn_iconst (pc' := 12) k_c_m1 d_No_become_11 rfl ?_
  refine cn_icmp_ne (tgt := 16) (pc' := 15) d_No_become_12 (by decide) rfl (fun hc12 => ?_) (fun hc12 => ?_)
  · refine cn_aload_n (pc' := 17) (k := 0) rfl rfl d_No_become_16 rfl ?_
    refine cn_getP (pc' := 20) (b := (a + 1)) hn.2.1 fl_No_14 hn.1 rfl d_No_become_17 rfl ?_
    refine cn_iload_n (pc' := 21) (k := 2) rfl rfl d_No_become_20 rfl ?_
    refine cn_callV (pc' := 24) (kc1 := 0) (ks1 := 0) (kc2 := 0) (ks2 := 0) (rest := []) (lvj := [(0, .ref ((a + 1))), (1, .int (t))]) [.int (t)] mv_No_27 hn.2.2.1 rfl rfl rfl (Nat.le_of_ble_eq_true rfl) (Nat.le_of_ble_eq_true rfl) (by omega) (by omega) (by omega) d_No_become_21 rfl ?_
    refine c_By_add (b := a + 1) (cap := 61) hn.2.2 (ys_cong1 (ys_cong1 hy (by omega) (by omega)) (by omega) (by omega)) (by decide) (fun I1 hy1 hf1 => ?_)
    have hy1 : ys I1 (a + 1) [t &&& 255] := hy1
    show cn_V l en mi_No_become d 0 0 S I1 P Q 24 [(0, .ref a), (1, .int (par)), (2, .int (t))] []
    refine cn_iload_n (pc' := 25) (k := 2) rfl rfl d_No_become_24 rfl ?_
    refine cn_iconst (pc' := 26) k_c_1 d_No_become_25 rfl ?_
    refine cn_icmp_ne (tgt := 40) (pc' := 29) d_No_become_26 (by decide) rfl (fun hc26 => ?_) (fun hc26 => ?_)
    · refine cn_iload_n (pc' := 41) (k := 2) rfl rfl d_No_become_40 rfl ?_
      refine cn_bipush (pc' := 43) k_b_6 d_No_become_41 rfl ?_
      refine cn_icmp_ne (tgt := 58) (pc' := 46) d_No_become_43 (by decide) rfl (fun hc43 => ?_) (fun hc43 => ?_)
      · refine cn_iload_n (pc' := 59) (k := 2) rfl rfl d_No_become_58 rfl ?_
        refine cn_bipush (pc' := 61) k_b_8 d_No_become_59 rfl ?_
        refine cn_icmp_ne (tgt := 77) (pc' := 64) d_No_become_61 (by decide) rfl (fun hc61 => ?_) (fun hc61 => ?_)
        · refine cn_iload_n (pc' := 78) (k := 2) rfl rfl d_No_become_77 rfl ?_
          refine cn_bipush (pc' := 80) k_b_12 d_No_become_78 rfl ?_
          refine cn_icmp_ne (tgt := 94) (pc' := 83) d_No_become_80 (by decide) rfl (fun hc80 => ?_) (fun hc80 => ?_)
          · refine cn_vret rfl d_No_become_94 ?_
            refine K _ ?_ (by rw [hf1 a (by omega) (by omega)]; simp [cn_wi, upd]) (by rw [hf1 a (by omega) (by omega)]; simp [cn_wi, upd]) (fun b h1 h2 h3 => by rw [hf1 b h2 (by omega), cn_wi_ne h1, cn_wi_ne h1])
            have e : sv0 t = [t &&& 255] := by unfold sv0; rw [if_neg hc26, if_neg hc43, if_neg hc61, if_neg hc80]
            rw [e]; exact hy1
          · refine cn_aload_n (pc' := 84) (k := 0) rfl rfl d_No_become_83 rfl ?_
            refine cn_getP (pc' := 87) (b := (a + 1)) hn.2.1 fl_No_14 hn.1 rfl d_No_become_84 rfl ?_
            refine cn_ldc2 (pc' := 90) w_k_No_34 d_No_become_87 rfl ?_
            refine cn_iconst (pc' := 91) k_c_4 d_No_become_90 rfl ?_
            refine cn_callV (pc' := 94) (kc1 := 0) (ks1 := 0) (kc2 := 0) (ks2 := 0) (rest := []) (lvj := [(0, .ref ((a + 1))), (1, .long (-1)), (3, .int (nI (4)))]) [.long (-1), .int (nI (4))] mv_No_30 hn.2.2.1 rfl rfl rfl (Nat.le_of_ble_eq_true rfl) (Nat.le_of_ble_eq_true rfl) (by omega) (by omega) (by omega) d_No_become_91 rfl ?_
            refine c_By_addNumber (b := a + 1) (cap := 61) hn.2.2 hy1 (show 1 ≤ 61 by decide) (by omega) (by omega) (fun I2 hy2 hf2 => ?_)
            show cn_V l en mi_No_become d 0 0 S I2 P Q 94 [(0, .ref a), (1, .int (par)), (2, .int (t))] []
            refine cn_vret rfl d_No_become_94 ?_
            have htk : t = nI 12 := by first | exact hc80 | exact (not_not.mp hc80)
            refine K _ ?_ (by rw [hf2 a (by omega) (by omega), hf1 a (by omega) (by omega)]; simp [cn_wi, upd]) (by rw [hf2 a (by omega) (by omega), hf1 a (by omega) (by omega)]; simp [cn_wi, upd]) (fun b h1 h2 h3 => by rw [hf2 b h2 (by omega), hf1 b h2 (by omega), cn_wi_ne h1, cn_wi_ne h1])
            subst htk
            exact hy2
        · refine cn_aload_n (pc' := 65) (k := 0) rfl rfl d_No_become_64 rfl ?_
          refine cn_getP (pc' := 68) (b := (a + 1)) hn.2.1 fl_No_14 hn.1 rfl d_No_become_65 rfl ?_
          refine cn_lconst (pc' := 69) (v := 0) (by decide +kernel) d_No_become_68 rfl ?_
          refine cn_bipush (pc' := 71) k_b_8 d_No_become_69 rfl ?_
          refine cn_callV (pc' := 74) (kc1 := 0) (ks1 := 0) (kc2 := 0) (ks2 := 0) (rest := []) (lvj := [(0, .ref ((a + 1))), (1, .long (0)), (3, .int (nI (8)))]) [.long (0), .int (nI (8))] mv_No_30 hn.2.2.1 rfl rfl rfl (Nat.le_of_ble_eq_true rfl) (Nat.le_of_ble_eq_true rfl) (by omega) (by omega) (by omega) d_No_become_71 rfl ?_
          refine c_By_addNumber (b := a + 1) (cap := 61) hn.2.2 hy1 (show 1 ≤ 61 by decide) (by omega) (by omega) (fun I2 hy2 hf2 => ?_)
          show cn_V l en mi_No_become d 0 0 S I2 P Q 74 [(0, .ref a), (1, .int (par)), (2, .int (t))] []
          refine cn_goto (tgt := 94) d_No_become_74 (by decide) ?_
          refine cn_vret rfl d_No_become_94 ?_
          have htk : t = nI 8 := by first | exact hc61 | exact (not_not.mp hc61)
          refine K _ ?_ (by rw [hf2 a (by omega) (by omega), hf1 a (by omega) (by omega)]; simp [cn_wi, upd]) (by rw [hf2 a (by omega) (by omega), hf1 a (by omega) (by omega)]; simp [cn_wi, upd]) (fun b h1 h2 h3 => by rw [hf2 b h2 (by omega), hf1 b h2 (by omega), cn_wi_ne h1, cn_wi_ne h1])
          subst htk
          exact hy2
      · refine cn_aload_n (pc' := 47) (k := 0) rfl rfl d_No_become_46 rfl ?_
        refine cn_getP (pc' := 50) (b := (a + 1)) hn.2.1 fl_No_14 hn.1 rfl d_No_become_47 rfl ?_
        refine cn_lconst (pc' := 51) (v := 0) (by decide +kernel) d_No_become_50 rfl ?_
        refine cn_iconst (pc' := 52) k_c_4 d_No_become_51 rfl ?_
        refine cn_callV (pc' := 55) (kc1 := 0) (ks1 := 0) (kc2 := 0) (ks2 := 0) (rest := []) (lvj := [(0, .ref ((a + 1))), (1, .long (0)), (3, .int (nI (4)))]) [.long (0), .int (nI (4))] mv_No_30 hn.2.2.1 rfl rfl rfl (Nat.le_of_ble_eq_true rfl) (Nat.le_of_ble_eq_true rfl) (by omega) (by omega) (by omega) d_No_become_52 rfl ?_
        refine c_By_addNumber (b := a + 1) (cap := 61) hn.2.2 hy1 (show 1 ≤ 61 by decide) (by omega) (by omega) (fun I2 hy2 hf2 => ?_)
        show cn_V l en mi_No_become d 0 0 S I2 P Q 55 [(0, .ref a), (1, .int (par)), (2, .int (t))] []
        refine cn_goto (tgt := 94) d_No_become_55 (by decide) ?_
        refine cn_vret rfl d_No_become_94 ?_
        have htk : t = nI 6 := by first | exact hc43 | exact (not_not.mp hc43)
        refine K _ ?_ (by rw [hf2 a (by omega) (by omega), hf1 a (by omega) (by omega)]; simp [cn_wi, upd]) (by rw [hf2 a (by omega) (by omega), hf1 a (by omega) (by omega)]; simp [cn_wi, upd]) (fun b h1 h2 h3 => by rw [hf2 b h2 (by omega), hf1 b h2 (by omega), cn_wi_ne h1, cn_wi_ne h1])
        subst htk
        exact hy2
    · refine cn_aload_n (pc' := 30) (k := 0) rfl rfl d_No_become_29 rfl ?_
      refine cn_getP (pc' := 33) (b := (a + 1)) hn.2.1 fl_No_14 hn.1 rfl d_No_become_30 rfl ?_
      refine cn_iconst (pc' := 34) k_c_0 d_No_become_33 rfl ?_
      refine cn_callV (pc' := 37) (kc1 := 0) (ks1 := 0) (kc2 := 0) (ks2 := 0) (rest := []) (lvj := [(0, .ref ((a + 1))), (1, .int (nI (0)))]) [.int (nI (0))] mv_No_27 hn.2.2.1 rfl rfl rfl (Nat.le_of_ble_eq_true rfl) (Nat.le_of_ble_eq_true rfl) (by omega) (by omega) (by omega) d_No_become_34 rfl ?_
      refine c_By_add (b := a + 1) (cap := 61) hn.2.2 hy1 (show 1 ≤ 61 by decide) (fun I2 hy2 hf2 => ?_)
      show cn_V l en mi_No_become d 0 0 S I2 P Q 37 [(0, .ref a), (1, .int (par)), (2, .int (t))] []
      refine cn_goto (tgt := 94) d_No_become_37 (by decide) ?_
      refine cn_vret rfl d_No_become_94 ?_
      have htk : t = nI 1 := by first | exact hc26 | exact (not_not.mp hc26)
      refine K _ ?_ (by rw [hf2 a (by omega) (by omega), hf1 a (by omega) (by omega)]; simp [cn_wi, upd]) (by rw [hf2 a (by omega) (by omega), hf1 a (by omega) (by omega)]; simp [cn_wi, upd]) (fun b h1 h2 h3 => by rw [hf2 b h2 (by omega), hf1 b h2 (by omega), cn_wi_ne h1, cn_wi_ne h1])
      subst htk
      exact hy2
  · exact absurd hc12 (by rcases ht with h | h | h | h | h <;> rw [h] <;> decide)
end
