def sp_part (c : sCh) : Int32 := match c.2.2.2.1 with
  | none => -1
  | some _ => nI c.2.2.2.2.length
def sp_ans (ru : List Int32) (i : Int32) : Int32 := if i < 0 then -1 else if i.toNatClampNeg < ru.length then ru.getD i.toNatClampNeg 0 else -1
def sp_queue (xs : List sItem) (i : Int32) : Int32 := if i < 0 then -1 else if i.toNatClampNeg < xs.length then nI (xs.getD i.toNatClampNeg it0).2.2.2.length else -1
def sp_parcel (ps : List sPar) (i : Int32) : Int32 := if i < 0 then -1 else if i.toNatClampNeg < ps.length then (ps.getD i.toNatClampNeg pad).1 else -1
def sp_size (ns : List sNode) (n : Int32) : Int32 := match vdx ns n with
  | none => -1
  | some k => nI (ns.getD k nd0).2.2.length
def sp_var (ns : List sNode) (par t : Int32) : Int32 × List sNode := if isT t = true then sp_add ns par t else (-1, ns)
section
variable {l : Launch} {en : cn_E} {d : Nat} {S : cn_S} {I : cn_I} {P : cn_P} {Q : Option Value → cn_S → cn_I → cn_P → Prop}
variable {ns : List sNode} {xs : List sItem} {ps : List sPar} {pn : Int32} {ch : sCh} {rq : Int32} {ru : List Int32}
theorem C_X_isOpen (h : RC S I P (ns, xs, (ps, pn), ch, (rq, ru))) (K : Q (some (.int (nI ch.1.toNat))) S I P) : cn_V l en mi_X_isOpen d 0 0 S I P Q 0 [(0, .ref 0)] [] := by
  obtain ⟨hw, hX, hN, hI, hS, hC, hR, hV⟩ := h
  have hX : rX I ns.length xs.length rq := hX
  have hN : rN I ns := hN
  have hI : rI I P xs := hI
  have hS : rS I P ps pn := hS
  have hC : chs I 14 ch := hC
  have hR : rR I ru := hR
  have h01 := hX.1
  have hl16 := hN.1
  have hl6 := hI.1
  have hl195 := hR.2
  have hl64 := hC.2.2.2.2.2.2
  obtain ⟨⟨π, hk⟩, hpn⟩ := hS
  have hl3 := hk.2.1
  refine cn_aload_n (pc' := 1) (k := 0) rfl rfl d_X_isOpen_0 rfl ?_
  refine cn_getP (pc' := 4) (b := 14) hw.2.1.2.2.2.1 fl_X_31 hw.1 rfl d_X_isOpen_1 rfl ?_
  refine cn_getIv (pc' := 7) (v := nI (ch.1.toNat)) hC.1 fl_X_74 hw.ch.1 rfl d_X_isOpen_4 rfl ?_
  refine cn_zret rfl (by cases ch.1 <;> decide) d_X_isOpen_7 ?_
  exact K
theorem C_X_part (h : RC S I P (ns, xs, (ps, pn), ch, (rq, ru))) (K : Q (some (.int (sp_part ch))) S I P) : cn_V l en mi_X_part d 0 0 S I P Q 0 [(0, .ref 0)] [] := by
  obtain ⟨hw, hX, hN, hI, hS, hC, hR, hV⟩ := h
  have hX : rX I ns.length xs.length rq := hX
  have hN : rN I ns := hN
  have hI : rI I P xs := hI
  have hS : rS I P ps pn := hS
  have hC : chs I 14 ch := hC
  have hR : rR I ru := hR
  have h01 := hX.1
  have hl16 := hN.1
  have hl6 := hI.1
  have hl195 := hR.2
  have hl64 := hC.2.2.2.2.2.2
  obtain ⟨⟨π, hk⟩, hpn⟩ := hS
  have hl3 := hk.2.1
  have hb2 := tn_le ch.2.2.2.1.isSome
  refine cn_aload_n (pc' := 1) (k := 0) rfl rfl d_X_part_0 rfl ?_
  refine cn_getP (pc' := 4) (b := 14) hw.2.1.2.2.2.1 fl_X_31 hw.1 rfl d_X_part_1 rfl ?_
  refine cn_getIv (pc' := 7) (v := nI (ch.2.2.2.1.isSome.toNat)) hC.2.2.2.1 fl_X_124 hw.ch.1 rfl d_X_part_4 rfl ?_
  refine cn_if_eq_n (tgt := 26) (pc' := 10) (by omega) d_X_part_7 (by decide) rfl (fun hc7 => ?_) (fun hc7 => ?_)
  · refine cn_iconst (pc' := 27) k_c_m1 d_X_part_26 rfl ?_
    refine cn_iret rfl d_X_part_27 ?_
    have e : sp_part ch = -1 := by unfold sp_part; cases hq : ch.2.2.2.1 with | none => rfl | some x => rw [hq] at hc7; cases hc7
    rw [e] at K; exact K
  · refine cn_aload_n (pc' := 11) (k := 0) rfl rfl d_X_part_10 rfl ?_
    refine cn_getP (pc' := 14) (b := 14) hw.2.1.2.2.2.1 fl_X_31 hw.1 rfl d_X_part_11 rfl ?_
    refine cn_getP (pc' := 17) (b := 15) hw.ch.2.1 fl_X_113 hw.ch.1 rfl d_X_part_14 rfl ?_
    refine cn_getP (pc' := 20) (b := 16) hw.me.2.1 fl_X_127 hw.me.1 rfl d_X_part_17 rfl ?_
    refine cn_getIv (pc' := 23) (v := nI (ch.2.2.2.2.length)) hC.2.2.2.2.2.1.1 fl_X_132 hw.me.2.2.1 rfl d_X_part_20 rfl ?_
    refine cn_goto (tgt := 27) d_X_part_23 (by decide) ?_
    refine cn_iret rfl d_X_part_27 ?_
    obtain ⟨q, hq⟩ := Option.isSome_iff_exists.mp (tn_1 hc7)
    have e : sp_part ch = nI ch.2.2.2.2.length := by unfold sp_part; rw [hq]
    rw [e] at K; exact K
theorem C_X_answerLength (h : RC S I P (ns, xs, (ps, pn), ch, (rq, ru))) (K : Q (some (.int (nI ru.length))) S I P) : cn_V l en mi_X_answerLength d 0 0 S I P Q 0 [(0, .ref 0)] [] := by
  obtain ⟨hw, hX, hN, hI, hS, hC, hR, hV⟩ := h
  have hX : rX I ns.length xs.length rq := hX
  have hN : rN I ns := hN
  have hI : rI I P xs := hI
  have hS : rS I P ps pn := hS
  have hC : chs I 14 ch := hC
  have hR : rR I ru := hR
  have h01 := hX.1
  have hl16 := hN.1
  have hl6 := hI.1
  have hl195 := hR.2
  have hl64 := hC.2.2.2.2.2.2
  obtain ⟨⟨π, hk⟩, hpn⟩ := hS
  have hl3 := hk.2.1
  refine cn_aload_n (pc' := 1) (k := 0) rfl rfl d_X_answerLength_0 rfl ?_
  refine cn_getP (pc' := 4) (b := 18) hw.2.1.2.2.2.2.1 fl_X_40 hw.1 rfl d_X_answerLength_1 rfl ?_
  refine cn_getIv (pc' := 7) (v := nI (ru.length)) hR.1.1 fl_X_132 hw.re.1 rfl d_X_answerLength_4 rfl ?_
  refine cn_iret rfl d_X_answerLength_7 ?_
  exact K
theorem C_X_request (h : RC S I P (ns, xs, (ps, pn), ch, (rq, ru))) (K : Q (some (.int (rq))) S I P) : cn_V l en mi_X_request d 0 0 S I P Q 0 [(0, .ref 0)] [] := by
  obtain ⟨hw, hX, hN, hI, hS, hC, hR, hV⟩ := h
  have hX : rX I ns.length xs.length rq := hX
  have hN : rN I ns := hN
  have hI : rI I P xs := hI
  have hS : rS I P ps pn := hS
  have hC : chs I 14 ch := hC
  have hR : rR I ru := hR
  have h01 := hX.1
  have hl16 := hN.1
  have hl6 := hI.1
  have hl195 := hR.2
  have hl64 := hC.2.2.2.2.2.2
  obtain ⟨⟨π, hk⟩, hpn⟩ := hS
  have hl3 := hk.2.1
  refine cn_aload_n (pc' := 1) (k := 0) rfl rfl d_X_request_0 rfl ?_
  refine cn_getIv (pc' := 4) (v := rq) hX.2.2 fl_X_61 hw.1 rfl d_X_request_1 rfl ?_
  refine cn_iret rfl d_X_request_4 ?_
  exact K
theorem C_X_parcels (h : RC S I P (ns, xs, (ps, pn), ch, (rq, ru))) (K : Q (some (.int (nI ps.length))) S I P) : cn_V l en mi_X_parcels d 0 0 S I P Q 0 [(0, .ref 0)] [] := by
  obtain ⟨hw, hX, hN, hI, hS, hC, hR, hV⟩ := h
  have hX : rX I ns.length xs.length rq := hX
  have hN : rN I ns := hN
  have hI : rI I P xs := hI
  have hS : rS I P ps pn := hS
  have hC : chs I 14 ch := hC
  have hR : rR I ru := hR
  have h01 := hX.1
  have hl16 := hN.1
  have hl6 := hI.1
  have hl195 := hR.2
  have hl64 := hC.2.2.2.2.2.2
  obtain ⟨⟨π, hk⟩, hpn⟩ := hS
  have hl3 := hk.2.1
  refine cn_aload_n (pc' := 1) (k := 0) rfl rfl d_X_parcels_0 rfl ?_
  refine cn_getP (pc' := 4) (b := 3) hw.2.1.2.2.1 fl_X_24 hw.1 rfl d_X_parcels_1 rfl ?_
  refine cn_getIv (pc' := 7) (v := nI (ps.length)) hk.1 fl_X_142 hw.sf.1 rfl d_X_parcels_4 rfl ?_
  refine cn_iret rfl d_X_parcels_7 ?_
  exact K
theorem C_X_answer {i : Int32} (h : RC S I P (ns, xs, (ps, pn), ch, (rq, ru))) (hd1 : 1 ≤ d) (K : Q (some (.int (sp_ans ru i))) S I P) : cn_V l en mi_X_answer d 0 0 S I P Q 0 [(0, .ref 0), (1, .int i)] [] := by
  obtain ⟨hw, hX, hN, hI, hS, hC, hR, hV⟩ := h
  have hX : rX I ns.length xs.length rq := hX
  have hN : rN I ns := hN
  have hI : rI I P xs := hI
  have hS : rS I P ps pn := hS
  have hC : chs I 14 ch := hC
  have hR : rR I ru := hR
  have h01 := hX.1
  have hl16 := hN.1
  have hl6 := hI.1
  have hl195 := hR.2
  have hl64 := hC.2.2.2.2.2.2
  obtain ⟨⟨π, hk⟩, hpn⟩ := hS
  have hl3 := hk.2.1
  refine cn_iload_n (pc' := 1) (k := 1) rfl rfl d_X_answer_0 rfl ?_
  refine cn_if_lt (tgt := 26) (pc' := 4) d_X_answer_1 (by decide) rfl (fun hc1 => ?_) (fun hc1 => ?_)
  · refine cn_iconst (pc' := 27) k_c_m1 d_X_answer_26 rfl ?_
    refine cn_iret rfl d_X_answer_27 ?_
    have e : sp_ans ru i = -1 := if_pos hc1
    rw [e] at K; exact K
  · obtain ⟨j, hj, rfl⟩ := nI_of hc1
    refine cn_iload_n (pc' := 5) (k := 1) rfl rfl d_X_answer_4 rfl ?_
    refine cn_aload_n (pc' := 6) (k := 0) rfl rfl d_X_answer_5 rfl ?_
    refine cn_getP (pc' := 9) (b := 18) hw.2.1.2.2.2.2.1 fl_X_40 hw.1 rfl d_X_answer_6 rfl ?_
    refine cn_getIv (pc' := 12) (v := nI (ru.length)) hR.1.1 fl_X_132 hw.re.1 rfl d_X_answer_9 rfl ?_
    refine cn_icmp_ge_n (tgt := 26) (pc' := 15) (by omega) (by omega) d_X_answer_12 (by decide) rfl (fun hc12 => ?_) (fun hc12 => ?_)
    · refine cn_iconst (pc' := 27) k_c_m1 d_X_answer_26 rfl ?_
      refine cn_iret rfl d_X_answer_27 ?_
      have e : sp_ans ru (nI j) = -1 := by unfold sp_ans; rw [if_neg (nI_pos hj), nI_clamp hj, if_neg (by omega)]
      rw [e] at K; exact K
    · refine cn_aload_n (pc' := 16) (k := 0) rfl rfl d_X_answer_15 rfl ?_
      refine cn_getP (pc' := 19) (b := 18) hw.2.1.2.2.2.2.1 fl_X_40 hw.1 rfl d_X_answer_16 rfl ?_
      refine cn_iload_n (pc' := 20) (k := 1) rfl rfl d_X_answer_19 rfl ?_
      refine cn_callV (pc' := 23) (kc1 := 0) (ks1 := 0) (kc2 := 0) (ks2 := 0) (rest := []) (lvj := [(0, .ref 18), (1, .int (nI (j)))]) [.int (nI (j))] mv_X_135 hw.re.1 rfl rfl rfl (Nat.le_of_ble_eq_true rfl) (Nat.le_of_ble_eq_true rfl) (by omega) (by omega) (by omega) d_X_answer_20 rfl ?_
      refine c_By_at (b := 18) (cap := 195) hw.re hR.1 hR.2 ?_
      have ea : ya ru (nI j) = ru.getD j 0 := by unfold ya; rw [if_neg (nI_pos hj), nI_clamp hj]
      rw [ea]
      show cn_V l en mi_X_answer d 0 0 S I P Q 23 [(0, .ref 0), (1, .int (nI (j)))] [.int (ru.getD j 0)]
      refine cn_goto (tgt := 27) d_X_answer_23 (by decide) ?_
      refine cn_iret rfl d_X_answer_27 ?_
      have e : sp_ans ru (nI j) = ru.getD j 0 := by unfold sp_ans; rw [if_neg (nI_pos hj), nI_clamp hj, if_pos (by omega)]
      rw [e] at K; exact K
theorem C_X_queue {i : Int32} (h : RC S I P (ns, xs, (ps, pn), ch, (rq, ru))) (K : Q (some (.int (sp_queue xs i))) S I P) : cn_V l en mi_X_queue d 0 0 S I P Q 0 [(0, .ref 0), (1, .int i)] [] := by
  obtain ⟨hw, hX, hN, hI, hS, hC, hR, hV⟩ := h
  have hX : rX I ns.length xs.length rq := hX
  have hN : rN I ns := hN
  have hI : rI I P xs := hI
  have hS : rS I P ps pn := hS
  have hC : chs I 14 ch := hC
  have hR : rR I ru := hR
  have h01 := hX.1
  have hl16 := hN.1
  have hl6 := hI.1
  have hl195 := hR.2
  have hl64 := hC.2.2.2.2.2.2
  obtain ⟨⟨π, hk⟩, hpn⟩ := hS
  have hl3 := hk.2.1
  refine cn_iload_n (pc' := 1) (k := 1) rfl rfl d_X_queue_0 rfl ?_
  refine cn_if_lt (tgt := 24) (pc' := 4) d_X_queue_1 (by decide) rfl (fun hc1 => ?_) (fun hc1 => ?_)
  · refine cn_iconst (pc' := 25) k_c_m1 d_X_queue_24 rfl ?_
    refine cn_iret rfl d_X_queue_25 ?_
    have e : sp_queue xs i = -1 := if_pos hc1
    rw [e] at K; exact K
  · obtain ⟨j, hj, rfl⟩ := nI_of hc1
    refine cn_iload_n (pc' := 5) (k := 1) rfl rfl d_X_queue_4 rfl ?_
    refine cn_aload_n (pc' := 6) (k := 0) rfl rfl d_X_queue_5 rfl ?_
    refine cn_getIv (pc' := 9) (v := nI (xs.length)) hX.2.1 fl_X_67 hw.1 rfl d_X_queue_6 rfl ?_
    refine cn_icmp_ge_n (tgt := 24) (pc' := 12) (by omega) (by omega) d_X_queue_9 (by decide) rfl (fun hc9 => ?_) (fun hc9 => ?_)
    · refine cn_iconst (pc' := 25) k_c_m1 d_X_queue_24 rfl ?_
      refine cn_iret rfl d_X_queue_25 ?_
      have e : sp_queue xs (nI j) = -1 := by unfold sp_queue; rw [if_neg (nI_pos hj), nI_clamp hj, if_neg (by omega)]
      rw [e] at K; exact K
    · obtain ⟨b1, b2, b3, b4, b5, b6, b7, π9, b8⟩ := hI.2.2 j (by omega)
      refine cn_aload_n (pc' := 13) (k := 0) rfl rfl d_X_queue_12 rfl ?_
      refine cn_getP (pc' := 16) (b := 2) hw.2.1.2.1 fl_X_17 hw.1 rfl d_X_queue_13 rfl ?_
      refine cn_iload_n (pc' := 17) (k := 1) rfl rfl d_X_queue_16 rfl ?_
      refine cn_aald (pc' := 18) (b := (71 + 14 * j)) hw.2.2.2.1.1 (by decide) (by decide) rfl (by omega) (by decide) (hw.it (i := j) (by omega)).1 d_X_queue_17 rfl ?_
      refine cn_getIv (pc' := 21) (v := nI ((xs.getD j it0).2.2.2.length)) b8.1 fl_X_139 (hw.it (i := j) (by omega)).2.1 rfl d_X_queue_18 rfl ?_
      refine cn_goto (tgt := 25) d_X_queue_21 (by decide) ?_
      refine cn_iret rfl d_X_queue_25 ?_
      have e : sp_queue xs (nI j) = nI (xs.getD j it0).2.2.2.length := by unfold sp_queue; rw [if_neg (nI_pos hj), nI_clamp hj, if_pos (by omega)]
      rw [e] at K; exact K
theorem C_X_parcel {i : Int32} (h : RC S I P (ns, xs, (ps, pn), ch, (rq, ru))) (K : Q (some (.int (sp_parcel ps i))) S I P) : cn_V l en mi_X_parcel d 0 0 S I P Q 0 [(0, .ref 0), (1, .int i)] [] := by
  obtain ⟨hw, hX, hN, hI, hS, hC, hR, hV⟩ := h
  have hX : rX I ns.length xs.length rq := hX
  have hN : rN I ns := hN
  have hI : rI I P xs := hI
  have hS : rS I P ps pn := hS
  have hC : chs I 14 ch := hC
  have hR : rR I ru := hR
  have h01 := hX.1
  have hl16 := hN.1
  have hl6 := hI.1
  have hl195 := hR.2
  have hl64 := hC.2.2.2.2.2.2
  obtain ⟨⟨π, hk⟩, hpn⟩ := hS
  have hl3 := hk.2.1
  refine cn_iload_n (pc' := 1) (k := 1) rfl rfl d_X_parcel_0 rfl ?_
  refine cn_if_lt (tgt := 30) (pc' := 4) d_X_parcel_1 (by decide) rfl (fun hc1 => ?_) (fun hc1 => ?_)
  · refine cn_iconst (pc' := 31) k_c_m1 d_X_parcel_30 rfl ?_
    refine cn_iret rfl d_X_parcel_31 ?_
    have e : sp_parcel ps i = -1 := if_pos hc1
    rw [e] at K; exact K
  · obtain ⟨j, hj, rfl⟩ := nI_of hc1
    refine cn_iload_n (pc' := 5) (k := 1) rfl rfl d_X_parcel_4 rfl ?_
    refine cn_aload_n (pc' := 6) (k := 0) rfl rfl d_X_parcel_5 rfl ?_
    refine cn_getP (pc' := 9) (b := 3) hw.2.1.2.2.1 fl_X_24 hw.1 rfl d_X_parcel_6 rfl ?_
    refine cn_getIv (pc' := 12) (v := nI (ps.length)) hk.1 fl_X_142 hw.sf.1 rfl d_X_parcel_9 rfl ?_
    refine cn_icmp_ge_n (tgt := 30) (pc' := 15) (by omega) (by omega) d_X_parcel_12 (by decide) rfl (fun hc12 => ?_) (fun hc12 => ?_)
    · refine cn_iconst (pc' := 31) k_c_m1 d_X_parcel_30 rfl ?_
      refine cn_iret rfl d_X_parcel_31 ?_
      have e : sp_parcel ps (nI j) = -1 := by unfold sp_parcel; rw [if_neg (nI_pos hj), nI_clamp hj, if_neg (by omega)]
      rw [e] at K; exact K
    · refine cn_aload_n (pc' := 16) (k := 0) rfl rfl d_X_parcel_15 rfl ?_
      refine cn_getP (pc' := 19) (b := 3) hw.2.1.2.2.1 fl_X_24 hw.1 rfl d_X_parcel_16 rfl ?_
      refine cn_getP (pc' := 22) (b := 4) hw.sf.2.1 fl_X_145 hw.sf.1 rfl d_X_parcel_19 rfl ?_
      refine cn_iload_n (pc' := 23) (k := 1) rfl rfl d_X_parcel_22 rfl ?_
      refine cn_aald (pc' := 24) (b := (3 + 2 + 3 * π j)) hw.sf.2.2.1 (by decide) (by decide) rfl (by omega) (by decide) (hk.2.2.1.2.2 _ (by omega)) d_X_parcel_23 rfl ?_
      refine cn_getIv (pc' := 27) (v := (ps.getD j pad).1) (hk.2.2.2 j (by omega)).1 fl_X_149 (hw.sf.2.2.2 _ (hk.2.2.1.1 _ (by omega))).1 rfl d_X_parcel_24 rfl ?_
      refine cn_goto (tgt := 31) d_X_parcel_27 (by decide) ?_
      refine cn_iret rfl d_X_parcel_31 ?_
      have e : sp_parcel ps (nI j) = (ps.getD j pad).1 := by unfold sp_parcel; rw [if_neg (nI_pos hj), nI_clamp hj, if_pos (by omega)]
      rw [e] at K; exact K
theorem C_X_size {n : Int32} (h : RC S I P (ns, xs, (ps, pn), ch, (rq, ru))) (hd1 : 2 ≤ d) (K : Q (some (.int (sp_size ns n))) S I P) : cn_V l en mi_X_size d 0 0 S I P Q 0 [(0, .ref 0), (1, .int n)] [] := by
  obtain ⟨hw, hX, hN, hI, hS, hC, hR, hV⟩ := h
  have hX : rX I ns.length xs.length rq := hX
  have hN : rN I ns := hN
  have hI : rI I P xs := hI
  have hS : rS I P ps pn := hS
  have hC : chs I 14 ch := hC
  have hR : rR I ru := hR
  have h01 := hX.1
  have hl16 := hN.1
  have hl6 := hI.1
  have hl195 := hR.2
  have hl64 := hC.2.2.2.2.2.2
  obtain ⟨⟨π, hk⟩, hpn⟩ := hS
  have hl3 := hk.2.1
  refine cn_aload_n (pc' := 1) (k := 0) rfl rfl d_X_size_0 rfl ?_
  refine cn_iload_n (pc' := 2) (k := 1) rfl rfl d_X_size_1 rfl ?_
  refine cn_callV (pc' := 5) (kc1 := 0) (ks1 := 0) (kc2 := 0) (ks2 := 0) (rest := []) (lvj := [(0, .ref 0), (1, .int (n))]) [.int (n)] mv_X_86 hw.1 rfl rfl rfl (Nat.le_of_ble_eq_true rfl) (Nat.le_of_ble_eq_true rfl) (by omega) (by omega) (by omega) d_X_size_2 rfl ?_
  refine c_X_isVariable (ns := ns) hw h01 hN (by omega) (fun k2 hnk2 hkl2 hv => ?_) (fun hnv => ?_)
  · subst hnk2
    show cn_V l en mi_X_size d 0 0 S I P Q 5 [(0, .ref 0), (1, .int (nI (k2)))] [.int (nI (1))]
    refine cn_if_eq_n (tgt := 23) (pc' := 8) (by omega) d_X_size_5 (by decide) rfl (fun hc5 => ?_) (fun hc5 => ?_)
    · exact False.elim (by omega)
    · refine cn_aload_n (pc' := 9) (k := 0) rfl rfl d_X_size_8 rfl ?_
      refine cn_getP (pc' := 12) (b := 1) hw.2.1.1 fl_X_11 hw.1 rfl d_X_size_9 rfl ?_
      refine cn_iload_n (pc' := 13) (k := 1) rfl rfl d_X_size_12 rfl ?_
      refine cn_aald (pc' := 14) (b := (23 + 3 * k2)) hw.2.2.1.1 (by decide) (by decide) rfl (by omega) (by decide) (hw.nd (i := k2) (by omega)).1 d_X_size_13 rfl ?_
      refine cn_getP (pc' := 17) (b := (24 + 3 * k2)) (hw.nv (i := k2) (by omega)).1 fl_X_154 (hw.nd (i := k2) (by omega)).2.1 rfl d_X_size_14 rfl ?_
      refine cn_getIv (pc' := 20) (v := nI ((ns.getD k2 nd0).2.2.length)) (hN.2.1 k2 (by omega)).2.2.1.1 fl_X_132 (hw.nv (i := k2) (by omega)).2.1 rfl d_X_size_17 rfl ?_
      refine cn_goto (tgt := 24) d_X_size_20 (by decide) ?_
      refine cn_iret rfl d_X_size_24 ?_
      have e : sp_size ns (nI k2) = nI (ns.getD k2 nd0).2.2.length := by unfold sp_size; rw [vdx_some hkl2 (by omega) hv]
      rw [e] at K; exact K
  · show cn_V l en mi_X_size d 0 0 S I P Q 5 [(0, .ref 0), (1, .int (n))] [.int (nI (0))]
    refine cn_if_eq_n (tgt := 23) (pc' := 8) (by omega) d_X_size_5 (by decide) rfl (fun hc5 => ?_) (fun hc5 => ?_)
    · refine cn_iconst (pc' := 24) k_c_m1 d_X_size_23 rfl ?_
      refine cn_iret rfl d_X_size_24 ?_
      have e : sp_size ns n = -1 := by unfold sp_size; rw [hnv]
      rw [e] at K; exact K
    · exact False.elim (by omega)
theorem C_X_folder {n : Int32} (h : RC S I P (ns, xs, (ps, pn), ch, (rq, ru))) (hd1 : 4 ≤ d) (K : ∀ (I' : cn_I), RC S I' P ((sp_add ns n (-1)).2, xs, (ps, pn), ch, (rq, ru)) → frX I I' P P → Q (some (.int ((sp_add ns n (-1)).1))) S I' P) : cn_V l en mi_X_folder d 0 0 S I P Q 0 [(0, .ref 0), (1, .int n)] [] := by
  obtain ⟨hw, hX, hN, hI, hS, hC, hR, hV⟩ := h
  have hX : rX I ns.length xs.length rq := hX
  have hN : rN I ns := hN
  have hI : rI I P xs := hI
  have hS : rS I P ps pn := hS
  have hC : chs I 14 ch := hC
  have hR : rR I ru := hR
  have h01 := hX.1
  have hl16 := hN.1
  have hl6 := hI.1
  have hl195 := hR.2
  have hl64 := hC.2.2.2.2.2.2
  obtain ⟨⟨π, hk⟩, hpn⟩ := hS
  have hl3 := hk.2.1
  refine cn_aload_n (pc' := 1) (k := 0) rfl rfl d_X_folder_0 rfl ?_
  refine cn_iload_n (pc' := 2) (k := 1) rfl rfl d_X_folder_1 rfl ?_
  refine cn_iconst (pc' := 3) k_c_m1 d_X_folder_2 rfl ?_
  refine cn_callV (pc' := 6) (kc1 := 0) (ks1 := 0) (kc2 := 0) (ks2 := 0) (rest := []) (lvj := [(0, .ref 0), (1, .int (n)), (2, .int (-1))]) [.int (n), .int (-1)] mv_X_78 hw.1 rfl rfl rfl (Nat.le_of_ble_eq_true rfl) (Nat.le_of_ble_eq_true rfl) (by omega) (by omega) (by omega) d_X_folder_3 rfl ?_
  refine c_X_addNode (ns := ns) hw h01 hN (Or.inl rfl) (by omega) (fun I1 hN1 h1x h2x h3x => ?_)
  show cn_V l en mi_X_folder d 0 0 S I1 P Q 6 [(0, .ref 0), (1, .int (n))] [.int ((sp_add ns n (-1)).1)]
  refine cn_iret rfl d_X_folder_6 ?_
  exact K I1 ⟨hw, ⟨h1x, by rw [h2x 3 (by omega)]; exact hX.2.1, by rw [h2x 7 (by omega)]; exact hX.2.2⟩, hN1, hI.congr (fun a x1 x2 => h3x a (by omega) (by omega)) (fun _ _ => rfl), ⟨⟨π, hk.congr (fun a x1 x2 => h3x a (by omega) (by omega)) rfl⟩, by rw [h3x 3 (by omega) (by omega)]; exact hpn⟩, hC.congr (h3x _ (by omega) (by omega)) (h3x _ (by omega) (by omega)) (h3x _ (by omega) (by omega)), hR.congr (h3x _ (by omega) (by omega)) (h3x _ (by omega) (by omega)), hV.congr (h3x _ (by omega) (by omega)) (h3x _ (by omega) (by omega))⟩ (fun a x => ⟨h3x a (by omega) (by omega), rfl⟩)
theorem C_X_variable {n t : Int32} (h : RC S I P (ns, xs, (ps, pn), ch, (rq, ru))) (hd1 : 4 ≤ d) (K : ∀ (I' : cn_I), RC S I' P ((sp_var ns n t).2, xs, (ps, pn), ch, (rq, ru)) → frX I I' P P → Q (some (.int ((sp_var ns n t).1))) S I' P) : cn_V l en mi_X_variable d 0 0 S I P Q 0 [(0, .ref 0), (1, .int n), (2, .int t)] [] := by
  obtain ⟨hw, hX, hN, hI, hS, hC, hR, hV⟩ := h
  have hX : rX I ns.length xs.length rq := hX
  have hN : rN I ns := hN
  have hI : rI I P xs := hI
  have hS : rS I P ps pn := hS
  have hC : chs I 14 ch := hC
  have hR : rR I ru := hR
  have h01 := hX.1
  have hl16 := hN.1
  have hl6 := hI.1
  have hl195 := hR.2
  have hl64 := hC.2.2.2.2.2.2
  obtain ⟨⟨π, hk⟩, hpn⟩ := hS
  have hl3 := hk.2.1
  have hbt := tn_le (isT t)
  refine cn_iload_n (pc' := 1) (k := 2) rfl rfl d_X_variable_0 rfl ?_
  refine cn_callS (pc' := 4) (kc1 := 0) (ks1 := 0) (kc2 := 0) (ks2 := 0) (rest := []) (lvj := [(0, .int (t))]) [.int (t)] ms_X_82 rfl rfl rfl (Nat.le_of_ble_eq_true rfl) (Nat.le_of_ble_eq_true rfl) (by omega) (by omega) (by omega) d_X_variable_1 rfl ?_
  refine c_X_isVariableType ?_
  show cn_V l en mi_X_variable d 0 0 S I P Q 4 [(0, .ref 0), (1, .int (n)), (2, .int (t))] [.int (nI ((isT t).toNat))]
  refine cn_if_eq_n (tgt := 16) (pc' := 7) (by omega) d_X_variable_4 (by decide) rfl (fun hc4 => ?_) (fun hc4 => ?_)
  · refine cn_iconst (pc' := 17) k_c_m1 d_X_variable_16 rfl ?_
    refine cn_iret rfl d_X_variable_17 ?_
    have e : sp_var ns n t = (-1, ns) := by unfold sp_var; rw [if_neg (by rw [tn_0 hc4]; decide)]
    rw [e] at K
    exact K I ⟨hw, hX, hN, hI, ⟨⟨π, hk⟩, hpn⟩, hC, hR, hV⟩ frX.rf
  · have hT : isT t = true := tn_1 hc4
    refine cn_aload_n (pc' := 8) (k := 0) rfl rfl d_X_variable_7 rfl ?_
    refine cn_iload_n (pc' := 9) (k := 1) rfl rfl d_X_variable_8 rfl ?_
    refine cn_iload_n (pc' := 10) (k := 2) rfl rfl d_X_variable_9 rfl ?_
    refine cn_callV (pc' := 13) (kc1 := 0) (ks1 := 0) (kc2 := 0) (ks2 := 0) (rest := []) (lvj := [(0, .ref 0), (1, .int (n)), (2, .int (t))]) [.int (n), .int (t)] mv_X_78 hw.1 rfl rfl rfl (Nat.le_of_ble_eq_true rfl) (Nat.le_of_ble_eq_true rfl) (by omega) (by omega) (by omega) d_X_variable_10 rfl ?_
    refine c_X_addNode (ns := ns) hw h01 hN (Or.inr hT) (by omega) (fun I1 hN1 h1x h2x h3x => ?_)
    show cn_V l en mi_X_variable d 0 0 S I1 P Q 13 [(0, .ref 0), (1, .int (n)), (2, .int (t))] [.int ((sp_add ns n (t)).1)]
    refine cn_goto (tgt := 17) d_X_variable_13 (by decide) ?_
    refine cn_iret rfl d_X_variable_17 ?_
    have e : sp_var ns n t = sp_add ns n t := by unfold sp_var; rw [if_pos hT]
    rw [e] at K
    exact K I1 ⟨hw, ⟨h1x, by rw [h2x 3 (by omega)]; exact hX.2.1, by rw [h2x 7 (by omega)]; exact hX.2.2⟩, hN1, hI.congr (fun a x1 x2 => h3x a (by omega) (by omega)) (fun _ _ => rfl), ⟨⟨π, hk.congr (fun a x1 x2 => h3x a (by omega) (by omega)) rfl⟩, by rw [h3x 3 (by omega) (by omega)]; exact hpn⟩, hC.congr (h3x _ (by omega) (by omega)) (h3x _ (by omega) (by omega)) (h3x _ (by omega) (by omega)), hR.congr (h3x _ (by omega) (by omega)) (h3x _ (by omega) (by omega)), hV.congr (h3x _ (by omega) (by omega)) (h3x _ (by omega) (by omega))⟩ (fun a x => ⟨h3x a (by omega) (by omega), rfl⟩)
theorem C_X_open (h : RC S I P (ns, xs, (ps, pn), ch, (rq, ru))) (hd1 : 1 ≤ d) (K : ∀ (I' : cn_I), RC S I' P (sp_open (ns, xs, (ps, pn), ch, (rq, ru))) → frX I I' P P → Q none S I' P) : cn_V l en mi_X_open d 0 0 S I P Q 0 [(0, .ref 0)] [] := by
  obtain ⟨hw, hX, hN, hI, hS, hC, hR, hV⟩ := h
  have hX : rX I ns.length xs.length rq := hX
  have hN : rN I ns := hN
  have hI : rI I P xs := hI
  have hS : rS I P ps pn := hS
  have hC : chs I 14 ch := hC
  have hR : rR I ru := hR
  have h01 := hX.1
  have hl16 := hN.1
  have hl6 := hI.1
  have hl195 := hR.2
  have hl64 := hC.2.2.2.2.2.2
  obtain ⟨⟨π, hk⟩, hpn⟩ := hS
  have hl3 := hk.2.1
  refine cn_aload_n (pc' := 1) (k := 0) rfl rfl d_X_open_0 rfl ?_
  refine cn_getP (pc' := 4) (b := 14) hw.2.1.2.2.2.1 fl_X_31 hw.1 rfl d_X_open_1 rfl ?_
  refine cn_callV (pc' := 7) (kc1 := 0) (ks1 := 0) (kc2 := 0) (ks2 := 0) (rest := []) (lvj := [(0, .ref 14)]) [] mv_X_64 hw.ch.1 rfl rfl rfl (Nat.le_of_ble_eq_true rfl) (Nat.le_of_ble_eq_true rfl) (by omega) (by omega) (by omega) d_X_open_4 rfl ?_
  refine c_Ch_restart hw.ch hC (fun I1 hC1 hf1 => ?_)
  show cn_V l en mi_X_open d 0 0 S I1 P Q 7 [(0, .ref 0)] []
  refine cn_aload_n (pc' := 8) (k := 0) rfl rfl d_X_open_7 rfl ?_
  refine cn_iconst (pc' := 9) k_c_0 d_X_open_8 rfl ?_
  refine cn_putI (pc' := 12) fl_X_67 hw.1 rfl rfl rfl rfl d_X_open_9 rfl ?_
  refine cn_aload_n (pc' := 13) (k := 0) rfl rfl d_X_open_12 rfl ?_
  refine cn_getP (pc' := 16) (b := 3) hw.2.1.2.2.1 fl_X_24 hw.1 rfl d_X_open_13 rfl ?_
  refine cn_callV (pc' := 19) (kc1 := 0) (ks1 := 0) (kc2 := 0) (ks2 := 0) (rest := []) (lvj := [(0, .ref 3)]) [] mv_X_70 hw.sf.1 rfl rfl rfl (Nat.le_of_ble_eq_true rfl) (Nat.le_of_ble_eq_true rfl) (by omega) (by omega) (by omega) d_X_open_16 rfl ?_
  refine c_Sf_restart (ps := ps) (π := π) hw.sf (hk.congr (fun a x1 x2 => by rw [cn_wi_ne (by omega)]; exact hf1 a (by omega) (by omega) (by omega)) rfl) (fun I2 hk2 hn2 hf2 => ?_)
  show cn_V l en mi_X_open d 0 0 S I2 P Q 19 [(0, .ref 0)] []
  refine cn_aload_n (pc' := 20) (k := 0) rfl rfl d_X_open_19 rfl ?_
  refine cn_getP (pc' := 23) (b := 18) hw.2.1.2.2.2.2.1 fl_X_40 hw.1 rfl d_X_open_20 rfl ?_
  refine cn_callV (pc' := 26) (kc1 := 0) (ks1 := 0) (kc2 := 0) (ks2 := 0) (rest := []) (lvj := [(0, .ref 18)]) [] mv_X_71 hw.re.1 rfl rfl rfl (Nat.le_of_ble_eq_true rfl) (Nat.le_of_ble_eq_true rfl) (by omega) (by omega) (by omega) d_X_open_23 rfl ?_
  refine c_By_clear (b := 18) (cap := 195) hw.re (fun I3 hy3 hf3 => ?_)
  show cn_V l en mi_X_open d 0 0 S I3 P Q 26 [(0, .ref 0)] []
  refine cn_aload_n (pc' := 27) (k := 0) rfl rfl d_X_open_26 rfl ?_
  refine cn_iconst (pc' := 28) k_c_m1 d_X_open_27 rfl ?_
  refine cn_putI (pc' := 31) fl_X_61 hw.1 rfl rfl rfl rfl d_X_open_28 rfl ?_
  refine cn_vret rfl d_X_open_31 ?_
  have hrow : ∀ a, a ≠ 0 → (a < 3 ∨ 20 ≤ a) → cn_wi I3 0 7 (-1) a = I a := fun a x1 x2 => by rw [cn_wi_ne x1, hf3 a (by omega) (by omega), hf2 a (by omega), cn_wi_ne x1]; exact hf1 a (by omega) (by omega) (by omega)
  have h14 : ∀ a, 14 ≤ a → a < 18 → cn_wi I3 0 7 (-1) a = I1 a := fun a x1 x2 => by rw [cn_wi_ne (by omega), hf3 a (by omega) (by omega), hf2 a (by omega), cn_wi_ne (by omega)]
  have h3 : ∀ a, 3 ≤ a → a < 14 → cn_wi I3 0 7 (-1) a = I2 a := fun a x1 x2 => by rw [cn_wi_ne (by omega), hf3 a (by omega) (by omega)]
  have h0 : ∀ q, q ≠ 7 → q ≠ 3 → cn_wi I3 0 7 (-1) 0 q = I 0 q := fun q x1 x2 => by rw [cn_wi_row, show upd (I3 0) 7 (-1) q = I3 0 q from if_neg x1, hf3 0 (by omega) (by omega), hf2 0 (by omega), cn_wi_row, show upd (I1 0) 3 _ q = I1 0 q from if_neg x2, hf1 0 (by omega) (by omega) (by omega)]
  have K : ∀ (I' : cn_I), RC S I' P (ns, [], ([], nI 0), (true, false, ch.2.2.1, none, ch.2.2.2.2), (-1, [])) → frX I I' P P → Q none S I' P := K
  refine K _ ⟨hw, ⟨by rw [h0 1 (by omega) (by omega)]; exact hX.1, ?_, by simp [cn_wi, upd]⟩, hN.congr (fun a x1 x2 => hrow a (by omega) (by omega)), ⟨Nat.zero_le _, fun i hi => hI.2.1 i hi, fun i hi => absurd hi (Nat.not_lt_zero i)⟩, ⟨⟨π, hk2.congr (fun a x1 x2 => h3 a x1 (by omega)) rfl⟩, by rw [h3 3 (by omega) (by omega)]; exact hn2⟩, hC1.congr (h14 _ (by omega) (by omega)) (h14 _ (by omega) (by omega)) (h14 _ (by omega) (by omega)), ⟨ys_cong1 hy3 (by omega) (by omega), Nat.zero_le _⟩, hV.congr (hrow _ (by omega) (by omega)) (hrow _ (by omega) (by omega))⟩ (fun a x => ⟨hrow a (by omega) (by omega), rfl⟩)
  rw [cn_wi_row, show upd (I3 0) 7 (-1) 3 = I3 0 3 from rfl, hf3 0 (by omega) (by omega), hf2 0 (by omega)]; simp [cn_wi, upd]
end
