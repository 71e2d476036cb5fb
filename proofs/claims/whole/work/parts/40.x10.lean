theorem vcode_255 (ns : List sNode) (n : Int32) : vcode ns n &&& 255 = vcode ns n := by
  unfold vcode
  repeat' split
  all_goals decide
theorem serve_255 (t : sNIS) (g : List Int32) : (sp_serve t g).1 &&& 255 = (sp_serve t g).1 := by
  unfold sp_serve
  split
  · show nI 1 &&& 255 = nI 1; decide
  split
  · unfold sp_read; split
    · exact vcode_255 _ _
    · show nI 1 &&& 255 = nI 1; decide
  split
  · unfold sp_write
    repeat' split
    all_goals first | exact vcode_255 _ _ | (show nI _ &&& 255 = nI _; decide)
  split
  · unfold sp_browse
    repeat' split
    all_goals (show nI _ &&& 255 = nI _; decide)
  split
  · unfold sp_watch
    repeat' split
    all_goals first | exact vcode_255 _ _ | (show nI _ &&& 255 = nI _; decide)
  split
  · unfold sp_publish
    repeat' split
    all_goals first | (show nI _ &&& 255 = nI _; decide) | skip
    all_goals (dsimp only; split <;> (show nI _ &&& 255 = nI _; decide))
  split
  · unfold sp_again
    repeat' split
    all_goals (show nI _ &&& 255 = nI _; decide)
  · show nI 2 &&& 255 = nI 2; decide
theorem RC.chan {S : cn_S} {I I' : cn_I} {P : cn_P} {ns : List sNode} {xs : List sItem} {sh : List sPar × Int32} {ch ch' : sCh} {rr : Int32 × List Int32} (h : RC S I P (ns, xs, sh, ch, rr)) (hc : chs I' 14 ch') (hf : frc I I' 14) : RC S I' P (ns, xs, sh, ch', rr) := by
  obtain ⟨hw, hX, hN, hI, hS, hC, hR, hV⟩ := h
  exact ⟨hw, hX.congr (hf _ (by omega) (by omega) (by omega)), hN.congr (fun a x1 x2 => hf a (by omega) (by omega) (by omega)), hI.congr (fun a x1 x2 => hf a (by omega) (by omega) (by omega)) (fun _ _ => rfl), hS.congr (fun a x1 x2 => hf a (by omega) (by omega) (by omega)) rfl, hc, hR.congr (hf _ (by omega) (by omega) (by omega)) (hf _ (by omega) (by omega) (by omega)), hV.congr (hf _ (by omega) (by omega) (by omega)) (hf _ (by omega) (by omega) (by omega))⟩
theorem frX.fch {I I' : cn_I} {P : cn_P} (h : frc I I' 14) : frX I I' P P := fun a x => ⟨h a (by omega) (by omega) (by omega), rfl⟩
theorem RC.req {S : cn_S} {I : cn_I} {P : cn_P} {ns : List sNode} {xs : List sItem} {sh : List sPar × Int32} {ch : sCh} {rq rq' : Int32} {u : List Int32} (h : RC S I P (ns, xs, sh, ch, (rq, u))) : RC S (cn_wi I 0 7 rq') P (ns, xs, sh, ch, (rq', u)) := by
  obtain ⟨hw, hX, hN, hI, hS, hC, hR, hV⟩ := h
  have hf : ∀ a, a ≠ 0 → cn_wi I 0 7 rq' a = I a := fun a x => cn_wi_ne x
  exact ⟨hw, ⟨by rw [cn_wi_row]; exact hX.1, by rw [cn_wi_row]; exact hX.2.1, by rw [cn_wi_row]; exact if_pos rfl⟩, hN.congr (fun a x1 x2 => hf a (by omega)), hI.congr (fun a x1 x2 => hf a (by omega)) (fun _ _ => rfl), hS.congr (fun a x1 x2 => hf a (by omega)) rfl, hC.congr (hf _ (by omega)) (hf _ (by omega)) (hf _ (by omega)), hR.congr (hf _ (by omega)) (hf _ (by omega)), hV.congr (hf _ (by omega)) (hf _ (by omega))⟩
section
variable {l : Launch} {en : cn_E} {d : Nat} {S : cn_S} {I : cn_I} {P : cn_P} {Q : Option Value → cn_S → cn_I → cn_P → Prop}
variable {ns : List sNode} {xs : List sItem} {ps : List sPar} {pn : Int32} {ch : sCh} {rq : Int32} {ru : List Int32}
theorem c_X_serve (h : RC S I P (ns, xs, (ps, pn), ch, (rq, [nI 0]))) (hd1 : 13 ≤ d) (K : ∀ (I' : cn_I) (P' : cn_P), RC S I' P' ((sp_serve (ns, xs, (ps, pn)) ch.2.2.2.2).2.2.1, (sp_serve (ns, xs, (ps, pn)) ch.2.2.2.2).2.2.2.1, (sp_serve (ns, xs, (ps, pn)) ch.2.2.2.2).2.2.2.2, ch, (rq, nI 0 :: (sp_serve (ns, xs, (ps, pn)) ch.2.2.2.2).2.1)) → frX I I' P P' → Q (some (.int (sp_serve (ns, xs, (ps, pn)) ch.2.2.2.2).1)) S I' P') : cn_V l en mi_X_serve d 0 0 S I P Q 0 [(0, .ref 0), (1, .ref 15)] [] := by
  have hw := h.1
  have hC : chs I 14 ch := h.2.2.2.2.2.1
  have hg64 := hC.2.2.2.2.2.2
  generalize hg : ch.2.2.2.2 = g at *
  refine cn_aload_n (pc' := 1) (k := 1) rfl rfl d_X_serve_0 rfl ?_
  refine cn_callV (pc' := 4) (kc1 := 0) (ks1 := 0) (kc2 := 0) (ks2 := 0) (rest := []) (lvj := [(0, .ref 15)]) [] mv_X_174 hw.me.1 rfl rfl rfl (Nat.le_of_ble_eq_true rfl) (Nat.le_of_ble_eq_true rfl) (by omega) (by omega) (by omega) d_X_serve_1 rfl ?_
  refine c_Me_startReading (g := g) hw.me (hg ▸ hC.2.2.2.2.2.1) hg64 (fun I1 hr1 hf1 => ?_)
  show cn_V l en mi_X_serve d 0 0 S I1 P Q 4 [(0, .ref 0), (1, .ref 15)] []
  refine cn_aload_n (pc' := 5) (k := 1) rfl rfl d_X_serve_4 rfl ?_
  refine cn_callV (pc' := 8) (kc1 := 0) (ks1 := 0) (kc2 := 0) (ks2 := 0) (rest := []) (lvj := [(0, .ref 15)]) [] mv_X_177 hw.me.1 rfl rfl rfl (Nat.le_of_ble_eq_true rfl) (Nat.le_of_ble_eq_true rfl) (by omega) (by omega) (by omega) d_X_serve_5 rfl ?_
  refine c_Me_left hw.me hr1 ?_
  show cn_V l en mi_X_serve d 0 0 S I1 P Q 8 [(0, .ref 0), (1, .ref 15)] [.int (nI (g.length - 0))]
  refine cn_if_ne_n (tgt := 13) (pc' := 11) (by omega) d_X_serve_8 (by decide) rfl (fun hc8 => ?_) (fun hc8 => ?_)
  · refine cn_aload_n (pc' := 14) (k := 1) rfl rfl d_X_serve_13 rfl ?_
    refine cn_callV (pc' := 17) (kc1 := 0) (ks1 := 0) (kc2 := 0) (ks2 := 0) (rest := []) (lvj := [(0, .ref 15)]) [] mv_X_181 hw.me.1 rfl rfl rfl (Nat.le_of_ble_eq_true rfl) (Nat.le_of_ble_eq_true rfl) (by omega) (by omega) (by omega) d_X_serve_14 rfl ?_
    refine c_Me_readByte hw.me hr1 (fun I2 hr2 hf2 => ?_)
    have hr2 : rd I2 15 g 1 true := by
      have e1 : rp g 0 1 = 1 := by unfold rp; omega
      have e2 : rw_ g 0 1 true = true := by unfold rw_; rw [decide_eq_true (by omega)]; rfl
      rw [e1, e2] at hr2; exact hr2
    have h2 : RC S I2 P (ns, xs, (ps, pn), ch, (rq, [nI 0])) := h.row15 (hf1.tr hf2)
    have hfx2 : frX I I2 P P := frX.f1 (hf1.tr hf2) (by decide)
    show cn_V l en mi_X_serve d 0 0 S I2 P Q 17 [(0, .ref 0), (1, .ref 15)] [.int (g.getD 0 0)]
    by_cases hk17_1 : g.getD 0 0 = nI 1
    · refine cn_tableIn (tgt := 56) (off := 39) d_X_serve_17 (by rw [hk17_1]; decide +kernel) (by rw [hk17_1]; decide +kernel) (by rw [hk17_1]; decide +kernel) (by decide) ?_
      refine cn_aload_n (pc' := 57) (k := 0) rfl rfl d_X_serve_56 rfl ?_
      refine cn_aload_n (pc' := 58) (k := 1) rfl rfl d_X_serve_57 rfl ?_
      refine cn_callV (pc' := 61) (kc1 := 0) (ks1 := 0) (kc2 := 0) (ks2 := 0) (rest := []) (lvj := [(0, .ref 0), (1, .ref 15)]) [.ref 15] mv_X_184 hw.1 rfl rfl rfl (Nat.le_of_ble_eq_true rfl) (Nat.le_of_ble_eq_true rfl) (by omega) (by omega) (by omega) d_X_serve_58 rfl ?_
      have e : sp_serve (ns, xs, (ps, pn)) g = sp_read (ns, xs, (ps, pn)) g := by unfold sp_serve; rw [if_neg (by omega), if_pos hk17_1]
      rw [e] at K
      refine c_X_serveRead h2 hr2 (by omega) (fun I3 P3 h3 hf3 => ?_)
      show cn_V l en mi_X_serve d 0 0 S I3 P3 Q 61 [(0, .ref 0), (1, .ref 15)] [.int ((sp_read (ns, xs, (ps, pn)) g).1)]
      refine cn_iret rfl d_X_serve_61 ?_
      exact K I3 P3 h3 (hfx2.tr hf3)
    by_cases hk17_2 : g.getD 0 0 = nI 2
    · refine cn_tableIn (tgt := 62) (off := 45) d_X_serve_17 (by rw [hk17_2]; decide +kernel) (by rw [hk17_2]; decide +kernel) (by rw [hk17_2]; decide +kernel) (by decide) ?_
      refine cn_aload_n (pc' := 63) (k := 0) rfl rfl d_X_serve_62 rfl ?_
      refine cn_aload_n (pc' := 64) (k := 1) rfl rfl d_X_serve_63 rfl ?_
      refine cn_callV (pc' := 67) (kc1 := 0) (ks1 := 0) (kc2 := 0) (ks2 := 0) (rest := []) (lvj := [(0, .ref 0), (1, .ref 15)]) [.ref 15] mv_X_187 hw.1 rfl rfl rfl (Nat.le_of_ble_eq_true rfl) (Nat.le_of_ble_eq_true rfl) (by omega) (by omega) (by omega) d_X_serve_64 rfl ?_
      have e : sp_serve (ns, xs, (ps, pn)) g = sp_write (ns, xs, (ps, pn)) g := by unfold sp_serve; rw [if_neg (by omega), if_neg hk17_1, if_pos hk17_2]
      rw [e] at K
      refine c_X_serveWrite h2 hr2 (by omega) (fun I3 P3 h3 hf3 => ?_)
      show cn_V l en mi_X_serve d 0 0 S I3 P3 Q 67 [(0, .ref 0), (1, .ref 15)] [.int ((sp_write (ns, xs, (ps, pn)) g).1)]
      refine cn_iret rfl d_X_serve_67 ?_
      exact K I3 P3 h3 (hfx2.tr hf3)
    by_cases hk17_3 : g.getD 0 0 = nI 3
    · refine cn_tableIn (tgt := 68) (off := 51) d_X_serve_17 (by rw [hk17_3]; decide +kernel) (by rw [hk17_3]; decide +kernel) (by rw [hk17_3]; decide +kernel) (by decide) ?_
      refine cn_aload_n (pc' := 69) (k := 0) rfl rfl d_X_serve_68 rfl ?_
      refine cn_aload_n (pc' := 70) (k := 1) rfl rfl d_X_serve_69 rfl ?_
      refine cn_callV (pc' := 73) (kc1 := 0) (ks1 := 0) (kc2 := 0) (ks2 := 0) (rest := []) (lvj := [(0, .ref 0), (1, .ref 15)]) [.ref 15] mv_X_190 hw.1 rfl rfl rfl (Nat.le_of_ble_eq_true rfl) (Nat.le_of_ble_eq_true rfl) (by omega) (by omega) (by omega) d_X_serve_70 rfl ?_
      have e : sp_serve (ns, xs, (ps, pn)) g = sp_browse (ns, xs, (ps, pn)) g := by unfold sp_serve; rw [if_neg (by omega), if_neg hk17_1, if_neg hk17_2, if_pos hk17_3]
      rw [e] at K
      refine c_X_serveBrowse h2 hr2 (by omega) (fun I3 P3 h3 hf3 => ?_)
      show cn_V l en mi_X_serve d 0 0 S I3 P3 Q 73 [(0, .ref 0), (1, .ref 15)] [.int ((sp_browse (ns, xs, (ps, pn)) g).1)]
      refine cn_iret rfl d_X_serve_73 ?_
      exact K I3 P3 h3 (hfx2.tr hf3)
    by_cases hk17_4 : g.getD 0 0 = nI 4
    · refine cn_tableIn (tgt := 74) (off := 57) d_X_serve_17 (by rw [hk17_4]; decide +kernel) (by rw [hk17_4]; decide +kernel) (by rw [hk17_4]; decide +kernel) (by decide) ?_
      refine cn_aload_n (pc' := 75) (k := 0) rfl rfl d_X_serve_74 rfl ?_
      refine cn_aload_n (pc' := 76) (k := 1) rfl rfl d_X_serve_75 rfl ?_
      refine cn_callV (pc' := 79) (kc1 := 0) (ks1 := 0) (kc2 := 0) (ks2 := 0) (rest := []) (lvj := [(0, .ref 0), (1, .ref 15)]) [.ref 15] mv_X_193 hw.1 rfl rfl rfl (Nat.le_of_ble_eq_true rfl) (Nat.le_of_ble_eq_true rfl) (by omega) (by omega) (by omega) d_X_serve_76 rfl ?_
      have e : sp_serve (ns, xs, (ps, pn)) g = sp_watch (ns, xs, (ps, pn)) g := by unfold sp_serve; rw [if_neg (by omega), if_neg hk17_1, if_neg hk17_2, if_neg hk17_3, if_pos hk17_4]
      rw [e] at K
      refine c_X_serveWatch h2 hr2 (by omega) (fun I3 P3 h3 hf3 => ?_)
      show cn_V l en mi_X_serve d 0 0 S I3 P3 Q 79 [(0, .ref 0), (1, .ref 15)] [.int ((sp_watch (ns, xs, (ps, pn)) g).1)]
      refine cn_iret rfl d_X_serve_79 ?_
      exact K I3 P3 h3 (hfx2.tr hf3)
    by_cases hk17_5 : g.getD 0 0 = nI 5
    · refine cn_tableIn (tgt := 80) (off := 63) d_X_serve_17 (by rw [hk17_5]; decide +kernel) (by rw [hk17_5]; decide +kernel) (by rw [hk17_5]; decide +kernel) (by decide) ?_
      refine cn_aload_n (pc' := 81) (k := 0) rfl rfl d_X_serve_80 rfl ?_
      refine cn_aload_n (pc' := 82) (k := 1) rfl rfl d_X_serve_81 rfl ?_
      refine cn_callV (pc' := 85) (kc1 := 0) (ks1 := 0) (kc2 := 0) (ks2 := 0) (rest := []) (lvj := [(0, .ref 0), (1, .ref 15)]) [.ref 15] mv_X_196 hw.1 rfl rfl rfl (Nat.le_of_ble_eq_true rfl) (Nat.le_of_ble_eq_true rfl) (by omega) (by omega) (by omega) d_X_serve_82 rfl ?_
      have e : sp_serve (ns, xs, (ps, pn)) g = sp_publish (ns, xs, (ps, pn)) g := by unfold sp_serve; rw [if_neg (by omega), if_neg hk17_1, if_neg hk17_2, if_neg hk17_3, if_neg hk17_4, if_pos hk17_5]
      rw [e] at K
      refine c_X_servePublish h2 hr2 (by omega) (fun I3 P3 h3 hf3 => ?_)
      show cn_V l en mi_X_serve d 0 0 S I3 P3 Q 85 [(0, .ref 0), (1, .ref 15)] [.int ((sp_publish (ns, xs, (ps, pn)) g).1)]
      refine cn_iret rfl d_X_serve_85 ?_
      exact K I3 P3 h3 (hfx2.tr hf3)
    by_cases hk17_6 : g.getD 0 0 = nI 6
    · refine cn_tableIn (tgt := 86) (off := 69) d_X_serve_17 (by rw [hk17_6]; decide +kernel) (by rw [hk17_6]; decide +kernel) (by rw [hk17_6]; decide +kernel) (by decide) ?_
      refine cn_aload_n (pc' := 87) (k := 0) rfl rfl d_X_serve_86 rfl ?_
      refine cn_aload_n (pc' := 88) (k := 1) rfl rfl d_X_serve_87 rfl ?_
      refine cn_callV (pc' := 91) (kc1 := 0) (ks1 := 0) (kc2 := 0) (ks2 := 0) (rest := []) (lvj := [(0, .ref 0), (1, .ref 15)]) [.ref 15] mv_X_199 hw.1 rfl rfl rfl (Nat.le_of_ble_eq_true rfl) (Nat.le_of_ble_eq_true rfl) (by omega) (by omega) (by omega) d_X_serve_88 rfl ?_
      have e : sp_serve (ns, xs, (ps, pn)) g = sp_again (ns, xs, (ps, pn)) g := by unfold sp_serve; rw [if_neg (by omega), if_neg hk17_1, if_neg hk17_2, if_neg hk17_3, if_neg hk17_4, if_neg hk17_5, if_pos hk17_6]
      rw [e] at K
      refine c_X_serveAgain h2 hr2 (by omega) (fun I3 P3 h3 hf3 => ?_)
      show cn_V l en mi_X_serve d 0 0 S I3 P3 Q 91 [(0, .ref 0), (1, .ref 15)] [.int ((sp_again (ns, xs, (ps, pn)) g).1)]
      refine cn_iret rfl d_X_serve_91 ?_
      exact K I3 P3 h3 (hfx2.tr hf3)
    · have hkd : (g.getD 0 0).toInt < 1 ∨ 6 < (g.getD 0 0).toInt := by
        have q1 := lv_neT (a := 1) hk17_1 (by decide +kernel)
        have q2 := lv_neT (a := 2) hk17_2 (by decide +kernel)
        have q3 := lv_neT (a := 3) hk17_3 (by decide +kernel)
        have q4 := lv_neT (a := 4) hk17_4 (by decide +kernel)
        have q5 := lv_neT (a := 5) hk17_5 (by decide +kernel)
        have q6 := lv_neT (a := 6) hk17_6 (by decide +kernel)
        omega
      refine cn_tableOut (tgt := 92) d_X_serve_17 hkd (by decide) ?_
      refine cn_iconst (pc' := 93) k_c_2 d_X_serve_92 rfl ?_
      refine cn_iret rfl d_X_serve_93 ?_
      have e : sp_serve (ns, xs, (ps, pn)) g = (nI 2, [], ns, xs, (ps, pn)) := by unfold sp_serve; rw [if_neg (by omega), if_neg hk17_1, if_neg hk17_2, if_neg hk17_3, if_neg hk17_4, if_neg hk17_5, if_neg hk17_6]
      rw [e] at K
      exact K I2 P h2 hfx2
  · refine cn_iconst (pc' := 12) k_c_1 d_X_serve_11 rfl ?_
    refine cn_iret rfl d_X_serve_12 ?_
    have e : sp_serve (ns, xs, (ps, pn)) g = (nI 1, [], ns, xs, (ps, pn)) := by unfold sp_serve; rw [if_pos (by omega)]
    rw [e] at K
    exact K I1 P (h.row15 hf1) (frX.f1 hf1 (by decide))
theorem C_X_chunk {kind seq req cnt : Int32} {x : Int64} (h : RC S I P (ns, xs, (ps, pn), ch, (rq, ru))) (hd1 : 14 ≤ d) (K : ∀ (I' : cn_I) (P' : cn_P), RC S I' P' (sp_chunk (ns, xs, (ps, pn), ch, (rq, ru)) kind seq req x cnt).2 → frX I I' P P' → Q (some (.int (sp_chunk (ns, xs, (ps, pn), ch, (rq, ru)) kind seq req x cnt).1)) S I' P') : cn_V l en mi_X_chunk d 0 0 S I P Q 0 [(0, .ref 0), (1, .int kind), (2, .int seq), (3, .int req), (4, .long x), (6, .int cnt)] [] := by
  have h9 := h
  obtain ⟨hw, hX, hN, hI, hS, hC, hR, hV⟩ := h
  have hX : rX I ns.length xs.length rq := hX
  have hN : rN I ns := hN
  have hI : rI I P xs := hI
  have hS : rS I P ps pn := hS
  have hC : chs I 14 ch := hC
  have hR : rR I ru := hR
  have h01 := hX.1
  have hl16 := hN.1
  have hl6 := hI.1
  have hl195 := hR.2
  have hl64 := hC.2.2.2.2.2.2
  obtain ⟨⟨π, hk⟩, hpn⟩ := hS
  have hl3 := hk.2.1
  have hb1 := tn_le ch.1
  refine cn_aload_n (pc' := 1) (k := 0) rfl rfl d_X_chunk_0 rfl ?_
  refine cn_getP (pc' := 4) (b := 14) hw.2.1.2.2.2.1 fl_X_31 hw.1 rfl d_X_chunk_1 rfl ?_
  refine cn_getIv (pc' := 7) (v := nI (ch.1.toNat)) hC.1 fl_X_74 hw.ch.1 rfl d_X_chunk_4 rfl ?_
  refine cn_if_eq_n (tgt := 39) (pc' := 10) (by omega) d_X_chunk_7 (by decide) rfl (fun hc7 => ?_) (fun hc7 => ?_)
  · refine cn_iconst (pc' := 40) k_c_m1 d_X_chunk_39 rfl ?_
    refine cn_iret rfl d_X_chunk_40 ?_
    have hbad : sp_bad ch kind seq req cnt = true := by unfold sp_bad; rw [tn_0 hc7]; simp
    have e : sp_chunk (ns, xs, (ps, pn), ch, (rq, ru)) kind seq req x cnt = (-1, (ns, xs, (ps, pn), ch, (rq, ru))) := by unfold sp_chunk; rw [if_pos hbad]
    rw [e] at K
    exact K I P h9 frX.rf
  · refine cn_iload_n (pc' := 11) (k := 1) rfl rfl d_X_chunk_10 rfl ?_
    refine cn_if_lt (tgt := 39) (pc' := 14) d_X_chunk_11 (by decide) rfl (fun hc11 => ?_) (fun hc11 => ?_)
    · refine cn_iconst (pc' := 40) k_c_m1 d_X_chunk_39 rfl ?_
      refine cn_iret rfl d_X_chunk_40 ?_
      have hbad : sp_bad ch kind seq req cnt = true := by unfold sp_bad; rw [decide_eq_true hc11]; simp
      have e : sp_chunk (ns, xs, (ps, pn), ch, (rq, ru)) kind seq req x cnt = (-1, (ns, xs, (ps, pn), ch, (rq, ru))) := by unfold sp_chunk; rw [if_pos hbad]
      rw [e] at K
      exact K I P h9 frX.rf
    · refine cn_iload_n (pc' := 15) (k := 1) rfl rfl d_X_chunk_14 rfl ?_
      refine cn_iconst (pc' := 16) k_c_2 d_X_chunk_15 rfl ?_
      refine cn_icmp_gt (tgt := 39) (pc' := 19) d_X_chunk_16 (by decide) rfl (fun hc16 => ?_) (fun hc16 => ?_)
      · refine cn_iconst (pc' := 40) k_c_m1 d_X_chunk_39 rfl ?_
        refine cn_iret rfl d_X_chunk_40 ?_
        have hbad : sp_bad ch kind seq req cnt = true := by unfold sp_bad; rw [decide_eq_true hc16]; simp
        have e : sp_chunk (ns, xs, (ps, pn), ch, (rq, ru)) kind seq req x cnt = (-1, (ns, xs, (ps, pn), ch, (rq, ru))) := by unfold sp_chunk; rw [if_pos hbad]
        rw [e] at K
        exact K I P h9 frX.rf
      · refine cn_iload_n (pc' := 20) (k := 2) rfl rfl d_X_chunk_19 rfl ?_
        refine cn_if_lt (tgt := 39) (pc' := 23) d_X_chunk_20 (by decide) rfl (fun hc20 => ?_) (fun hc20 => ?_)
        · refine cn_iconst (pc' := 40) k_c_m1 d_X_chunk_39 rfl ?_
          refine cn_iret rfl d_X_chunk_40 ?_
          have hbad : sp_bad ch kind seq req cnt = true := by unfold sp_bad; rw [decide_eq_true hc20]; simp
          have e : sp_chunk (ns, xs, (ps, pn), ch, (rq, ru)) kind seq req x cnt = (-1, (ns, xs, (ps, pn), ch, (rq, ru))) := by unfold sp_chunk; rw [if_pos hbad]
          rw [e] at K
          exact K I P h9 frX.rf
        · refine cn_iload_n (pc' := 24) (k := 3) rfl rfl d_X_chunk_23 rfl ?_
          refine cn_if_lt (tgt := 39) (pc' := 27) d_X_chunk_24 (by decide) rfl (fun hc24 => ?_) (fun hc24 => ?_)
          · refine cn_iconst (pc' := 40) k_c_m1 d_X_chunk_39 rfl ?_
            refine cn_iret rfl d_X_chunk_40 ?_
            have hbad : sp_bad ch kind seq req cnt = true := by unfold sp_bad; rw [decide_eq_true hc24]; simp
            have e : sp_chunk (ns, xs, (ps, pn), ch, (rq, ru)) kind seq req x cnt = (-1, (ns, xs, (ps, pn), ch, (rq, ru))) := by unfold sp_chunk; rw [if_pos hbad]
            rw [e] at K
            exact K I P h9 frX.rf
          · refine cn_iload (pc' := 29) (k := 5) rfl d_X_chunk_27 rfl ?_
            refine cn_if_lt (tgt := 39) (pc' := 32) d_X_chunk_29 (by decide) rfl (fun hc29 => ?_) (fun hc29 => ?_)
            · refine cn_iconst (pc' := 40) k_c_m1 d_X_chunk_39 rfl ?_
              refine cn_iret rfl d_X_chunk_40 ?_
              have hbad : sp_bad ch kind seq req cnt = true := by unfold sp_bad; rw [decide_eq_true hc29]; simp
              have e : sp_chunk (ns, xs, (ps, pn), ch, (rq, ru)) kind seq req x cnt = (-1, (ns, xs, (ps, pn), ch, (rq, ru))) := by unfold sp_chunk; rw [if_pos hbad]
              rw [e] at K
              exact K I P h9 frX.rf
            · refine cn_iload (pc' := 34) (k := 5) rfl d_X_chunk_32 rfl ?_
              refine cn_bipush (pc' := 36) k_b_8 d_X_chunk_34 rfl ?_
              refine cn_icmp_le (tgt := 41) (pc' := 39) d_X_chunk_36 (by decide) rfl (fun hc36 => ?_) (fun hc36 => ?_)
              · refine cn_aload_n (pc' := 42) (k := 0) rfl rfl d_X_chunk_41 rfl ?_
                refine cn_getP (pc' := 45) (b := 14) hw.2.1.2.2.2.1 fl_X_31 hw.1 rfl d_X_chunk_42 rfl ?_
                refine cn_iload_n (pc' := 46) (k := 1) rfl rfl d_X_chunk_45 rfl ?_
                refine cn_iload_n (pc' := 47) (k := 2) rfl rfl d_X_chunk_46 rfl ?_
                refine cn_iload_n (pc' := 48) (k := 3) rfl rfl d_X_chunk_47 rfl ?_
                refine cn_iload (pc' := 50) (k := 5) rfl d_X_chunk_48 rfl ?_
                refine cn_callV (pc' := 53) (kc1 := 0) (ks1 := 0) (kc2 := 0) (ks2 := 0) (rest := []) (lvj := [(0, .ref 14), (1, .int (kind)), (2, .int (seq)), (3, .int (req)), (4, .int (cnt))]) [.int (kind), .int (seq), .int (req), .int (cnt)] mv_X_102 hw.ch.1 rfl rfl rfl (Nat.le_of_ble_eq_true rfl) (Nat.le_of_ble_eq_true rfl) (by omega) (by omega) (by omega) d_X_chunk_50 rfl ?_
                have hbad : sp_bad ch kind seq req cnt = false := by unfold sp_bad; rw [tn_1 hc7, decide_eq_false hc11, decide_eq_false hc16, decide_eq_false hc20, decide_eq_false hc24, decide_eq_false hc29, decide_eq_false (show ¬ nI 8 < cnt from fun h => absurd hc36 (Int32.not_le.mpr h))]; rfl
                obtain ⟨kd, hkd, rfl⟩ := nI_of hc11
                obtain ⟨ct, hct, rfl⟩ := nI_of hc29
                have hkd2 : kd ≤ 2 := by have := mt (nI_ltI (a := 2) (b := kd) (by omega) hkd).mpr hc16; omega
                have hct8 : ct ≤ 8 := (nI_leI hct (by omega)).mp hc36
                refine c_Ch_mustClose hw.ch hC hkd2 hct8 (by omega) ?_
                have hbc := tn_le (sp_close ch kd seq req ct)
                show cn_V l en mi_X_chunk d 0 0 S I P Q 53 [(0, .ref 0), (1, .int (nI (kd))), (2, .int (seq)), (3, .int (req)), (4, .long (x)), (6, .int (nI (ct)))] [.int (nI ((sp_close ch kd seq req ct).toNat))]
                refine cn_if_eq_n (tgt := 65) (pc' := 56) (by omega) d_X_chunk_53 (by decide) rfl (fun hc53 => ?_) (fun hc53 => ?_)
                · refine cn_aload_n (pc' := 66) (k := 0) rfl rfl d_X_chunk_65 rfl ?_
                  refine cn_getP (pc' := 69) (b := 14) hw.2.1.2.2.2.1 fl_X_31 hw.1 rfl d_X_chunk_66 rfl ?_
                  refine cn_iload_n (pc' := 70) (k := 1) rfl rfl d_X_chunk_69 rfl ?_
                  refine cn_iload_n (pc' := 71) (k := 2) rfl rfl d_X_chunk_70 rfl ?_
                  refine cn_iload_n (pc' := 72) (k := 3) rfl rfl d_X_chunk_71 rfl ?_
                  refine cn_lload (pc' := 74) (k := 4) rfl d_X_chunk_72 rfl ?_
                  refine cn_iload (pc' := 76) (k := 5) rfl d_X_chunk_74 rfl ?_
                  refine cn_callV (pc' := 79) (kc1 := 0) (ks1 := 0) (kc2 := 0) (ks2 := 0) (rest := []) (lvj := [(0, .ref 14), (1, .int (nI (kd))), (2, .int (seq)), (3, .int (req)), (4, .long (x)), (6, .int (nI (ct)))]) [.int (nI (kd)), .int (seq), .int (req), .long (x), .int (nI (ct))] mv_X_109 hw.ch.1 rfl rfl rfl (Nat.le_of_ble_eq_true rfl) (Nat.le_of_ble_eq_true rfl) (by omega) (by omega) (by omega) d_X_chunk_76 rfl ?_
                  have hok : kd = 2 ∨ ∀ q, ch.2.2.2.1 = some q → q.2 < 12 ∧ ch.2.2.2.2.length + ct ≤ 64 := by
                    by_cases e2 : kd = 2
                    · exact Or.inl e2
                    · refine Or.inr (fun q hq => ?_)
                      have h12 := (hC.2.2.2.2.1 q hq).2.2
                      have := tn_0 hc53
                      unfold sp_close at this
                      rw [hq] at this
                      simp only [Bool.or_eq_false_iff, Bool.and_eq_false_iff, decide_eq_false_iff_not] at this
                      omega
                  refine c_Ch_take (x := x) hw.ch hC hkd2 hct8 hok (by omega) (fun I1 hC1 hf1 => ?_)
                  have h1 := h9.chan hC1 hf1
                  show cn_V l en mi_X_chunk d 0 0 S I1 P Q 79 [(0, .ref 0), (1, .int (nI (kd))), (2, .int (seq)), (3, .int (req)), (4, .long (x)), (6, .int (nI (ct)))] []
                  refine cn_iload_n (pc' := 80) (k := 1) rfl rfl d_X_chunk_79 rfl ?_
                  refine cn_iconst (pc' := 81) k_c_1 d_X_chunk_80 rfl ?_
                  refine cn_icmp_eq_n (tgt := 86) (pc' := 84) (by omega) (by omega) d_X_chunk_81 (by decide) rfl (fun hc81 => ?_) (fun hc81 => ?_)
                  · refine cn_aload_n (pc' := 87) (k := 0) rfl rfl d_X_chunk_86 rfl ?_
                    refine cn_iload_n (pc' := 88) (k := 3) rfl rfl d_X_chunk_87 rfl ?_
                    refine cn_putI (pc' := 91) fl_X_61 hw.1 rfl rfl rfl rfl d_X_chunk_88 rfl ?_
                    refine cn_aload_n (pc' := 92) (k := 0) rfl rfl d_X_chunk_91 rfl ?_
                    refine cn_getP (pc' := 95) (b := 18) hw.2.1.2.2.2.2.1 fl_X_40 hw.1 rfl d_X_chunk_92 rfl ?_
                    refine cn_callV (pc' := 98) (kc1 := 0) (ks1 := 0) (kc2 := 0) (ks2 := 0) (rest := []) (lvj := [(0, .ref 18)]) [] mv_X_71 hw.re.1 rfl rfl rfl (Nat.le_of_ble_eq_true rfl) (Nat.le_of_ble_eq_true rfl) (by omega) (by omega) (by omega) d_X_chunk_95 rfl ?_
                    refine c_By_clear (b := 18) (cap := 195) hw.re (fun I2 hy2 hf2 => ?_)
                    show cn_V l en mi_X_chunk d 0 0 S I2 P Q 98 [(0, .ref 0), (1, .int (nI (kd))), (2, .int (seq)), (3, .int (req)), (4, .long (x)), (6, .int (nI (ct)))] []
                    refine cn_aload_n (pc' := 99) (k := 0) rfl rfl d_X_chunk_98 rfl ?_
                    refine cn_getP (pc' := 102) (b := 18) hw.2.1.2.2.2.2.1 fl_X_40 hw.1 rfl d_X_chunk_99 rfl ?_
                    refine cn_iconst (pc' := 103) k_c_0 d_X_chunk_102 rfl ?_
                    refine cn_callV (pc' := 106) (kc1 := 0) (ks1 := 0) (kc2 := 0) (ks2 := 0) (rest := []) (lvj := [(0, .ref 18), (1, .int (nI (0)))]) [.int (nI (0))] mv_X_92 hw.re.1 rfl rfl rfl (Nat.le_of_ble_eq_true rfl) (Nat.le_of_ble_eq_true rfl) (by omega) (by omega) (by omega) d_X_chunk_103 rfl ?_
                    refine c_By_add (b := 18) (cap := 195) hw.re hy2 (Nat.zero_le _) (fun I3 hy3 hf3 => ?_)
                    have hy3 : ys I3 18 [nI 0] := hy3
                    have h3 : RC S I3 P (ns, xs, (ps, pn), sp_take ch kd seq req x ct, (req, [nI 0])) := (h1.req (rq' := req)).reply (hf2.tr hf3) hy3 (show 1 ≤ 195 by decide)
                    have hfx3 : frX I I3 P P := ((frX.fch hf1).tr (fun a x => ⟨cn_wi_ne (by omega), rfl⟩)).tr (frX.f2 (hf2.tr hf3) (by decide))
                    show cn_V l en mi_X_chunk d 0 0 S I3 P Q 106 [(0, .ref 0), (1, .int (nI (kd))), (2, .int (seq)), (3, .int (req)), (4, .long (x)), (6, .int (nI (ct)))] []
                    refine cn_aload_n (pc' := 107) (k := 0) rfl rfl d_X_chunk_106 rfl ?_
                    refine cn_getP (pc' := 110) (b := 18) hw.2.1.2.2.2.2.1 fl_X_40 hw.1 rfl d_X_chunk_107 rfl ?_
                    refine cn_iconst (pc' := 111) k_c_0 d_X_chunk_110 rfl ?_
                    refine cn_aload_n (pc' := 112) (k := 0) rfl rfl d_X_chunk_111 rfl ?_
                    refine cn_aload_n (pc' := 113) (k := 0) rfl rfl d_X_chunk_112 rfl ?_
                    refine cn_getP (pc' := 116) (b := 14) hw.2.1.2.2.2.1 fl_X_31 hw.1 rfl d_X_chunk_113 rfl ?_
                    refine cn_getP (pc' := 119) (b := 15) hw.ch.2.1 fl_X_113 hw.ch.1 rfl d_X_chunk_116 rfl ?_
                    refine cn_callV (pc' := 122) (kc1 := 0) (ks1 := 0) (kc2 := 0) (ks2 := 0) (rest := [.int (nI (0)), .ref 18]) (lvj := [(0, .ref 0), (1, .ref 15)]) [.ref 15] mv_X_117 hw.1 rfl rfl rfl (Nat.le_of_ble_eq_true rfl) (Nat.le_of_ble_eq_true rfl) (by omega) (by omega) (by omega) d_X_chunk_119 rfl ?_
                    refine c_X_serve h3 (by omega) (fun I4 P4 h4 hf4 => ?_)
                    have hw4 := h4.1
                    show cn_V l en mi_X_chunk d 0 0 S I4 P4 Q 122 [(0, .ref 0), (1, .int (nI (kd))), (2, .int (seq)), (3, .int (req)), (4, .long (x)), (6, .int (nI (ct)))] [.int ((sp_serve (ns, xs, (ps, pn)) (sp_take ch kd seq req x ct).2.2.2.2).1), .int (nI (0)), .ref 18]
                    refine cn_callV (pc' := 125) (kc1 := 0) (ks1 := 0) (kc2 := 0) (ks2 := 0) (rest := []) (lvj := [(0, .ref 18), (1, .int (nI (0))), (2, .int ((sp_serve (ns, xs, (ps, pn)) (sp_take ch kd seq req x ct).2.2.2.2).1))]) [.int (nI (0)), .int ((sp_serve (ns, xs, (ps, pn)) (sp_take ch kd seq req x ct).2.2.2.2).1)] mv_X_121 hw4.re.1 rfl rfl rfl (Nat.le_of_ble_eq_true rfl) (Nat.le_of_ble_eq_true rfl) (by omega) (by omega) (by omega) d_X_chunk_122 rfl ?_
                    obtain ⟨hy4, hl4⟩ := id h4.2.2.2.2.2.2.1
                    have hy4 : ys I4 18 (nI 0 :: (sp_serve (ns, xs, (ps, pn)) (sp_take ch kd seq req x ct).2.2.2.2).2.1) := hy4
                    refine c_By_set (b := 18) (cap := 195) hw4.re hy4 hl4 (fun I5 hy5 hf5 => ?_)
                    have ey : yset (nI 0 :: (sp_serve (ns, xs, (ps, pn)) (sp_take ch kd seq req x ct).2.2.2.2).2.1) (nI 0) (sp_serve (ns, xs, (ps, pn)) (sp_take ch kd seq req x ct).2.2.2.2).1 = (sp_serve (ns, xs, (ps, pn)) (sp_take ch kd seq req x ct).2.2.2.2).1 :: (sp_serve (ns, xs, (ps, pn)) (sp_take ch kd seq req x ct).2.2.2.2).2.1 := by unfold yset; rw [if_neg (by decide), serve_255]; rfl
                    rw [ey] at hy5
                    show cn_V l en mi_X_chunk d 0 0 S I5 P4 Q 125 [(0, .ref 0), (1, .int (nI (kd))), (2, .int (seq)), (3, .int (req)), (4, .long (x)), (6, .int (nI (ct)))] []
                    refine cn_iconst (pc' := 126) k_c_1 d_X_chunk_125 rfl ?_
                    refine cn_iret rfl d_X_chunk_126 ?_
                    have e0 : sp_chunk (ns, xs, (ps, pn), ch, (rq, ru)) (nI kd) seq req x (nI ct) = (if sp_close ch kd seq req ct = true then (nI 2, ns, xs, (ps, pn), (false, ch.2.1, ch.2.2.1, none, ch.2.2.2.2), (rq, ru)) else if ¬ nI kd = nI 1 then (nI 0, ns, xs, (ps, pn), sp_take ch kd seq req x ct, (rq, ru)) else (nI 1, (sp_serve (ns, xs, (ps, pn)) (sp_take ch kd seq req x ct).2.2.2.2).2.2.1, (sp_serve (ns, xs, (ps, pn)) (sp_take ch kd seq req x ct).2.2.2.2).2.2.2.1, (sp_serve (ns, xs, (ps, pn)) (sp_take ch kd seq req x ct).2.2.2.2).2.2.2.2, sp_take ch kd seq req x ct, (req, (sp_serve (ns, xs, (ps, pn)) (sp_take ch kd seq req x ct).2.2.2.2).1 :: (sp_serve (ns, xs, (ps, pn)) (sp_take ch kd seq req x ct).2.2.2.2).2.1))) := by
                      unfold sp_chunk; rw [if_neg (by rw [hbad]; decide), nI_clamp hkd, nI_clamp hct]
                    rw [e0] at K
                    rw [if_neg (by rw [tn_0 hc53]; decide), if_neg (fun h => h (by rw [hc81]))] at K
                    exact K I5 P4 (h4.reply hf5 hy5 hl4) ((hfx3.tr hf4).tr (frX.f2 hf5 (by decide)))
                  · refine cn_iconst (pc' := 85) k_c_0 d_X_chunk_84 rfl ?_
                    refine cn_iret rfl d_X_chunk_85 ?_
                    have e0 : sp_chunk (ns, xs, (ps, pn), ch, (rq, ru)) (nI kd) seq req x (nI ct) = (if sp_close ch kd seq req ct = true then (nI 2, ns, xs, (ps, pn), (false, ch.2.1, ch.2.2.1, none, ch.2.2.2.2), (rq, ru)) else if ¬ nI kd = nI 1 then (nI 0, ns, xs, (ps, pn), sp_take ch kd seq req x ct, (rq, ru)) else (nI 1, (sp_serve (ns, xs, (ps, pn)) (sp_take ch kd seq req x ct).2.2.2.2).2.2.1, (sp_serve (ns, xs, (ps, pn)) (sp_take ch kd seq req x ct).2.2.2.2).2.2.2.1, (sp_serve (ns, xs, (ps, pn)) (sp_take ch kd seq req x ct).2.2.2.2).2.2.2.2, sp_take ch kd seq req x ct, (req, (sp_serve (ns, xs, (ps, pn)) (sp_take ch kd seq req x ct).2.2.2.2).1 :: (sp_serve (ns, xs, (ps, pn)) (sp_take ch kd seq req x ct).2.2.2.2).2.1))) := by
                      unfold sp_chunk; rw [if_neg (by rw [hbad]; decide), nI_clamp hkd, nI_clamp hct]
                    rw [e0] at K
                    rw [if_neg (by rw [tn_0 hc53]; decide), if_pos (fun h => hc81 ((nI_eq hkd (by omega)).mp h))] at K
                    exact K I1 P h1 (frX.fch hf1)
                · refine cn_aload_n (pc' := 57) (k := 0) rfl rfl d_X_chunk_56 rfl ?_
                  refine cn_getP (pc' := 60) (b := 14) hw.2.1.2.2.2.1 fl_X_31 hw.1 rfl d_X_chunk_57 rfl ?_
                  refine cn_callV (pc' := 63) (kc1 := 0) (ks1 := 0) (kc2 := 0) (ks2 := 0) (rest := []) (lvj := [(0, .ref 14)]) [] mv_X_106 hw.ch.1 rfl rfl rfl (Nat.le_of_ble_eq_true rfl) (Nat.le_of_ble_eq_true rfl) (by omega) (by omega) (by omega) d_X_chunk_60 rfl ?_
                  refine c_Ch_close hw.ch hC (fun I1 hC1 hf1 => ?_)
                  show cn_V l en mi_X_chunk d 0 0 S I1 P Q 63 [(0, .ref 0), (1, .int (nI (kd))), (2, .int (seq)), (3, .int (req)), (4, .long (x)), (6, .int (nI (ct)))] []
                  refine cn_iconst (pc' := 64) k_c_2 d_X_chunk_63 rfl ?_
                  refine cn_iret rfl d_X_chunk_64 ?_
                  have e0 : sp_chunk (ns, xs, (ps, pn), ch, (rq, ru)) (nI kd) seq req x (nI ct) = (if sp_close ch kd seq req ct = true then (nI 2, ns, xs, (ps, pn), (false, ch.2.1, ch.2.2.1, none, ch.2.2.2.2), (rq, ru)) else if ¬ nI kd = nI 1 then (nI 0, ns, xs, (ps, pn), sp_take ch kd seq req x ct, (rq, ru)) else (nI 1, (sp_serve (ns, xs, (ps, pn)) (sp_take ch kd seq req x ct).2.2.2.2).2.2.1, (sp_serve (ns, xs, (ps, pn)) (sp_take ch kd seq req x ct).2.2.2.2).2.2.2.1, (sp_serve (ns, xs, (ps, pn)) (sp_take ch kd seq req x ct).2.2.2.2).2.2.2.2, sp_take ch kd seq req x ct, (req, (sp_serve (ns, xs, (ps, pn)) (sp_take ch kd seq req x ct).2.2.2.2).1 :: (sp_serve (ns, xs, (ps, pn)) (sp_take ch kd seq req x ct).2.2.2.2).2.1))) := by
                    unfold sp_chunk; rw [if_neg (by rw [hbad]; decide), nI_clamp hkd, nI_clamp hct]
                  rw [e0] at K
                  rw [if_pos (tn_1 hc53)] at K
                  exact K I1 P (h9.chan hC1 hf1) (frX.fch hf1)
              · refine cn_iconst (pc' := 40) k_c_m1 d_X_chunk_39 rfl ?_
                refine cn_iret rfl d_X_chunk_40 ?_
                have hbad : sp_bad ch kind seq req cnt = true := by unfold sp_bad; rw [decide_eq_true (Int32.not_le.mp hc36)]; simp
                have e : sp_chunk (ns, xs, (ps, pn), ch, (rq, ru)) kind seq req x cnt = (-1, (ns, xs, (ps, pn), ch, (rq, ru))) := by unfold sp_chunk; rw [if_pos hbad]
                rw [e] at K
                exact K I P h9 frX.rf
end
