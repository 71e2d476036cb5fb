theorem lcmp0 {a b : Int64} : lg_cmp a b = 0 ↔ a = b := by
  unfold lg_cmp
  by_cases h1 : b < a
  · rw [if_pos h1]
    exact ⟨fun h => absurd h (by decide), fun h => by rw [h] at h1; exact absurd h1 (Int64.lt_irrefl)⟩
  · rw [if_neg h1]
    by_cases h2 : a = b
    · simp [h2]
    · simp [h2]
/-- the next sequence number, in ints and in longs -/
theorem nxt_l {seq lat : Int32} (h : ¬ seq < 0) : (seq.toInt64 = lat.toInt64 + 1) ↔ seq = lat + nI 1 := by
  have h1 : 0 ≤ seq.toInt := by
    rw [Int32.lt_iff_toInt_lt] at h
    rw [show (0 : Int32).toInt = 0 from rfl] at h
    omega
  have h2 := Int32.toInt_lt seq
  have h3 := Int32.toInt_lt lat
  have h4 := Int32.le_toInt lat
  have e1 : (lat.toInt64 + 1).toInt = lat.toInt + 1 := by
    rw [Int64.toInt_add, Int32.toInt_toInt64, show (1 : Int64).toInt = 1 from rfl, Int.bmod_eq_of_le (by omega) (by omega)]
  rw [← Int64.toInt_inj, e1, Int32.toInt_toInt64, ← Int32.toInt_inj, Int32.toInt_add, show (nI 1).toInt = 1 from rfl]
  by_cases h5 : lat.toInt + 1 < 2 ^ 31
  · rw [Int.bmod_eq_of_le (by omega) (by omega)]
  · have h6 : lat.toInt = 2147483647 := by omega
    rw [h6]
    constructor
    · intro h7; omega
    · intro h7
      rw [show Int.bmod (2147483647 + 1) (2 ^ 32) = -2147483648 from by decide] at h7
      omega
theorem nt_f {b : Bool} (h : (!b) = true) : b = false := by cases b <;> simp_all
theorem nt_t {b : Bool} (h : (!b) = false) : b = true := by cases b <;> simp_all
theorem lby_255 (x : Int64) (i : Nat) : lby x i &&& 255 = lby x i := b8_idem _
theorem gd_255 {u : List Int32} (h : ∀ x ∈ u, x &&& 255 = x) (j : Nat) : u.getD j 0 &&& 255 = u.getD j 0 := by
  rw [List.getD_eq_getElem?_getD]
  cases h1 : u[j]? with
  | none => rfl
  | some x => exact h x (List.mem_of_getElem? h1)
theorem lbs_255 (x : Int64) (n : Nat) : ∀ y ∈ lbs x n, y &&& 255 = y := by
  intro y hy
  obtain ⟨i, -, rfl⟩ := List.mem_map.mp hy
  exact lby_255 x i
theorem app_255 {u v : List Int32} (hu : ∀ j, u.getD j 0 &&& 255 = u.getD j 0) (hv : ∀ j, v.getD j 0 &&& 255 = v.getD j 0) (j : Nat) : (u ++ v).getD j 0 &&& 255 = (u ++ v).getD j 0 := by
  by_cases h : j < u.length
  · rw [gd_l h]; exact hu j
  · rw [gd_r (by omega)]; exact hv _
theorem mC_c {I I' : cn_I} {ch ch' : sCh} (h0 : I' 155 0 = nI (!ch'.1).toNat) (h20 : I' 155 20 = nI ch'.2.1.toNat) (h21 : I' 155 21 = ch'.2.2.1) (h22 : I' 155 22 = nI 0) (hn : ch'.2.2.2.1 = none) : mC I' ch' := ⟨h0, h20, h21, by rw [hn]; exact h22, fun q hq => by rw [hn] at hq; cases hq⟩
section
variable {l : Launch} {en : cn_E} {d : Nat} {S : cn_S} {I : cn_I} {P : cn_P} {Q : Option Value → cn_S → cn_I → cn_P → Prop}
variable {ns : List sNode} {xs : List sItem} {ps : List sPar} {pn : Int32} {ch : sCh} {rq : Int32} {ru : List Int32} {T : Nat} {g : List Int32}
theorem c_M_reply (hm : wM S P) (hN : mN I ns) (hJ : mI I xs) (hS : mS I ps pn) (hp : pOK ps pn T) (hg : I 155 25 = nI g.length) (hg64 : g.length ≤ 64) (hgb : ∀ j, j < g.length → I 171 j = g.getD j 0) (hg8 : ∀ j, g.getD j 0 &&& 255 = g.getD j 0) (hT : T < 1000000) (hd1 : 6 ≤ d) (K : ∀ I', MT I' (sp_serve (ns, xs, (ps, pn)) g).2.2 ((sp_serve (ns, xs, (ps, pn)) g).1 :: (sp_serve (ns, xs, (ps, pn)) g).2.1) (T + 1) → fV I I' → Q none S I' P) : cn_V l en mi_M_reply d 0 0 S I P Q 0 [(0, .ref 155)] [] := by
  refine cn_aload_n (pc' := 1) (k := 0) rfl rfl d_M_reply_0 rfl ?_
  refine cn_iconst (pc' := 2) k_c_0 d_M_reply_1 rfl ?_
  refine cn_putI (pc' := 5) fl_M_158 hm.1 rfl rfl rfl rfl d_M_reply_2 rfl ?_
  refine cn_aload_n (pc' := 6) (k := 0) rfl rfl d_M_reply_5 rfl ?_
  refine cn_iconst (pc' := 7) k_c_1 d_M_reply_6 rfl ?_
  refine cn_putI (pc' := 10) fl_M_161 hm.1 rfl rfl rfl rfl d_M_reply_7 rfl ?_
  refine cn_aload_n (pc' := 11) (k := 0) rfl rfl d_M_reply_10 rfl ?_
  refine cn_iconst (pc' := 12) k_c_1 d_M_reply_11 rfl ?_
  refine cn_callV (pc' := 15) (kc1 := 0) (ks1 := 0) (kc2 := 0) (ks2 := 0) (rest := []) (lvj := [(0, .ref 155), (1, .int (nI (1)))]) [.int (nI (1))] mv_M_187 hm.1 rfl rfl rfl (Nat.le_of_ble_eq_true rfl) (Nat.le_of_ble_eq_true rfl) (by omega) (by omega) (by omega) d_M_reply_12 rfl ?_
  have hf0 : ∀ a j, (a ≠ 155 ∨ (j ≠ 27 ∧ j ≠ 28)) → ((cn_wi (cn_wi I 155 27 (nI (0))) 155 28 (nI (1)))) a j = I a j := fun a j x => by rw [mw_o (by omega), mw_o (by omega)]
  refine c_M_code hm (by omega) (fun I1 ho1 hf1 => ?_)
  have hf01 : ∀ a j, (a ≠ 155 ∨ (j ≠ 27 ∧ j ≠ 28 ∧ j ≠ 35)) → a ≠ 174 → I1 a j = I a j := fun a j x y => (hf1 a j (by omega) y).trans (hf0 a j (by omega))
  have h91 : MT I1 (ns, xs, (ps, pn)) [nI 1] T := ⟨hN.congr (fun a j x => hf01 a j (by omega) (by omega)), hJ.congr (fun a j x => hf01 a j (by omega) (by omega)), hS.congr (fun a j x => hf01 a j (by omega) (by omega)), hp, ho1⟩
  have hv1 : fV I I1 := fun a j x => hf01 a j (by omega) (by omega)
  have hr1 : mg I1 g 0 true := ⟨(hf01 _ _ (by omega) (by omega)).trans hg, (hf1 _ _ (by omega) (by omega)).trans (mw_k (by decide) mw_e), (hf1 _ _ (by omega) (by omega)).trans mw_e, Nat.zero_le _, hg64, fun j hj => (hf01 _ _ (by omega) (by omega)).trans (hgb j hj), hg8⟩
  show cn_V l en mi_M_reply d 0 0 S I1 P Q 15 [(0, .ref 155)] []
  refine cn_aload_n (pc' := 16) (k := 0) rfl rfl d_M_reply_15 rfl ?_
  refine cn_getIv (pc' := 19) (v := nI (g.length)) hr1.1 fl_M_140 hm.1 rfl d_M_reply_16 rfl ?_
  refine cn_if_ne_n (tgt := 23) (pc' := 22) (by omega) d_M_reply_19 (by decide) rfl (fun hc19 => ?_) (fun hc19 => ?_)
  · refine cn_aload_n (pc' := 24) (k := 0) rfl rfl d_M_reply_23 rfl ?_
    refine cn_callV (pc' := 27) (kc1 := 0) (ks1 := 0) (kc2 := 0) (ks2 := 0) (rest := []) (lvj := [(0, .ref 155)]) [] mv_M_164 hm.1 rfl rfl rfl (Nat.le_of_ble_eq_true rfl) (Nat.le_of_ble_eq_true rfl) (by omega) (by omega) (by omega) d_M_reply_24 rfl ?_
    refine c_M_next hm hr1 (fun I2 hr2 hf2 => ?_)
    have hr2 : mg I2 g 1 true := by
      rw [show rp g 0 1 = 1 by unfold rp; omega, show rw_ g 0 1 true = true by unfold rw_; rw [decide_eq_true (by omega)]; rfl] at hr2; exact hr2
    have h92 := h91.rd hf2.toR
    have hv2 : fV I I2 := hv1.tr hf2.toR.toV
    show cn_V l en mi_M_reply d 0 0 S I2 P Q 27 [(0, .ref 155)] [.int (g.getD 0 0)]
    refine cn_istore_n (pc' := 28) (lv' := [(0, .ref 155), (1, .int (g.getD 0 0))]) rfl [1, 0] (Nat.le_of_ble_eq_true rfl) rfl d_M_reply_27 rfl ?_
    refine cn_iload_n (pc' := 29) (k := 1) rfl rfl d_M_reply_28 rfl ?_
    by_cases hk29_1 : g.getD 0 0 = nI 1
    · refine cn_tableIn (tgt := 68) (off := 39) d_M_reply_29 (by rw [hk29_1]; decide +kernel) (by rw [hk29_1]; decide +kernel) (by rw [hk29_1]; decide +kernel) (by decide) ?_
      refine cn_aload_n (pc' := 69) (k := 0) rfl rfl d_M_reply_68 rfl ?_
      refine cn_callV (pc' := 72) (kc1 := 0) (ks1 := 0) (kc2 := 0) (ks2 := 0) (rest := []) (lvj := [(0, .ref 155)]) [] mv_M_190 hm.1 rfl rfl rfl (Nat.le_of_ble_eq_true rfl) (Nat.le_of_ble_eq_true rfl) (by omega) (by omega) (by omega) d_M_reply_69 rfl ?_
      have e : sp_serve (ns, xs, (ps, pn)) g = sp_read (ns, xs, (ps, pn)) g := by unfold sp_serve; rw [if_neg (by omega), if_pos hk29_1]
      rw [e] at K
      refine c_M_read hm h92 hr2 (by omega) (fun I3 h93 hf3 => ?_)
      show cn_V l en mi_M_reply d 0 0 S I3 P Q 72 [(0, .ref 155), (1, .int (g.getD 0 0))] []
      refine cn_goto (tgt := 115) d_M_reply_72 (by decide) ?_
      refine cn_vret rfl d_M_reply_115 ?_
      exact K I3 ⟨h93.1, h93.2.1, h93.2.2.1, h93.2.2.2.1.mono (by omega), h93.2.2.2.2⟩ (hv2.tr hf3)
    by_cases hk29_2 : g.getD 0 0 = nI 2
    · refine cn_tableIn (tgt := 75) (off := 46) d_M_reply_29 (by rw [hk29_2]; decide +kernel) (by rw [hk29_2]; decide +kernel) (by rw [hk29_2]; decide +kernel) (by decide) ?_
      refine cn_aload_n (pc' := 76) (k := 0) rfl rfl d_M_reply_75 rfl ?_
      refine cn_callV (pc' := 79) (kc1 := 0) (ks1 := 0) (kc2 := 0) (ks2 := 0) (rest := []) (lvj := [(0, .ref 155)]) [] mv_M_193 hm.1 rfl rfl rfl (Nat.le_of_ble_eq_true rfl) (Nat.le_of_ble_eq_true rfl) (by omega) (by omega) (by omega) d_M_reply_76 rfl ?_
      have e : sp_serve (ns, xs, (ps, pn)) g = sp_write (ns, xs, (ps, pn)) g := by unfold sp_serve; rw [if_neg (by omega), if_neg hk29_1, if_pos hk29_2]
      rw [e] at K
      refine c_M_write hm h92 hr2 (by omega) (fun I3 h93 hf3 => ?_)
      show cn_V l en mi_M_reply d 0 0 S I3 P Q 79 [(0, .ref 155), (1, .int (g.getD 0 0))] []
      refine cn_goto (tgt := 115) d_M_reply_79 (by decide) ?_
      refine cn_vret rfl d_M_reply_115 ?_
      exact K I3 ⟨h93.1, h93.2.1, h93.2.2.1, h93.2.2.2.1.mono (by omega), h93.2.2.2.2⟩ (hv2.tr hf3)
    by_cases hk29_3 : g.getD 0 0 = nI 3
    · refine cn_tableIn (tgt := 82) (off := 53) d_M_reply_29 (by rw [hk29_3]; decide +kernel) (by rw [hk29_3]; decide +kernel) (by rw [hk29_3]; decide +kernel) (by decide) ?_
      refine cn_aload_n (pc' := 83) (k := 0) rfl rfl d_M_reply_82 rfl ?_
      refine cn_callV (pc' := 86) (kc1 := 0) (ks1 := 0) (kc2 := 0) (ks2 := 0) (rest := []) (lvj := [(0, .ref 155)]) [] mv_M_196 hm.1 rfl rfl rfl (Nat.le_of_ble_eq_true rfl) (Nat.le_of_ble_eq_true rfl) (by omega) (by omega) (by omega) d_M_reply_83 rfl ?_
      have e : sp_serve (ns, xs, (ps, pn)) g = sp_browse (ns, xs, (ps, pn)) g := by unfold sp_serve; rw [if_neg (by omega), if_neg hk29_1, if_neg hk29_2, if_pos hk29_3]
      rw [e] at K
      refine c_M_browse hm h92 hr2 (by omega) (fun I3 h93 hf3 => ?_)
      show cn_V l en mi_M_reply d 0 0 S I3 P Q 86 [(0, .ref 155), (1, .int (g.getD 0 0))] []
      refine cn_goto (tgt := 115) d_M_reply_86 (by decide) ?_
      refine cn_vret rfl d_M_reply_115 ?_
      exact K I3 ⟨h93.1, h93.2.1, h93.2.2.1, h93.2.2.2.1.mono (by omega), h93.2.2.2.2⟩ (hv2.tr hf3)
    by_cases hk29_4 : g.getD 0 0 = nI 4
    · refine cn_tableIn (tgt := 89) (off := 60) d_M_reply_29 (by rw [hk29_4]; decide +kernel) (by rw [hk29_4]; decide +kernel) (by rw [hk29_4]; decide +kernel) (by decide) ?_
      refine cn_aload_n (pc' := 90) (k := 0) rfl rfl d_M_reply_89 rfl ?_
      refine cn_callV (pc' := 93) (kc1 := 0) (ks1 := 0) (kc2 := 0) (ks2 := 0) (rest := []) (lvj := [(0, .ref 155)]) [] mv_M_199 hm.1 rfl rfl rfl (Nat.le_of_ble_eq_true rfl) (Nat.le_of_ble_eq_true rfl) (by omega) (by omega) (by omega) d_M_reply_90 rfl ?_
      have e : sp_serve (ns, xs, (ps, pn)) g = sp_watch (ns, xs, (ps, pn)) g := by unfold sp_serve; rw [if_neg (by omega), if_neg hk29_1, if_neg hk29_2, if_neg hk29_3, if_pos hk29_4]
      rw [e] at K
      refine c_M_watch hm h92 hr2 (by omega) (fun I3 h93 hf3 => ?_)
      show cn_V l en mi_M_reply d 0 0 S I3 P Q 93 [(0, .ref 155), (1, .int (g.getD 0 0))] []
      refine cn_goto (tgt := 115) d_M_reply_93 (by decide) ?_
      refine cn_vret rfl d_M_reply_115 ?_
      exact K I3 ⟨h93.1, h93.2.1, h93.2.2.1, h93.2.2.2.1.mono (by omega), h93.2.2.2.2⟩ (hv2.tr hf3)
    by_cases hk29_5 : g.getD 0 0 = nI 5
    · refine cn_tableIn (tgt := 96) (off := 67) d_M_reply_29 (by rw [hk29_5]; decide +kernel) (by rw [hk29_5]; decide +kernel) (by rw [hk29_5]; decide +kernel) (by decide) ?_
      refine cn_aload_n (pc' := 97) (k := 0) rfl rfl d_M_reply_96 rfl ?_
      refine cn_callV (pc' := 100) (kc1 := 0) (ks1 := 0) (kc2 := 0) (ks2 := 0) (rest := []) (lvj := [(0, .ref 155)]) [] mv_M_202 hm.1 rfl rfl rfl (Nat.le_of_ble_eq_true rfl) (Nat.le_of_ble_eq_true rfl) (by omega) (by omega) (by omega) d_M_reply_97 rfl ?_
      have e : sp_serve (ns, xs, (ps, pn)) g = sp_publish (ns, xs, (ps, pn)) g := by unfold sp_serve; rw [if_neg (by omega), if_neg hk29_1, if_neg hk29_2, if_neg hk29_3, if_neg hk29_4, if_pos hk29_5]
      rw [e] at K
      refine c_M_publish hm h92 hr2 hT (by omega) (fun I3 h93 hf3 => ?_)
      show cn_V l en mi_M_reply d 0 0 S I3 P Q 100 [(0, .ref 155), (1, .int (g.getD 0 0))] []
      refine cn_goto (tgt := 115) d_M_reply_100 (by decide) ?_
      refine cn_vret rfl d_M_reply_115 ?_
      exact K I3 h93 (hv2.tr hf3)
    by_cases hk29_6 : g.getD 0 0 = nI 6
    · refine cn_tableIn (tgt := 103) (off := 74) d_M_reply_29 (by rw [hk29_6]; decide +kernel) (by rw [hk29_6]; decide +kernel) (by rw [hk29_6]; decide +kernel) (by decide) ?_
      refine cn_aload_n (pc' := 104) (k := 0) rfl rfl d_M_reply_103 rfl ?_
      refine cn_callV (pc' := 107) (kc1 := 0) (ks1 := 0) (kc2 := 0) (ks2 := 0) (rest := []) (lvj := [(0, .ref 155)]) [] mv_M_205 hm.1 rfl rfl rfl (Nat.le_of_ble_eq_true rfl) (Nat.le_of_ble_eq_true rfl) (by omega) (by omega) (by omega) d_M_reply_104 rfl ?_
      have e : sp_serve (ns, xs, (ps, pn)) g = sp_again (ns, xs, (ps, pn)) g := by unfold sp_serve; rw [if_neg (by omega), if_neg hk29_1, if_neg hk29_2, if_neg hk29_3, if_neg hk29_4, if_neg hk29_5, if_pos hk29_6]
      rw [e] at K
      refine c_M_again hm h92 hr2 (by omega) (fun I3 h93 hf3 => ?_)
      show cn_V l en mi_M_reply d 0 0 S I3 P Q 107 [(0, .ref 155), (1, .int (g.getD 0 0))] []
      refine cn_goto (tgt := 115) d_M_reply_107 (by decide) ?_
      refine cn_vret rfl d_M_reply_115 ?_
      exact K I3 ⟨h93.1, h93.2.1, h93.2.2.1, h93.2.2.2.1.mono (by omega), h93.2.2.2.2⟩ (hv2.tr hf3)
    · have hkd : (g.getD 0 0).toInt < 1 ∨ 6 < (g.getD 0 0).toInt := by
        have q1 := lv_neT (a := 1) hk29_1 (by decide +kernel)
        have q2 := lv_neT (a := 2) hk29_2 (by decide +kernel)
        have q3 := lv_neT (a := 3) hk29_3 (by decide +kernel)
        have q4 := lv_neT (a := 4) hk29_4 (by decide +kernel)
        have q5 := lv_neT (a := 5) hk29_5 (by decide +kernel)
        have q6 := lv_neT (a := 6) hk29_6 (by decide +kernel)
        omega
      refine cn_tableOut (tgt := 110) d_M_reply_29 hkd (by decide) ?_
      refine cn_aload_n (pc' := 111) (k := 0) rfl rfl d_M_reply_110 rfl ?_
      refine cn_iconst (pc' := 112) k_c_2 d_M_reply_111 rfl ?_
      refine cn_callV (pc' := 115) (kc1 := 0) (ks1 := 0) (kc2 := 0) (ks2 := 0) (rest := []) (lvj := [(0, .ref 155), (1, .int (nI (2)))]) [.int (nI (2))] mv_M_187 hm.1 rfl rfl rfl (Nat.le_of_ble_eq_true rfl) (Nat.le_of_ble_eq_true rfl) (by omega) (by omega) (by omega) d_M_reply_112 rfl ?_
      refine c_M_code hm (by omega) (fun I3 ho3 hf3 => ?_)
      show cn_V l en mi_M_reply d 0 0 S I3 P Q 115 [(0, .ref 155), (1, .int (g.getD 0 0))] []
      refine cn_vret rfl d_M_reply_115 ?_
      have e : sp_serve (ns, xs, (ps, pn)) g = (nI 2, [], ns, xs, (ps, pn)) := by unfold sp_serve; rw [if_neg (by omega), if_neg hk29_1, if_neg hk29_2, if_neg hk29_3, if_neg hk29_4, if_neg hk29_5, if_neg hk29_6]
      rw [e] at K
      have h93 := h92.out hf3 ho3
      exact K I3 ⟨h93.1, h93.2.1, h93.2.2.1, h93.2.2.2.1.mono (by omega), h93.2.2.2.2⟩ (hv2.tr hf3.toV)
  · refine cn_vret rfl d_M_reply_22 ?_
    have e : sp_serve (ns, xs, (ps, pn)) g = (nI 1, [], ns, xs, (ps, pn)) := by unfold sp_serve; rw [if_pos (by omega)]
    rw [e] at K
    exact K I1 ⟨h91.1, h91.2.1, h91.2.2.1, h91.2.2.2.1.mono (by omega), h91.2.2.2.2⟩ hv1
theorem c_M_follows {seq : Int32} (hm : wM S P) (hC : mC I ch) (hs : ¬ seq < 0) (K : Q (some (.int (nI (!(ch.2.1 && !sp_next ch.2.2.1 seq)).toNat))) S I P) : cn_V l en mi_M_follows d 0 0 S I P Q 0 [(0, .ref 155), (1, .int seq)] [] := by
  have hb := tn_le ch.2.1
  have hs0 : (0 : Int32) ≤ seq := Int32.not_lt.mp hs
  refine cn_aload_n (pc' := 1) (k := 0) rfl rfl d_M_follows_0 rfl ?_
  refine cn_getIv (pc' := 4) (v := nI (ch.2.1.toNat)) hC.2.1 fl_M_76 hm.1 rfl d_M_follows_1 rfl ?_
  refine cn_if_eq_n (tgt := 36) (pc' := 7) (by omega) d_M_follows_4 (by decide) rfl (fun hc4 => ?_) (fun hc4 => ?_)
  · refine cn_iconst (pc' := 37) k_c_1 d_M_follows_36 rfl ?_
    refine cn_goto (tgt := 41) d_M_follows_37 (by decide) ?_
    refine cn_zret rfl (Or.inr rfl) d_M_follows_41 ?_
    have e : (!(ch.2.1 && !sp_next ch.2.2.1 seq)) = true := by rw [tn_0 hc4]; rfl
    rw [e] at K; exact K
  · refine cn_iload_n (pc' := 8) (k := 1) rfl rfl d_M_follows_7 rfl ?_
    refine cn_i2l (pc' := 9) d_M_follows_8 rfl ?_
    refine cn_aload_n (pc' := 10) (k := 0) rfl rfl d_M_follows_9 rfl ?_
    refine cn_getIv (pc' := 13) (v := ch.2.2.1) hC.2.2.1 fl_M_137 hm.1 rfl d_M_follows_10 rfl ?_
    refine cn_i2l (pc' := 14) d_M_follows_13 rfl ?_
    refine cn_lconst (pc' := 15) (v := 1) (by decide +kernel) d_M_follows_14 rfl ?_
    refine cn_ladd (pc' := 16) d_M_follows_15 rfl ?_
    refine cn_lcmp (pc' := 17) d_M_follows_16 rfl ?_
    refine cn_if_eq (tgt := 36) (pc' := 20) d_M_follows_17 (by decide) rfl (fun hc17 => ?_) (fun hc17 => ?_)
    · refine cn_iconst (pc' := 37) k_c_1 d_M_follows_36 rfl ?_
      refine cn_goto (tgt := 41) d_M_follows_37 (by decide) ?_
      refine cn_zret rfl (Or.inr rfl) d_M_follows_41 ?_
      have e : (!(ch.2.1 && !sp_next ch.2.2.1 seq)) = true := by rw [show sp_next ch.2.2.1 seq = true by unfold sp_next; rw [decide_eq_true ((nxt_l hs).mp (lcmp0.mp hc17))]; rfl]; simp
      rw [e] at K; exact K
    · refine cn_aload_n (pc' := 21) (k := 0) rfl rfl d_M_follows_20 rfl ?_
      refine cn_getIv (pc' := 24) (v := ch.2.2.1) hC.2.2.1 fl_M_137 hm.1 rfl d_M_follows_21 rfl ?_
      refine cn_sipush (pc' := 27) k_s_1000 d_M_follows_24 rfl ?_
      refine cn_icmp_lt (tgt := 40) (pc' := 30) d_M_follows_27 (by decide) rfl (fun hc27 => ?_) (fun hc27 => ?_)
      · refine cn_iconst (pc' := 41) k_c_0 d_M_follows_40 rfl ?_
        refine cn_zret rfl (Or.inl rfl) d_M_follows_41 ?_
        have e : (!(ch.2.1 && !sp_next ch.2.2.1 seq)) = false := by rw [tn_1 hc4, show sp_next ch.2.2.1 seq = false by unfold sp_next; rw [decide_eq_false (fun h => hc17 (lcmp0.mpr ((nxt_l hs).mpr h))), decide_eq_false (Int32.not_le.mpr hc27)]; rfl]; rfl
        rw [e] at K; exact K
      · refine cn_iload_n (pc' := 31) (k := 1) rfl rfl d_M_follows_30 rfl ?_
        refine cn_bipush (pc' := 33) k_b_9 d_M_follows_31 rfl ?_
        refine cn_icmp_gt (tgt := 40) (pc' := 36) d_M_follows_33 (by decide) rfl (fun hc33 => ?_) (fun hc33 => ?_)
        · refine cn_iconst (pc' := 41) k_c_0 d_M_follows_40 rfl ?_
          refine cn_zret rfl (Or.inl rfl) d_M_follows_41 ?_
          have e : (!(ch.2.1 && !sp_next ch.2.2.1 seq)) = false := by rw [tn_1 hc4, show sp_next ch.2.2.1 seq = false by unfold sp_next; rw [decide_eq_false (fun h => hc17 (lcmp0.mpr ((nxt_l hs).mpr h))), decide_eq_false (Int32.not_le.mpr hc33)]; simp]; rfl
          rw [e] at K; exact K
        · refine cn_iconst (pc' := 37) k_c_1 d_M_follows_36 rfl ?_
          refine cn_goto (tgt := 41) d_M_follows_37 (by decide) ?_
          refine cn_zret rfl (Or.inr rfl) d_M_follows_41 ?_
          have e : (!(ch.2.1 && !sp_next ch.2.2.1 seq)) = true := by rw [show sp_next ch.2.2.1 seq = true by unfold sp_next; rw [decide_eq_true (Int32.not_lt.mp hc27), decide_eq_true hs0, decide_eq_true (Int32.not_lt.mp hc33)]; simp]; simp
          rw [e] at K; exact K
theorem c_M_chunk_183 {kd ct b nb : Nat} {seq req : Int32} {x : Int64} (hm : wM S P) (hb : b + ct ≤ 64) (hct : ct ≤ 8) (I0 : cn_I) (K : ∀ I', (∀ j, j < ct → I' 171 (b + j) = lby x j) → (∀ a j, (a ≠ 171 ∨ j < b) → I' a j = I0 a j) → cn_V l en mi_M_chunk d 0 0 S I' P Q 219 [(0, .ref 155), (1, .int (nI kd)), (2, .int seq), (3, .int req), (4, .long x), (6, .int (nI ct)), (7, .int (nI b)), (8, .int (nI nb)), (9, .int (nI ct))] []) : ∀ (r k : Nat) (I : cn_I), k + r = ct → (∀ j, j < k → I 171 (b + j) = lby x j) → (∀ a j, (a ≠ 171 ∨ j < b) → I a j = I0 a j) → cn_V l en mi_M_chunk d 0 0 S I P Q 183 [(0, .ref 155), (1, .int (nI kd)), (2, .int seq), (3, .int req), (4, .long x), (6, .int (nI ct)), (7, .int (nI b)), (8, .int (nI nb)), (9, .int (nI k))] [] := by
  intro r
  induction r with
  | zero =>
    intro k I hkr h1 hf
    refine cn_iload (pc' := 185) (k := 8) rfl d_M_chunk_183 rfl ?_
    refine cn_iload (pc' := 187) (k := 5) rfl d_M_chunk_185 rfl ?_
    refine cn_icmp_ge_n (tgt := 219) (pc' := 190) (by omega) (by omega) d_M_chunk_187 (by decide) rfl (fun hc187 => ?_) (fun hc187 => ?_)
    · obtain rfl : k = ct := by omega
      exact K I h1 hf
    · exact absurd hc187 (by omega)
  | succ r ih =>
    intro k I hkr h1 hf
    refine cn_iload (pc' := 185) (k := 8) rfl d_M_chunk_183 rfl ?_
    refine cn_iload (pc' := 187) (k := 5) rfl d_M_chunk_185 rfl ?_
    refine cn_icmp_ge_n (tgt := 219) (pc' := 190) (by omega) (by omega) d_M_chunk_187 (by decide) rfl (fun hc187 => ?_) (fun hc187 => ?_)
    · exact absurd hc187 (by omega)
    · refine cn_aload_n (pc' := 191) (k := 0) rfl rfl d_M_chunk_190 rfl ?_
      refine cn_getP (pc' := 194) (b := 171) (hm.2.1 26 171 rfl) fl_M_60 hm.1 rfl d_M_chunk_191 rfl ?_
      refine cn_iload (pc' := 196) (k := 6) rfl d_M_chunk_194 rfl ?_
      refine cn_iload (pc' := 198) (k := 8) rfl d_M_chunk_196 rfl ?_
      refine cn_iadd_n (pc' := 199) d_M_chunk_198 rfl ?_
      refine cn_lload (pc' := 201) (k := 4) rfl d_M_chunk_199 rfl ?_
      refine cn_bipush (pc' := 203) k_b_8 d_M_chunk_201 rfl ?_
      refine cn_iload (pc' := 205) (k := 8) rfl d_M_chunk_203 rfl ?_
      refine cn_imul_n (pc' := 206) d_M_chunk_205 rfl ?_
      refine cn_lshr (pc' := 207) d_M_chunk_206 rfl ?_
      refine cn_ldc2 (pc' := 210) w_k_M_105 d_M_chunk_207 rfl ?_
      refine cn_land (pc' := 211) d_M_chunk_210 rfl ?_
      refine cn_l2i (pc' := 212) d_M_chunk_211 rfl ?_
      refine cn_iast (pc' := 213) (hm.2.2 171 0 64 rfl) (by omega) (by decide) d_M_chunk_212 rfl ?_
      refine cn_iinc_n (pc' := 216) (lv' := [(0, .ref 155), (1, .int (nI (kd))), (2, .int (seq)), (3, .int (req)), (4, .long (x)), (6, .int (nI (ct))), (7, .int (nI (b))), (8, .int (nI (nb))), (9, .int (nI (k + 1)))]) (k := 8) [1, 2, 3, 4, 5, 6, 7, 8, 0] rfl (Nat.le_of_ble_eq_true rfl) rfl d_M_chunk_213 rfl ?_
      refine cn_goto (tgt := 183) d_M_chunk_216 (by decide) ?_
      rw [mby]
      refine ih (k + 1) _ (by omega) (fun j hj => ?_) (fun a j y => by rw [mw_o (by omega)]; exact hf a j y)
      by_cases e : j = k
      · subst e; exact mw_e
      · rw [mw_o (by omega)]; exact h1 j (by omega)
theorem C_M_chunk {kind seq req cnt : Int32} {x : Int64} (h : RM S I P T (ns, xs, (ps, pn), ch, (rq, ru))) (hT : T < 1000000) (hd1 : 7 ≤ d) (K : ∀ (I' : cn_I), RM S I' P (T + 1) (sp_chunk (ns, xs, (ps, pn), ch, (rq, ru)) kind seq req x cnt).2 → frM I I' → Q (some (.int (sp_chunk (ns, xs, (ps, pn), ch, (rq, ru)) kind seq req x cnt).1)) S I' P) : cn_V l en mi_M_chunk d 0 0 S I P Q 0 [(0, .ref 155), (1, .int kind), (2, .int seq), (3, .int req), (4, .long x), (6, .int cnt)] [] := by
  have h9 := h
  obtain ⟨hm, hN, hJ, hS, hp, hC, hA⟩ := h
  have hN : mN I ns := hN
  have hJ : mI I xs := hJ
  have hS : mS I ps pn := hS
  have hp : pOK ps pn T := hp
  have hC : mC I ch := hC
  have hA : mA I (rq, ru) := hA
  have hl16 := hN.2.1
  have hl6 := hJ.2.1
  have hl3 := hS.2.1
  have hb1 := tn_le (!ch.1)
  have hp1 : pOK ps pn (T + 1) := hp.mono (by omega)
  refine cn_aload_n (pc' := 1) (k := 0) rfl rfl d_M_chunk_0 rfl ?_
  refine cn_getIv (pc' := 4) (v := nI ((!ch.1).toNat)) hC.1 fl_M_72 hm.1 rfl d_M_chunk_1 rfl ?_
  refine cn_if_ne_n (tgt := 36) (pc' := 7) (by omega) d_M_chunk_4 (by decide) rfl (fun hc4 => ?_) (fun hc4 => ?_)
  · refine cn_iconst (pc' := 37) k_c_m1 d_M_chunk_36 rfl ?_
    refine cn_iret rfl d_M_chunk_37 ?_
    have hbad : sp_bad ch kind seq req cnt = true := by unfold sp_bad; rw [show ch.1 = false by have := tn_1 hc4; simpa using this]; simp
    have e : sp_chunk (ns, xs, (ps, pn), ch, (rq, ru)) kind seq req x cnt = (-1, (ns, xs, (ps, pn), ch, (rq, ru))) := by unfold sp_chunk; rw [if_pos hbad]
    rw [e] at K
    exact K I ⟨hm, hN, hJ, hS, hp1, hC, hA⟩ frM.rf
  · refine cn_iload_n (pc' := 8) (k := 1) rfl rfl d_M_chunk_7 rfl ?_
    refine cn_if_lt (tgt := 36) (pc' := 11) d_M_chunk_8 (by decide) rfl (fun hc8 => ?_) (fun hc8 => ?_)
    · refine cn_iconst (pc' := 37) k_c_m1 d_M_chunk_36 rfl ?_
      refine cn_iret rfl d_M_chunk_37 ?_
      have hbad : sp_bad ch kind seq req cnt = true := by unfold sp_bad; rw [decide_eq_true hc8]; simp
      have e : sp_chunk (ns, xs, (ps, pn), ch, (rq, ru)) kind seq req x cnt = (-1, (ns, xs, (ps, pn), ch, (rq, ru))) := by unfold sp_chunk; rw [if_pos hbad]
      rw [e] at K
      exact K I ⟨hm, hN, hJ, hS, hp1, hC, hA⟩ frM.rf
    · refine cn_iload_n (pc' := 12) (k := 1) rfl rfl d_M_chunk_11 rfl ?_
      refine cn_iconst (pc' := 13) k_c_2 d_M_chunk_12 rfl ?_
      refine cn_icmp_gt (tgt := 36) (pc' := 16) d_M_chunk_13 (by decide) rfl (fun hc13 => ?_) (fun hc13 => ?_)
      · refine cn_iconst (pc' := 37) k_c_m1 d_M_chunk_36 rfl ?_
        refine cn_iret rfl d_M_chunk_37 ?_
        have hbad : sp_bad ch kind seq req cnt = true := by unfold sp_bad; rw [decide_eq_true hc13]; simp
        have e : sp_chunk (ns, xs, (ps, pn), ch, (rq, ru)) kind seq req x cnt = (-1, (ns, xs, (ps, pn), ch, (rq, ru))) := by unfold sp_chunk; rw [if_pos hbad]
        rw [e] at K
        exact K I ⟨hm, hN, hJ, hS, hp1, hC, hA⟩ frM.rf
      · refine cn_iload_n (pc' := 17) (k := 2) rfl rfl d_M_chunk_16 rfl ?_
        refine cn_if_lt (tgt := 36) (pc' := 20) d_M_chunk_17 (by decide) rfl (fun hc17 => ?_) (fun hc17 => ?_)
        · refine cn_iconst (pc' := 37) k_c_m1 d_M_chunk_36 rfl ?_
          refine cn_iret rfl d_M_chunk_37 ?_
          have hbad : sp_bad ch kind seq req cnt = true := by unfold sp_bad; rw [decide_eq_true hc17]; simp
          have e : sp_chunk (ns, xs, (ps, pn), ch, (rq, ru)) kind seq req x cnt = (-1, (ns, xs, (ps, pn), ch, (rq, ru))) := by unfold sp_chunk; rw [if_pos hbad]
          rw [e] at K
          exact K I ⟨hm, hN, hJ, hS, hp1, hC, hA⟩ frM.rf
        · refine cn_iload_n (pc' := 21) (k := 3) rfl rfl d_M_chunk_20 rfl ?_
          refine cn_if_lt (tgt := 36) (pc' := 24) d_M_chunk_21 (by decide) rfl (fun hc21 => ?_) (fun hc21 => ?_)
          · refine cn_iconst (pc' := 37) k_c_m1 d_M_chunk_36 rfl ?_
            refine cn_iret rfl d_M_chunk_37 ?_
            have hbad : sp_bad ch kind seq req cnt = true := by unfold sp_bad; rw [decide_eq_true hc21]; simp
            have e : sp_chunk (ns, xs, (ps, pn), ch, (rq, ru)) kind seq req x cnt = (-1, (ns, xs, (ps, pn), ch, (rq, ru))) := by unfold sp_chunk; rw [if_pos hbad]
            rw [e] at K
            exact K I ⟨hm, hN, hJ, hS, hp1, hC, hA⟩ frM.rf
          · refine cn_iload (pc' := 26) (k := 5) rfl d_M_chunk_24 rfl ?_
            refine cn_if_lt (tgt := 36) (pc' := 29) d_M_chunk_26 (by decide) rfl (fun hc26 => ?_) (fun hc26 => ?_)
            · refine cn_iconst (pc' := 37) k_c_m1 d_M_chunk_36 rfl ?_
              refine cn_iret rfl d_M_chunk_37 ?_
              have hbad : sp_bad ch kind seq req cnt = true := by unfold sp_bad; rw [decide_eq_true hc26]; simp
              have e : sp_chunk (ns, xs, (ps, pn), ch, (rq, ru)) kind seq req x cnt = (-1, (ns, xs, (ps, pn), ch, (rq, ru))) := by unfold sp_chunk; rw [if_pos hbad]
              rw [e] at K
              exact K I ⟨hm, hN, hJ, hS, hp1, hC, hA⟩ frM.rf
            · refine cn_iload (pc' := 31) (k := 5) rfl d_M_chunk_29 rfl ?_
              refine cn_bipush (pc' := 33) k_b_8 d_M_chunk_31 rfl ?_
              refine cn_icmp_le (tgt := 38) (pc' := 36) d_M_chunk_33 (by decide) rfl (fun hc33 => ?_) (fun hc33 => ?_)
              · have hlv : ch.1 = true := by have := tn_0 hc4; simpa using this
                have hbad : sp_bad ch kind seq req cnt = false := by unfold sp_bad; rw [hlv, decide_eq_false hc8, decide_eq_false hc13, decide_eq_false hc17, decide_eq_false hc21, decide_eq_false hc26, decide_eq_false (show ¬ nI 8 < cnt from fun h => absurd hc33 (Int32.not_le.mpr h))]; rfl
                obtain ⟨kd, hkd, rfl⟩ := nI_of hc8
                obtain ⟨ct, hct, rfl⟩ := nI_of hc26
                have hkd2 : kd ≤ 2 := by have := mt (nI_ltI (a := 2) (b := kd) (by omega) hkd).mpr hc13; omega
                have hct8 : ct ≤ 8 := (nI_leI hct (by omega)).mp hc33
                have e0 : sp_chunk (ns, xs, (ps, pn), ch, (rq, ru)) (nI kd) seq req x (nI ct) = (if sp_close ch kd seq req ct = true then (nI 2, ns, xs, (ps, pn), (false, ch.2.1, ch.2.2.1, none, ch.2.2.2.2), (rq, ru)) else if ¬ nI kd = nI 1 then (nI 0, ns, xs, (ps, pn), sp_take ch kd seq req x ct, (rq, ru)) else (nI 1, (sp_serve (ns, xs, (ps, pn)) (sp_take ch kd seq req x ct).2.2.2.2).2.2.1, (sp_serve (ns, xs, (ps, pn)) (sp_take ch kd seq req x ct).2.2.2.2).2.2.2.1, (sp_serve (ns, xs, (ps, pn)) (sp_take ch kd seq req x ct).2.2.2.2).2.2.2.2, sp_take ch kd seq req x ct, (req, (sp_serve (ns, xs, (ps, pn)) (sp_take ch kd seq req x ct).2.2.2.2).1 :: (sp_serve (ns, xs, (ps, pn)) (sp_take ch kd seq req x ct).2.2.2.2).2.1))) := by unfold sp_chunk; rw [if_neg (by rw [hbad]; decide), nI_clamp hkd, nI_clamp hct]
                rw [e0] at K
                have hbf := tn_le (!(ch.2.1 && !sp_next ch.2.2.1 seq))
                have hk3 : kd = 0 ∨ kd = 1 ∨ kd = 2 := by omega
                cases hq : ch.2.2.2.1 with
                | none =>
                  have hin : I 155 22 = nI 0 := by have := hC.2.2.2.1; rw [hq] at this; exact this
                  rcases hk3 with rfl | rfl | rfl
                  · show cn_V l en mi_M_chunk d 0 0 S I P Q 38 [(0, .ref 155), (1, .int (nI (0))), (2, .int (seq)), (3, .int (req)), (4, .long (x)), (6, .int (nI (ct)))] []
                    refine cn_aload_n (pc' := 39) (k := 0) rfl rfl d_M_chunk_38 rfl ?_
                    refine cn_getIv (pc' := 42) (v := nI (0)) hin fl_M_79 hm.1 rfl d_M_chunk_39 rfl ?_
                    refine cn_if_eq_n (tgt := 52) (pc' := 45) (by omega) d_M_chunk_42 (by decide) rfl (fun hc42 => ?_) (fun hc42 => ?_)
                    · refine cn_iconst (pc' := 53) k_c_0 d_M_chunk_52 rfl ?_
                      refine cn_istore (pc' := 55) (lv' := [(0, .ref 155), (1, .int (nI (0))), (2, .int (seq)), (3, .int (req)), (4, .long (x)), (6, .int (nI (ct))), (7, .int (nI (0)))]) [1, 2, 3, 4, 5, 6, 0] (Nat.le_of_ble_eq_true rfl) rfl d_M_chunk_53 rfl ?_
                      refine cn_aload_n (pc' := 56) (k := 0) rfl rfl d_M_chunk_55 rfl ?_
                      refine cn_getIv (pc' := 59) (v := nI (0)) hin fl_M_79 hm.1 rfl d_M_chunk_56 rfl ?_
                      refine cn_if_eq_n (tgt := 69) (pc' := 62) (by omega) d_M_chunk_59 (by decide) rfl (fun hc59 => ?_) (fun hc59 => ?_)
                      · refine cn_iconst (pc' := 70) k_c_0 d_M_chunk_69 rfl ?_
                        refine cn_istore (pc' := 72) (lv' := [(0, .ref 155), (1, .int (nI (0))), (2, .int (seq)), (3, .int (req)), (4, .long (x)), (6, .int (nI (ct))), (7, .int (nI (0))), (8, .int (nI (0)))]) [1, 2, 3, 4, 5, 6, 7, 0] (Nat.le_of_ble_eq_true rfl) rfl d_M_chunk_70 rfl ?_
                        refine cn_aload_n (pc' := 73) (k := 0) rfl rfl d_M_chunk_72 rfl ?_
                        refine cn_iload_n (pc' := 74) (k := 2) rfl rfl d_M_chunk_73 rfl ?_
                        refine cn_callV (pc' := 77) (kc1 := 0) (ks1 := 0) (kc2 := 0) (ks2 := 0) (rest := []) (lvj := [(0, .ref 155), (1, .int (seq))]) [.int (seq)] mv_M_146 hm.1 rfl rfl rfl (Nat.le_of_ble_eq_true rfl) (Nat.le_of_ble_eq_true rfl) (by omega) (by omega) (by omega) d_M_chunk_74 rfl ?_
                        refine c_M_follows hm hC hc17 ?_
                        show cn_V l en mi_M_chunk d 0 0 S I P Q 77 [(0, .ref 155), (1, .int (nI (0))), (2, .int (seq)), (3, .int (req)), (4, .long (x)), (6, .int (nI (ct))), (7, .int (nI (0))), (8, .int (nI (0)))] [.int (nI ((!(ch.2.1 && !sp_next ch.2.2.1 seq)).toNat))]
                        refine cn_if_eq_n (tgt := 119) (pc' := 80) (by omega) d_M_chunk_77 (by decide) rfl (fun hc77 => ?_) (fun hc77 => ?_)
                        · refine cn_aload_n (pc' := 120) (k := 0) rfl rfl d_M_chunk_119 rfl ?_
                          refine cn_iconst (pc' := 121) k_c_1 d_M_chunk_120 rfl ?_
                          refine cn_putI (pc' := 124) fl_M_72 hm.1 rfl rfl rfl rfl d_M_chunk_121 rfl ?_
                          refine cn_aload_n (pc' := 125) (k := 0) rfl rfl d_M_chunk_124 rfl ?_
                          refine cn_iconst (pc' := 126) k_c_0 d_M_chunk_125 rfl ?_
                          refine cn_putI (pc' := 129) fl_M_79 hm.1 rfl rfl rfl rfl d_M_chunk_126 rfl ?_
                          refine cn_iconst (pc' := 130) k_c_2 d_M_chunk_129 rfl ?_
                          refine cn_iret rfl d_M_chunk_130 ?_
                          have ecl : sp_close ch 0 seq req ct = true := by unfold sp_close; rw [show (ch.2.1 && !sp_next ch.2.2.1 seq) = true from nt_t (tn_0 hc77)]; rfl
                          rw [if_pos ecl] at K
                          have hrow : ∀ a j, (a ≠ 155 ∨ (j ≠ 0 ∧ j ≠ 22)) → ((cn_wi (cn_wi I 155 0 (nI (1))) 155 22 (nI (0)))) a j = I a j := fun a j y => by rw [mw_o (by omega), mw_o (by omega)]
                          exact K _ ⟨hm, hN.congr (fun a j y => hrow a j (by omega)), hJ.congr (fun a j y => hrow a j (by omega)), hS.congr (fun a j y => hrow a j (by omega)), hp1, mC_c (I := I) (ch := ch) (mw_k (by decide) mw_e) ((hrow _ _ (by omega)).trans hC.2.1) ((hrow _ _ (by omega)).trans hC.2.2.1) mw_e rfl, hA.congr (fun a j y => hrow a j (by omega))⟩ (fun a y => by funext j; exact hrow a j (by omega))
                        · refine cn_aload_n (pc' := 81) (k := 0) rfl rfl d_M_chunk_80 rfl ?_
                          refine cn_getIv (pc' := 84) (v := nI (0)) hin fl_M_79 hm.1 rfl d_M_chunk_81 rfl ?_
                          refine cn_if_eq_n (tgt := 95) (pc' := 87) (by omega) d_M_chunk_84 (by decide) rfl (fun hc84 => ?_) (fun hc84 => ?_)
                          · refine cn_iload_n (pc' := 96) (k := 1) rfl rfl d_M_chunk_95 rfl ?_
                            refine cn_iconst (pc' := 97) k_c_2 d_M_chunk_96 rfl ?_
                            refine cn_icmp_eq_n (tgt := 131) (pc' := 100) (by omega) (by omega) d_M_chunk_97 (by decide) rfl (fun hc97 => ?_) (fun hc97 => ?_)
                            · exact False.elim (by omega)
                            · refine cn_iload (pc' := 102) (k := 6) rfl d_M_chunk_100 rfl ?_
                              refine cn_iload (pc' := 104) (k := 5) rfl d_M_chunk_102 rfl ?_
                              refine cn_iadd_n (pc' := 105) d_M_chunk_104 rfl ?_
                              refine cn_bipush (pc' := 107) k_b_64 d_M_chunk_105 rfl ?_
                              refine cn_icmp_gt_n (tgt := 119) (pc' := 110) (by omega) (by omega) d_M_chunk_107 (by decide) rfl (fun hc107 => ?_) (fun hc107 => ?_)
                              · exact absurd hc107 (by omega)
                              · refine cn_iload (pc' := 112) (k := 7) rfl d_M_chunk_110 rfl ?_
                                refine cn_iconst (pc' := 113) k_c_1 d_M_chunk_112 rfl ?_
                                refine cn_iadd_n (pc' := 114) d_M_chunk_113 rfl ?_
                                refine cn_bipush (pc' := 116) k_b_12 d_M_chunk_114 rfl ?_
                                refine cn_icmp_le_n (tgt := 131) (pc' := 119) (by omega) (by omega) d_M_chunk_116 (by decide) rfl (fun hc116 => ?_) (fun hc116 => ?_)
                                · refine cn_aload_n (pc' := 132) (k := 0) rfl rfl d_M_chunk_131 rfl ?_
                                  refine cn_iconst (pc' := 133) k_c_1 d_M_chunk_132 rfl ?_
                                  refine cn_putI (pc' := 136) fl_M_76 hm.1 rfl rfl rfl rfl d_M_chunk_133 rfl ?_
                                  refine cn_aload_n (pc' := 137) (k := 0) rfl rfl d_M_chunk_136 rfl ?_
                                  refine cn_iload_n (pc' := 138) (k := 2) rfl rfl d_M_chunk_137 rfl ?_
                                  refine cn_putI (pc' := 141) fl_M_137 hm.1 rfl rfl rfl rfl d_M_chunk_138 rfl ?_
                                  refine cn_iload_n (pc' := 142) (k := 1) rfl rfl d_M_chunk_141 rfl ?_
                                  refine cn_iconst (pc' := 143) k_c_2 d_M_chunk_142 rfl ?_
                                  refine cn_icmp_ne_n (tgt := 153) (pc' := 146) (by omega) (by omega) d_M_chunk_143 (by decide) rfl (fun hc143 => ?_) (fun hc143 => ?_)
                                  · refine cn_aload_n (pc' := 154) (k := 0) rfl rfl d_M_chunk_153 rfl ?_
                                    refine cn_iconst (pc' := 155) k_c_1 d_M_chunk_154 rfl ?_
                                    refine cn_putI (pc' := 158) fl_M_79 hm.1 rfl rfl rfl rfl d_M_chunk_155 rfl ?_
                                    refine cn_aload_n (pc' := 159) (k := 0) rfl rfl d_M_chunk_158 rfl ?_
                                    refine cn_iload_n (pc' := 160) (k := 3) rfl rfl d_M_chunk_159 rfl ?_
                                    refine cn_putI (pc' := 163) fl_M_149 hm.1 rfl rfl rfl rfl d_M_chunk_160 rfl ?_
                                    refine cn_aload_n (pc' := 164) (k := 0) rfl rfl d_M_chunk_163 rfl ?_
                                    refine cn_iload (pc' := 166) (k := 7) rfl d_M_chunk_164 rfl ?_
                                    refine cn_iconst (pc' := 167) k_c_1 d_M_chunk_166 rfl ?_
                                    refine cn_iadd_n (pc' := 168) d_M_chunk_167 rfl ?_
                                    refine cn_putI (pc' := 171) fl_M_143 hm.1 rfl rfl rfl rfl d_M_chunk_168 rfl ?_
                                    refine cn_aload_n (pc' := 172) (k := 0) rfl rfl d_M_chunk_171 rfl ?_
                                    refine cn_iload (pc' := 174) (k := 6) rfl d_M_chunk_172 rfl ?_
                                    refine cn_iload (pc' := 176) (k := 5) rfl d_M_chunk_174 rfl ?_
                                    refine cn_iadd_n (pc' := 177) d_M_chunk_176 rfl ?_
                                    refine cn_putI (pc' := 180) fl_M_140 hm.1 rfl rfl rfl rfl d_M_chunk_177 rfl ?_
                                    refine cn_iconst (pc' := 181) k_c_0 d_M_chunk_180 rfl ?_
                                    refine cn_istore (pc' := 183) (lv' := [(0, .ref 155), (1, .int (nI (0))), (2, .int (seq)), (3, .int (req)), (4, .long (x)), (6, .int (nI (ct))), (7, .int (nI (0))), (8, .int (nI (0))), (9, .int (nI (0)))]) [1, 2, 3, 4, 5, 6, 7, 8, 0] (Nat.le_of_ble_eq_true rfl) rfl d_M_chunk_181 rfl ?_
                                    have hfol : (ch.2.1 && !sp_next ch.2.2.1 seq) = false := nt_f (tn_1 hc77)
                                    have ecl : sp_close ch 0 seq req ct = false := by unfold sp_close; rw [hfol, hq]; rfl
                                    rw [if_neg (by rw [ecl]; decide), if_pos (by decide)] at K
                                    have etk : sp_take ch 0 seq req x ct = (ch.1, true, seq, some (req, 1), lbs x ct) := by unfold sp_take; rw [if_neg (by decide), hq]; rfl
                                    rw [etk] at K
                                    have hrow0 : ∀ a j, (a ≠ 155 ∨ j < 20 ∨ 25 < j) → ((cn_wi (cn_wi (cn_wi (cn_wi (cn_wi (cn_wi I 155 20 (nI (1))) 155 21 (seq)) 155 22 (nI (1))) 155 24 (req)) 155 23 (nI (0 + 1))) 155 25 (nI (0 + ct)))) a j = I a j := fun a j y => by rw [mw_o (by omega), mw_o (by omega), mw_o (by omega), mw_o (by omega), mw_o (by omega), mw_o (by omega)]
                                    have f20 : ((cn_wi (cn_wi (cn_wi (cn_wi (cn_wi (cn_wi I 155 20 (nI (1))) 155 21 (seq)) 155 22 (nI (1))) 155 24 (req)) 155 23 (nI (0 + 1))) 155 25 (nI (0 + ct)))) 155 20 = nI (1) := (mw_k (by decide) (mw_k (by decide) (mw_k (by decide) (mw_k (by decide) (mw_k (by decide) mw_e)))))
                                    have f21 : ((cn_wi (cn_wi (cn_wi (cn_wi (cn_wi (cn_wi I 155 20 (nI (1))) 155 21 (seq)) 155 22 (nI (1))) 155 24 (req)) 155 23 (nI (0 + 1))) 155 25 (nI (0 + ct)))) 155 21 = seq := (mw_k (by decide) (mw_k (by decide) (mw_k (by decide) (mw_k (by decide) mw_e))))
                                    have f22 : ((cn_wi (cn_wi (cn_wi (cn_wi (cn_wi (cn_wi I 155 20 (nI (1))) 155 21 (seq)) 155 22 (nI (1))) 155 24 (req)) 155 23 (nI (0 + 1))) 155 25 (nI (0 + ct)))) 155 22 = nI (1) := (mw_k (by decide) (mw_k (by decide) (mw_k (by decide) mw_e)))
                                    have f23 : ((cn_wi (cn_wi (cn_wi (cn_wi (cn_wi (cn_wi I 155 20 (nI (1))) 155 21 (seq)) 155 22 (nI (1))) 155 24 (req)) 155 23 (nI (0 + 1))) 155 25 (nI (0 + ct)))) 155 23 = nI (0 + 1) := (mw_k (by decide) mw_e)
                                    have f24 : ((cn_wi (cn_wi (cn_wi (cn_wi (cn_wi (cn_wi I 155 20 (nI (1))) 155 21 (seq)) 155 22 (nI (1))) 155 24 (req)) 155 23 (nI (0 + 1))) 155 25 (nI (0 + ct)))) 155 24 = req := (mw_k (by decide) (mw_k (by decide) mw_e))
                                    have f25 : ((cn_wi (cn_wi (cn_wi (cn_wi (cn_wi (cn_wi I 155 20 (nI (1))) 155 21 (seq)) 155 22 (nI (1))) 155 24 (req)) 155 23 (nI (0 + 1))) 155 25 (nI (0 + ct)))) 155 25 = nI (0 + ct) := mw_e
                                    refine c_M_chunk_183 (kd := 0) (ct := ct) (b := 0) (nb := 0) (x := x) hm (by omega) hct8 _ (fun I1 hb1 hf1 => ?_) ct 0 _ (by omega) (fun j hj => absurd hj (Nat.not_lt_zero j)) (fun _ _ _ => rfl)
                                    have hrow : ∀ a j, (a ≠ 155 ∨ j < 20 ∨ 25 < j) → a ≠ 171 → I1 a j = I a j := fun a j y z => (hf1 a j (Or.inl z)).trans (hrow0 a j y)
                                    have hrow : ∀ a j, (a ≠ 171 ∧ (a ≠ 155 ∨ j < 20 ∨ 25 < j)) → I1 a j = I a j := fun a j y => hrow a j y.2 y.1
                                    have g20 := (hf1 155 20 (by omega)).trans f20
                                    have g21 := (hf1 155 21 (by omega)).trans f21
                                    have g22 := (hf1 155 22 (by omega)).trans f22
                                    have g23 := (hf1 155 23 (by omega)).trans f23
                                    have g24 := (hf1 155 24 (by omega)).trans f24
                                    have g25 := (hf1 155 25 (by omega)).trans f25
                                    have hml : (lbs x ct).length ≤ 64 := by rw [lbs_len]; omega
                                    have g25 : I1 155 25 = nI (lbs x ct).length := by rw [lbs_len]; rw [Nat.zero_add] at g25; exact g25
                                    have hmb : ∀ j, j < (lbs x ct).length → I1 171 j = (lbs x ct).getD j 0 := fun j hj => by
                                      rw [lbs_len] at hj
                                      rw [lbs_at hj]; have := hb1 j hj; rw [Nat.zero_add] at this; exact this
                                    have hm8 : ∀ j, (lbs x ct).getD j 0 &&& 255 = (lbs x ct).getD j 0 := gd_255 (lbs_255 x ct)
                                    refine cn_iload_n (pc' := 220) (k := 1) rfl rfl d_M_chunk_219 rfl ?_
                                    refine cn_if_ne_n (tgt := 225) (pc' := 223) (by omega) d_M_chunk_220 (by decide) rfl (fun hc220 => ?_) (fun hc220 => ?_)
                                    · exact False.elim (by omega)
                                    · refine cn_iconst (pc' := 224) k_c_0 d_M_chunk_223 rfl ?_
                                      refine cn_iret rfl d_M_chunk_224 ?_
                                      refine K I1 ⟨hm, hN.congr (fun a j y => hrow a j (by omega)), hJ.congr (fun a j y => hrow a j (by omega)), hS.congr (fun a j y => hrow a j (by omega)), hp1, ⟨(hrow _ _ (by omega)).trans hC.1, g20, g21, g22, fun q0 hq0 => ?_⟩, hA.congr (fun a j y => hrow a j (by omega))⟩ (fun a y => by funext j; exact hrow a j (by omega))
                                      obtain rfl := Option.some.inj hq0
                                      exact ⟨g24, g23, show 1 ≤ 12 by decide, g25, hml, hmb, hm8⟩
                                  · exact False.elim (by omega)
                                · exact absurd hc116 (by omega)
                          · exact False.elim (by omega)
                      · exact False.elim (by omega)
                    · exact False.elim (by omega)
                  · show cn_V l en mi_M_chunk d 0 0 S I P Q 38 [(0, .ref 155), (1, .int (nI (1))), (2, .int (seq)), (3, .int (req)), (4, .long (x)), (6, .int (nI (ct)))] []
                    refine cn_aload_n (pc' := 39) (k := 0) rfl rfl d_M_chunk_38 rfl ?_
                    refine cn_getIv (pc' := 42) (v := nI (0)) hin fl_M_79 hm.1 rfl d_M_chunk_39 rfl ?_
                    refine cn_if_eq_n (tgt := 52) (pc' := 45) (by omega) d_M_chunk_42 (by decide) rfl (fun hc42 => ?_) (fun hc42 => ?_)
                    · refine cn_iconst (pc' := 53) k_c_0 d_M_chunk_52 rfl ?_
                      refine cn_istore (pc' := 55) (lv' := [(0, .ref 155), (1, .int (nI (1))), (2, .int (seq)), (3, .int (req)), (4, .long (x)), (6, .int (nI (ct))), (7, .int (nI (0)))]) [1, 2, 3, 4, 5, 6, 0] (Nat.le_of_ble_eq_true rfl) rfl d_M_chunk_53 rfl ?_
                      refine cn_aload_n (pc' := 56) (k := 0) rfl rfl d_M_chunk_55 rfl ?_
                      refine cn_getIv (pc' := 59) (v := nI (0)) hin fl_M_79 hm.1 rfl d_M_chunk_56 rfl ?_
                      refine cn_if_eq_n (tgt := 69) (pc' := 62) (by omega) d_M_chunk_59 (by decide) rfl (fun hc59 => ?_) (fun hc59 => ?_)
                      · refine cn_iconst (pc' := 70) k_c_0 d_M_chunk_69 rfl ?_
                        refine cn_istore (pc' := 72) (lv' := [(0, .ref 155), (1, .int (nI (1))), (2, .int (seq)), (3, .int (req)), (4, .long (x)), (6, .int (nI (ct))), (7, .int (nI (0))), (8, .int (nI (0)))]) [1, 2, 3, 4, 5, 6, 7, 0] (Nat.le_of_ble_eq_true rfl) rfl d_M_chunk_70 rfl ?_
                        refine cn_aload_n (pc' := 73) (k := 0) rfl rfl d_M_chunk_72 rfl ?_
                        refine cn_iload_n (pc' := 74) (k := 2) rfl rfl d_M_chunk_73 rfl ?_
                        refine cn_callV (pc' := 77) (kc1 := 0) (ks1 := 0) (kc2 := 0) (ks2 := 0) (rest := []) (lvj := [(0, .ref 155), (1, .int (seq))]) [.int (seq)] mv_M_146 hm.1 rfl rfl rfl (Nat.le_of_ble_eq_true rfl) (Nat.le_of_ble_eq_true rfl) (by omega) (by omega) (by omega) d_M_chunk_74 rfl ?_
                        refine c_M_follows hm hC hc17 ?_
                        show cn_V l en mi_M_chunk d 0 0 S I P Q 77 [(0, .ref 155), (1, .int (nI (1))), (2, .int (seq)), (3, .int (req)), (4, .long (x)), (6, .int (nI (ct))), (7, .int (nI (0))), (8, .int (nI (0)))] [.int (nI ((!(ch.2.1 && !sp_next ch.2.2.1 seq)).toNat))]
                        refine cn_if_eq_n (tgt := 119) (pc' := 80) (by omega) d_M_chunk_77 (by decide) rfl (fun hc77 => ?_) (fun hc77 => ?_)
                        · refine cn_aload_n (pc' := 120) (k := 0) rfl rfl d_M_chunk_119 rfl ?_
                          refine cn_iconst (pc' := 121) k_c_1 d_M_chunk_120 rfl ?_
                          refine cn_putI (pc' := 124) fl_M_72 hm.1 rfl rfl rfl rfl d_M_chunk_121 rfl ?_
                          refine cn_aload_n (pc' := 125) (k := 0) rfl rfl d_M_chunk_124 rfl ?_
                          refine cn_iconst (pc' := 126) k_c_0 d_M_chunk_125 rfl ?_
                          refine cn_putI (pc' := 129) fl_M_79 hm.1 rfl rfl rfl rfl d_M_chunk_126 rfl ?_
                          refine cn_iconst (pc' := 130) k_c_2 d_M_chunk_129 rfl ?_
                          refine cn_iret rfl d_M_chunk_130 ?_
                          have ecl : sp_close ch 1 seq req ct = true := by unfold sp_close; rw [show (ch.2.1 && !sp_next ch.2.2.1 seq) = true from nt_t (tn_0 hc77)]; rfl
                          rw [if_pos ecl] at K
                          have hrow : ∀ a j, (a ≠ 155 ∨ (j ≠ 0 ∧ j ≠ 22)) → ((cn_wi (cn_wi I 155 0 (nI (1))) 155 22 (nI (0)))) a j = I a j := fun a j y => by rw [mw_o (by omega), mw_o (by omega)]
                          exact K _ ⟨hm, hN.congr (fun a j y => hrow a j (by omega)), hJ.congr (fun a j y => hrow a j (by omega)), hS.congr (fun a j y => hrow a j (by omega)), hp1, mC_c (I := I) (ch := ch) (mw_k (by decide) mw_e) ((hrow _ _ (by omega)).trans hC.2.1) ((hrow _ _ (by omega)).trans hC.2.2.1) mw_e rfl, hA.congr (fun a j y => hrow a j (by omega))⟩ (fun a y => by funext j; exact hrow a j (by omega))
                        · refine cn_aload_n (pc' := 81) (k := 0) rfl rfl d_M_chunk_80 rfl ?_
                          refine cn_getIv (pc' := 84) (v := nI (0)) hin fl_M_79 hm.1 rfl d_M_chunk_81 rfl ?_
                          refine cn_if_eq_n (tgt := 95) (pc' := 87) (by omega) d_M_chunk_84 (by decide) rfl (fun hc84 => ?_) (fun hc84 => ?_)
                          · refine cn_iload_n (pc' := 96) (k := 1) rfl rfl d_M_chunk_95 rfl ?_
                            refine cn_iconst (pc' := 97) k_c_2 d_M_chunk_96 rfl ?_
                            refine cn_icmp_eq_n (tgt := 131) (pc' := 100) (by omega) (by omega) d_M_chunk_97 (by decide) rfl (fun hc97 => ?_) (fun hc97 => ?_)
                            · exact False.elim (by omega)
                            · refine cn_iload (pc' := 102) (k := 6) rfl d_M_chunk_100 rfl ?_
                              refine cn_iload (pc' := 104) (k := 5) rfl d_M_chunk_102 rfl ?_
                              refine cn_iadd_n (pc' := 105) d_M_chunk_104 rfl ?_
                              refine cn_bipush (pc' := 107) k_b_64 d_M_chunk_105 rfl ?_
                              refine cn_icmp_gt_n (tgt := 119) (pc' := 110) (by omega) (by omega) d_M_chunk_107 (by decide) rfl (fun hc107 => ?_) (fun hc107 => ?_)
                              · exact absurd hc107 (by omega)
                              · refine cn_iload (pc' := 112) (k := 7) rfl d_M_chunk_110 rfl ?_
                                refine cn_iconst (pc' := 113) k_c_1 d_M_chunk_112 rfl ?_
                                refine cn_iadd_n (pc' := 114) d_M_chunk_113 rfl ?_
                                refine cn_bipush (pc' := 116) k_b_12 d_M_chunk_114 rfl ?_
                                refine cn_icmp_le_n (tgt := 131) (pc' := 119) (by omega) (by omega) d_M_chunk_116 (by decide) rfl (fun hc116 => ?_) (fun hc116 => ?_)
                                · refine cn_aload_n (pc' := 132) (k := 0) rfl rfl d_M_chunk_131 rfl ?_
                                  refine cn_iconst (pc' := 133) k_c_1 d_M_chunk_132 rfl ?_
                                  refine cn_putI (pc' := 136) fl_M_76 hm.1 rfl rfl rfl rfl d_M_chunk_133 rfl ?_
                                  refine cn_aload_n (pc' := 137) (k := 0) rfl rfl d_M_chunk_136 rfl ?_
                                  refine cn_iload_n (pc' := 138) (k := 2) rfl rfl d_M_chunk_137 rfl ?_
                                  refine cn_putI (pc' := 141) fl_M_137 hm.1 rfl rfl rfl rfl d_M_chunk_138 rfl ?_
                                  refine cn_iload_n (pc' := 142) (k := 1) rfl rfl d_M_chunk_141 rfl ?_
                                  refine cn_iconst (pc' := 143) k_c_2 d_M_chunk_142 rfl ?_
                                  refine cn_icmp_ne_n (tgt := 153) (pc' := 146) (by omega) (by omega) d_M_chunk_143 (by decide) rfl (fun hc143 => ?_) (fun hc143 => ?_)
                                  · refine cn_aload_n (pc' := 154) (k := 0) rfl rfl d_M_chunk_153 rfl ?_
                                    refine cn_iconst (pc' := 155) k_c_1 d_M_chunk_154 rfl ?_
                                    refine cn_putI (pc' := 158) fl_M_79 hm.1 rfl rfl rfl rfl d_M_chunk_155 rfl ?_
                                    refine cn_aload_n (pc' := 159) (k := 0) rfl rfl d_M_chunk_158 rfl ?_
                                    refine cn_iload_n (pc' := 160) (k := 3) rfl rfl d_M_chunk_159 rfl ?_
                                    refine cn_putI (pc' := 163) fl_M_149 hm.1 rfl rfl rfl rfl d_M_chunk_160 rfl ?_
                                    refine cn_aload_n (pc' := 164) (k := 0) rfl rfl d_M_chunk_163 rfl ?_
                                    refine cn_iload (pc' := 166) (k := 7) rfl d_M_chunk_164 rfl ?_
                                    refine cn_iconst (pc' := 167) k_c_1 d_M_chunk_166 rfl ?_
                                    refine cn_iadd_n (pc' := 168) d_M_chunk_167 rfl ?_
                                    refine cn_putI (pc' := 171) fl_M_143 hm.1 rfl rfl rfl rfl d_M_chunk_168 rfl ?_
                                    refine cn_aload_n (pc' := 172) (k := 0) rfl rfl d_M_chunk_171 rfl ?_
                                    refine cn_iload (pc' := 174) (k := 6) rfl d_M_chunk_172 rfl ?_
                                    refine cn_iload (pc' := 176) (k := 5) rfl d_M_chunk_174 rfl ?_
                                    refine cn_iadd_n (pc' := 177) d_M_chunk_176 rfl ?_
                                    refine cn_putI (pc' := 180) fl_M_140 hm.1 rfl rfl rfl rfl d_M_chunk_177 rfl ?_
                                    refine cn_iconst (pc' := 181) k_c_0 d_M_chunk_180 rfl ?_
                                    refine cn_istore (pc' := 183) (lv' := [(0, .ref 155), (1, .int (nI (1))), (2, .int (seq)), (3, .int (req)), (4, .long (x)), (6, .int (nI (ct))), (7, .int (nI (0))), (8, .int (nI (0))), (9, .int (nI (0)))]) [1, 2, 3, 4, 5, 6, 7, 8, 0] (Nat.le_of_ble_eq_true rfl) rfl d_M_chunk_181 rfl ?_
                                    have hfol : (ch.2.1 && !sp_next ch.2.2.1 seq) = false := nt_f (tn_1 hc77)
                                    have ecl : sp_close ch 1 seq req ct = false := by unfold sp_close; rw [hfol, hq]; rfl
                                    rw [if_neg (by rw [ecl]; decide), if_neg (fun h => h rfl)] at K
                                    have etk : sp_take ch 1 seq req x ct = (ch.1, true, seq, none, lbs x ct) := by unfold sp_take; rw [if_neg (by decide), hq]; rfl
                                    rw [etk] at K
                                    have hrow0 : ∀ a j, (a ≠ 155 ∨ j < 20 ∨ 25 < j) → ((cn_wi (cn_wi (cn_wi (cn_wi (cn_wi (cn_wi I 155 20 (nI (1))) 155 21 (seq)) 155 22 (nI (1))) 155 24 (req)) 155 23 (nI (0 + 1))) 155 25 (nI (0 + ct)))) a j = I a j := fun a j y => by rw [mw_o (by omega), mw_o (by omega), mw_o (by omega), mw_o (by omega), mw_o (by omega), mw_o (by omega)]
                                    have f20 : ((cn_wi (cn_wi (cn_wi (cn_wi (cn_wi (cn_wi I 155 20 (nI (1))) 155 21 (seq)) 155 22 (nI (1))) 155 24 (req)) 155 23 (nI (0 + 1))) 155 25 (nI (0 + ct)))) 155 20 = nI (1) := (mw_k (by decide) (mw_k (by decide) (mw_k (by decide) (mw_k (by decide) (mw_k (by decide) mw_e)))))
                                    have f21 : ((cn_wi (cn_wi (cn_wi (cn_wi (cn_wi (cn_wi I 155 20 (nI (1))) 155 21 (seq)) 155 22 (nI (1))) 155 24 (req)) 155 23 (nI (0 + 1))) 155 25 (nI (0 + ct)))) 155 21 = seq := (mw_k (by decide) (mw_k (by decide) (mw_k (by decide) (mw_k (by decide) mw_e))))
                                    have f22 : ((cn_wi (cn_wi (cn_wi (cn_wi (cn_wi (cn_wi I 155 20 (nI (1))) 155 21 (seq)) 155 22 (nI (1))) 155 24 (req)) 155 23 (nI (0 + 1))) 155 25 (nI (0 + ct)))) 155 22 = nI (1) := (mw_k (by decide) (mw_k (by decide) (mw_k (by decide) mw_e)))
                                    have f23 : ((cn_wi (cn_wi (cn_wi (cn_wi (cn_wi (cn_wi I 155 20 (nI (1))) 155 21 (seq)) 155 22 (nI (1))) 155 24 (req)) 155 23 (nI (0 + 1))) 155 25 (nI (0 + ct)))) 155 23 = nI (0 + 1) := (mw_k (by decide) mw_e)
                                    have f24 : ((cn_wi (cn_wi (cn_wi (cn_wi (cn_wi (cn_wi I 155 20 (nI (1))) 155 21 (seq)) 155 22 (nI (1))) 155 24 (req)) 155 23 (nI (0 + 1))) 155 25 (nI (0 + ct)))) 155 24 = req := (mw_k (by decide) (mw_k (by decide) mw_e))
                                    have f25 : ((cn_wi (cn_wi (cn_wi (cn_wi (cn_wi (cn_wi I 155 20 (nI (1))) 155 21 (seq)) 155 22 (nI (1))) 155 24 (req)) 155 23 (nI (0 + 1))) 155 25 (nI (0 + ct)))) 155 25 = nI (0 + ct) := mw_e
                                    refine c_M_chunk_183 (kd := 1) (ct := ct) (b := 0) (nb := 0) (x := x) hm (by omega) hct8 _ (fun I1 hb1 hf1 => ?_) ct 0 _ (by omega) (fun j hj => absurd hj (Nat.not_lt_zero j)) (fun _ _ _ => rfl)
                                    have hrow : ∀ a j, (a ≠ 155 ∨ j < 20 ∨ 25 < j) → a ≠ 171 → I1 a j = I a j := fun a j y z => (hf1 a j (Or.inl z)).trans (hrow0 a j y)
                                    have hrow : ∀ a j, (a ≠ 171 ∧ (a ≠ 155 ∨ j < 20 ∨ 25 < j)) → I1 a j = I a j := fun a j y => hrow a j y.2 y.1
                                    have g20 := (hf1 155 20 (by omega)).trans f20
                                    have g21 := (hf1 155 21 (by omega)).trans f21
                                    have g22 := (hf1 155 22 (by omega)).trans f22
                                    have g23 := (hf1 155 23 (by omega)).trans f23
                                    have g24 := (hf1 155 24 (by omega)).trans f24
                                    have g25 := (hf1 155 25 (by omega)).trans f25
                                    have hml : (lbs x ct).length ≤ 64 := by rw [lbs_len]; omega
                                    have g25 : I1 155 25 = nI (lbs x ct).length := by rw [lbs_len]; rw [Nat.zero_add] at g25; exact g25
                                    have hmb : ∀ j, j < (lbs x ct).length → I1 171 j = (lbs x ct).getD j 0 := fun j hj => by
                                      rw [lbs_len] at hj
                                      rw [lbs_at hj]; have := hb1 j hj; rw [Nat.zero_add] at this; exact this
                                    have hm8 : ∀ j, (lbs x ct).getD j 0 &&& 255 = (lbs x ct).getD j 0 := gd_255 (lbs_255 x ct)
                                    refine cn_iload_n (pc' := 220) (k := 1) rfl rfl d_M_chunk_219 rfl ?_
                                    refine cn_if_ne_n (tgt := 225) (pc' := 223) (by omega) d_M_chunk_220 (by decide) rfl (fun hc220 => ?_) (fun hc220 => ?_)
                                    · refine cn_aload_n (pc' := 226) (k := 0) rfl rfl d_M_chunk_225 rfl ?_
                                      refine cn_iconst (pc' := 227) k_c_0 d_M_chunk_226 rfl ?_
                                      refine cn_putI (pc' := 230) fl_M_79 hm.1 rfl rfl rfl rfl d_M_chunk_227 rfl ?_
                                      refine cn_aload_n (pc' := 231) (k := 0) rfl rfl d_M_chunk_230 rfl ?_
                                      refine cn_iconst (pc' := 232) k_c_1 d_M_chunk_231 rfl ?_
                                      refine cn_putI (pc' := 235) fl_M_91 hm.1 rfl rfl rfl rfl d_M_chunk_232 rfl ?_
                                      refine cn_aload_n (pc' := 236) (k := 0) rfl rfl d_M_chunk_235 rfl ?_
                                      refine cn_iload_n (pc' := 237) (k := 3) rfl rfl d_M_chunk_236 rfl ?_
                                      refine cn_putI (pc' := 240) fl_M_152 hm.1 rfl rfl rfl rfl d_M_chunk_237 rfl ?_
                                      refine cn_aload_n (pc' := 241) (k := 0) rfl rfl d_M_chunk_240 rfl ?_
                                      refine cn_callV (pc' := 244) (kc1 := 0) (ks1 := 0) (kc2 := 0) (ks2 := 0) (rest := []) (lvj := [(0, .ref 155)]) [] mv_M_155 hm.1 rfl rfl rfl (Nat.le_of_ble_eq_true rfl) (Nat.le_of_ble_eq_true rfl) (by omega) (by omega) (by omega) d_M_chunk_241 rfl ?_
                                      have hr3 : ∀ a j, (a ≠ 155 ∨ (j ≠ 22 ∧ j ≠ 33 ∧ j ≠ 34)) → ((cn_wi (cn_wi (cn_wi I1 155 22 (nI (0))) 155 33 (nI (1))) 155 34 (req))) a j = I1 a j := fun a j y => by rw [mw_o (by omega), mw_o (by omega), mw_o (by omega)]
                                      refine c_M_reply (g := lbs x ct) hm (hN.congr (fun a j y => (hr3 a j (by omega)).trans (hrow a j (by omega)))) (hJ.congr (fun a j y => (hr3 a j (by omega)).trans (hrow a j (by omega)))) (hS.congr (fun a j y => (hr3 a j (by omega)).trans (hrow a j (by omega)))) hp ((hr3 _ _ (by omega)).trans g25) hml (fun j hj => (hr3 _ _ (by omega)).trans (hmb j hj)) hm8 hT (by omega) (fun I2 h2 hv2 => ?_)
                                      show cn_V l en mi_M_chunk d 0 0 S I2 P Q 244 [(0, .ref 155), (1, .int (nI (1))), (2, .int (seq)), (3, .int (req)), (4, .long (x)), (6, .int (nI (ct))), (7, .int (nI (0))), (8, .int (nI (0))), (9, .int (nI (ct)))] []
                                      refine cn_iconst (pc' := 245) k_c_1 d_M_chunk_244 rfl ?_
                                      refine cn_iret rfl d_M_chunk_245 ?_
                                      exact K I2 ⟨hm, h2.1, h2.2.1, h2.2.2.1, h2.2.2.2.1, mC_c (I := I) (ch := ch) (by rw [hv2 _ _ (by omega), mw_o (by omega), mw_o (by omega), mw_o (by omega), hrow _ _ (by omega)]; exact hC.1) (by rw [hv2 _ _ (by omega), mw_o (by omega), mw_o (by omega), mw_o (by omega)]; exact g20) (by rw [hv2 _ _ (by omega), mw_o (by omega), mw_o (by omega), mw_o (by omega)]; exact g21) (by rw [hv2 _ _ (by omega), mw_o (by omega), mw_o (by omega)]; exact mw_e) rfl, Or.inl ⟨by rw [hv2 _ _ (by omega), mw_o (by omega)]; exact mw_e, by rw [hv2 _ _ (by omega)]; exact mw_e, h2.2.2.2.2⟩⟩ (fun a y => by funext j; rw [hv2 a j (by omega), mw_o (by omega), mw_o (by omega), mw_o (by omega)]; exact hrow a j (by omega))
                                    · exact False.elim (by omega)
                                  · exact False.elim (by omega)
                                · exact absurd hc116 (by omega)
                          · exact False.elim (by omega)
                      · exact False.elim (by omega)
                    · exact False.elim (by omega)
                  · show cn_V l en mi_M_chunk d 0 0 S I P Q 38 [(0, .ref 155), (1, .int (nI (2))), (2, .int (seq)), (3, .int (req)), (4, .long (x)), (6, .int (nI (ct)))] []
                    refine cn_aload_n (pc' := 39) (k := 0) rfl rfl d_M_chunk_38 rfl ?_
                    refine cn_getIv (pc' := 42) (v := nI (0)) hin fl_M_79 hm.1 rfl d_M_chunk_39 rfl ?_
                    refine cn_if_eq_n (tgt := 52) (pc' := 45) (by omega) d_M_chunk_42 (by decide) rfl (fun hc42 => ?_) (fun hc42 => ?_)
                    · refine cn_iconst (pc' := 53) k_c_0 d_M_chunk_52 rfl ?_
                      refine cn_istore (pc' := 55) (lv' := [(0, .ref 155), (1, .int (nI (2))), (2, .int (seq)), (3, .int (req)), (4, .long (x)), (6, .int (nI (ct))), (7, .int (nI (0)))]) [1, 2, 3, 4, 5, 6, 0] (Nat.le_of_ble_eq_true rfl) rfl d_M_chunk_53 rfl ?_
                      refine cn_aload_n (pc' := 56) (k := 0) rfl rfl d_M_chunk_55 rfl ?_
                      refine cn_getIv (pc' := 59) (v := nI (0)) hin fl_M_79 hm.1 rfl d_M_chunk_56 rfl ?_
                      refine cn_if_eq_n (tgt := 69) (pc' := 62) (by omega) d_M_chunk_59 (by decide) rfl (fun hc59 => ?_) (fun hc59 => ?_)
                      · refine cn_iconst (pc' := 70) k_c_0 d_M_chunk_69 rfl ?_
                        refine cn_istore (pc' := 72) (lv' := [(0, .ref 155), (1, .int (nI (2))), (2, .int (seq)), (3, .int (req)), (4, .long (x)), (6, .int (nI (ct))), (7, .int (nI (0))), (8, .int (nI (0)))]) [1, 2, 3, 4, 5, 6, 7, 0] (Nat.le_of_ble_eq_true rfl) rfl d_M_chunk_70 rfl ?_
                        refine cn_aload_n (pc' := 73) (k := 0) rfl rfl d_M_chunk_72 rfl ?_
                        refine cn_iload_n (pc' := 74) (k := 2) rfl rfl d_M_chunk_73 rfl ?_
                        refine cn_callV (pc' := 77) (kc1 := 0) (ks1 := 0) (kc2 := 0) (ks2 := 0) (rest := []) (lvj := [(0, .ref 155), (1, .int (seq))]) [.int (seq)] mv_M_146 hm.1 rfl rfl rfl (Nat.le_of_ble_eq_true rfl) (Nat.le_of_ble_eq_true rfl) (by omega) (by omega) (by omega) d_M_chunk_74 rfl ?_
                        refine c_M_follows hm hC hc17 ?_
                        show cn_V l en mi_M_chunk d 0 0 S I P Q 77 [(0, .ref 155), (1, .int (nI (2))), (2, .int (seq)), (3, .int (req)), (4, .long (x)), (6, .int (nI (ct))), (7, .int (nI (0))), (8, .int (nI (0)))] [.int (nI ((!(ch.2.1 && !sp_next ch.2.2.1 seq)).toNat))]
                        refine cn_if_eq_n (tgt := 119) (pc' := 80) (by omega) d_M_chunk_77 (by decide) rfl (fun hc77 => ?_) (fun hc77 => ?_)
                        · refine cn_aload_n (pc' := 120) (k := 0) rfl rfl d_M_chunk_119 rfl ?_
                          refine cn_iconst (pc' := 121) k_c_1 d_M_chunk_120 rfl ?_
                          refine cn_putI (pc' := 124) fl_M_72 hm.1 rfl rfl rfl rfl d_M_chunk_121 rfl ?_
                          refine cn_aload_n (pc' := 125) (k := 0) rfl rfl d_M_chunk_124 rfl ?_
                          refine cn_iconst (pc' := 126) k_c_0 d_M_chunk_125 rfl ?_
                          refine cn_putI (pc' := 129) fl_M_79 hm.1 rfl rfl rfl rfl d_M_chunk_126 rfl ?_
                          refine cn_iconst (pc' := 130) k_c_2 d_M_chunk_129 rfl ?_
                          refine cn_iret rfl d_M_chunk_130 ?_
                          have ecl : sp_close ch 2 seq req ct = true := by unfold sp_close; rw [show (ch.2.1 && !sp_next ch.2.2.1 seq) = true from nt_t (tn_0 hc77)]; rfl
                          rw [if_pos ecl] at K
                          have hrow : ∀ a j, (a ≠ 155 ∨ (j ≠ 0 ∧ j ≠ 22)) → ((cn_wi (cn_wi I 155 0 (nI (1))) 155 22 (nI (0)))) a j = I a j := fun a j y => by rw [mw_o (by omega), mw_o (by omega)]
                          exact K _ ⟨hm, hN.congr (fun a j y => hrow a j (by omega)), hJ.congr (fun a j y => hrow a j (by omega)), hS.congr (fun a j y => hrow a j (by omega)), hp1, mC_c (I := I) (ch := ch) (mw_k (by decide) mw_e) ((hrow _ _ (by omega)).trans hC.2.1) ((hrow _ _ (by omega)).trans hC.2.2.1) mw_e rfl, hA.congr (fun a j y => hrow a j (by omega))⟩ (fun a y => by funext j; exact hrow a j (by omega))
                        · refine cn_aload_n (pc' := 81) (k := 0) rfl rfl d_M_chunk_80 rfl ?_
                          refine cn_getIv (pc' := 84) (v := nI (0)) hin fl_M_79 hm.1 rfl d_M_chunk_81 rfl ?_
                          refine cn_if_eq_n (tgt := 95) (pc' := 87) (by omega) d_M_chunk_84 (by decide) rfl (fun hc84 => ?_) (fun hc84 => ?_)
                          · refine cn_iload_n (pc' := 96) (k := 1) rfl rfl d_M_chunk_95 rfl ?_
                            refine cn_iconst (pc' := 97) k_c_2 d_M_chunk_96 rfl ?_
                            refine cn_icmp_eq_n (tgt := 131) (pc' := 100) (by omega) (by omega) d_M_chunk_97 (by decide) rfl (fun hc97 => ?_) (fun hc97 => ?_)
                            · refine cn_aload_n (pc' := 132) (k := 0) rfl rfl d_M_chunk_131 rfl ?_
                              refine cn_iconst (pc' := 133) k_c_1 d_M_chunk_132 rfl ?_
                              refine cn_putI (pc' := 136) fl_M_76 hm.1 rfl rfl rfl rfl d_M_chunk_133 rfl ?_
                              refine cn_aload_n (pc' := 137) (k := 0) rfl rfl d_M_chunk_136 rfl ?_
                              refine cn_iload_n (pc' := 138) (k := 2) rfl rfl d_M_chunk_137 rfl ?_
                              refine cn_putI (pc' := 141) fl_M_137 hm.1 rfl rfl rfl rfl d_M_chunk_138 rfl ?_
                              refine cn_iload_n (pc' := 142) (k := 1) rfl rfl d_M_chunk_141 rfl ?_
                              refine cn_iconst (pc' := 143) k_c_2 d_M_chunk_142 rfl ?_
                              refine cn_icmp_ne_n (tgt := 153) (pc' := 146) (by omega) (by omega) d_M_chunk_143 (by decide) rfl (fun hc143 => ?_) (fun hc143 => ?_)
                              · exact False.elim (by omega)
                              · refine cn_aload_n (pc' := 147) (k := 0) rfl rfl d_M_chunk_146 rfl ?_
                                refine cn_iconst (pc' := 148) k_c_0 d_M_chunk_147 rfl ?_
                                refine cn_putI (pc' := 151) fl_M_79 hm.1 rfl rfl rfl rfl d_M_chunk_148 rfl ?_
                                refine cn_iconst (pc' := 152) k_c_0 d_M_chunk_151 rfl ?_
                                refine cn_iret rfl d_M_chunk_152 ?_
                                have hfol : (ch.2.1 && !sp_next ch.2.2.1 seq) = false := nt_f (tn_1 hc77)
                                have ecl : sp_close ch 2 seq req ct = false := by unfold sp_close; rw [hfol, hq]; rfl
                                rw [if_neg (by rw [ecl]; decide), if_pos (by decide)] at K
                                have etk : sp_take ch 2 seq req x ct = (ch.1, true, seq, none, ch.2.2.2.2) := by unfold sp_take; rw [if_pos rfl]
                                rw [etk] at K
                                have hrow : ∀ a j, (a ≠ 155 ∨ (j ≠ 20 ∧ j ≠ 21 ∧ j ≠ 22)) → ((cn_wi (cn_wi (cn_wi I 155 20 (nI (1))) 155 21 (seq)) 155 22 (nI (0)))) a j = I a j := fun a j y => by rw [mw_o (by omega), mw_o (by omega), mw_o (by omega)]
                                exact K _ ⟨hm, hN.congr (fun a j y => hrow a j (by omega)), hJ.congr (fun a j y => hrow a j (by omega)), hS.congr (fun a j y => hrow a j (by omega)), hp1, mC_c (I := I) (ch := ch) ((hrow _ _ (by omega)).trans hC.1) (mw_k (by decide) (mw_k (by decide) mw_e)) (mw_k (by decide) mw_e) mw_e rfl, hA.congr (fun a j y => hrow a j (by omega))⟩ (fun a y => by funext j; exact hrow a j (by omega))
                            · exact False.elim (by omega)
                          · exact False.elim (by omega)
                      · exact False.elim (by omega)
                    · exact False.elim (by omega)
                | some q =>
                  have hin : I 155 22 = nI 1 := by have := hC.2.2.2.1; rw [hq] at this; exact this
                  obtain ⟨q1, q2, q3, q4, q5, q6, q7⟩ := hC.2.2.2.2 q hq
                  rcases hk3 with rfl | rfl | rfl
                  · show cn_V l en mi_M_chunk d 0 0 S I P Q 38 [(0, .ref 155), (1, .int (nI (0))), (2, .int (seq)), (3, .int (req)), (4, .long (x)), (6, .int (nI (ct)))] []
                    refine cn_aload_n (pc' := 39) (k := 0) rfl rfl d_M_chunk_38 rfl ?_
                    refine cn_getIv (pc' := 42) (v := nI (1)) hin fl_M_79 hm.1 rfl d_M_chunk_39 rfl ?_
                    refine cn_if_eq_n (tgt := 52) (pc' := 45) (by omega) d_M_chunk_42 (by decide) rfl (fun hc42 => ?_) (fun hc42 => ?_)
                    · exact False.elim (by omega)
                    · refine cn_aload_n (pc' := 46) (k := 0) rfl rfl d_M_chunk_45 rfl ?_
                      refine cn_getIv (pc' := 49) (v := nI (ch.2.2.2.2.length)) q4 fl_M_140 hm.1 rfl d_M_chunk_46 rfl ?_
                      refine cn_goto (tgt := 53) d_M_chunk_49 (by decide) ?_
                      refine cn_istore (pc' := 55) (lv' := [(0, .ref 155), (1, .int (nI (0))), (2, .int (seq)), (3, .int (req)), (4, .long (x)), (6, .int (nI (ct))), (7, .int (nI (ch.2.2.2.2.length)))]) [1, 2, 3, 4, 5, 6, 0] (Nat.le_of_ble_eq_true rfl) rfl d_M_chunk_53 rfl ?_
                      refine cn_aload_n (pc' := 56) (k := 0) rfl rfl d_M_chunk_55 rfl ?_
                      refine cn_getIv (pc' := 59) (v := nI (1)) hin fl_M_79 hm.1 rfl d_M_chunk_56 rfl ?_
                      refine cn_if_eq_n (tgt := 69) (pc' := 62) (by omega) d_M_chunk_59 (by decide) rfl (fun hc59 => ?_) (fun hc59 => ?_)
                      · exact False.elim (by omega)
                      · refine cn_aload_n (pc' := 63) (k := 0) rfl rfl d_M_chunk_62 rfl ?_
                        refine cn_getIv (pc' := 66) (v := nI (q.2)) q2 fl_M_143 hm.1 rfl d_M_chunk_63 rfl ?_
                        refine cn_goto (tgt := 70) d_M_chunk_66 (by decide) ?_
                        refine cn_istore (pc' := 72) (lv' := [(0, .ref 155), (1, .int (nI (0))), (2, .int (seq)), (3, .int (req)), (4, .long (x)), (6, .int (nI (ct))), (7, .int (nI (ch.2.2.2.2.length))), (8, .int (nI (q.2)))]) [1, 2, 3, 4, 5, 6, 7, 0] (Nat.le_of_ble_eq_true rfl) rfl d_M_chunk_70 rfl ?_
                        refine cn_aload_n (pc' := 73) (k := 0) rfl rfl d_M_chunk_72 rfl ?_
                        refine cn_iload_n (pc' := 74) (k := 2) rfl rfl d_M_chunk_73 rfl ?_
                        refine cn_callV (pc' := 77) (kc1 := 0) (ks1 := 0) (kc2 := 0) (ks2 := 0) (rest := []) (lvj := [(0, .ref 155), (1, .int (seq))]) [.int (seq)] mv_M_146 hm.1 rfl rfl rfl (Nat.le_of_ble_eq_true rfl) (Nat.le_of_ble_eq_true rfl) (by omega) (by omega) (by omega) d_M_chunk_74 rfl ?_
                        refine c_M_follows hm hC hc17 ?_
                        show cn_V l en mi_M_chunk d 0 0 S I P Q 77 [(0, .ref 155), (1, .int (nI (0))), (2, .int (seq)), (3, .int (req)), (4, .long (x)), (6, .int (nI (ct))), (7, .int (nI (ch.2.2.2.2.length))), (8, .int (nI (q.2)))] [.int (nI ((!(ch.2.1 && !sp_next ch.2.2.1 seq)).toNat))]
                        refine cn_if_eq_n (tgt := 119) (pc' := 80) (by omega) d_M_chunk_77 (by decide) rfl (fun hc77 => ?_) (fun hc77 => ?_)
                        · refine cn_aload_n (pc' := 120) (k := 0) rfl rfl d_M_chunk_119 rfl ?_
                          refine cn_iconst (pc' := 121) k_c_1 d_M_chunk_120 rfl ?_
                          refine cn_putI (pc' := 124) fl_M_72 hm.1 rfl rfl rfl rfl d_M_chunk_121 rfl ?_
                          refine cn_aload_n (pc' := 125) (k := 0) rfl rfl d_M_chunk_124 rfl ?_
                          refine cn_iconst (pc' := 126) k_c_0 d_M_chunk_125 rfl ?_
                          refine cn_putI (pc' := 129) fl_M_79 hm.1 rfl rfl rfl rfl d_M_chunk_126 rfl ?_
                          refine cn_iconst (pc' := 130) k_c_2 d_M_chunk_129 rfl ?_
                          refine cn_iret rfl d_M_chunk_130 ?_
                          have ecl : sp_close ch 0 seq req ct = true := by unfold sp_close; rw [show (ch.2.1 && !sp_next ch.2.2.1 seq) = true from nt_t (tn_0 hc77)]; rfl
                          rw [if_pos ecl] at K
                          have hrow : ∀ a j, (a ≠ 155 ∨ (j ≠ 0 ∧ j ≠ 22)) → ((cn_wi (cn_wi I 155 0 (nI (1))) 155 22 (nI (0)))) a j = I a j := fun a j y => by rw [mw_o (by omega), mw_o (by omega)]
                          exact K _ ⟨hm, hN.congr (fun a j y => hrow a j (by omega)), hJ.congr (fun a j y => hrow a j (by omega)), hS.congr (fun a j y => hrow a j (by omega)), hp1, mC_c (I := I) (ch := ch) (mw_k (by decide) mw_e) ((hrow _ _ (by omega)).trans hC.2.1) ((hrow _ _ (by omega)).trans hC.2.2.1) mw_e rfl, hA.congr (fun a j y => hrow a j (by omega))⟩ (fun a y => by funext j; exact hrow a j (by omega))
                        · refine cn_aload_n (pc' := 81) (k := 0) rfl rfl d_M_chunk_80 rfl ?_
                          refine cn_getIv (pc' := 84) (v := nI (1)) hin fl_M_79 hm.1 rfl d_M_chunk_81 rfl ?_
                          refine cn_if_eq_n (tgt := 95) (pc' := 87) (by omega) d_M_chunk_84 (by decide) rfl (fun hc84 => ?_) (fun hc84 => ?_)
                          · exact False.elim (by omega)
                          · refine cn_iload_n (pc' := 88) (k := 3) rfl rfl d_M_chunk_87 rfl ?_
                            refine cn_aload_n (pc' := 89) (k := 0) rfl rfl d_M_chunk_88 rfl ?_
                            refine cn_getIv (pc' := 92) (v := q.1) q1 fl_M_149 hm.1 rfl d_M_chunk_89 rfl ?_
                            refine cn_icmp_ne (tgt := 119) (pc' := 95) d_M_chunk_92 (by decide) rfl (fun hc92 => ?_) (fun hc92 => ?_)
                            · refine cn_aload_n (pc' := 120) (k := 0) rfl rfl d_M_chunk_119 rfl ?_
                              refine cn_iconst (pc' := 121) k_c_1 d_M_chunk_120 rfl ?_
                              refine cn_putI (pc' := 124) fl_M_72 hm.1 rfl rfl rfl rfl d_M_chunk_121 rfl ?_
                              refine cn_aload_n (pc' := 125) (k := 0) rfl rfl d_M_chunk_124 rfl ?_
                              refine cn_iconst (pc' := 126) k_c_0 d_M_chunk_125 rfl ?_
                              refine cn_putI (pc' := 129) fl_M_79 hm.1 rfl rfl rfl rfl d_M_chunk_126 rfl ?_
                              refine cn_iconst (pc' := 130) k_c_2 d_M_chunk_129 rfl ?_
                              refine cn_iret rfl d_M_chunk_130 ?_
                              have ecl : sp_close ch 0 seq req ct = true := by unfold sp_close; rw [hq]; dsimp only; rw [decide_eq_true hc92]; simp
                              rw [if_pos ecl] at K
                              have hrow : ∀ a j, (a ≠ 155 ∨ (j ≠ 0 ∧ j ≠ 22)) → ((cn_wi (cn_wi I 155 0 (nI (1))) 155 22 (nI (0)))) a j = I a j := fun a j y => by rw [mw_o (by omega), mw_o (by omega)]
                              exact K _ ⟨hm, hN.congr (fun a j y => hrow a j (by omega)), hJ.congr (fun a j y => hrow a j (by omega)), hS.congr (fun a j y => hrow a j (by omega)), hp1, mC_c (I := I) (ch := ch) (mw_k (by decide) mw_e) ((hrow _ _ (by omega)).trans hC.2.1) ((hrow _ _ (by omega)).trans hC.2.2.1) mw_e rfl, hA.congr (fun a j y => hrow a j (by omega))⟩ (fun a y => by funext j; exact hrow a j (by omega))
                            · refine cn_iload_n (pc' := 96) (k := 1) rfl rfl d_M_chunk_95 rfl ?_
                              refine cn_iconst (pc' := 97) k_c_2 d_M_chunk_96 rfl ?_
                              refine cn_icmp_eq_n (tgt := 131) (pc' := 100) (by omega) (by omega) d_M_chunk_97 (by decide) rfl (fun hc97 => ?_) (fun hc97 => ?_)
                              · exact False.elim (by omega)
                              · refine cn_iload (pc' := 102) (k := 6) rfl d_M_chunk_100 rfl ?_
                                refine cn_iload (pc' := 104) (k := 5) rfl d_M_chunk_102 rfl ?_
                                refine cn_iadd_n (pc' := 105) d_M_chunk_104 rfl ?_
                                refine cn_bipush (pc' := 107) k_b_64 d_M_chunk_105 rfl ?_
                                refine cn_icmp_gt_n (tgt := 119) (pc' := 110) (by omega) (by omega) d_M_chunk_107 (by decide) rfl (fun hc107 => ?_) (fun hc107 => ?_)
                                · refine cn_aload_n (pc' := 120) (k := 0) rfl rfl d_M_chunk_119 rfl ?_
                                  refine cn_iconst (pc' := 121) k_c_1 d_M_chunk_120 rfl ?_
                                  refine cn_putI (pc' := 124) fl_M_72 hm.1 rfl rfl rfl rfl d_M_chunk_121 rfl ?_
                                  refine cn_aload_n (pc' := 125) (k := 0) rfl rfl d_M_chunk_124 rfl ?_
                                  refine cn_iconst (pc' := 126) k_c_0 d_M_chunk_125 rfl ?_
                                  refine cn_putI (pc' := 129) fl_M_79 hm.1 rfl rfl rfl rfl d_M_chunk_126 rfl ?_
                                  refine cn_iconst (pc' := 130) k_c_2 d_M_chunk_129 rfl ?_
                                  refine cn_iret rfl d_M_chunk_130 ?_
                                  have ecl : sp_close ch 0 seq req ct = true := by unfold sp_close; rw [hq]; dsimp only; rw [decide_eq_true (show 64 < ch.2.2.2.2.length + ct by omega)]; simp
                                  rw [if_pos ecl] at K
                                  have hrow : ∀ a j, (a ≠ 155 ∨ (j ≠ 0 ∧ j ≠ 22)) → ((cn_wi (cn_wi I 155 0 (nI (1))) 155 22 (nI (0)))) a j = I a j := fun a j y => by rw [mw_o (by omega), mw_o (by omega)]
                                  exact K _ ⟨hm, hN.congr (fun a j y => hrow a j (by omega)), hJ.congr (fun a j y => hrow a j (by omega)), hS.congr (fun a j y => hrow a j (by omega)), hp1, mC_c (I := I) (ch := ch) (mw_k (by decide) mw_e) ((hrow _ _ (by omega)).trans hC.2.1) ((hrow _ _ (by omega)).trans hC.2.2.1) mw_e rfl, hA.congr (fun a j y => hrow a j (by omega))⟩ (fun a y => by funext j; exact hrow a j (by omega))
                                · refine cn_iload (pc' := 112) (k := 7) rfl d_M_chunk_110 rfl ?_
                                  refine cn_iconst (pc' := 113) k_c_1 d_M_chunk_112 rfl ?_
                                  refine cn_iadd_n (pc' := 114) d_M_chunk_113 rfl ?_
                                  refine cn_bipush (pc' := 116) k_b_12 d_M_chunk_114 rfl ?_
                                  refine cn_icmp_le_n (tgt := 131) (pc' := 119) (by omega) (by omega) d_M_chunk_116 (by decide) rfl (fun hc116 => ?_) (fun hc116 => ?_)
                                  · refine cn_aload_n (pc' := 132) (k := 0) rfl rfl d_M_chunk_131 rfl ?_
                                    refine cn_iconst (pc' := 133) k_c_1 d_M_chunk_132 rfl ?_
                                    refine cn_putI (pc' := 136) fl_M_76 hm.1 rfl rfl rfl rfl d_M_chunk_133 rfl ?_
                                    refine cn_aload_n (pc' := 137) (k := 0) rfl rfl d_M_chunk_136 rfl ?_
                                    refine cn_iload_n (pc' := 138) (k := 2) rfl rfl d_M_chunk_137 rfl ?_
                                    refine cn_putI (pc' := 141) fl_M_137 hm.1 rfl rfl rfl rfl d_M_chunk_138 rfl ?_
                                    refine cn_iload_n (pc' := 142) (k := 1) rfl rfl d_M_chunk_141 rfl ?_
                                    refine cn_iconst (pc' := 143) k_c_2 d_M_chunk_142 rfl ?_
                                    refine cn_icmp_ne_n (tgt := 153) (pc' := 146) (by omega) (by omega) d_M_chunk_143 (by decide) rfl (fun hc143 => ?_) (fun hc143 => ?_)
                                    · refine cn_aload_n (pc' := 154) (k := 0) rfl rfl d_M_chunk_153 rfl ?_
                                      refine cn_iconst (pc' := 155) k_c_1 d_M_chunk_154 rfl ?_
                                      refine cn_putI (pc' := 158) fl_M_79 hm.1 rfl rfl rfl rfl d_M_chunk_155 rfl ?_
                                      refine cn_aload_n (pc' := 159) (k := 0) rfl rfl d_M_chunk_158 rfl ?_
                                      refine cn_iload_n (pc' := 160) (k := 3) rfl rfl d_M_chunk_159 rfl ?_
                                      refine cn_putI (pc' := 163) fl_M_149 hm.1 rfl rfl rfl rfl d_M_chunk_160 rfl ?_
                                      refine cn_aload_n (pc' := 164) (k := 0) rfl rfl d_M_chunk_163 rfl ?_
                                      refine cn_iload (pc' := 166) (k := 7) rfl d_M_chunk_164 rfl ?_
                                      refine cn_iconst (pc' := 167) k_c_1 d_M_chunk_166 rfl ?_
                                      refine cn_iadd_n (pc' := 168) d_M_chunk_167 rfl ?_
                                      refine cn_putI (pc' := 171) fl_M_143 hm.1 rfl rfl rfl rfl d_M_chunk_168 rfl ?_
                                      refine cn_aload_n (pc' := 172) (k := 0) rfl rfl d_M_chunk_171 rfl ?_
                                      refine cn_iload (pc' := 174) (k := 6) rfl d_M_chunk_172 rfl ?_
                                      refine cn_iload (pc' := 176) (k := 5) rfl d_M_chunk_174 rfl ?_
                                      refine cn_iadd_n (pc' := 177) d_M_chunk_176 rfl ?_
                                      refine cn_putI (pc' := 180) fl_M_140 hm.1 rfl rfl rfl rfl d_M_chunk_177 rfl ?_
                                      refine cn_iconst (pc' := 181) k_c_0 d_M_chunk_180 rfl ?_
                                      refine cn_istore (pc' := 183) (lv' := [(0, .ref 155), (1, .int (nI (0))), (2, .int (seq)), (3, .int (req)), (4, .long (x)), (6, .int (nI (ct))), (7, .int (nI (ch.2.2.2.2.length))), (8, .int (nI (q.2))), (9, .int (nI (0)))]) [1, 2, 3, 4, 5, 6, 7, 8, 0] (Nat.le_of_ble_eq_true rfl) rfl d_M_chunk_181 rfl ?_
                                      have hfol : (ch.2.1 && !sp_next ch.2.2.1 seq) = false := nt_f (tn_1 hc77)
                                      have ecl : sp_close ch 0 seq req ct = false := by unfold sp_close; rw [hfol, hq]; dsimp only; rw [decide_eq_false (fun h => h hc92), decide_eq_false (show ¬ 64 < ch.2.2.2.2.length + ct by omega), decide_eq_false (show ¬ q.2 = 12 by omega)]; rfl
                                      rw [if_neg (by rw [ecl]; decide), if_pos (by decide)] at K
                                      have etk : sp_take ch 0 seq req x ct = (ch.1, true, seq, some (q.1, q.2 + 1), ch.2.2.2.2 ++ lbs x ct) := by unfold sp_take; rw [if_neg (by decide), hq]; rfl
                                      rw [etk] at K
                                      have hrow0 : ∀ a j, (a ≠ 155 ∨ j < 20 ∨ 25 < j) → ((cn_wi (cn_wi (cn_wi (cn_wi (cn_wi (cn_wi I 155 20 (nI (1))) 155 21 (seq)) 155 22 (nI (1))) 155 24 (req)) 155 23 (nI (q.2 + 1))) 155 25 (nI (ch.2.2.2.2.length + ct)))) a j = I a j := fun a j y => by rw [mw_o (by omega), mw_o (by omega), mw_o (by omega), mw_o (by omega), mw_o (by omega), mw_o (by omega)]
                                      have f20 : ((cn_wi (cn_wi (cn_wi (cn_wi (cn_wi (cn_wi I 155 20 (nI (1))) 155 21 (seq)) 155 22 (nI (1))) 155 24 (req)) 155 23 (nI (q.2 + 1))) 155 25 (nI (ch.2.2.2.2.length + ct)))) 155 20 = nI (1) := (mw_k (by decide) (mw_k (by decide) (mw_k (by decide) (mw_k (by decide) (mw_k (by decide) mw_e)))))
                                      have f21 : ((cn_wi (cn_wi (cn_wi (cn_wi (cn_wi (cn_wi I 155 20 (nI (1))) 155 21 (seq)) 155 22 (nI (1))) 155 24 (req)) 155 23 (nI (q.2 + 1))) 155 25 (nI (ch.2.2.2.2.length + ct)))) 155 21 = seq := (mw_k (by decide) (mw_k (by decide) (mw_k (by decide) (mw_k (by decide) mw_e))))
                                      have f22 : ((cn_wi (cn_wi (cn_wi (cn_wi (cn_wi (cn_wi I 155 20 (nI (1))) 155 21 (seq)) 155 22 (nI (1))) 155 24 (req)) 155 23 (nI (q.2 + 1))) 155 25 (nI (ch.2.2.2.2.length + ct)))) 155 22 = nI (1) := (mw_k (by decide) (mw_k (by decide) (mw_k (by decide) mw_e)))
                                      have f23 : ((cn_wi (cn_wi (cn_wi (cn_wi (cn_wi (cn_wi I 155 20 (nI (1))) 155 21 (seq)) 155 22 (nI (1))) 155 24 (req)) 155 23 (nI (q.2 + 1))) 155 25 (nI (ch.2.2.2.2.length + ct)))) 155 23 = nI (q.2 + 1) := (mw_k (by decide) mw_e)
                                      have f24 : ((cn_wi (cn_wi (cn_wi (cn_wi (cn_wi (cn_wi I 155 20 (nI (1))) 155 21 (seq)) 155 22 (nI (1))) 155 24 (req)) 155 23 (nI (q.2 + 1))) 155 25 (nI (ch.2.2.2.2.length + ct)))) 155 24 = req := (mw_k (by decide) (mw_k (by decide) mw_e))
                                      have f25 : ((cn_wi (cn_wi (cn_wi (cn_wi (cn_wi (cn_wi I 155 20 (nI (1))) 155 21 (seq)) 155 22 (nI (1))) 155 24 (req)) 155 23 (nI (q.2 + 1))) 155 25 (nI (ch.2.2.2.2.length + ct)))) 155 25 = nI (ch.2.2.2.2.length + ct) := mw_e
                                      refine c_M_chunk_183 (kd := 0) (ct := ct) (b := ch.2.2.2.2.length) (nb := q.2) (x := x) hm (by omega) hct8 _ (fun I1 hb1 hf1 => ?_) ct 0 _ (by omega) (fun j hj => absurd hj (Nat.not_lt_zero j)) (fun _ _ _ => rfl)
                                      have hrow : ∀ a j, (a ≠ 155 ∨ j < 20 ∨ 25 < j) → a ≠ 171 → I1 a j = I a j := fun a j y z => (hf1 a j (Or.inl z)).trans (hrow0 a j y)
                                      have hrow : ∀ a j, (a ≠ 171 ∧ (a ≠ 155 ∨ j < 20 ∨ 25 < j)) → I1 a j = I a j := fun a j y => hrow a j y.2 y.1
                                      have g20 := (hf1 155 20 (by omega)).trans f20
                                      have g21 := (hf1 155 21 (by omega)).trans f21
                                      have g22 := (hf1 155 22 (by omega)).trans f22
                                      have g23 := (hf1 155 23 (by omega)).trans f23
                                      have g24 := (hf1 155 24 (by omega)).trans f24
                                      have g25 := (hf1 155 25 (by omega)).trans f25
                                      have hml : (ch.2.2.2.2 ++ lbs x ct).length ≤ 64 := by rw [List.length_append, lbs_len]; omega
                                      have g25 : I1 155 25 = nI (ch.2.2.2.2 ++ lbs x ct).length := by rw [List.length_append, lbs_len]; exact g25
                                      have hmb : ∀ j, j < (ch.2.2.2.2 ++ lbs x ct).length → I1 171 j = (ch.2.2.2.2 ++ lbs x ct).getD j 0 := fun j hj => by
                                        rw [List.length_append, lbs_len] at hj
                                        by_cases e : j < ch.2.2.2.2.length
                                        · rw [gd_l e, hf1 _ _ (Or.inr e), hrow0 _ _ (by omega)]; exact q6 j e
                                        · rw [gd_r (by omega), lbs_at (by omega)]
                                          have := hb1 (j - ch.2.2.2.2.length) (by omega)
                                          rw [show ch.2.2.2.2.length + (j - ch.2.2.2.2.length) = j by omega] at this; exact this
                                      have hm8 : ∀ j, (ch.2.2.2.2 ++ lbs x ct).getD j 0 &&& 255 = (ch.2.2.2.2 ++ lbs x ct).getD j 0 := app_255 q7 (gd_255 (lbs_255 x ct))
                                      refine cn_iload_n (pc' := 220) (k := 1) rfl rfl d_M_chunk_219 rfl ?_
                                      refine cn_if_ne_n (tgt := 225) (pc' := 223) (by omega) d_M_chunk_220 (by decide) rfl (fun hc220 => ?_) (fun hc220 => ?_)
                                      · exact False.elim (by omega)
                                      · refine cn_iconst (pc' := 224) k_c_0 d_M_chunk_223 rfl ?_
                                        refine cn_iret rfl d_M_chunk_224 ?_
                                        refine K I1 ⟨hm, hN.congr (fun a j y => hrow a j (by omega)), hJ.congr (fun a j y => hrow a j (by omega)), hS.congr (fun a j y => hrow a j (by omega)), hp1, ⟨(hrow _ _ (by omega)).trans hC.1, g20, g21, g22, fun q0 hq0 => ?_⟩, hA.congr (fun a j y => hrow a j (by omega))⟩ (fun a y => by funext j; exact hrow a j (by omega))
                                        obtain rfl := Option.some.inj hq0
                                        exact ⟨g24.trans hc92, g23, by show q.2 + 1 ≤ 12; omega, g25, hml, hmb, hm8⟩
                                    · exact False.elim (by omega)
                                  · refine cn_aload_n (pc' := 120) (k := 0) rfl rfl d_M_chunk_119 rfl ?_
                                    refine cn_iconst (pc' := 121) k_c_1 d_M_chunk_120 rfl ?_
                                    refine cn_putI (pc' := 124) fl_M_72 hm.1 rfl rfl rfl rfl d_M_chunk_121 rfl ?_
                                    refine cn_aload_n (pc' := 125) (k := 0) rfl rfl d_M_chunk_124 rfl ?_
                                    refine cn_iconst (pc' := 126) k_c_0 d_M_chunk_125 rfl ?_
                                    refine cn_putI (pc' := 129) fl_M_79 hm.1 rfl rfl rfl rfl d_M_chunk_126 rfl ?_
                                    refine cn_iconst (pc' := 130) k_c_2 d_M_chunk_129 rfl ?_
                                    refine cn_iret rfl d_M_chunk_130 ?_
                                    have ecl : sp_close ch 0 seq req ct = true := by unfold sp_close; rw [hq]; dsimp only; rw [decide_eq_true (show q.2 = 12 by omega)]; simp
                                    rw [if_pos ecl] at K
                                    have hrow : ∀ a j, (a ≠ 155 ∨ (j ≠ 0 ∧ j ≠ 22)) → ((cn_wi (cn_wi I 155 0 (nI (1))) 155 22 (nI (0)))) a j = I a j := fun a j y => by rw [mw_o (by omega), mw_o (by omega)]
                                    exact K _ ⟨hm, hN.congr (fun a j y => hrow a j (by omega)), hJ.congr (fun a j y => hrow a j (by omega)), hS.congr (fun a j y => hrow a j (by omega)), hp1, mC_c (I := I) (ch := ch) (mw_k (by decide) mw_e) ((hrow _ _ (by omega)).trans hC.2.1) ((hrow _ _ (by omega)).trans hC.2.2.1) mw_e rfl, hA.congr (fun a j y => hrow a j (by omega))⟩ (fun a y => by funext j; exact hrow a j (by omega))
                  · show cn_V l en mi_M_chunk d 0 0 S I P Q 38 [(0, .ref 155), (1, .int (nI (1))), (2, .int (seq)), (3, .int (req)), (4, .long (x)), (6, .int (nI (ct)))] []
                    refine cn_aload_n (pc' := 39) (k := 0) rfl rfl d_M_chunk_38 rfl ?_
                    refine cn_getIv (pc' := 42) (v := nI (1)) hin fl_M_79 hm.1 rfl d_M_chunk_39 rfl ?_
                    refine cn_if_eq_n (tgt := 52) (pc' := 45) (by omega) d_M_chunk_42 (by decide) rfl (fun hc42 => ?_) (fun hc42 => ?_)
                    · exact False.elim (by omega)
                    · refine cn_aload_n (pc' := 46) (k := 0) rfl rfl d_M_chunk_45 rfl ?_
                      refine cn_getIv (pc' := 49) (v := nI (ch.2.2.2.2.length)) q4 fl_M_140 hm.1 rfl d_M_chunk_46 rfl ?_
                      refine cn_goto (tgt := 53) d_M_chunk_49 (by decide) ?_
                      refine cn_istore (pc' := 55) (lv' := [(0, .ref 155), (1, .int (nI (1))), (2, .int (seq)), (3, .int (req)), (4, .long (x)), (6, .int (nI (ct))), (7, .int (nI (ch.2.2.2.2.length)))]) [1, 2, 3, 4, 5, 6, 0] (Nat.le_of_ble_eq_true rfl) rfl d_M_chunk_53 rfl ?_
                      refine cn_aload_n (pc' := 56) (k := 0) rfl rfl d_M_chunk_55 rfl ?_
                      refine cn_getIv (pc' := 59) (v := nI (1)) hin fl_M_79 hm.1 rfl d_M_chunk_56 rfl ?_
                      refine cn_if_eq_n (tgt := 69) (pc' := 62) (by omega) d_M_chunk_59 (by decide) rfl (fun hc59 => ?_) (fun hc59 => ?_)
                      · exact False.elim (by omega)
                      · refine cn_aload_n (pc' := 63) (k := 0) rfl rfl d_M_chunk_62 rfl ?_
                        refine cn_getIv (pc' := 66) (v := nI (q.2)) q2 fl_M_143 hm.1 rfl d_M_chunk_63 rfl ?_
                        refine cn_goto (tgt := 70) d_M_chunk_66 (by decide) ?_
                        refine cn_istore (pc' := 72) (lv' := [(0, .ref 155), (1, .int (nI (1))), (2, .int (seq)), (3, .int (req)), (4, .long (x)), (6, .int (nI (ct))), (7, .int (nI (ch.2.2.2.2.length))), (8, .int (nI (q.2)))]) [1, 2, 3, 4, 5, 6, 7, 0] (Nat.le_of_ble_eq_true rfl) rfl d_M_chunk_70 rfl ?_
                        refine cn_aload_n (pc' := 73) (k := 0) rfl rfl d_M_chunk_72 rfl ?_
                        refine cn_iload_n (pc' := 74) (k := 2) rfl rfl d_M_chunk_73 rfl ?_
                        refine cn_callV (pc' := 77) (kc1 := 0) (ks1 := 0) (kc2 := 0) (ks2 := 0) (rest := []) (lvj := [(0, .ref 155), (1, .int (seq))]) [.int (seq)] mv_M_146 hm.1 rfl rfl rfl (Nat.le_of_ble_eq_true rfl) (Nat.le_of_ble_eq_true rfl) (by omega) (by omega) (by omega) d_M_chunk_74 rfl ?_
                        refine c_M_follows hm hC hc17 ?_
                        show cn_V l en mi_M_chunk d 0 0 S I P Q 77 [(0, .ref 155), (1, .int (nI (1))), (2, .int (seq)), (3, .int (req)), (4, .long (x)), (6, .int (nI (ct))), (7, .int (nI (ch.2.2.2.2.length))), (8, .int (nI (q.2)))] [.int (nI ((!(ch.2.1 && !sp_next ch.2.2.1 seq)).toNat))]
                        refine cn_if_eq_n (tgt := 119) (pc' := 80) (by omega) d_M_chunk_77 (by decide) rfl (fun hc77 => ?_) (fun hc77 => ?_)
                        · refine cn_aload_n (pc' := 120) (k := 0) rfl rfl d_M_chunk_119 rfl ?_
                          refine cn_iconst (pc' := 121) k_c_1 d_M_chunk_120 rfl ?_
                          refine cn_putI (pc' := 124) fl_M_72 hm.1 rfl rfl rfl rfl d_M_chunk_121 rfl ?_
                          refine cn_aload_n (pc' := 125) (k := 0) rfl rfl d_M_chunk_124 rfl ?_
                          refine cn_iconst (pc' := 126) k_c_0 d_M_chunk_125 rfl ?_
                          refine cn_putI (pc' := 129) fl_M_79 hm.1 rfl rfl rfl rfl d_M_chunk_126 rfl ?_
                          refine cn_iconst (pc' := 130) k_c_2 d_M_chunk_129 rfl ?_
                          refine cn_iret rfl d_M_chunk_130 ?_
                          have ecl : sp_close ch 1 seq req ct = true := by unfold sp_close; rw [show (ch.2.1 && !sp_next ch.2.2.1 seq) = true from nt_t (tn_0 hc77)]; rfl
                          rw [if_pos ecl] at K
                          have hrow : ∀ a j, (a ≠ 155 ∨ (j ≠ 0 ∧ j ≠ 22)) → ((cn_wi (cn_wi I 155 0 (nI (1))) 155 22 (nI (0)))) a j = I a j := fun a j y => by rw [mw_o (by omega), mw_o (by omega)]
                          exact K _ ⟨hm, hN.congr (fun a j y => hrow a j (by omega)), hJ.congr (fun a j y => hrow a j (by omega)), hS.congr (fun a j y => hrow a j (by omega)), hp1, mC_c (I := I) (ch := ch) (mw_k (by decide) mw_e) ((hrow _ _ (by omega)).trans hC.2.1) ((hrow _ _ (by omega)).trans hC.2.2.1) mw_e rfl, hA.congr (fun a j y => hrow a j (by omega))⟩ (fun a y => by funext j; exact hrow a j (by omega))
                        · refine cn_aload_n (pc' := 81) (k := 0) rfl rfl d_M_chunk_80 rfl ?_
                          refine cn_getIv (pc' := 84) (v := nI (1)) hin fl_M_79 hm.1 rfl d_M_chunk_81 rfl ?_
                          refine cn_if_eq_n (tgt := 95) (pc' := 87) (by omega) d_M_chunk_84 (by decide) rfl (fun hc84 => ?_) (fun hc84 => ?_)
                          · exact False.elim (by omega)
                          · refine cn_iload_n (pc' := 88) (k := 3) rfl rfl d_M_chunk_87 rfl ?_
                            refine cn_aload_n (pc' := 89) (k := 0) rfl rfl d_M_chunk_88 rfl ?_
                            refine cn_getIv (pc' := 92) (v := q.1) q1 fl_M_149 hm.1 rfl d_M_chunk_89 rfl ?_
                            refine cn_icmp_ne (tgt := 119) (pc' := 95) d_M_chunk_92 (by decide) rfl (fun hc92 => ?_) (fun hc92 => ?_)
                            · refine cn_aload_n (pc' := 120) (k := 0) rfl rfl d_M_chunk_119 rfl ?_
                              refine cn_iconst (pc' := 121) k_c_1 d_M_chunk_120 rfl ?_
                              refine cn_putI (pc' := 124) fl_M_72 hm.1 rfl rfl rfl rfl d_M_chunk_121 rfl ?_
                              refine cn_aload_n (pc' := 125) (k := 0) rfl rfl d_M_chunk_124 rfl ?_
                              refine cn_iconst (pc' := 126) k_c_0 d_M_chunk_125 rfl ?_
                              refine cn_putI (pc' := 129) fl_M_79 hm.1 rfl rfl rfl rfl d_M_chunk_126 rfl ?_
                              refine cn_iconst (pc' := 130) k_c_2 d_M_chunk_129 rfl ?_
                              refine cn_iret rfl d_M_chunk_130 ?_
                              have ecl : sp_close ch 1 seq req ct = true := by unfold sp_close; rw [hq]; dsimp only; rw [decide_eq_true hc92]; simp
                              rw [if_pos ecl] at K
                              have hrow : ∀ a j, (a ≠ 155 ∨ (j ≠ 0 ∧ j ≠ 22)) → ((cn_wi (cn_wi I 155 0 (nI (1))) 155 22 (nI (0)))) a j = I a j := fun a j y => by rw [mw_o (by omega), mw_o (by omega)]
                              exact K _ ⟨hm, hN.congr (fun a j y => hrow a j (by omega)), hJ.congr (fun a j y => hrow a j (by omega)), hS.congr (fun a j y => hrow a j (by omega)), hp1, mC_c (I := I) (ch := ch) (mw_k (by decide) mw_e) ((hrow _ _ (by omega)).trans hC.2.1) ((hrow _ _ (by omega)).trans hC.2.2.1) mw_e rfl, hA.congr (fun a j y => hrow a j (by omega))⟩ (fun a y => by funext j; exact hrow a j (by omega))
                            · refine cn_iload_n (pc' := 96) (k := 1) rfl rfl d_M_chunk_95 rfl ?_
                              refine cn_iconst (pc' := 97) k_c_2 d_M_chunk_96 rfl ?_
                              refine cn_icmp_eq_n (tgt := 131) (pc' := 100) (by omega) (by omega) d_M_chunk_97 (by decide) rfl (fun hc97 => ?_) (fun hc97 => ?_)
                              · exact False.elim (by omega)
                              · refine cn_iload (pc' := 102) (k := 6) rfl d_M_chunk_100 rfl ?_
                                refine cn_iload (pc' := 104) (k := 5) rfl d_M_chunk_102 rfl ?_
                                refine cn_iadd_n (pc' := 105) d_M_chunk_104 rfl ?_
                                refine cn_bipush (pc' := 107) k_b_64 d_M_chunk_105 rfl ?_
                                refine cn_icmp_gt_n (tgt := 119) (pc' := 110) (by omega) (by omega) d_M_chunk_107 (by decide) rfl (fun hc107 => ?_) (fun hc107 => ?_)
                                · refine cn_aload_n (pc' := 120) (k := 0) rfl rfl d_M_chunk_119 rfl ?_
                                  refine cn_iconst (pc' := 121) k_c_1 d_M_chunk_120 rfl ?_
                                  refine cn_putI (pc' := 124) fl_M_72 hm.1 rfl rfl rfl rfl d_M_chunk_121 rfl ?_
                                  refine cn_aload_n (pc' := 125) (k := 0) rfl rfl d_M_chunk_124 rfl ?_
                                  refine cn_iconst (pc' := 126) k_c_0 d_M_chunk_125 rfl ?_
                                  refine cn_putI (pc' := 129) fl_M_79 hm.1 rfl rfl rfl rfl d_M_chunk_126 rfl ?_
                                  refine cn_iconst (pc' := 130) k_c_2 d_M_chunk_129 rfl ?_
                                  refine cn_iret rfl d_M_chunk_130 ?_
                                  have ecl : sp_close ch 1 seq req ct = true := by unfold sp_close; rw [hq]; dsimp only; rw [decide_eq_true (show 64 < ch.2.2.2.2.length + ct by omega)]; simp
                                  rw [if_pos ecl] at K
                                  have hrow : ∀ a j, (a ≠ 155 ∨ (j ≠ 0 ∧ j ≠ 22)) → ((cn_wi (cn_wi I 155 0 (nI (1))) 155 22 (nI (0)))) a j = I a j := fun a j y => by rw [mw_o (by omega), mw_o (by omega)]
                                  exact K _ ⟨hm, hN.congr (fun a j y => hrow a j (by omega)), hJ.congr (fun a j y => hrow a j (by omega)), hS.congr (fun a j y => hrow a j (by omega)), hp1, mC_c (I := I) (ch := ch) (mw_k (by decide) mw_e) ((hrow _ _ (by omega)).trans hC.2.1) ((hrow _ _ (by omega)).trans hC.2.2.1) mw_e rfl, hA.congr (fun a j y => hrow a j (by omega))⟩ (fun a y => by funext j; exact hrow a j (by omega))
                                · refine cn_iload (pc' := 112) (k := 7) rfl d_M_chunk_110 rfl ?_
                                  refine cn_iconst (pc' := 113) k_c_1 d_M_chunk_112 rfl ?_
                                  refine cn_iadd_n (pc' := 114) d_M_chunk_113 rfl ?_
                                  refine cn_bipush (pc' := 116) k_b_12 d_M_chunk_114 rfl ?_
                                  refine cn_icmp_le_n (tgt := 131) (pc' := 119) (by omega) (by omega) d_M_chunk_116 (by decide) rfl (fun hc116 => ?_) (fun hc116 => ?_)
                                  · refine cn_aload_n (pc' := 132) (k := 0) rfl rfl d_M_chunk_131 rfl ?_
                                    refine cn_iconst (pc' := 133) k_c_1 d_M_chunk_132 rfl ?_
                                    refine cn_putI (pc' := 136) fl_M_76 hm.1 rfl rfl rfl rfl d_M_chunk_133 rfl ?_
                                    refine cn_aload_n (pc' := 137) (k := 0) rfl rfl d_M_chunk_136 rfl ?_
                                    refine cn_iload_n (pc' := 138) (k := 2) rfl rfl d_M_chunk_137 rfl ?_
                                    refine cn_putI (pc' := 141) fl_M_137 hm.1 rfl rfl rfl rfl d_M_chunk_138 rfl ?_
                                    refine cn_iload_n (pc' := 142) (k := 1) rfl rfl d_M_chunk_141 rfl ?_
                                    refine cn_iconst (pc' := 143) k_c_2 d_M_chunk_142 rfl ?_
                                    refine cn_icmp_ne_n (tgt := 153) (pc' := 146) (by omega) (by omega) d_M_chunk_143 (by decide) rfl (fun hc143 => ?_) (fun hc143 => ?_)
                                    · refine cn_aload_n (pc' := 154) (k := 0) rfl rfl d_M_chunk_153 rfl ?_
                                      refine cn_iconst (pc' := 155) k_c_1 d_M_chunk_154 rfl ?_
                                      refine cn_putI (pc' := 158) fl_M_79 hm.1 rfl rfl rfl rfl d_M_chunk_155 rfl ?_
                                      refine cn_aload_n (pc' := 159) (k := 0) rfl rfl d_M_chunk_158 rfl ?_
                                      refine cn_iload_n (pc' := 160) (k := 3) rfl rfl d_M_chunk_159 rfl ?_
                                      refine cn_putI (pc' := 163) fl_M_149 hm.1 rfl rfl rfl rfl d_M_chunk_160 rfl ?_
                                      refine cn_aload_n (pc' := 164) (k := 0) rfl rfl d_M_chunk_163 rfl ?_
                                      refine cn_iload (pc' := 166) (k := 7) rfl d_M_chunk_164 rfl ?_
                                      refine cn_iconst (pc' := 167) k_c_1 d_M_chunk_166 rfl ?_
                                      refine cn_iadd_n (pc' := 168) d_M_chunk_167 rfl ?_
                                      refine cn_putI (pc' := 171) fl_M_143 hm.1 rfl rfl rfl rfl d_M_chunk_168 rfl ?_
                                      refine cn_aload_n (pc' := 172) (k := 0) rfl rfl d_M_chunk_171 rfl ?_
                                      refine cn_iload (pc' := 174) (k := 6) rfl d_M_chunk_172 rfl ?_
                                      refine cn_iload (pc' := 176) (k := 5) rfl d_M_chunk_174 rfl ?_
                                      refine cn_iadd_n (pc' := 177) d_M_chunk_176 rfl ?_
                                      refine cn_putI (pc' := 180) fl_M_140 hm.1 rfl rfl rfl rfl d_M_chunk_177 rfl ?_
                                      refine cn_iconst (pc' := 181) k_c_0 d_M_chunk_180 rfl ?_
                                      refine cn_istore (pc' := 183) (lv' := [(0, .ref 155), (1, .int (nI (1))), (2, .int (seq)), (3, .int (req)), (4, .long (x)), (6, .int (nI (ct))), (7, .int (nI (ch.2.2.2.2.length))), (8, .int (nI (q.2))), (9, .int (nI (0)))]) [1, 2, 3, 4, 5, 6, 7, 8, 0] (Nat.le_of_ble_eq_true rfl) rfl d_M_chunk_181 rfl ?_
                                      have hfol : (ch.2.1 && !sp_next ch.2.2.1 seq) = false := nt_f (tn_1 hc77)
                                      have ecl : sp_close ch 1 seq req ct = false := by unfold sp_close; rw [hfol, hq]; dsimp only; rw [decide_eq_false (fun h => h hc92), decide_eq_false (show ¬ 64 < ch.2.2.2.2.length + ct by omega), decide_eq_false (show ¬ q.2 = 12 by omega)]; rfl
                                      rw [if_neg (by rw [ecl]; decide), if_neg (fun h => h rfl)] at K
                                      have etk : sp_take ch 1 seq req x ct = (ch.1, true, seq, none, ch.2.2.2.2 ++ lbs x ct) := by unfold sp_take; rw [if_neg (by decide), hq]; rfl
                                      rw [etk] at K
                                      have hrow0 : ∀ a j, (a ≠ 155 ∨ j < 20 ∨ 25 < j) → ((cn_wi (cn_wi (cn_wi (cn_wi (cn_wi (cn_wi I 155 20 (nI (1))) 155 21 (seq)) 155 22 (nI (1))) 155 24 (req)) 155 23 (nI (q.2 + 1))) 155 25 (nI (ch.2.2.2.2.length + ct)))) a j = I a j := fun a j y => by rw [mw_o (by omega), mw_o (by omega), mw_o (by omega), mw_o (by omega), mw_o (by omega), mw_o (by omega)]
                                      have f20 : ((cn_wi (cn_wi (cn_wi (cn_wi (cn_wi (cn_wi I 155 20 (nI (1))) 155 21 (seq)) 155 22 (nI (1))) 155 24 (req)) 155 23 (nI (q.2 + 1))) 155 25 (nI (ch.2.2.2.2.length + ct)))) 155 20 = nI (1) := (mw_k (by decide) (mw_k (by decide) (mw_k (by decide) (mw_k (by decide) (mw_k (by decide) mw_e)))))
                                      have f21 : ((cn_wi (cn_wi (cn_wi (cn_wi (cn_wi (cn_wi I 155 20 (nI (1))) 155 21 (seq)) 155 22 (nI (1))) 155 24 (req)) 155 23 (nI (q.2 + 1))) 155 25 (nI (ch.2.2.2.2.length + ct)))) 155 21 = seq := (mw_k (by decide) (mw_k (by decide) (mw_k (by decide) (mw_k (by decide) mw_e))))
                                      have f22 : ((cn_wi (cn_wi (cn_wi (cn_wi (cn_wi (cn_wi I 155 20 (nI (1))) 155 21 (seq)) 155 22 (nI (1))) 155 24 (req)) 155 23 (nI (q.2 + 1))) 155 25 (nI (ch.2.2.2.2.length + ct)))) 155 22 = nI (1) := (mw_k (by decide) (mw_k (by decide) (mw_k (by decide) mw_e)))
                                      have f23 : ((cn_wi (cn_wi (cn_wi (cn_wi (cn_wi (cn_wi I 155 20 (nI (1))) 155 21 (seq)) 155 22 (nI (1))) 155 24 (req)) 155 23 (nI (q.2 + 1))) 155 25 (nI (ch.2.2.2.2.length + ct)))) 155 23 = nI (q.2 + 1) := (mw_k (by decide) mw_e)
                                      have f24 : ((cn_wi (cn_wi (cn_wi (cn_wi (cn_wi (cn_wi I 155 20 (nI (1))) 155 21 (seq)) 155 22 (nI (1))) 155 24 (req)) 155 23 (nI (q.2 + 1))) 155 25 (nI (ch.2.2.2.2.length + ct)))) 155 24 = req := (mw_k (by decide) (mw_k (by decide) mw_e))
                                      have f25 : ((cn_wi (cn_wi (cn_wi (cn_wi (cn_wi (cn_wi I 155 20 (nI (1))) 155 21 (seq)) 155 22 (nI (1))) 155 24 (req)) 155 23 (nI (q.2 + 1))) 155 25 (nI (ch.2.2.2.2.length + ct)))) 155 25 = nI (ch.2.2.2.2.length + ct) := mw_e
                                      refine c_M_chunk_183 (kd := 1) (ct := ct) (b := ch.2.2.2.2.length) (nb := q.2) (x := x) hm (by omega) hct8 _ (fun I1 hb1 hf1 => ?_) ct 0 _ (by omega) (fun j hj => absurd hj (Nat.not_lt_zero j)) (fun _ _ _ => rfl)
                                      have hrow : ∀ a j, (a ≠ 155 ∨ j < 20 ∨ 25 < j) → a ≠ 171 → I1 a j = I a j := fun a j y z => (hf1 a j (Or.inl z)).trans (hrow0 a j y)
                                      have hrow : ∀ a j, (a ≠ 171 ∧ (a ≠ 155 ∨ j < 20 ∨ 25 < j)) → I1 a j = I a j := fun a j y => hrow a j y.2 y.1
                                      have g20 := (hf1 155 20 (by omega)).trans f20
                                      have g21 := (hf1 155 21 (by omega)).trans f21
                                      have g22 := (hf1 155 22 (by omega)).trans f22
                                      have g23 := (hf1 155 23 (by omega)).trans f23
                                      have g24 := (hf1 155 24 (by omega)).trans f24
                                      have g25 := (hf1 155 25 (by omega)).trans f25
                                      have hml : (ch.2.2.2.2 ++ lbs x ct).length ≤ 64 := by rw [List.length_append, lbs_len]; omega
                                      have g25 : I1 155 25 = nI (ch.2.2.2.2 ++ lbs x ct).length := by rw [List.length_append, lbs_len]; exact g25
                                      have hmb : ∀ j, j < (ch.2.2.2.2 ++ lbs x ct).length → I1 171 j = (ch.2.2.2.2 ++ lbs x ct).getD j 0 := fun j hj => by
                                        rw [List.length_append, lbs_len] at hj
                                        by_cases e : j < ch.2.2.2.2.length
                                        · rw [gd_l e, hf1 _ _ (Or.inr e), hrow0 _ _ (by omega)]; exact q6 j e
                                        · rw [gd_r (by omega), lbs_at (by omega)]
                                          have := hb1 (j - ch.2.2.2.2.length) (by omega)
                                          rw [show ch.2.2.2.2.length + (j - ch.2.2.2.2.length) = j by omega] at this; exact this
                                      have hm8 : ∀ j, (ch.2.2.2.2 ++ lbs x ct).getD j 0 &&& 255 = (ch.2.2.2.2 ++ lbs x ct).getD j 0 := app_255 q7 (gd_255 (lbs_255 x ct))
                                      refine cn_iload_n (pc' := 220) (k := 1) rfl rfl d_M_chunk_219 rfl ?_
                                      refine cn_if_ne_n (tgt := 225) (pc' := 223) (by omega) d_M_chunk_220 (by decide) rfl (fun hc220 => ?_) (fun hc220 => ?_)
                                      · refine cn_aload_n (pc' := 226) (k := 0) rfl rfl d_M_chunk_225 rfl ?_
                                        refine cn_iconst (pc' := 227) k_c_0 d_M_chunk_226 rfl ?_
                                        refine cn_putI (pc' := 230) fl_M_79 hm.1 rfl rfl rfl rfl d_M_chunk_227 rfl ?_
                                        refine cn_aload_n (pc' := 231) (k := 0) rfl rfl d_M_chunk_230 rfl ?_
                                        refine cn_iconst (pc' := 232) k_c_1 d_M_chunk_231 rfl ?_
                                        refine cn_putI (pc' := 235) fl_M_91 hm.1 rfl rfl rfl rfl d_M_chunk_232 rfl ?_
                                        refine cn_aload_n (pc' := 236) (k := 0) rfl rfl d_M_chunk_235 rfl ?_
                                        refine cn_iload_n (pc' := 237) (k := 3) rfl rfl d_M_chunk_236 rfl ?_
                                        refine cn_putI (pc' := 240) fl_M_152 hm.1 rfl rfl rfl rfl d_M_chunk_237 rfl ?_
                                        refine cn_aload_n (pc' := 241) (k := 0) rfl rfl d_M_chunk_240 rfl ?_
                                        refine cn_callV (pc' := 244) (kc1 := 0) (ks1 := 0) (kc2 := 0) (ks2 := 0) (rest := []) (lvj := [(0, .ref 155)]) [] mv_M_155 hm.1 rfl rfl rfl (Nat.le_of_ble_eq_true rfl) (Nat.le_of_ble_eq_true rfl) (by omega) (by omega) (by omega) d_M_chunk_241 rfl ?_
                                        have hr3 : ∀ a j, (a ≠ 155 ∨ (j ≠ 22 ∧ j ≠ 33 ∧ j ≠ 34)) → ((cn_wi (cn_wi (cn_wi I1 155 22 (nI (0))) 155 33 (nI (1))) 155 34 (req))) a j = I1 a j := fun a j y => by rw [mw_o (by omega), mw_o (by omega), mw_o (by omega)]
                                        refine c_M_reply (g := ch.2.2.2.2 ++ lbs x ct) hm (hN.congr (fun a j y => (hr3 a j (by omega)).trans (hrow a j (by omega)))) (hJ.congr (fun a j y => (hr3 a j (by omega)).trans (hrow a j (by omega)))) (hS.congr (fun a j y => (hr3 a j (by omega)).trans (hrow a j (by omega)))) hp ((hr3 _ _ (by omega)).trans g25) hml (fun j hj => (hr3 _ _ (by omega)).trans (hmb j hj)) hm8 hT (by omega) (fun I2 h2 hv2 => ?_)
                                        show cn_V l en mi_M_chunk d 0 0 S I2 P Q 244 [(0, .ref 155), (1, .int (nI (1))), (2, .int (seq)), (3, .int (req)), (4, .long (x)), (6, .int (nI (ct))), (7, .int (nI (ch.2.2.2.2.length))), (8, .int (nI (q.2))), (9, .int (nI (ct)))] []
                                        refine cn_iconst (pc' := 245) k_c_1 d_M_chunk_244 rfl ?_
                                        refine cn_iret rfl d_M_chunk_245 ?_
                                        exact K I2 ⟨hm, h2.1, h2.2.1, h2.2.2.1, h2.2.2.2.1, mC_c (I := I) (ch := ch) (by rw [hv2 _ _ (by omega), mw_o (by omega), mw_o (by omega), mw_o (by omega), hrow _ _ (by omega)]; exact hC.1) (by rw [hv2 _ _ (by omega), mw_o (by omega), mw_o (by omega), mw_o (by omega)]; exact g20) (by rw [hv2 _ _ (by omega), mw_o (by omega), mw_o (by omega), mw_o (by omega)]; exact g21) (by rw [hv2 _ _ (by omega), mw_o (by omega), mw_o (by omega)]; exact mw_e) rfl, Or.inl ⟨by rw [hv2 _ _ (by omega), mw_o (by omega)]; exact mw_e, by rw [hv2 _ _ (by omega)]; exact mw_e, h2.2.2.2.2⟩⟩ (fun a y => by funext j; rw [hv2 a j (by omega), mw_o (by omega), mw_o (by omega), mw_o (by omega)]; exact hrow a j (by omega))
                                      · exact False.elim (by omega)
                                    · exact False.elim (by omega)
                                  · refine cn_aload_n (pc' := 120) (k := 0) rfl rfl d_M_chunk_119 rfl ?_
                                    refine cn_iconst (pc' := 121) k_c_1 d_M_chunk_120 rfl ?_
                                    refine cn_putI (pc' := 124) fl_M_72 hm.1 rfl rfl rfl rfl d_M_chunk_121 rfl ?_
                                    refine cn_aload_n (pc' := 125) (k := 0) rfl rfl d_M_chunk_124 rfl ?_
                                    refine cn_iconst (pc' := 126) k_c_0 d_M_chunk_125 rfl ?_
                                    refine cn_putI (pc' := 129) fl_M_79 hm.1 rfl rfl rfl rfl d_M_chunk_126 rfl ?_
                                    refine cn_iconst (pc' := 130) k_c_2 d_M_chunk_129 rfl ?_
                                    refine cn_iret rfl d_M_chunk_130 ?_
                                    have ecl : sp_close ch 1 seq req ct = true := by unfold sp_close; rw [hq]; dsimp only; rw [decide_eq_true (show q.2 = 12 by omega)]; simp
                                    rw [if_pos ecl] at K
                                    have hrow : ∀ a j, (a ≠ 155 ∨ (j ≠ 0 ∧ j ≠ 22)) → ((cn_wi (cn_wi I 155 0 (nI (1))) 155 22 (nI (0)))) a j = I a j := fun a j y => by rw [mw_o (by omega), mw_o (by omega)]
                                    exact K _ ⟨hm, hN.congr (fun a j y => hrow a j (by omega)), hJ.congr (fun a j y => hrow a j (by omega)), hS.congr (fun a j y => hrow a j (by omega)), hp1, mC_c (I := I) (ch := ch) (mw_k (by decide) mw_e) ((hrow _ _ (by omega)).trans hC.2.1) ((hrow _ _ (by omega)).trans hC.2.2.1) mw_e rfl, hA.congr (fun a j y => hrow a j (by omega))⟩ (fun a y => by funext j; exact hrow a j (by omega))
                  · show cn_V l en mi_M_chunk d 0 0 S I P Q 38 [(0, .ref 155), (1, .int (nI (2))), (2, .int (seq)), (3, .int (req)), (4, .long (x)), (6, .int (nI (ct)))] []
                    refine cn_aload_n (pc' := 39) (k := 0) rfl rfl d_M_chunk_38 rfl ?_
                    refine cn_getIv (pc' := 42) (v := nI (1)) hin fl_M_79 hm.1 rfl d_M_chunk_39 rfl ?_
                    refine cn_if_eq_n (tgt := 52) (pc' := 45) (by omega) d_M_chunk_42 (by decide) rfl (fun hc42 => ?_) (fun hc42 => ?_)
                    · exact False.elim (by omega)
                    · refine cn_aload_n (pc' := 46) (k := 0) rfl rfl d_M_chunk_45 rfl ?_
                      refine cn_getIv (pc' := 49) (v := nI (ch.2.2.2.2.length)) q4 fl_M_140 hm.1 rfl d_M_chunk_46 rfl ?_
                      refine cn_goto (tgt := 53) d_M_chunk_49 (by decide) ?_
                      refine cn_istore (pc' := 55) (lv' := [(0, .ref 155), (1, .int (nI (2))), (2, .int (seq)), (3, .int (req)), (4, .long (x)), (6, .int (nI (ct))), (7, .int (nI (ch.2.2.2.2.length)))]) [1, 2, 3, 4, 5, 6, 0] (Nat.le_of_ble_eq_true rfl) rfl d_M_chunk_53 rfl ?_
                      refine cn_aload_n (pc' := 56) (k := 0) rfl rfl d_M_chunk_55 rfl ?_
                      refine cn_getIv (pc' := 59) (v := nI (1)) hin fl_M_79 hm.1 rfl d_M_chunk_56 rfl ?_
                      refine cn_if_eq_n (tgt := 69) (pc' := 62) (by omega) d_M_chunk_59 (by decide) rfl (fun hc59 => ?_) (fun hc59 => ?_)
                      · exact False.elim (by omega)
                      · refine cn_aload_n (pc' := 63) (k := 0) rfl rfl d_M_chunk_62 rfl ?_
                        refine cn_getIv (pc' := 66) (v := nI (q.2)) q2 fl_M_143 hm.1 rfl d_M_chunk_63 rfl ?_
                        refine cn_goto (tgt := 70) d_M_chunk_66 (by decide) ?_
                        refine cn_istore (pc' := 72) (lv' := [(0, .ref 155), (1, .int (nI (2))), (2, .int (seq)), (3, .int (req)), (4, .long (x)), (6, .int (nI (ct))), (7, .int (nI (ch.2.2.2.2.length))), (8, .int (nI (q.2)))]) [1, 2, 3, 4, 5, 6, 7, 0] (Nat.le_of_ble_eq_true rfl) rfl d_M_chunk_70 rfl ?_
                        refine cn_aload_n (pc' := 73) (k := 0) rfl rfl d_M_chunk_72 rfl ?_
                        refine cn_iload_n (pc' := 74) (k := 2) rfl rfl d_M_chunk_73 rfl ?_
                        refine cn_callV (pc' := 77) (kc1 := 0) (ks1 := 0) (kc2 := 0) (ks2 := 0) (rest := []) (lvj := [(0, .ref 155), (1, .int (seq))]) [.int (seq)] mv_M_146 hm.1 rfl rfl rfl (Nat.le_of_ble_eq_true rfl) (Nat.le_of_ble_eq_true rfl) (by omega) (by omega) (by omega) d_M_chunk_74 rfl ?_
                        refine c_M_follows hm hC hc17 ?_
                        show cn_V l en mi_M_chunk d 0 0 S I P Q 77 [(0, .ref 155), (1, .int (nI (2))), (2, .int (seq)), (3, .int (req)), (4, .long (x)), (6, .int (nI (ct))), (7, .int (nI (ch.2.2.2.2.length))), (8, .int (nI (q.2)))] [.int (nI ((!(ch.2.1 && !sp_next ch.2.2.1 seq)).toNat))]
                        refine cn_if_eq_n (tgt := 119) (pc' := 80) (by omega) d_M_chunk_77 (by decide) rfl (fun hc77 => ?_) (fun hc77 => ?_)
                        · refine cn_aload_n (pc' := 120) (k := 0) rfl rfl d_M_chunk_119 rfl ?_
                          refine cn_iconst (pc' := 121) k_c_1 d_M_chunk_120 rfl ?_
                          refine cn_putI (pc' := 124) fl_M_72 hm.1 rfl rfl rfl rfl d_M_chunk_121 rfl ?_
                          refine cn_aload_n (pc' := 125) (k := 0) rfl rfl d_M_chunk_124 rfl ?_
                          refine cn_iconst (pc' := 126) k_c_0 d_M_chunk_125 rfl ?_
                          refine cn_putI (pc' := 129) fl_M_79 hm.1 rfl rfl rfl rfl d_M_chunk_126 rfl ?_
                          refine cn_iconst (pc' := 130) k_c_2 d_M_chunk_129 rfl ?_
                          refine cn_iret rfl d_M_chunk_130 ?_
                          have ecl : sp_close ch 2 seq req ct = true := by unfold sp_close; rw [show (ch.2.1 && !sp_next ch.2.2.1 seq) = true from nt_t (tn_0 hc77)]; rfl
                          rw [if_pos ecl] at K
                          have hrow : ∀ a j, (a ≠ 155 ∨ (j ≠ 0 ∧ j ≠ 22)) → ((cn_wi (cn_wi I 155 0 (nI (1))) 155 22 (nI (0)))) a j = I a j := fun a j y => by rw [mw_o (by omega), mw_o (by omega)]
                          exact K _ ⟨hm, hN.congr (fun a j y => hrow a j (by omega)), hJ.congr (fun a j y => hrow a j (by omega)), hS.congr (fun a j y => hrow a j (by omega)), hp1, mC_c (I := I) (ch := ch) (mw_k (by decide) mw_e) ((hrow _ _ (by omega)).trans hC.2.1) ((hrow _ _ (by omega)).trans hC.2.2.1) mw_e rfl, hA.congr (fun a j y => hrow a j (by omega))⟩ (fun a y => by funext j; exact hrow a j (by omega))
                        · refine cn_aload_n (pc' := 81) (k := 0) rfl rfl d_M_chunk_80 rfl ?_
                          refine cn_getIv (pc' := 84) (v := nI (1)) hin fl_M_79 hm.1 rfl d_M_chunk_81 rfl ?_
                          refine cn_if_eq_n (tgt := 95) (pc' := 87) (by omega) d_M_chunk_84 (by decide) rfl (fun hc84 => ?_) (fun hc84 => ?_)
                          · exact False.elim (by omega)
                          · refine cn_iload_n (pc' := 88) (k := 3) rfl rfl d_M_chunk_87 rfl ?_
                            refine cn_aload_n (pc' := 89) (k := 0) rfl rfl d_M_chunk_88 rfl ?_
                            refine cn_getIv (pc' := 92) (v := q.1) q1 fl_M_149 hm.1 rfl d_M_chunk_89 rfl ?_
                            refine cn_icmp_ne (tgt := 119) (pc' := 95) d_M_chunk_92 (by decide) rfl (fun hc92 => ?_) (fun hc92 => ?_)
                            · refine cn_aload_n (pc' := 120) (k := 0) rfl rfl d_M_chunk_119 rfl ?_
                              refine cn_iconst (pc' := 121) k_c_1 d_M_chunk_120 rfl ?_
                              refine cn_putI (pc' := 124) fl_M_72 hm.1 rfl rfl rfl rfl d_M_chunk_121 rfl ?_
                              refine cn_aload_n (pc' := 125) (k := 0) rfl rfl d_M_chunk_124 rfl ?_
                              refine cn_iconst (pc' := 126) k_c_0 d_M_chunk_125 rfl ?_
                              refine cn_putI (pc' := 129) fl_M_79 hm.1 rfl rfl rfl rfl d_M_chunk_126 rfl ?_
                              refine cn_iconst (pc' := 130) k_c_2 d_M_chunk_129 rfl ?_
                              refine cn_iret rfl d_M_chunk_130 ?_
                              have ecl : sp_close ch 2 seq req ct = true := by unfold sp_close; rw [hq]; dsimp only; rw [decide_eq_true hc92]; simp
                              rw [if_pos ecl] at K
                              have hrow : ∀ a j, (a ≠ 155 ∨ (j ≠ 0 ∧ j ≠ 22)) → ((cn_wi (cn_wi I 155 0 (nI (1))) 155 22 (nI (0)))) a j = I a j := fun a j y => by rw [mw_o (by omega), mw_o (by omega)]
                              exact K _ ⟨hm, hN.congr (fun a j y => hrow a j (by omega)), hJ.congr (fun a j y => hrow a j (by omega)), hS.congr (fun a j y => hrow a j (by omega)), hp1, mC_c (I := I) (ch := ch) (mw_k (by decide) mw_e) ((hrow _ _ (by omega)).trans hC.2.1) ((hrow _ _ (by omega)).trans hC.2.2.1) mw_e rfl, hA.congr (fun a j y => hrow a j (by omega))⟩ (fun a y => by funext j; exact hrow a j (by omega))
                            · refine cn_iload_n (pc' := 96) (k := 1) rfl rfl d_M_chunk_95 rfl ?_
                              refine cn_iconst (pc' := 97) k_c_2 d_M_chunk_96 rfl ?_
                              refine cn_icmp_eq_n (tgt := 131) (pc' := 100) (by omega) (by omega) d_M_chunk_97 (by decide) rfl (fun hc97 => ?_) (fun hc97 => ?_)
                              · refine cn_aload_n (pc' := 132) (k := 0) rfl rfl d_M_chunk_131 rfl ?_
                                refine cn_iconst (pc' := 133) k_c_1 d_M_chunk_132 rfl ?_
                                refine cn_putI (pc' := 136) fl_M_76 hm.1 rfl rfl rfl rfl d_M_chunk_133 rfl ?_
                                refine cn_aload_n (pc' := 137) (k := 0) rfl rfl d_M_chunk_136 rfl ?_
                                refine cn_iload_n (pc' := 138) (k := 2) rfl rfl d_M_chunk_137 rfl ?_
                                refine cn_putI (pc' := 141) fl_M_137 hm.1 rfl rfl rfl rfl d_M_chunk_138 rfl ?_
                                refine cn_iload_n (pc' := 142) (k := 1) rfl rfl d_M_chunk_141 rfl ?_
                                refine cn_iconst (pc' := 143) k_c_2 d_M_chunk_142 rfl ?_
                                refine cn_icmp_ne_n (tgt := 153) (pc' := 146) (by omega) (by omega) d_M_chunk_143 (by decide) rfl (fun hc143 => ?_) (fun hc143 => ?_)
                                · exact False.elim (by omega)
                                · refine cn_aload_n (pc' := 147) (k := 0) rfl rfl d_M_chunk_146 rfl ?_
                                  refine cn_iconst (pc' := 148) k_c_0 d_M_chunk_147 rfl ?_
                                  refine cn_putI (pc' := 151) fl_M_79 hm.1 rfl rfl rfl rfl d_M_chunk_148 rfl ?_
                                  refine cn_iconst (pc' := 152) k_c_0 d_M_chunk_151 rfl ?_
                                  refine cn_iret rfl d_M_chunk_152 ?_
                                  have hfol : (ch.2.1 && !sp_next ch.2.2.1 seq) = false := nt_f (tn_1 hc77)
                                  have ecl : sp_close ch 2 seq req ct = false := by unfold sp_close; rw [hfol, hq]; dsimp only; rw [decide_eq_false (fun h => h hc92)]; rfl
                                  rw [if_neg (by rw [ecl]; decide), if_pos (by decide)] at K
                                  have etk : sp_take ch 2 seq req x ct = (ch.1, true, seq, none, ch.2.2.2.2) := by unfold sp_take; rw [if_pos rfl]
                                  rw [etk] at K
                                  have hrow : ∀ a j, (a ≠ 155 ∨ (j ≠ 20 ∧ j ≠ 21 ∧ j ≠ 22)) → ((cn_wi (cn_wi (cn_wi I 155 20 (nI (1))) 155 21 (seq)) 155 22 (nI (0)))) a j = I a j := fun a j y => by rw [mw_o (by omega), mw_o (by omega), mw_o (by omega)]
                                  exact K _ ⟨hm, hN.congr (fun a j y => hrow a j (by omega)), hJ.congr (fun a j y => hrow a j (by omega)), hS.congr (fun a j y => hrow a j (by omega)), hp1, mC_c (I := I) (ch := ch) ((hrow _ _ (by omega)).trans hC.1) (mw_k (by decide) (mw_k (by decide) mw_e)) (mw_k (by decide) mw_e) mw_e rfl, hA.congr (fun a j y => hrow a j (by omega))⟩ (fun a y => by funext j; exact hrow a j (by omega))
                              · exact False.elim (by omega)
              · refine cn_iconst (pc' := 37) k_c_m1 d_M_chunk_36 rfl ?_
                refine cn_iret rfl d_M_chunk_37 ?_
                have hbad : sp_bad ch kind seq req cnt = true := by unfold sp_bad; rw [decide_eq_true (Int32.not_le.mp hc33)]; simp
                have e : sp_chunk (ns, xs, (ps, pn), ch, (rq, ru)) kind seq req x cnt = (-1, (ns, xs, (ps, pn), ch, (rq, ru))) := by unfold sp_chunk; rw [if_pos hbad]
                rw [e] at K
                exact K I ⟨hm, hN, hJ, hS, hp1, hC, hA⟩ frM.rf
end
