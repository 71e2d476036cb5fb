/-- what a list reads as, where so much depth is left -/
def lstk (g : List Int32) : Nat → Nat → Option (List Int32 × Nat)
  | 0 => fun _ => none
  | k + 1 => pvl g (pv g k)
theorem pv_lstk (g : List Int32) (k p : Nat) : pv g k p = pvc g (lstk g k) p := by cases k <;> rfl
theorem pvs_s {f : Nat → Option (List Int32 × Nat)} {n p : Nat} {a : List Int32 × Nat} (h : f p = some a) : pvs f (n + 1) p = (match pvs f n a.2 with
    | none => none
    | some b => some (a.1 ++ b.1, b.2)) := by
  simp only [pvs, h]
  cases pvs f n a.2 <;> rfl
theorem pvs_n {f : Nat → Option (List Int32 × Nat)} {n p : Nat} (h : f p = none) : pvs f (n + 1) p = none := by simp only [pvs, h]
theorem pvc_152 {g : List Int32} {lst : Nat → Option (List Int32 × Nat)} {p : Nat} (h : g.getD p 0 = nI 152) : pvc g lst p = if p + 5 ≤ g.length then lst p else none := by
  unfold pvc
  by_cases h1 : p + 1 ≤ g.length
  · rw [if_pos h1, if_neg (by rw [h]; decide), if_neg (by rw [h]; decide), if_neg (by rw [h]; decide), if_neg (by rw [h]; decide), if_neg (by rw [h]; decide), if_pos h]
  · rw [if_neg h1, if_neg (by omega)]
section
variable {l : Launch} {en : cn_E} {d : Nat} {S : cn_S} {I : cn_I} {P : cn_P} {Q : Option Value → cn_S → cn_I → cn_P → Prop}
variable {g v : List Int32} {p : Nat} {w : Bool}
theorem c_M_rv_bad {D : Nat} (hD : D ≤ 3) (hm : wM S P) (h28 : I 155 28 = nI 0) (K : Q none S I P) : cn_V l en mi_M_readValue d 0 0 S I P Q 14 [(0, .ref 155), (1, .int (nI D))] [] := by
  refine cn_iload_n (pc' := 15) (k := 1) rfl rfl d_M_readValue_14 rfl ?_
  refine cn_if_lt_n (tgt := 131) (pc' := 18) (by omega) d_M_readValue_15 (by decide) rfl (fun hc15 => ?_) (fun hc15 => ?_)
  · exact False.elim (by omega)
  · refine cn_aload_n (pc' := 19) (k := 0) rfl rfl d_M_readValue_18 rfl ?_
    refine cn_getIv (pc' := 22) (v := nI (0)) h28 fl_M_161 hm.1 rfl d_M_readValue_19 rfl ?_
    refine cn_if_eq_n (tgt := 131) (pc' := 25) (by omega) d_M_readValue_22 (by decide) rfl (fun hc22 => ?_) (fun hc22 => ?_)
    · refine cn_vret rfl d_M_readValue_131 ?_
      exact K
    · exact False.elim (by omega)
theorem c_M_rv (hm : wM S P) (hd1 : 3 ≤ d) : ∀ k, (∀ (D : Nat), D + k = 3 → ∀ (n : Nat), n < 2 ^ 31 → ∀ (I : cn_I) (p : Nat) (v : List Int32), mg I g p true → mv I v → I 173 D = nI n → (pvs (pv g k) n p = none → ∀ I' p' v', mg I' g p' false → mv I' v' → fX D I I' → Q none S I' P) → (∀ b, pvs (pv g k) n p = some b → ∀ I', mg I' g b.2 true → mv I' ((v ++ b.1).take 64) → I' 173 D = nI 0 → fX D I I' → cn_V l en mi_M_readValue d 0 0 S I' P Q 14 [(0, .ref 155), (1, .int (nI D))] []) → cn_V l en mi_M_readValue d 0 0 S I P Q 14 [(0, .ref 155), (1, .int (nI D))] []) := by
  intro k
  induction k with
  | zero =>
    intro D hD n
    induction n with
    | zero =>
      intro _ I p v hr hv h173 K0 K1
      exact K1 ([], p) rfl I hr (by rw [List.append_nil, List.take_of_length_le hv.2.1]; exact hv) h173 fX.rf
    | succ n ihn =>
      intro hn I p v hr hv h173 K0 K1
      have hp := hr.2.2.2.1
      have hg64 := hr.2.2.2.2.1
      have h255 := hr.2.2.2.2.2.2 p
      refine cn_iload_n (pc' := 15) (k := 1) rfl rfl d_M_readValue_14 rfl ?_
      refine cn_if_lt_n (tgt := 131) (pc' := 18) (by omega) d_M_readValue_15 (by decide) rfl (fun hc15 => ?_) (fun hc15 => ?_)
      · exact False.elim (by omega)
      · refine cn_aload_n (pc' := 19) (k := 0) rfl rfl d_M_readValue_18 rfl ?_
        refine cn_getIv (pc' := 22) (v := nI (1)) hr.2.2.1 fl_M_161 hm.1 rfl d_M_readValue_19 rfl ?_
        refine cn_if_eq_n (tgt := 131) (pc' := 25) (by omega) d_M_readValue_22 (by decide) rfl (fun hc22 => ?_) (fun hc22 => ?_)
        · exact False.elim (by omega)
        · refine cn_aload_n (pc' := 26) (k := 0) rfl rfl d_M_readValue_25 rfl ?_
          refine cn_getP (pc' := 29) (b := 173) (hm.2.1 32 173 rfl) fl_M_66 hm.1 rfl d_M_readValue_26 rfl ?_
          refine cn_iload_n (pc' := 30) (k := 1) rfl rfl d_M_readValue_29 rfl ?_
          refine cn_ialdv (pc' := 31) (v := nI (n + 1)) h173 (hm.2.2 173 0 4 rfl) (by omega) (by decide) d_M_readValue_30 rfl ?_
          refine cn_if_ne_n (tgt := 40) (pc' := 34) (by omega) d_M_readValue_31 (by decide) rfl (fun hc31 => ?_) (fun hc31 => ?_)
          · refine cn_aload_n (pc' := 41) (k := 0) rfl rfl d_M_readValue_40 rfl ?_
            refine cn_getP (pc' := 44) (b := 173) (hm.2.1 32 173 rfl) fl_M_66 hm.1 rfl d_M_readValue_41 rfl ?_
            refine cn_iload_n (pc' := 45) (k := 1) rfl rfl d_M_readValue_44 rfl ?_
            refine cn_dup2 (pc' := 46) rfl rfl d_M_readValue_45 rfl ?_
            refine cn_ialdv (pc' := 47) (v := nI (n + 1)) h173 (hm.2.2 173 0 4 rfl) (by omega) (by decide) d_M_readValue_46 rfl ?_
            refine cn_iconst (pc' := 48) k_c_1 d_M_readValue_47 rfl ?_
            refine cn_isub_n (pc' := 49) (by omega) d_M_readValue_48 rfl ?_
            refine cn_iast (pc' := 50) (hm.2.2 173 0 4 rfl) (by omega) (by decide) d_M_readValue_49 rfl ?_
            refine cn_aload_n (pc' := 51) (k := 0) rfl rfl d_M_readValue_50 rfl ?_
            refine cn_callV (pc' := 54) (kc1 := 0) (ks1 := 0) (kc2 := 0) (ks2 := 0) (rest := []) (lvj := [(0, .ref 155)]) [] mv_M_164 hm.1 rfl rfl rfl (Nat.le_of_ble_eq_true rfl) (Nat.le_of_ble_eq_true rfl) (by omega) (by omega) (by omega) d_M_readValue_51 rfl ?_
            have hf0 : fX D I (cn_wi I 173 D (nI n)) := fun a j x y z => mw_o (by omega)
            have hr0 : mg (cn_wi I 173 D (nI n)) g p true := hr.congr (mw_o (by omega)) (mw_o (by omega)) (mw_o (by omega)) (fun j => mw_o (by omega))
            have hv0 : mv (cn_wi I 173 D (nI n)) v := hv.congr (mw_o (by omega)) (fun j => mw_o (by omega))
            rw [show n + 1 - 1 = n from rfl]
            refine c_M_next hm hr0 (fun I1 hr1 hf1 => ?_)
            show cn_V l en mi_M_readValue d 0 0 S I1 P Q 54 [(0, .ref 155), (1, .int (nI (D)))] [.int (g.getD p 0)]
            refine cn_istore_n (pc' := 55) (lv' := [(0, .ref 155), (1, .int (nI (D))), (2, .int (g.getD p 0))]) rfl [1, 2, 0] (Nat.le_of_ble_eq_true rfl) rfl d_M_readValue_54 rfl ?_
            refine cn_aload_n (pc' := 56) (k := 0) rfl rfl d_M_readValue_55 rfl ?_
            refine cn_iload_n (pc' := 57) (k := 2) rfl rfl d_M_readValue_56 rfl ?_
            refine cn_callV (pc' := 60) (kc1 := 0) (ks1 := 0) (kc2 := 0) (ks2 := 0) (rest := []) (lvj := [(0, .ref 155), (1, .int (g.getD p 0))]) [.int (g.getD p 0)] mv_M_175 hm.1 rfl rfl rfl (Nat.le_of_ble_eq_true rfl) (Nat.le_of_ble_eq_true rfl) (by omega) (by omega) (by omega) d_M_readValue_57 rfl ?_
            refine c_M_put hm (hv0.fN hf1) (fun I2 hv2 hf2 => ?_)
            have hr2 := hr1.fP hf2
            have hf2 : fW (cn_wi I 173 D (nI n)) I2 := hf1.toW.tr hf2.toW
            have h2D : I2 173 D = nI n := (hf2 _ _ (by omega) (by omega)).trans mw_e
            show cn_V l en mi_M_readValue d 0 0 S I2 P Q 60 [(0, .ref 155), (1, .int (nI (D))), (2, .int (g.getD p 0))] []
            refine cn_iload_n (pc' := 61) (k := 2) rfl rfl d_M_readValue_60 rfl ?_
            refine cn_sipush (pc' := 64) k_s_152 d_M_readValue_61 rfl ?_
            refine cn_icmp_ne (tgt := 123) (pc' := 67) d_M_readValue_64 (by decide) rfl (fun hc64 => ?_) (fun hc64 => ?_)
            · refine cn_aload_n (pc' := 124) (k := 0) rfl rfl d_M_readValue_123 rfl ?_
              refine cn_iload_n (pc' := 125) (k := 2) rfl rfl d_M_readValue_124 rfl ?_
              refine cn_callV (pc' := 128) (kc1 := 0) (ks1 := 0) (kc2 := 0) (ks2 := 0) (rest := []) (lvj := [(0, .ref 155), (1, .int (g.getD p 0))]) [.int (g.getD p 0)] mv_M_181 hm.1 rfl rfl rfl (Nat.le_of_ble_eq_true rfl) (Nat.le_of_ble_eq_true rfl) (by omega) (by omega) (by omega) d_M_readValue_125 rfl ?_
              refine c_M_readPlain (lst := lstk g 0) hm hr2 hp hv2 hc64 (by omega) (fun hno I3 p3 v3 hr3 hv3 hf3 => ?_) (fun a ha I3 hr3 hv3 hf3 => ?_)
              · show cn_V l en mi_M_readValue d 0 0 S I3 P Q 128 [(0, .ref 155), (1, .int (nI (D))), (2, .int (g.getD p 0))] []
                refine cn_goto (tgt := 14) d_M_readValue_128 (by decide) ?_
                refine cn_fewer (lv := [(0, .ref 155), (1, .int (nI (D)))]) (fun q hq => by simp only [List.mem_cons, List.not_mem_nil, or_false] at hq ⊢; rcases hq with h | h <;> simp only [h, true_or, or_true]) ?_
                exact c_M_rv_bad (by omega) hm hr3.2.2.1 (K0 (pvs_n ((pv_lstk g 0 p).trans hno)) I3 p3 v3 hr3 hv3 (hf0.tr ((hf2.tr hf3).toX)))
              · show cn_V l en mi_M_readValue d 0 0 S I3 P Q 128 [(0, .ref 155), (1, .int (nI (D))), (2, .int (g.getD p 0))] []
                refine cn_goto (tgt := 14) d_M_readValue_128 (by decide) ?_
                refine cn_fewer (lv := [(0, .ref 155), (1, .int (nI (D)))]) (fun q hq => by simp only [List.mem_cons, List.not_mem_nil, or_false] at hq ⊢; rcases hq with h | h <;> simp only [h, true_or, or_true]) ?_
                have ha : pv g 0 p = some a := (pv_lstk g 0 p).trans ha
                rw [pvs_s ha] at K0 K1
                have hf03 : fX D I I3 := hf0.tr ((hf2.tr hf3).toX)
                refine ihn (by omega) I3 a.2 _ hr3 hv3 ((hf3 _ _ (by omega) (by omega)).trans h2D) (fun hno I4 p4 v4 hr4 hv4 hf4 => K0 (by rw [hno]) I4 p4 v4 hr4 hv4 (hf03.tr hf4)) (fun b hb I4 hr4 hv4 h4D hf4 => ?_)
                rw [tk_app] at hv4
                exact K1 (a.1 ++ b.1, b.2) (by rw [hb]) I4 hr4 hv4 h4D (hf03.tr hf4)
            · refine cn_aload_n (pc' := 68) (k := 0) rfl rfl d_M_readValue_67 rfl ?_
              refine cn_iconst (pc' := 69) k_c_4 d_M_readValue_68 rfl ?_
              refine cn_callV (pc' := 72) (kc1 := 0) (ks1 := 0) (kc2 := 0) (ks2 := 0) (rest := []) (lvj := [(0, .ref 155), (1, .int (nI (4)))]) [.int (nI (4))] mv_M_178 hm.1 rfl rfl rfl (Nat.le_of_ble_eq_true rfl) (Nat.le_of_ble_eq_true rfl) (by omega) (by omega) (by omega) d_M_readValue_69 rfl ?_
              refine c_M_putNumber (n := 4) hm (by decide) (by omega) hr2 hv2 (fun I3 hr3 hv3 hf3 => ?_)
              rw [rp_add, rw_add, show 1 + 4 = 5 from rfl] at hr3
              rw [show min 4 4 = 4 from rfl, nmk_4, rn4_rp]
              have hp5 : p + 1 ≤ g.length := by
                refine Nat.lt_of_not_le (fun h => ?_)
                rw [gd_out h] at hc64; exact absurd hc64 (by decide)
              have h3D : I3 173 D = nI n := (hf3 _ _ (by omega) (by omega)).trans h2D
              have hf3 : fW (cn_wi I 173 D (nI n)) I3 := hf2.tr hf3
              rw [tk_app, show [g.getD p 0] ++ mvb g (rp g p 1) 4 = mvb g p 5 by rw [show rp g p 1 = p + 1 by unfold rp; omega, show 5 = 1 + 4 from rfl, mvb_c]; rfl] at hv3
              have epv : pv g 0 p = if p + 5 ≤ g.length then lstk g 0 p else none := (pv_lstk g 0 p).trans (pvc_152 hc64)
              by_cases hp6 : p + 5 ≤ g.length
              · rw [show rp g p 5 = p + 5 by unfold rp; omega, show rw_ g p 5 true = true by unfold rw_; rw [decide_eq_true hp6]; rfl] at hr3
                rw [if_pos hp6] at epv
                by_cases hneg : rn4 g (p + 1) < 0
                · show cn_V l en mi_M_readValue d 0 0 S I3 P Q 72 [(0, .ref 155), (1, .int (nI (D))), (2, .int (g.getD p 0))] [.int (rn4 g (p + 1))]
                  refine cn_istore_n (pc' := 73) (lv' := [(0, .ref 155), (1, .int (nI (D))), (2, .int (g.getD p 0)), (3, .int (rn4 g (p + 1)))]) rfl [1, 2, 3, 0] (Nat.le_of_ble_eq_true rfl) rfl d_M_readValue_72 rfl ?_
                  refine cn_aload_n (pc' := 74) (k := 0) rfl rfl d_M_readValue_73 rfl ?_
                  refine cn_aload_n (pc' := 75) (k := 0) rfl rfl d_M_readValue_74 rfl ?_
                  refine cn_getIv (pc' := 78) (v := nI (1)) hr3.2.2.1 fl_M_161 hm.1 rfl d_M_readValue_75 rfl ?_
                  refine cn_if_eq_n (tgt := 94) (pc' := 81) (by omega) d_M_readValue_78 (by decide) rfl (fun hc78 => ?_) (fun hc78 => ?_)
                  · exact False.elim (by omega)
                  · refine cn_iload_n (pc' := 82) (k := 3) rfl rfl d_M_readValue_81 rfl ?_
                    refine cn_if_lt (tgt := 94) (pc' := 85) d_M_readValue_82 (by decide) rfl (fun hc82 => ?_) (fun hc82 => ?_)
                    · refine cn_iconst (pc' := 95) k_c_0 d_M_readValue_94 rfl ?_
                      refine cn_putI (pc' := 98) fl_M_161 hm.1 rfl rfl rfl rfl d_M_readValue_95 rfl ?_
                      refine cn_aload_n (pc' := 99) (k := 0) rfl rfl d_M_readValue_98 rfl ?_
                      refine cn_getIv (pc' := 102) (v := nI (0)) mw_e fl_M_161 hm.1 rfl d_M_readValue_99 rfl ?_
                      refine cn_if_eq_n (tgt := 111) (pc' := 105) (by omega) d_M_readValue_102 (by decide) rfl (fun hc102 => ?_) (fun hc102 => ?_)
                      · refine cn_iload_n (pc' := 112) (k := 1) rfl rfl d_M_readValue_111 rfl ?_
                        refine cn_istore_n (pc' := 113) (lv' := [(0, .ref 155), (1, .int (nI (D))), (2, .int (g.getD p 0)), (3, .int (rn4 g (p + 1)))]) rfl [1, 0, 2, 3] (Nat.le_of_ble_eq_true rfl) rfl d_M_readValue_112 rfl ?_
                        refine cn_aload_n (pc' := 114) (k := 0) rfl rfl d_M_readValue_113 rfl ?_
                        refine cn_getP (pc' := 117) (b := 173) (hm.2.1 32 173 rfl) fl_M_66 hm.1 rfl d_M_readValue_114 rfl ?_
                        refine cn_iload_n (pc' := 118) (k := 1) rfl rfl d_M_readValue_117 rfl ?_
                        refine cn_iload_n (pc' := 119) (k := 3) rfl rfl d_M_readValue_118 rfl ?_
                        refine cn_iast (pc' := 120) (hm.2.2 173 0 4 rfl) (by omega) (by decide) d_M_readValue_119 rfl ?_
                        refine cn_goto (tgt := 128) d_M_readValue_120 (by decide) ?_
                        refine cn_goto (tgt := 14) d_M_readValue_128 (by decide) ?_
                        refine cn_fewer (lv := [(0, .ref 155), (1, .int (nI (D)))]) (fun q hq => by simp only [List.mem_cons, List.not_mem_nil, or_false] at hq ⊢; rcases hq with h | h <;> simp only [h, true_or, or_true]) ?_
                        have hno : pv g 0 p = none := epv.trans rfl
                        have hr4 : mg ((cn_wi (cn_wi I3 155 28 (nI (0))) 173 D (rn4 g (p + 1)))) g (rp g p 5) false := ⟨mw_a (by decide) (mw_k (by decide) hr3.1), mw_a (by decide) (mw_k (by decide) (hr3.2.1.trans (by rw [show p + 5 = rp g p 5 by unfold rp; omega]))), mw_a (by decide) mw_e, by unfold rp; omega, hg64, fun j hj => mw_a (by decide) (mw_a (by decide) (hr3.2.2.2.2.2.1 j hj)), hr3.2.2.2.2.2.2⟩
                        exact c_M_rv_bad (by omega) hm hr4.2.2.1 (K0 (pvs_n hno) _ _ _ hr4 (hv3.congr (by rw [mw_o (by omega), mw_o (by omega)]) (fun j => by rw [mw_o (by omega), mw_o (by omega)])) (hf0.tr ((hf3.toX : fX D _ _).tr (fun a j x y z => by rw [mw_o (by omega), mw_o (by omega)]))))
                      · exact False.elim (by omega)
                    · exact absurd hneg hc82
                · obtain ⟨m, hm31, hmm⟩ := nI_of hneg
                  rw [hmm]
                  show cn_V l en mi_M_readValue d 0 0 S I3 P Q 72 [(0, .ref 155), (1, .int (nI (D))), (2, .int (g.getD p 0))] [.int (nI (m))]
                  refine cn_istore_n (pc' := 73) (lv' := [(0, .ref 155), (1, .int (nI (D))), (2, .int (g.getD p 0)), (3, .int (nI (m)))]) rfl [1, 2, 3, 0] (Nat.le_of_ble_eq_true rfl) rfl d_M_readValue_72 rfl ?_
                  refine cn_aload_n (pc' := 74) (k := 0) rfl rfl d_M_readValue_73 rfl ?_
                  refine cn_aload_n (pc' := 75) (k := 0) rfl rfl d_M_readValue_74 rfl ?_
                  refine cn_getIv (pc' := 78) (v := nI (1)) hr3.2.2.1 fl_M_161 hm.1 rfl d_M_readValue_75 rfl ?_
                  refine cn_if_eq_n (tgt := 94) (pc' := 81) (by omega) d_M_readValue_78 (by decide) rfl (fun hc78 => ?_) (fun hc78 => ?_)
                  · exact False.elim (by omega)
                  · refine cn_iload_n (pc' := 82) (k := 3) rfl rfl d_M_readValue_81 rfl ?_
                    refine cn_if_lt_n (tgt := 94) (pc' := 85) (by omega) d_M_readValue_82 (by decide) rfl (fun hc82 => ?_) (fun hc82 => ?_)
                    · exact False.elim (by omega)
                    · refine cn_iload_n (pc' := 86) (k := 1) rfl rfl d_M_readValue_85 rfl ?_
                      refine cn_iconst (pc' := 87) k_c_3 d_M_readValue_86 rfl ?_
                      refine cn_icmp_ge_n (tgt := 94) (pc' := 90) (by omega) (by omega) d_M_readValue_87 (by decide) rfl (fun hc87 => ?_) (fun hc87 => ?_)
                      · refine cn_iconst (pc' := 95) k_c_0 d_M_readValue_94 rfl ?_
                        refine cn_putI (pc' := 98) fl_M_161 hm.1 rfl rfl rfl rfl d_M_readValue_95 rfl ?_
                        refine cn_aload_n (pc' := 99) (k := 0) rfl rfl d_M_readValue_98 rfl ?_
                        refine cn_getIv (pc' := 102) (v := nI (0)) mw_e fl_M_161 hm.1 rfl d_M_readValue_99 rfl ?_
                        refine cn_if_eq_n (tgt := 111) (pc' := 105) (by omega) d_M_readValue_102 (by decide) rfl (fun hc102 => ?_) (fun hc102 => ?_)
                        · refine cn_iload_n (pc' := 112) (k := 1) rfl rfl d_M_readValue_111 rfl ?_
                          refine cn_istore_n (pc' := 113) (lv' := [(0, .ref 155), (1, .int (nI (D))), (2, .int (g.getD p 0)), (3, .int (nI (m)))]) rfl [1, 0, 2, 3] (Nat.le_of_ble_eq_true rfl) rfl d_M_readValue_112 rfl ?_
                          refine cn_aload_n (pc' := 114) (k := 0) rfl rfl d_M_readValue_113 rfl ?_
                          refine cn_getP (pc' := 117) (b := 173) (hm.2.1 32 173 rfl) fl_M_66 hm.1 rfl d_M_readValue_114 rfl ?_
                          refine cn_iload_n (pc' := 118) (k := 1) rfl rfl d_M_readValue_117 rfl ?_
                          refine cn_iload_n (pc' := 119) (k := 3) rfl rfl d_M_readValue_118 rfl ?_
                          refine cn_iast (pc' := 120) (hm.2.2 173 0 4 rfl) (by omega) (by decide) d_M_readValue_119 rfl ?_
                          refine cn_goto (tgt := 128) d_M_readValue_120 (by decide) ?_
                          refine cn_goto (tgt := 14) d_M_readValue_128 (by decide) ?_
                          refine cn_fewer (lv := [(0, .ref 155), (1, .int (nI (D)))]) (fun q hq => by simp only [List.mem_cons, List.not_mem_nil, or_false] at hq ⊢; rcases hq with h | h <;> simp only [h, true_or, or_true]) ?_
                          have hno : pv g 0 p = none := epv.trans rfl
                          have hr4 : mg ((cn_wi (cn_wi I3 155 28 (nI (0))) 173 D (nI (m)))) g (rp g p 5) false := ⟨mw_a (by decide) (mw_k (by decide) hr3.1), mw_a (by decide) (mw_k (by decide) (hr3.2.1.trans (by rw [show p + 5 = rp g p 5 by unfold rp; omega]))), mw_a (by decide) mw_e, by unfold rp; omega, hg64, fun j hj => mw_a (by decide) (mw_a (by decide) (hr3.2.2.2.2.2.1 j hj)), hr3.2.2.2.2.2.2⟩
                          exact c_M_rv_bad (by omega) hm hr4.2.2.1 (K0 (pvs_n hno) _ _ _ hr4 (hv3.congr (by rw [mw_o (by omega), mw_o (by omega)]) (fun j => by rw [mw_o (by omega), mw_o (by omega)])) (hf0.tr ((hf3.toX : fX D _ _).tr (fun a j x y z => by rw [mw_o (by omega), mw_o (by omega)]))))
                        · exact False.elim (by omega)
                      · exact absurd hc87 (by omega)
              · rw [show rw_ g p 5 true = false by unfold rw_; rw [decide_eq_false hp6]; rfl] at hr3
                rw [if_neg hp6] at epv
                show cn_V l en mi_M_readValue d 0 0 S I3 P Q 72 [(0, .ref 155), (1, .int (nI (D))), (2, .int (g.getD p 0))] [.int (rn4 g (p + 1))]
                refine cn_istore_n (pc' := 73) (lv' := [(0, .ref 155), (1, .int (nI (D))), (2, .int (g.getD p 0)), (3, .int (rn4 g (p + 1)))]) rfl [1, 2, 3, 0] (Nat.le_of_ble_eq_true rfl) rfl d_M_readValue_72 rfl ?_
                refine cn_aload_n (pc' := 74) (k := 0) rfl rfl d_M_readValue_73 rfl ?_
                refine cn_aload_n (pc' := 75) (k := 0) rfl rfl d_M_readValue_74 rfl ?_
                refine cn_getIv (pc' := 78) (v := nI (0)) hr3.2.2.1 fl_M_161 hm.1 rfl d_M_readValue_75 rfl ?_
                refine cn_if_eq_n (tgt := 94) (pc' := 81) (by omega) d_M_readValue_78 (by decide) rfl (fun hc78 => ?_) (fun hc78 => ?_)
                · refine cn_iconst (pc' := 95) k_c_0 d_M_readValue_94 rfl ?_
                  refine cn_putI (pc' := 98) fl_M_161 hm.1 rfl rfl rfl rfl d_M_readValue_95 rfl ?_
                  refine cn_aload_n (pc' := 99) (k := 0) rfl rfl d_M_readValue_98 rfl ?_
                  refine cn_getIv (pc' := 102) (v := nI (0)) mw_e fl_M_161 hm.1 rfl d_M_readValue_99 rfl ?_
                  refine cn_if_eq_n (tgt := 111) (pc' := 105) (by omega) d_M_readValue_102 (by decide) rfl (fun hc102 => ?_) (fun hc102 => ?_)
                  · refine cn_iload_n (pc' := 112) (k := 1) rfl rfl d_M_readValue_111 rfl ?_
                    refine cn_istore_n (pc' := 113) (lv' := [(0, .ref 155), (1, .int (nI (D))), (2, .int (g.getD p 0)), (3, .int (rn4 g (p + 1)))]) rfl [1, 0, 2, 3] (Nat.le_of_ble_eq_true rfl) rfl d_M_readValue_112 rfl ?_
                    refine cn_aload_n (pc' := 114) (k := 0) rfl rfl d_M_readValue_113 rfl ?_
                    refine cn_getP (pc' := 117) (b := 173) (hm.2.1 32 173 rfl) fl_M_66 hm.1 rfl d_M_readValue_114 rfl ?_
                    refine cn_iload_n (pc' := 118) (k := 1) rfl rfl d_M_readValue_117 rfl ?_
                    refine cn_iload_n (pc' := 119) (k := 3) rfl rfl d_M_readValue_118 rfl ?_
                    refine cn_iast (pc' := 120) (hm.2.2 173 0 4 rfl) (by omega) (by decide) d_M_readValue_119 rfl ?_
                    refine cn_goto (tgt := 128) d_M_readValue_120 (by decide) ?_
                    refine cn_goto (tgt := 14) d_M_readValue_128 (by decide) ?_
                    refine cn_fewer (lv := [(0, .ref 155), (1, .int (nI (D)))]) (fun q hq => by simp only [List.mem_cons, List.not_mem_nil, or_false] at hq ⊢; rcases hq with h | h <;> simp only [h, true_or, or_true]) ?_
                    have hno : pv g 0 p = none := epv
                    have hr4 : mg ((cn_wi (cn_wi I3 155 28 (nI (0))) 173 D (rn4 g (p + 1)))) g (rp g p 5) false := ⟨mw_a (by decide) (mw_k (by decide) hr3.1), mw_a (by decide) (mw_k (by decide) (hr3.2.1.trans (by rw [show rp g p 5 = rp g p 5 by unfold rp; omega]))), mw_a (by decide) mw_e, by unfold rp; omega, hg64, fun j hj => mw_a (by decide) (mw_a (by decide) (hr3.2.2.2.2.2.1 j hj)), hr3.2.2.2.2.2.2⟩
                    exact c_M_rv_bad (by omega) hm hr4.2.2.1 (K0 (pvs_n hno) _ _ _ hr4 (hv3.congr (by rw [mw_o (by omega), mw_o (by omega)]) (fun j => by rw [mw_o (by omega), mw_o (by omega)])) (hf0.tr ((hf3.toX : fX D _ _).tr (fun a j x y z => by rw [mw_o (by omega), mw_o (by omega)]))))
                  · exact False.elim (by omega)
                · exact False.elim (by omega)
          · exact absurd hc31 (by omega)
  | succ k ihk =>
    intro D hD n
    induction n with
    | zero =>
      intro _ I p v hr hv h173 K0 K1
      exact K1 ([], p) rfl I hr (by rw [List.append_nil, List.take_of_length_le hv.2.1]; exact hv) h173 fX.rf
    | succ n ihn =>
      intro hn I p v hr hv h173 K0 K1
      have hp := hr.2.2.2.1
      have hg64 := hr.2.2.2.2.1
      have h255 := hr.2.2.2.2.2.2 p
      refine cn_iload_n (pc' := 15) (k := 1) rfl rfl d_M_readValue_14 rfl ?_
      refine cn_if_lt_n (tgt := 131) (pc' := 18) (by omega) d_M_readValue_15 (by decide) rfl (fun hc15 => ?_) (fun hc15 => ?_)
      · exact False.elim (by omega)
      · refine cn_aload_n (pc' := 19) (k := 0) rfl rfl d_M_readValue_18 rfl ?_
        refine cn_getIv (pc' := 22) (v := nI (1)) hr.2.2.1 fl_M_161 hm.1 rfl d_M_readValue_19 rfl ?_
        refine cn_if_eq_n (tgt := 131) (pc' := 25) (by omega) d_M_readValue_22 (by decide) rfl (fun hc22 => ?_) (fun hc22 => ?_)
        · exact False.elim (by omega)
        · refine cn_aload_n (pc' := 26) (k := 0) rfl rfl d_M_readValue_25 rfl ?_
          refine cn_getP (pc' := 29) (b := 173) (hm.2.1 32 173 rfl) fl_M_66 hm.1 rfl d_M_readValue_26 rfl ?_
          refine cn_iload_n (pc' := 30) (k := 1) rfl rfl d_M_readValue_29 rfl ?_
          refine cn_ialdv (pc' := 31) (v := nI (n + 1)) h173 (hm.2.2 173 0 4 rfl) (by omega) (by decide) d_M_readValue_30 rfl ?_
          refine cn_if_ne_n (tgt := 40) (pc' := 34) (by omega) d_M_readValue_31 (by decide) rfl (fun hc31 => ?_) (fun hc31 => ?_)
          · refine cn_aload_n (pc' := 41) (k := 0) rfl rfl d_M_readValue_40 rfl ?_
            refine cn_getP (pc' := 44) (b := 173) (hm.2.1 32 173 rfl) fl_M_66 hm.1 rfl d_M_readValue_41 rfl ?_
            refine cn_iload_n (pc' := 45) (k := 1) rfl rfl d_M_readValue_44 rfl ?_
            refine cn_dup2 (pc' := 46) rfl rfl d_M_readValue_45 rfl ?_
            refine cn_ialdv (pc' := 47) (v := nI (n + 1)) h173 (hm.2.2 173 0 4 rfl) (by omega) (by decide) d_M_readValue_46 rfl ?_
            refine cn_iconst (pc' := 48) k_c_1 d_M_readValue_47 rfl ?_
            refine cn_isub_n (pc' := 49) (by omega) d_M_readValue_48 rfl ?_
            refine cn_iast (pc' := 50) (hm.2.2 173 0 4 rfl) (by omega) (by decide) d_M_readValue_49 rfl ?_
            refine cn_aload_n (pc' := 51) (k := 0) rfl rfl d_M_readValue_50 rfl ?_
            refine cn_callV (pc' := 54) (kc1 := 0) (ks1 := 0) (kc2 := 0) (ks2 := 0) (rest := []) (lvj := [(0, .ref 155)]) [] mv_M_164 hm.1 rfl rfl rfl (Nat.le_of_ble_eq_true rfl) (Nat.le_of_ble_eq_true rfl) (by omega) (by omega) (by omega) d_M_readValue_51 rfl ?_
            have hf0 : fX D I (cn_wi I 173 D (nI n)) := fun a j x y z => mw_o (by omega)
            have hr0 : mg (cn_wi I 173 D (nI n)) g p true := hr.congr (mw_o (by omega)) (mw_o (by omega)) (mw_o (by omega)) (fun j => mw_o (by omega))
            have hv0 : mv (cn_wi I 173 D (nI n)) v := hv.congr (mw_o (by omega)) (fun j => mw_o (by omega))
            rw [show n + 1 - 1 = n from rfl]
            refine c_M_next hm hr0 (fun I1 hr1 hf1 => ?_)
            show cn_V l en mi_M_readValue d 0 0 S I1 P Q 54 [(0, .ref 155), (1, .int (nI (D)))] [.int (g.getD p 0)]
            refine cn_istore_n (pc' := 55) (lv' := [(0, .ref 155), (1, .int (nI (D))), (2, .int (g.getD p 0))]) rfl [1, 2, 0] (Nat.le_of_ble_eq_true rfl) rfl d_M_readValue_54 rfl ?_
            refine cn_aload_n (pc' := 56) (k := 0) rfl rfl d_M_readValue_55 rfl ?_
            refine cn_iload_n (pc' := 57) (k := 2) rfl rfl d_M_readValue_56 rfl ?_
            refine cn_callV (pc' := 60) (kc1 := 0) (ks1 := 0) (kc2 := 0) (ks2 := 0) (rest := []) (lvj := [(0, .ref 155), (1, .int (g.getD p 0))]) [.int (g.getD p 0)] mv_M_175 hm.1 rfl rfl rfl (Nat.le_of_ble_eq_true rfl) (Nat.le_of_ble_eq_true rfl) (by omega) (by omega) (by omega) d_M_readValue_57 rfl ?_
            refine c_M_put hm (hv0.fN hf1) (fun I2 hv2 hf2 => ?_)
            have hr2 := hr1.fP hf2
            have hf2 : fW (cn_wi I 173 D (nI n)) I2 := hf1.toW.tr hf2.toW
            have h2D : I2 173 D = nI n := (hf2 _ _ (by omega) (by omega)).trans mw_e
            show cn_V l en mi_M_readValue d 0 0 S I2 P Q 60 [(0, .ref 155), (1, .int (nI (D))), (2, .int (g.getD p 0))] []
            refine cn_iload_n (pc' := 61) (k := 2) rfl rfl d_M_readValue_60 rfl ?_
            refine cn_sipush (pc' := 64) k_s_152 d_M_readValue_61 rfl ?_
            refine cn_icmp_ne (tgt := 123) (pc' := 67) d_M_readValue_64 (by decide) rfl (fun hc64 => ?_) (fun hc64 => ?_)
            · refine cn_aload_n (pc' := 124) (k := 0) rfl rfl d_M_readValue_123 rfl ?_
              refine cn_iload_n (pc' := 125) (k := 2) rfl rfl d_M_readValue_124 rfl ?_
              refine cn_callV (pc' := 128) (kc1 := 0) (ks1 := 0) (kc2 := 0) (ks2 := 0) (rest := []) (lvj := [(0, .ref 155), (1, .int (g.getD p 0))]) [.int (g.getD p 0)] mv_M_181 hm.1 rfl rfl rfl (Nat.le_of_ble_eq_true rfl) (Nat.le_of_ble_eq_true rfl) (by omega) (by omega) (by omega) d_M_readValue_125 rfl ?_
              refine c_M_readPlain (lst := lstk g (k + 1)) hm hr2 hp hv2 hc64 (by omega) (fun hno I3 p3 v3 hr3 hv3 hf3 => ?_) (fun a ha I3 hr3 hv3 hf3 => ?_)
              · show cn_V l en mi_M_readValue d 0 0 S I3 P Q 128 [(0, .ref 155), (1, .int (nI (D))), (2, .int (g.getD p 0))] []
                refine cn_goto (tgt := 14) d_M_readValue_128 (by decide) ?_
                refine cn_fewer (lv := [(0, .ref 155), (1, .int (nI (D)))]) (fun q hq => by simp only [List.mem_cons, List.not_mem_nil, or_false] at hq ⊢; rcases hq with h | h <;> simp only [h, true_or, or_true]) ?_
                exact c_M_rv_bad (by omega) hm hr3.2.2.1 (K0 (pvs_n ((pv_lstk g (k + 1) p).trans hno)) I3 p3 v3 hr3 hv3 (hf0.tr ((hf2.tr hf3).toX)))
              · show cn_V l en mi_M_readValue d 0 0 S I3 P Q 128 [(0, .ref 155), (1, .int (nI (D))), (2, .int (g.getD p 0))] []
                refine cn_goto (tgt := 14) d_M_readValue_128 (by decide) ?_
                refine cn_fewer (lv := [(0, .ref 155), (1, .int (nI (D)))]) (fun q hq => by simp only [List.mem_cons, List.not_mem_nil, or_false] at hq ⊢; rcases hq with h | h <;> simp only [h, true_or, or_true]) ?_
                have ha : pv g (k + 1) p = some a := (pv_lstk g (k + 1) p).trans ha
                rw [pvs_s ha] at K0 K1
                have hf03 : fX D I I3 := hf0.tr ((hf2.tr hf3).toX)
                refine ihn (by omega) I3 a.2 _ hr3 hv3 ((hf3 _ _ (by omega) (by omega)).trans h2D) (fun hno I4 p4 v4 hr4 hv4 hf4 => K0 (by rw [hno]) I4 p4 v4 hr4 hv4 (hf03.tr hf4)) (fun b hb I4 hr4 hv4 h4D hf4 => ?_)
                rw [tk_app] at hv4
                exact K1 (a.1 ++ b.1, b.2) (by rw [hb]) I4 hr4 hv4 h4D (hf03.tr hf4)
            · refine cn_aload_n (pc' := 68) (k := 0) rfl rfl d_M_readValue_67 rfl ?_
              refine cn_iconst (pc' := 69) k_c_4 d_M_readValue_68 rfl ?_
              refine cn_callV (pc' := 72) (kc1 := 0) (ks1 := 0) (kc2 := 0) (ks2 := 0) (rest := []) (lvj := [(0, .ref 155), (1, .int (nI (4)))]) [.int (nI (4))] mv_M_178 hm.1 rfl rfl rfl (Nat.le_of_ble_eq_true rfl) (Nat.le_of_ble_eq_true rfl) (by omega) (by omega) (by omega) d_M_readValue_69 rfl ?_
              refine c_M_putNumber (n := 4) hm (by decide) (by omega) hr2 hv2 (fun I3 hr3 hv3 hf3 => ?_)
              rw [rp_add, rw_add, show 1 + 4 = 5 from rfl] at hr3
              rw [show min 4 4 = 4 from rfl, nmk_4, rn4_rp]
              have hp5 : p + 1 ≤ g.length := by
                refine Nat.lt_of_not_le (fun h => ?_)
                rw [gd_out h] at hc64; exact absurd hc64 (by decide)
              have h3D : I3 173 D = nI n := (hf3 _ _ (by omega) (by omega)).trans h2D
              have hf3 : fW (cn_wi I 173 D (nI n)) I3 := hf2.tr hf3
              rw [tk_app, show [g.getD p 0] ++ mvb g (rp g p 1) 4 = mvb g p 5 by rw [show rp g p 1 = p + 1 by unfold rp; omega, show 5 = 1 + 4 from rfl, mvb_c]; rfl] at hv3
              have epv : pv g (k + 1) p = if p + 5 ≤ g.length then lstk g (k + 1) p else none := (pv_lstk g (k + 1) p).trans (pvc_152 hc64)
              by_cases hp6 : p + 5 ≤ g.length
              · rw [show rp g p 5 = p + 5 by unfold rp; omega, show rw_ g p 5 true = true by unfold rw_; rw [decide_eq_true hp6]; rfl] at hr3
                rw [if_pos hp6] at epv
                by_cases hneg : rn4 g (p + 1) < 0
                · show cn_V l en mi_M_readValue d 0 0 S I3 P Q 72 [(0, .ref 155), (1, .int (nI (D))), (2, .int (g.getD p 0))] [.int (rn4 g (p + 1))]
                  refine cn_istore_n (pc' := 73) (lv' := [(0, .ref 155), (1, .int (nI (D))), (2, .int (g.getD p 0)), (3, .int (rn4 g (p + 1)))]) rfl [1, 2, 3, 0] (Nat.le_of_ble_eq_true rfl) rfl d_M_readValue_72 rfl ?_
                  refine cn_aload_n (pc' := 74) (k := 0) rfl rfl d_M_readValue_73 rfl ?_
                  refine cn_aload_n (pc' := 75) (k := 0) rfl rfl d_M_readValue_74 rfl ?_
                  refine cn_getIv (pc' := 78) (v := nI (1)) hr3.2.2.1 fl_M_161 hm.1 rfl d_M_readValue_75 rfl ?_
                  refine cn_if_eq_n (tgt := 94) (pc' := 81) (by omega) d_M_readValue_78 (by decide) rfl (fun hc78 => ?_) (fun hc78 => ?_)
                  · exact False.elim (by omega)
                  · refine cn_iload_n (pc' := 82) (k := 3) rfl rfl d_M_readValue_81 rfl ?_
                    refine cn_if_lt (tgt := 94) (pc' := 85) d_M_readValue_82 (by decide) rfl (fun hc82 => ?_) (fun hc82 => ?_)
                    · refine cn_iconst (pc' := 95) k_c_0 d_M_readValue_94 rfl ?_
                      refine cn_putI (pc' := 98) fl_M_161 hm.1 rfl rfl rfl rfl d_M_readValue_95 rfl ?_
                      refine cn_aload_n (pc' := 99) (k := 0) rfl rfl d_M_readValue_98 rfl ?_
                      refine cn_getIv (pc' := 102) (v := nI (0)) mw_e fl_M_161 hm.1 rfl d_M_readValue_99 rfl ?_
                      refine cn_if_eq_n (tgt := 111) (pc' := 105) (by omega) d_M_readValue_102 (by decide) rfl (fun hc102 => ?_) (fun hc102 => ?_)
                      · refine cn_iload_n (pc' := 112) (k := 1) rfl rfl d_M_readValue_111 rfl ?_
                        refine cn_istore_n (pc' := 113) (lv' := [(0, .ref 155), (1, .int (nI (D))), (2, .int (g.getD p 0)), (3, .int (rn4 g (p + 1)))]) rfl [1, 0, 2, 3] (Nat.le_of_ble_eq_true rfl) rfl d_M_readValue_112 rfl ?_
                        refine cn_aload_n (pc' := 114) (k := 0) rfl rfl d_M_readValue_113 rfl ?_
                        refine cn_getP (pc' := 117) (b := 173) (hm.2.1 32 173 rfl) fl_M_66 hm.1 rfl d_M_readValue_114 rfl ?_
                        refine cn_iload_n (pc' := 118) (k := 1) rfl rfl d_M_readValue_117 rfl ?_
                        refine cn_iload_n (pc' := 119) (k := 3) rfl rfl d_M_readValue_118 rfl ?_
                        refine cn_iast (pc' := 120) (hm.2.2 173 0 4 rfl) (by omega) (by decide) d_M_readValue_119 rfl ?_
                        refine cn_goto (tgt := 128) d_M_readValue_120 (by decide) ?_
                        refine cn_goto (tgt := 14) d_M_readValue_128 (by decide) ?_
                        refine cn_fewer (lv := [(0, .ref 155), (1, .int (nI (D)))]) (fun q hq => by simp only [List.mem_cons, List.not_mem_nil, or_false] at hq ⊢; rcases hq with h | h <;> simp only [h, true_or, or_true]) ?_
                        have hno : pv g (k + 1) p = none := epv.trans (by show pvl g (pv g k) p = none; unfold pvl; rw [if_pos hneg])
                        have hr4 : mg ((cn_wi (cn_wi I3 155 28 (nI (0))) 173 D (rn4 g (p + 1)))) g (rp g p 5) false := ⟨mw_a (by decide) (mw_k (by decide) hr3.1), mw_a (by decide) (mw_k (by decide) (hr3.2.1.trans (by rw [show p + 5 = rp g p 5 by unfold rp; omega]))), mw_a (by decide) mw_e, by unfold rp; omega, hg64, fun j hj => mw_a (by decide) (mw_a (by decide) (hr3.2.2.2.2.2.1 j hj)), hr3.2.2.2.2.2.2⟩
                        exact c_M_rv_bad (by omega) hm hr4.2.2.1 (K0 (pvs_n hno) _ _ _ hr4 (hv3.congr (by rw [mw_o (by omega), mw_o (by omega)]) (fun j => by rw [mw_o (by omega), mw_o (by omega)])) (hf0.tr ((hf3.toX : fX D _ _).tr (fun a j x y z => by rw [mw_o (by omega), mw_o (by omega)]))))
                      · exact False.elim (by omega)
                    · exact absurd hneg hc82
                · obtain ⟨m, hm31, hmm⟩ := nI_of hneg
                  rw [hmm]
                  show cn_V l en mi_M_readValue d 0 0 S I3 P Q 72 [(0, .ref 155), (1, .int (nI (D))), (2, .int (g.getD p 0))] [.int (nI (m))]
                  refine cn_istore_n (pc' := 73) (lv' := [(0, .ref 155), (1, .int (nI (D))), (2, .int (g.getD p 0)), (3, .int (nI (m)))]) rfl [1, 2, 3, 0] (Nat.le_of_ble_eq_true rfl) rfl d_M_readValue_72 rfl ?_
                  refine cn_aload_n (pc' := 74) (k := 0) rfl rfl d_M_readValue_73 rfl ?_
                  refine cn_aload_n (pc' := 75) (k := 0) rfl rfl d_M_readValue_74 rfl ?_
                  refine cn_getIv (pc' := 78) (v := nI (1)) hr3.2.2.1 fl_M_161 hm.1 rfl d_M_readValue_75 rfl ?_
                  refine cn_if_eq_n (tgt := 94) (pc' := 81) (by omega) d_M_readValue_78 (by decide) rfl (fun hc78 => ?_) (fun hc78 => ?_)
                  · exact False.elim (by omega)
                  · refine cn_iload_n (pc' := 82) (k := 3) rfl rfl d_M_readValue_81 rfl ?_
                    refine cn_if_lt_n (tgt := 94) (pc' := 85) (by omega) d_M_readValue_82 (by decide) rfl (fun hc82 => ?_) (fun hc82 => ?_)
                    · exact False.elim (by omega)
                    · refine cn_iload_n (pc' := 86) (k := 1) rfl rfl d_M_readValue_85 rfl ?_
                      refine cn_iconst (pc' := 87) k_c_3 d_M_readValue_86 rfl ?_
                      refine cn_icmp_ge_n (tgt := 94) (pc' := 90) (by omega) (by omega) d_M_readValue_87 (by decide) rfl (fun hc87 => ?_) (fun hc87 => ?_)
                      · exact absurd hc87 (by omega)
                      · refine cn_iconst (pc' := 91) k_c_1 d_M_readValue_90 rfl ?_
                        refine cn_goto (tgt := 95) d_M_readValue_91 (by decide) ?_
                        refine cn_putI (pc' := 98) fl_M_161 hm.1 rfl rfl rfl rfl d_M_readValue_95 rfl ?_
                        refine cn_aload_n (pc' := 99) (k := 0) rfl rfl d_M_readValue_98 rfl ?_
                        refine cn_getIv (pc' := 102) (v := nI (1)) mw_e fl_M_161 hm.1 rfl d_M_readValue_99 rfl ?_
                        refine cn_if_eq_n (tgt := 111) (pc' := 105) (by omega) d_M_readValue_102 (by decide) rfl (fun hc102 => ?_) (fun hc102 => ?_)
                        · exact False.elim (by omega)
                        · refine cn_iload_n (pc' := 106) (k := 1) rfl rfl d_M_readValue_105 rfl ?_
                          refine cn_iconst (pc' := 107) k_c_1 d_M_readValue_106 rfl ?_
                          refine cn_iadd_n (pc' := 108) d_M_readValue_107 rfl ?_
                          refine cn_goto (tgt := 112) d_M_readValue_108 (by decide) ?_
                          refine cn_istore_n (pc' := 113) (lv' := [(0, .ref 155), (1, .int (nI (D + 1))), (2, .int (g.getD p 0)), (3, .int (nI (m)))]) rfl [1, 0, 2, 3] (Nat.le_of_ble_eq_true rfl) rfl d_M_readValue_112 rfl ?_
                          refine cn_aload_n (pc' := 114) (k := 0) rfl rfl d_M_readValue_113 rfl ?_
                          refine cn_getP (pc' := 117) (b := 173) (hm.2.1 32 173 rfl) fl_M_66 hm.1 rfl d_M_readValue_114 rfl ?_
                          refine cn_iload_n (pc' := 118) (k := 1) rfl rfl d_M_readValue_117 rfl ?_
                          refine cn_iload_n (pc' := 119) (k := 3) rfl rfl d_M_readValue_118 rfl ?_
                          refine cn_iast (pc' := 120) (hm.2.2 173 0 4 rfl) (by omega) (by decide) d_M_readValue_119 rfl ?_
                          refine cn_goto (tgt := 128) d_M_readValue_120 (by decide) ?_
                          refine cn_goto (tgt := 14) d_M_readValue_128 (by decide) ?_
                          refine cn_fewer (lv := [(0, .ref 155), (1, .int (nI (D + 1)))]) (fun q hq => by simp only [List.mem_cons, List.not_mem_nil, or_false] at hq ⊢; rcases hq with h | h <;> simp only [h, true_or, or_true]) ?_
                          have hr4 : mg ((cn_wi (cn_wi I3 155 28 (nI (1))) 173 (D + 1) (nI (m)))) g (p + 5) true := hr3.congr (by rw [mw_o (by omega), mw_o (by omega)]) (by rw [mw_o (by omega), mw_o (by omega)]) (by rw [mw_o (by omega), mw_e]; exact hr3.2.2.1.symm) (fun j => by rw [mw_o (by omega), mw_o (by omega)])
                          have hv4 : mv ((cn_wi (cn_wi I3 155 28 (nI (1))) 173 (D + 1) (nI (m)))) ((v ++ mvb g p 5).take 64) := hv3.congr (by rw [mw_o (by omega), mw_o (by omega)]) (fun j => by rw [mw_o (by omega), mw_o (by omega)])
                          have hf4 : fX (D + 1) I3 ((cn_wi (cn_wi I3 155 28 (nI (1))) 173 (D + 1) (nI (m)))) := fun a j x y z => by rw [mw_o (by omega), mw_o (by omega)]
                          have hf04 : fX D I ((cn_wi (cn_wi I3 155 28 (nI (1))) 173 (D + 1) (nI (m)))) := hf0.tr ((hf3.toX : fX D _ _).tr (hf4.le (by omega)))
                          have epl : lstk g (k + 1) p = (match pvs (pv g k) m (p + 5) with | none => none | some b => some (mvb g p 5 ++ b.1, b.2)) := by show pvl g (pv g k) p = _; unfold pvl; rw [if_neg hneg, hmm, nI_clamp hm31]; rfl
                          rw [epl] at epv
                          refine ihk (D + 1) (by omega) m hm31 _ (p + 5) _ hr4 hv4 mw_e (fun hno I5 p5 v5 hr5 hv5 hf5 => ?_) (fun b hb I5 hr5 hv5 h5D hf5 => ?_)
                          · rw [hno] at epv
                            exact K0 (pvs_n epv) I5 p5 v5 hr5 hv5 (hf04.tr (hf5.le (by omega)))
                          · rw [hb] at epv
                            dsimp only at epv
                            rw [tk_app] at hv5
                            have h5n : I5 173 D = nI n := by rw [hf5 _ _ (by omega) (by omega) (by omega), mw_o (by omega), mw_o (by omega)]; exact h3D
                            rw [pvs_s epv] at K0 K1
                            refine cn_iload_n (pc' := 15) (k := 1) rfl rfl d_M_readValue_14 rfl ?_
                            refine cn_if_lt_n (tgt := 131) (pc' := 18) (by omega) d_M_readValue_15 (by decide) rfl (fun hc15 => ?_) (fun hc15 => ?_)
                            · exact False.elim (by omega)
                            · refine cn_aload_n (pc' := 19) (k := 0) rfl rfl d_M_readValue_18 rfl ?_
                              refine cn_getIv (pc' := 22) (v := nI (1)) hr5.2.2.1 fl_M_161 hm.1 rfl d_M_readValue_19 rfl ?_
                              refine cn_if_eq_n (tgt := 131) (pc' := 25) (by omega) d_M_readValue_22 (by decide) rfl (fun hc22 => ?_) (fun hc22 => ?_)
                              · exact False.elim (by omega)
                              · refine cn_aload_n (pc' := 26) (k := 0) rfl rfl d_M_readValue_25 rfl ?_
                                refine cn_getP (pc' := 29) (b := 173) (hm.2.1 32 173 rfl) fl_M_66 hm.1 rfl d_M_readValue_26 rfl ?_
                                refine cn_iload_n (pc' := 30) (k := 1) rfl rfl d_M_readValue_29 rfl ?_
                                refine cn_ialdv (pc' := 31) (v := nI (0)) h5D (hm.2.2 173 0 4 rfl) (by omega) (by decide) d_M_readValue_30 rfl ?_
                                refine cn_if_ne_n (tgt := 40) (pc' := 34) (by omega) d_M_readValue_31 (by decide) rfl (fun hc31 => ?_) (fun hc31 => ?_)
                                · exact False.elim (by omega)
                                · refine cn_idec_n (pc' := 37) (lv' := [(0, .ref 155), (1, .int (nI (D)))]) (k := 1) [1, 0] rfl (Nat.le_of_ble_eq_true rfl) rfl d_M_readValue_34 rfl ?_
                                  refine cn_goto (tgt := 14) d_M_readValue_37 (by decide) ?_
                                  have hf05 : fX D I I5 := hf04.tr (hf5.le (by omega))
                                  refine ihn (by omega) I5 b.2 _ hr5 hv5 h5n (fun hno I6 p6 v6 hr6 hv6 hf6 => K0 (by rw [hno]) I6 p6 v6 hr6 hv6 (hf05.tr hf6)) (fun b2 hb2 I6 hr6 hv6 h6D hf6 => ?_)
                                  rw [tk_app] at hv6
                                  exact K1 (mvb g p 5 ++ b.1 ++ b2.1, b2.2) (by rw [hb2]) I6 hr6 hv6 h6D (hf05.tr hf6)
              · rw [show rw_ g p 5 true = false by unfold rw_; rw [decide_eq_false hp6]; rfl] at hr3
                rw [if_neg hp6] at epv
                show cn_V l en mi_M_readValue d 0 0 S I3 P Q 72 [(0, .ref 155), (1, .int (nI (D))), (2, .int (g.getD p 0))] [.int (rn4 g (p + 1))]
                refine cn_istore_n (pc' := 73) (lv' := [(0, .ref 155), (1, .int (nI (D))), (2, .int (g.getD p 0)), (3, .int (rn4 g (p + 1)))]) rfl [1, 2, 3, 0] (Nat.le_of_ble_eq_true rfl) rfl d_M_readValue_72 rfl ?_
                refine cn_aload_n (pc' := 74) (k := 0) rfl rfl d_M_readValue_73 rfl ?_
                refine cn_aload_n (pc' := 75) (k := 0) rfl rfl d_M_readValue_74 rfl ?_
                refine cn_getIv (pc' := 78) (v := nI (0)) hr3.2.2.1 fl_M_161 hm.1 rfl d_M_readValue_75 rfl ?_
                refine cn_if_eq_n (tgt := 94) (pc' := 81) (by omega) d_M_readValue_78 (by decide) rfl (fun hc78 => ?_) (fun hc78 => ?_)
                · refine cn_iconst (pc' := 95) k_c_0 d_M_readValue_94 rfl ?_
                  refine cn_putI (pc' := 98) fl_M_161 hm.1 rfl rfl rfl rfl d_M_readValue_95 rfl ?_
                  refine cn_aload_n (pc' := 99) (k := 0) rfl rfl d_M_readValue_98 rfl ?_
                  refine cn_getIv (pc' := 102) (v := nI (0)) mw_e fl_M_161 hm.1 rfl d_M_readValue_99 rfl ?_
                  refine cn_if_eq_n (tgt := 111) (pc' := 105) (by omega) d_M_readValue_102 (by decide) rfl (fun hc102 => ?_) (fun hc102 => ?_)
                  · refine cn_iload_n (pc' := 112) (k := 1) rfl rfl d_M_readValue_111 rfl ?_
                    refine cn_istore_n (pc' := 113) (lv' := [(0, .ref 155), (1, .int (nI (D))), (2, .int (g.getD p 0)), (3, .int (rn4 g (p + 1)))]) rfl [1, 0, 2, 3] (Nat.le_of_ble_eq_true rfl) rfl d_M_readValue_112 rfl ?_
                    refine cn_aload_n (pc' := 114) (k := 0) rfl rfl d_M_readValue_113 rfl ?_
                    refine cn_getP (pc' := 117) (b := 173) (hm.2.1 32 173 rfl) fl_M_66 hm.1 rfl d_M_readValue_114 rfl ?_
                    refine cn_iload_n (pc' := 118) (k := 1) rfl rfl d_M_readValue_117 rfl ?_
                    refine cn_iload_n (pc' := 119) (k := 3) rfl rfl d_M_readValue_118 rfl ?_
                    refine cn_iast (pc' := 120) (hm.2.2 173 0 4 rfl) (by omega) (by decide) d_M_readValue_119 rfl ?_
                    refine cn_goto (tgt := 128) d_M_readValue_120 (by decide) ?_
                    refine cn_goto (tgt := 14) d_M_readValue_128 (by decide) ?_
                    refine cn_fewer (lv := [(0, .ref 155), (1, .int (nI (D)))]) (fun q hq => by simp only [List.mem_cons, List.not_mem_nil, or_false] at hq ⊢; rcases hq with h | h <;> simp only [h, true_or, or_true]) ?_
                    have hno : pv g (k + 1) p = none := epv
                    have hr4 : mg ((cn_wi (cn_wi I3 155 28 (nI (0))) 173 D (rn4 g (p + 1)))) g (rp g p 5) false := ⟨mw_a (by decide) (mw_k (by decide) hr3.1), mw_a (by decide) (mw_k (by decide) (hr3.2.1.trans (by rw [show rp g p 5 = rp g p 5 by unfold rp; omega]))), mw_a (by decide) mw_e, by unfold rp; omega, hg64, fun j hj => mw_a (by decide) (mw_a (by decide) (hr3.2.2.2.2.2.1 j hj)), hr3.2.2.2.2.2.2⟩
                    exact c_M_rv_bad (by omega) hm hr4.2.2.1 (K0 (pvs_n hno) _ _ _ hr4 (hv3.congr (by rw [mw_o (by omega), mw_o (by omega)]) (fun j => by rw [mw_o (by omega), mw_o (by omega)])) (hf0.tr ((hf3.toX : fX D _ _).tr (fun a j x y z => by rw [mw_o (by omega), mw_o (by omega)]))))
                  · exact False.elim (by omega)
                · exact False.elim (by omega)
          · exact absurd hc31 (by omega)
theorem c_M_readValue (hm : wM S P) (hr : mg I g p true) (hd1 : 3 ≤ d) (K0 : pv g 3 p = none → ∀ I' p', mg I' g p' false → fR I I' → Q none S I' P) (K1 : ∀ a, pv g 3 p = some a → ∀ I', mg I' g a.2 true → mv I' (a.1.take 64) → fR I I' → Q none S I' P) : cn_V l en mi_M_readValue d 0 0 S I P Q 0 [(0, .ref 155)] [] := by
  refine cn_aload_n (pc' := 1) (k := 0) rfl rfl d_M_readValue_0 rfl ?_
  refine cn_iconst (pc' := 2) k_c_0 d_M_readValue_1 rfl ?_
  refine cn_putI (pc' := 5) fl_M_125 hm.1 rfl rfl rfl rfl d_M_readValue_2 rfl ?_
  refine cn_iconst (pc' := 6) k_c_0 d_M_readValue_5 rfl ?_
  refine cn_istore_n (pc' := 7) (lv' := [(0, .ref 155), (1, .int (nI (0)))]) rfl [1, 0] (Nat.le_of_ble_eq_true rfl) rfl d_M_readValue_6 rfl ?_
  refine cn_aload_n (pc' := 8) (k := 0) rfl rfl d_M_readValue_7 rfl ?_
  refine cn_getP (pc' := 11) (b := 173) (hm.2.1 32 173 rfl) fl_M_66 hm.1 rfl d_M_readValue_8 rfl ?_
  refine cn_iconst (pc' := 12) k_c_0 d_M_readValue_11 rfl ?_
  refine cn_iconst (pc' := 13) k_c_1 d_M_readValue_12 rfl ?_
  refine cn_iast (pc' := 14) (hm.2.2 173 0 4 rfl) (by omega) (by decide) d_M_readValue_13 rfl ?_
  have hr1 : mg ((cn_wi (cn_wi I 155 30 (nI (0))) 173 0 (nI (1)))) g p true := hr.congr (by rw [mw_o (by omega), mw_o (by omega)]) (by rw [mw_o (by omega), mw_o (by omega)]) (by rw [mw_o (by omega), mw_o (by omega)]) (fun j => by rw [mw_o (by omega), mw_o (by omega)])
  have hf1 : fR I ((cn_wi (cn_wi I 155 30 (nI (0))) 173 0 (nI (1)))) := fun a j x y z => by rw [mw_o (by omega), mw_o (by omega)]
  refine c_M_rv hm hd1 3 0 rfl 1 (by decide) _ p [] hr1 ⟨mw_a (by decide) mw_e, by decide, fun j hj => absurd hj (Nat.not_lt_zero j)⟩ mw_e (fun hno I2 p2 v2 hr2 hv2 hf2 => ?_) (fun b hb I2 hr2 hv2 h2 hf2 => ?_)
  · refine K0 ?_ I2 p2 hr2 (hf1.tr hf2.toR)
    cases h : pv g 3 p with
    | none => rfl
    | some a => rw [pvs_s h] at hno; cases hno
  · refine cn_iload_n (pc' := 15) (k := 1) rfl rfl d_M_readValue_14 rfl ?_
    refine cn_if_lt_n (tgt := 131) (pc' := 18) (by omega) d_M_readValue_15 (by decide) rfl (fun hc15 => ?_) (fun hc15 => ?_)
    · exact False.elim (by omega)
    · refine cn_aload_n (pc' := 19) (k := 0) rfl rfl d_M_readValue_18 rfl ?_
      refine cn_getIv (pc' := 22) (v := nI (1)) hr2.2.2.1 fl_M_161 hm.1 rfl d_M_readValue_19 rfl ?_
      refine cn_if_eq_n (tgt := 131) (pc' := 25) (by omega) d_M_readValue_22 (by decide) rfl (fun hc22 => ?_) (fun hc22 => ?_)
      · exact False.elim (by omega)
      · refine cn_aload_n (pc' := 26) (k := 0) rfl rfl d_M_readValue_25 rfl ?_
        refine cn_getP (pc' := 29) (b := 173) (hm.2.1 32 173 rfl) fl_M_66 hm.1 rfl d_M_readValue_26 rfl ?_
        refine cn_iload_n (pc' := 30) (k := 1) rfl rfl d_M_readValue_29 rfl ?_
        refine cn_ialdv (pc' := 31) (v := nI (0)) h2 (hm.2.2 173 0 4 rfl) (by omega) (by decide) d_M_readValue_30 rfl ?_
        refine cn_if_ne_n (tgt := 40) (pc' := 34) (by omega) d_M_readValue_31 (by decide) rfl (fun hc31 => ?_) (fun hc31 => ?_)
        · exact False.elim (by omega)
        · refine cn_iinc (pc' := 37) (lv' := [(0, .ref 155), (1, .int (-1))]) (k := 1) [1, 0] rfl (by decide +kernel) (Nat.le_of_ble_eq_true rfl) rfl d_M_readValue_34 rfl ?_
          refine cn_goto (tgt := 14) d_M_readValue_37 (by decide) ?_
          refine cn_iload_n (pc' := 15) (k := 1) rfl rfl d_M_readValue_14 rfl ?_
          refine cn_if_lt (tgt := 131) (pc' := 18) d_M_readValue_15 (by decide) rfl (fun hc15 => ?_) (fun hc15 => ?_)
          · refine cn_vret rfl d_M_readValue_131 ?_
            cases h : pv g 3 p with
            | none => rw [pvs_n h] at hb; cases hb
            | some a =>
              rw [pvs_s h] at hb
              have hb : b = (a.1, a.2) := by have := Option.some.inj hb; rw [← this]; simp
              rw [hb] at hr2 hv2
              exact K1 a h I2 hr2 hv2 (hf1.tr hf2.toR)
          · exact absurd hc15 (by decide)
end
section
variable {l : Launch} {en : cn_E} {d : Nat} {S : cn_S} {I : cn_I} {P : cn_P} {Q : Option Value → cn_S → cn_I → cn_P → Prop}
variable {ns : List sNode} {xs : List sItem} {ps : List sPar} {pn : Int32} {T : Nat} {g : List Int32}
theorem c_M_write (hm : wM S P) (h : MT I (ns, xs, (ps, pn)) [nI 1] T) (hr : mg I g 1 true) (hd1 : 5 ≤ d) (K : ∀ I', MT I' (sp_write (ns, xs, (ps, pn)) g).2.2 ((sp_write (ns, xs, (ps, pn)) g).1 :: (sp_write (ns, xs, (ps, pn)) g).2.1) T → fV I I' → Q none S I' P) : cn_V l en mi_M_write d 0 0 S I P Q 0 [(0, .ref 155)] [] := by
  have h9 := h
  obtain ⟨hN, hJ, hS, hp, ho⟩ := h
  have hN : mN I ns := hN
  have hJ : mI I xs := hJ
  have hS : mS I ps pn := hS
  have hl16 := hN.2.1
  have hl6 := hJ.2.1
  have hl3 := hS.2.1
  have hg64 := hr.2.2.2.2.1
  refine cn_aload_n (pc' := 1) (k := 0) rfl rfl d_M_write_0 rfl ?_
  refine cn_callV (pc' := 4) (kc1 := 0) (ks1 := 0) (kc2 := 0) (ks2 := 0) (rest := []) (lvj := [(0, .ref 155)]) [] mv_M_208 hm.1 rfl rfl rfl (Nat.le_of_ble_eq_true rfl) (Nat.le_of_ble_eq_true rfl) (by omega) (by omega) (by omega) d_M_write_1 rfl ?_
  refine c_M_readName hm hN hr (by omega) (fun I1 hr1 hn1 hf1 => ?_)
  have hr1 : mg I1 g (p1 g) (w1 g) := hr1
  have h91 := h9.rd hf1.toR
  have hN1 : mN I1 ns := h91.1
  have hwb0 := tn_le (w1 g)
  show cn_V l en mi_M_write d 0 0 S I1 P Q 4 [(0, .ref 155)] []
  refine cn_aload_n (pc' := 5) (k := 0) rfl rfl d_M_write_4 rfl ?_
  refine cn_getIv (pc' := 8) (v := ndv ns (rnm g 1)) hn1 fl_M_168 hm.1 rfl d_M_write_5 rfl ?_
  refine cn_istore_n (pc' := 9) (lv' := [(0, .ref 155), (1, .int (ndv ns (rnm g 1)))]) rfl [1, 0] (Nat.le_of_ble_eq_true rfl) rfl d_M_write_8 rfl ?_
  refine cn_aload_n (pc' := 10) (k := 0) rfl rfl d_M_write_9 rfl ?_
  refine cn_getIv (pc' := 13) (v := nI ((w1 g).toNat)) hr1.2.2.1 fl_M_161 hm.1 rfl d_M_write_10 rfl ?_
  refine cn_if_eq_n (tgt := 20) (pc' := 16) (by omega) d_M_write_13 (by decide) rfl (fun hc13 => ?_) (fun hc13 => ?_)
  · have hwb1 := tn_0 hc13
    refine cn_aload_n (pc' := 21) (k := 0) rfl rfl d_M_write_20 rfl ?_
    refine cn_callV (pc' := 24) (kc1 := 0) (ks1 := 0) (kc2 := 0) (ks2 := 0) (rest := []) (lvj := [(0, .ref 155)]) [] mv_M_211 hm.1 rfl rfl rfl (Nat.le_of_ble_eq_true rfl) (Nat.le_of_ble_eq_true rfl) (by omega) (by omega) (by omega) d_M_write_21 rfl ?_
    refine c_M_whole hm hr1 ?_
    have hwb := tn_le (whl g (p1 g) (w1 g))
    show cn_V l en mi_M_write d 0 0 S I1 P Q 24 [(0, .ref 155), (1, .int (ndv ns (rnm g 1)))] [.int (nI ((whl g (p1 g) (w1 g)).toNat))]
    refine cn_if_ne_n (tgt := 28) (pc' := 27) (by omega) d_M_write_24 (by decide) rfl (fun hc24 => ?_) (fun hc24 => ?_)
    · exact absurd (tn_1 hc24) (by unfold whl; rw [tn_0 hc13]; simp)
    · refine cn_vret rfl d_M_write_27 ?_
      have e : sp_write (ns, xs, (ps, pn)) g = (nI 1, [], ns, xs, (ps, pn)) := by unfold sp_write; rw [show wval g = none from by unfold wval; rw [if_neg (by rw [tn_0 hc13]; decide)]]
      rw [e] at K
      exact K I1 h91 hf1.toR.toV
  · refine cn_aload_n (pc' := 17) (k := 0) rfl rfl d_M_write_16 rfl ?_
    refine cn_callV (pc' := 20) (kc1 := 0) (ks1 := 0) (kc2 := 0) (ks2 := 0) (rest := []) (lvj := [(0, .ref 155)]) [] mv_M_215 hm.1 rfl rfl rfl (Nat.le_of_ble_eq_true rfl) (Nat.le_of_ble_eq_true rfl) (by omega) (by omega) (by omega) d_M_write_17 rfl ?_
    have hw1 := tn_1 hc13
    rw [hw1] at hr1
    refine c_M_readValue hm hr1 (by omega) (fun hno I2 p2 hr2 hf2 => ?_) (fun a ha I2 hr2 hv2 hf2 => ?_)
    · have h92 := h91.rd hf2
      show cn_V l en mi_M_write d 0 0 S I2 P Q 20 [(0, .ref 155), (1, .int (ndv ns (rnm g 1)))] []
      refine cn_aload_n (pc' := 21) (k := 0) rfl rfl d_M_write_20 rfl ?_
      refine cn_callV (pc' := 24) (kc1 := 0) (ks1 := 0) (kc2 := 0) (ks2 := 0) (rest := []) (lvj := [(0, .ref 155)]) [] mv_M_211 hm.1 rfl rfl rfl (Nat.le_of_ble_eq_true rfl) (Nat.le_of_ble_eq_true rfl) (by omega) (by omega) (by omega) d_M_write_21 rfl ?_
      refine c_M_whole hm hr2 ?_
      have hwb := tn_le (whl g (p2) (false))
      show cn_V l en mi_M_write d 0 0 S I2 P Q 24 [(0, .ref 155), (1, .int (ndv ns (rnm g 1)))] [.int (nI ((whl g (p2) (false)).toNat))]
      refine cn_if_ne_n (tgt := 28) (pc' := 27) (by omega) d_M_write_24 (by decide) rfl (fun hc24 => ?_) (fun hc24 => ?_)
      · exact absurd (tn_1 hc24) (by unfold whl; simp)
      · refine cn_vret rfl d_M_write_27 ?_
        have e : sp_write (ns, xs, (ps, pn)) g = (nI 1, [], ns, xs, (ps, pn)) := by unfold sp_write; rw [show wval g = none from by unfold wval; rw [if_pos hw1]; exact hno]
        rw [e] at K
        exact K I2 h92 (hf1.toR.toV.tr hf2.toV)
    · have h92 := h91.rd hf2
      show cn_V l en mi_M_write d 0 0 S I2 P Q 20 [(0, .ref 155), (1, .int (ndv ns (rnm g 1)))] []
      refine cn_aload_n (pc' := 21) (k := 0) rfl rfl d_M_write_20 rfl ?_
      refine cn_callV (pc' := 24) (kc1 := 0) (ks1 := 0) (kc2 := 0) (ks2 := 0) (rest := []) (lvj := [(0, .ref 155)]) [] mv_M_211 hm.1 rfl rfl rfl (Nat.le_of_ble_eq_true rfl) (Nat.le_of_ble_eq_true rfl) (by omega) (by omega) (by omega) d_M_write_21 rfl ?_
      refine c_M_whole hm hr2 ?_
      have hwb := tn_le (whl g (a.2) (true))
      show cn_V l en mi_M_write d 0 0 S I2 P Q 24 [(0, .ref 155), (1, .int (ndv ns (rnm g 1)))] [.int (nI ((whl g (a.2) (true)).toNat))]
      refine cn_if_ne_n (tgt := 28) (pc' := 27) (by omega) d_M_write_24 (by decide) rfl (fun hc24 => ?_) (fun hc24 => ?_)
      · have hag : a.2 = g.length := by have := tn_1 hc24; unfold whl at this; simpa using this
        have hge := p1_ge hw1
        have hul := pv_ulen g 3 (p1 g) a ha
        have hle := pv_len g 3 (p1 g) a ha
        have hal : a.1.length ≤ 61 := by omega
        have ha1 : 1 ≤ a.1.length := by omega
        rw [List.take_of_length_le (by omega)] at hv2
        have hmv := hv2
        have hwv : wval g = some a := by unfold wval; rw [if_pos hw1]; exact ha
        have hN2 : mN I2 ns := h92.1
        rcases ndc ns (rnm g 1) with ⟨hnx, hnv⟩ | ⟨k, hnx, hkl, hnv⟩
        · rw [hnv]
          show cn_V l en mi_M_write d 0 0 S I2 P Q 28 [(0, .ref 155), (1, .int (-1))] []
          refine cn_iload_n (pc' := 29) (k := 1) rfl rfl d_M_write_28 rfl ?_
          refine cn_if_lt (tgt := 41) (pc' := 32) d_M_write_29 (by decide) rfl (fun hc29 => ?_) (fun hc29 => ?_)
          · refine cn_aload_n (pc' := 42) (k := 0) rfl rfl d_M_write_41 rfl ?_
            refine cn_iload_n (pc' := 43) (k := 1) rfl rfl d_M_write_42 rfl ?_
            refine cn_if_ge (tgt := 50) (pc' := 46) d_M_write_43 (by decide) rfl (fun hc43 => ?_) (fun hc43 => ?_)
            · exact absurd hc43 (by decide)
            · refine cn_iconst (pc' := 47) k_c_3 d_M_write_46 rfl ?_
              refine cn_goto (tgt := 51) d_M_write_47 (by decide) ?_
              refine cn_callV (pc' := 54) (kc1 := 0) (ks1 := 0) (kc2 := 0) (ks2 := 0) (rest := []) (lvj := [(0, .ref 155), (1, .int (nI (3)))]) [.int (nI (3))] mv_M_187 hm.1 rfl rfl rfl (Nat.le_of_ble_eq_true rfl) (Nat.le_of_ble_eq_true rfl) (by omega) (by omega) (by omega) d_M_write_51 rfl ?_
              refine c_M_code hm (by omega) (fun I9 ho9 hf9 => ?_)
              have h99 := h92.out hf9 ho9
              have hv9 : fV I I9 := (hf1.toR.toV.tr hf2.toV).tr hf9.toV
              show cn_V l en mi_M_write d 0 0 S I9 P Q 54 [(0, .ref 155), (1, .int (-1))] []
              refine cn_goto (tgt := 100) d_M_write_54 (by decide) ?_
              refine cn_vret rfl d_M_write_100 ?_
              have ec : vcode ns (rnm g 1) = nI 3 := by unfold vcode; rw [hnx]
              have ed : vdx ns (rnm g 1) = none := by unfold vdx; rw [hnx]
              have e : sp_write (ns, xs, (ps, pn)) g = (vcode ns (rnm g 1), [], ns, xs, (ps, pn)) := by unfold sp_write; rw [hwv]; dsimp only; rw [if_pos hag, ed]
              rw [e, ec] at K
              exact K I9 h99 hv9
          · exact absurd hc29 (by decide)
        · rw [hnv]
          have hbk := tn_le (isv ns k)
          show cn_V l en mi_M_write d 0 0 S I2 P Q 28 [(0, .ref 155), (1, .int (nI (k)))] []
          refine cn_iload_n (pc' := 29) (k := 1) rfl rfl d_M_write_28 rfl ?_
          refine cn_if_lt_n (tgt := 41) (pc' := 32) (by omega) d_M_write_29 (by decide) rfl (fun hc29 => ?_) (fun hc29 => ?_)
          · exact False.elim (by omega)
          · refine cn_aload_n (pc' := 33) (k := 0) rfl rfl d_M_write_32 rfl ?_
            refine cn_getP (pc' := 36) (b := 157) (hm.2.1 3 157 rfl) fl_M_17 hm.1 rfl d_M_write_33 rfl ?_
            refine cn_iload_n (pc' := 37) (k := 1) rfl rfl d_M_write_36 rfl ?_
            refine cn_zaldv (pc' := 38) (v := nI ((isv ns k).toNat)) (hN2.2.2.1 k hkl).2.1 (hm.2.2 157 2 16 rfl) (by omega) (by decide) d_M_write_37 rfl ?_
            refine cn_if_ne_n (tgt := 57) (pc' := 41) (by omega) d_M_write_38 (by decide) rfl (fun hc38 => ?_) (fun hc38 => ?_)
            · have hv := tn_1 hc38
              have hty := (hN2.2.2.1 k hkl).2.2.1 (isv_ne hv)
              refine cn_aload_n (pc' := 58) (k := 0) rfl rfl d_M_write_57 rfl ?_
              refine cn_getP (pc' := 61) (b := 158) (hm.2.1 4 158 rfl) fl_M_21 hm.1 rfl d_M_write_58 rfl ?_
              refine cn_iload_n (pc' := 62) (k := 1) rfl rfl d_M_write_61 rfl ?_
              refine cn_ialdv (pc' := 63) (v := (ns.getD k nd0).2.1) hty (hm.2.2 158 0 16 rfl) (by omega) (by decide) d_M_write_62 rfl ?_
              refine cn_if_eq (tgt := 89) (pc' := 66) d_M_write_63 (by decide) rfl (fun hc63 => ?_) (fun hc63 => ?_)
              · refine cn_aload_n (pc' := 90) (k := 0) rfl rfl d_M_write_89 rfl ?_
                refine cn_iload_n (pc' := 91) (k := 1) rfl rfl d_M_write_90 rfl ?_
                refine cn_callV (pc' := 94) (kc1 := 0) (ks1 := 0) (kc2 := 0) (ks2 := 0) (rest := []) (lvj := [(0, .ref 155), (1, .int (nI (k)))]) [.int (nI (k))] mv_M_134 hm.1 rfl rfl rfl (Nat.le_of_ble_eq_true rfl) (Nat.le_of_ble_eq_true rfl) (by omega) (by omega) (by omega) d_M_write_91 rfl ?_
                refine c_M_become (u := a.1) hm hN2 h92.2.1 hkl hmv hal (by omega) (fun I3 hN3 hJ3 hf3 => ?_)
                have h93 : MT I3 ((chg ns xs k a.1).2.1, (chg ns xs k a.1).2.2, (ps, pn)) [nI 1] T := ⟨hN3, hJ3, h92.2.2.1.congr (fun a j x => hf3 _ _ (by omega) (by omega)), hp, h92.2.2.2.2.congr (hf3 _ _ (by omega) (by omega)) (fun j => hf3 _ _ (by omega) (by omega))⟩
                have hv3 : fV I I3 := (hf1.toR.toV.tr hf2.toV).tr (fun a j x => hf3 _ _ (by omega) (by omega))
                show cn_V l en mi_M_write d 0 0 S I3 P Q 94 [(0, .ref 155), (1, .int (nI (k)))] [.int (nI (chg ns xs k a.1).1.toNat)]
                refine cn_pop (pc' := 95) rfl d_M_write_94 rfl ?_
                refine cn_aload_n (pc' := 96) (k := 0) rfl rfl d_M_write_95 rfl ?_
                refine cn_iconst (pc' := 97) k_c_0 d_M_write_96 rfl ?_
                refine cn_callV (pc' := 100) (kc1 := 0) (ks1 := 0) (kc2 := 0) (ks2 := 0) (rest := []) (lvj := [(0, .ref 155), (1, .int (nI (0)))]) [.int (nI (0))] mv_M_187 hm.1 rfl rfl rfl (Nat.le_of_ble_eq_true rfl) (Nat.le_of_ble_eq_true rfl) (by omega) (by omega) (by omega) d_M_write_97 rfl ?_
                refine c_M_code hm (by omega) (fun I9 ho9 hf9 => ?_)
                have h99 := h93.out hf9 ho9
                have hv9 : fV I I9 := (hv3).tr hf9.toV
                show cn_V l en mi_M_write d 0 0 S I9 P Q 100 [(0, .ref 155), (1, .int (nI (k)))] []
                refine cn_vret rfl d_M_write_100 ?_
                have ed : vdx ns (rnm g 1) = some k := by unfold vdx; rw [hnx]; dsimp only; rw [if_pos (tn_1 hc38)]
                have e : sp_write (ns, xs, (ps, pn)) g = (nI 0, [], (chg ns xs k a.1).2.1, (chg ns xs k a.1).2.2, (ps, pn)) := by unfold sp_write; rw [hwv]; dsimp only; rw [if_pos hag, ed]; dsimp only; rw [if_neg (fun h9 => h9.1 hc63)]
                rw [e] at K
                exact K I9 h99 hv9
              · refine cn_aload_n (pc' := 67) (k := 0) rfl rfl d_M_write_66 rfl ?_
                refine cn_getP (pc' := 70) (b := 158) (hm.2.1 4 158 rfl) fl_M_21 hm.1 rfl d_M_write_67 rfl ?_
                refine cn_iload_n (pc' := 71) (k := 1) rfl rfl d_M_write_70 rfl ?_
                refine cn_ialdv (pc' := 72) (v := (ns.getD k nd0).2.1) hty (hm.2.2 158 0 16 rfl) (by omega) (by decide) d_M_write_71 rfl ?_
                refine cn_aload_n (pc' := 73) (k := 0) rfl rfl d_M_write_72 rfl ?_
                refine cn_getP (pc' := 76) (b := 172) (hm.2.1 31 172 rfl) fl_M_63 hm.1 rfl d_M_write_73 rfl ?_
                refine cn_iconst (pc' := 77) k_c_0 d_M_write_76 rfl ?_
                refine cn_ialdv (pc' := 78) (v := a.1.getD 0 0) (hmv.2.2 0 (by omega)) (hm.2.2 172 0 64 rfl) (by omega) (by decide) d_M_write_77 rfl ?_
                refine cn_icmp_eq (tgt := 89) (pc' := 81) d_M_write_78 (by decide) rfl (fun hc78 => ?_) (fun hc78 => ?_)
                · refine cn_aload_n (pc' := 90) (k := 0) rfl rfl d_M_write_89 rfl ?_
                  refine cn_iload_n (pc' := 91) (k := 1) rfl rfl d_M_write_90 rfl ?_
                  refine cn_callV (pc' := 94) (kc1 := 0) (ks1 := 0) (kc2 := 0) (ks2 := 0) (rest := []) (lvj := [(0, .ref 155), (1, .int (nI (k)))]) [.int (nI (k))] mv_M_134 hm.1 rfl rfl rfl (Nat.le_of_ble_eq_true rfl) (Nat.le_of_ble_eq_true rfl) (by omega) (by omega) (by omega) d_M_write_91 rfl ?_
                  refine c_M_become (u := a.1) hm hN2 h92.2.1 hkl hmv hal (by omega) (fun I3 hN3 hJ3 hf3 => ?_)
                  have h93 : MT I3 ((chg ns xs k a.1).2.1, (chg ns xs k a.1).2.2, (ps, pn)) [nI 1] T := ⟨hN3, hJ3, h92.2.2.1.congr (fun a j x => hf3 _ _ (by omega) (by omega)), hp, h92.2.2.2.2.congr (hf3 _ _ (by omega) (by omega)) (fun j => hf3 _ _ (by omega) (by omega))⟩
                  have hv3 : fV I I3 := (hf1.toR.toV.tr hf2.toV).tr (fun a j x => hf3 _ _ (by omega) (by omega))
                  show cn_V l en mi_M_write d 0 0 S I3 P Q 94 [(0, .ref 155), (1, .int (nI (k)))] [.int (nI (chg ns xs k a.1).1.toNat)]
                  refine cn_pop (pc' := 95) rfl d_M_write_94 rfl ?_
                  refine cn_aload_n (pc' := 96) (k := 0) rfl rfl d_M_write_95 rfl ?_
                  refine cn_iconst (pc' := 97) k_c_0 d_M_write_96 rfl ?_
                  refine cn_callV (pc' := 100) (kc1 := 0) (ks1 := 0) (kc2 := 0) (ks2 := 0) (rest := []) (lvj := [(0, .ref 155), (1, .int (nI (0)))]) [.int (nI (0))] mv_M_187 hm.1 rfl rfl rfl (Nat.le_of_ble_eq_true rfl) (Nat.le_of_ble_eq_true rfl) (by omega) (by omega) (by omega) d_M_write_97 rfl ?_
                  refine c_M_code hm (by omega) (fun I9 ho9 hf9 => ?_)
                  have h99 := h93.out hf9 ho9
                  have hv9 : fV I I9 := (hv3).tr hf9.toV
                  show cn_V l en mi_M_write d 0 0 S I9 P Q 100 [(0, .ref 155), (1, .int (nI (k)))] []
                  refine cn_vret rfl d_M_write_100 ?_
                  have ed : vdx ns (rnm g 1) = some k := by unfold vdx; rw [hnx]; dsimp only; rw [if_pos (tn_1 hc38)]
                  have e : sp_write (ns, xs, (ps, pn)) g = (nI 0, [], (chg ns xs k a.1).2.1, (chg ns xs k a.1).2.2, (ps, pn)) := by unfold sp_write; rw [hwv]; dsimp only; rw [if_pos hag, ed]; dsimp only; rw [if_neg (fun h9 => h9.2 hc78)]
                  rw [e] at K
                  exact K I9 h99 hv9
                · refine cn_aload_n (pc' := 82) (k := 0) rfl rfl d_M_write_81 rfl ?_
                  refine cn_iconst (pc' := 83) k_c_5 d_M_write_82 rfl ?_
                  refine cn_callV (pc' := 86) (kc1 := 0) (ks1 := 0) (kc2 := 0) (ks2 := 0) (rest := []) (lvj := [(0, .ref 155), (1, .int (nI (5)))]) [.int (nI (5))] mv_M_187 hm.1 rfl rfl rfl (Nat.le_of_ble_eq_true rfl) (Nat.le_of_ble_eq_true rfl) (by omega) (by omega) (by omega) d_M_write_83 rfl ?_
                  refine c_M_code hm (by omega) (fun I9 ho9 hf9 => ?_)
                  have h99 := h92.out hf9 ho9
                  have hv9 : fV I I9 := (hf1.toR.toV.tr hf2.toV).tr hf9.toV
                  show cn_V l en mi_M_write d 0 0 S I9 P Q 86 [(0, .ref 155), (1, .int (nI (k)))] []
                  refine cn_goto (tgt := 100) d_M_write_86 (by decide) ?_
                  refine cn_vret rfl d_M_write_100 ?_
                  have ed : vdx ns (rnm g 1) = some k := by unfold vdx; rw [hnx]; dsimp only; rw [if_pos (tn_1 hc38)]
                  have e : sp_write (ns, xs, (ps, pn)) g = (nI 5, [], ns, xs, (ps, pn)) := by unfold sp_write; rw [hwv]; dsimp only; rw [if_pos hag, ed]; dsimp only; rw [if_pos ⟨hc63, hc78⟩]
                  rw [e] at K
                  exact K I9 h99 hv9
            · refine cn_aload_n (pc' := 42) (k := 0) rfl rfl d_M_write_41 rfl ?_
              refine cn_iload_n (pc' := 43) (k := 1) rfl rfl d_M_write_42 rfl ?_
              refine cn_if_ge_n (tgt := 50) (pc' := 46) (by omega) d_M_write_43 (by decide) rfl (fun hc43 => ?_) (fun hc43 => ?_)
              · refine cn_iconst (pc' := 51) k_c_4 d_M_write_50 rfl ?_
                refine cn_callV (pc' := 54) (kc1 := 0) (ks1 := 0) (kc2 := 0) (ks2 := 0) (rest := []) (lvj := [(0, .ref 155), (1, .int (nI (4)))]) [.int (nI (4))] mv_M_187 hm.1 rfl rfl rfl (Nat.le_of_ble_eq_true rfl) (Nat.le_of_ble_eq_true rfl) (by omega) (by omega) (by omega) d_M_write_51 rfl ?_
                refine c_M_code hm (by omega) (fun I9 ho9 hf9 => ?_)
                have h99 := h92.out hf9 ho9
                have hv9 : fV I I9 := (hf1.toR.toV.tr hf2.toV).tr hf9.toV
                show cn_V l en mi_M_write d 0 0 S I9 P Q 54 [(0, .ref 155), (1, .int (nI (k)))] []
                refine cn_goto (tgt := 100) d_M_write_54 (by decide) ?_
                refine cn_vret rfl d_M_write_100 ?_
                have ec : vcode ns (rnm g 1) = nI 4 := by unfold vcode; rw [hnx]; dsimp only; rw [if_neg (by rw [tn_0 hc38]; decide)]
                have ed : vdx ns (rnm g 1) = none := by unfold vdx; rw [hnx]; dsimp only; rw [if_neg (by rw [tn_0 hc38]; decide)]
                have e : sp_write (ns, xs, (ps, pn)) g = (vcode ns (rnm g 1), [], ns, xs, (ps, pn)) := by unfold sp_write; rw [hwv]; dsimp only; rw [if_pos hag, ed]
                rw [e, ec] at K
                exact K I9 h99 hv9
              · exact False.elim (by omega)
      · refine cn_vret rfl d_M_write_27 ?_
        have e : sp_write (ns, xs, (ps, pn)) g = (nI 1, [], ns, xs, (ps, pn)) := by
          unfold sp_write
          rw [show wval g = some a by unfold wval; rw [if_pos hw1]; exact ha]
          dsimp only
          rw [if_neg (fun h => by have := tn_0 hc24; unfold whl at this; simp [h] at this)]
        rw [e] at K
        exact K I2 h92 (hf1.toR.toV.tr hf2.toV)
end
