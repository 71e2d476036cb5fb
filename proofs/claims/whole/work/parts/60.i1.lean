/-- more cells, the same before -/
def ext (S S' : cn_S) : Prop := S.1 ≤ S'.1 ∧ ∀ a, a < S.1 → S'.2.2 a = S.2.2 a
theorem ext.rf {S : cn_S} : ext S S := ⟨Nat.le_refl _, fun _ _ => rfl⟩
theorem ext.tr {S S1 S2 : cn_S} (h1 : ext S S1) (h2 : ext S1 S2) : ext S S2 := ⟨Nat.le_trans h1.1 h2.1, fun a h => (h2.2 a (Nat.lt_of_lt_of_le h h1.1)).trans (h1.2 a h)⟩
theorem cn_ob.ext {S S' : cn_S} {a ci : Nat} (h : cn_ob S a ci) (hx : ext S S') : cn_ob S' a ci := ⟨Nat.lt_of_lt_of_le h.1 hx.1, (hx.2 a h.1).trans h.2⟩
theorem cn_ar.ext {S S' : cn_S} {a t n : Nat} (h : cn_ar S a t n) (hx : ext S S') : cn_ar S' a t n := ⟨Nat.lt_of_lt_of_le h.1 hx.1, (hx.2 a h.1).trans h.2⟩
theorem yb.ext {S S' : cn_S} {P P' : cn_P} {b cap : Nat} (h : yb S P b cap) (hx : ext S S') (hP : P' b = P b) : yb S' P' b cap := ⟨h.1.ext hx, by rw [hP]; exact h.2.1, h.2.2.1.ext hx, h.2.2.2⟩
theorem sn_ext {S : cn_S} {n : Nat} {sh : Nat ⊕ (Nat × Nat)} : ext S (cn_Sn S n sh) := ⟨Nat.le_succ _, fun a h => va_up_ne _ _ (Nat.ne_of_lt h)⟩
theorem sn_at {S : cn_S} {n : Nat} {sh : Nat ⊕ (Nat × Nat)} : (cn_Sn S n sh).2.2 S.1 = sh := if_pos rfl
theorem wp_e {P : cn_P} {a k : Nat} {r : Option Nat} : cn_wp P a k r a k = r := by rw [cn_wp_row]; exact if_pos rfl
theorem wp_o {P : cn_P} {a b j k : Nat} {r : Option Nat} (h : a ≠ b ∨ k ≠ j) : cn_wp P b j r a k = P a k := by
  by_cases e : a = b
  · subst e; rw [cn_wp_row]; exact if_neg (h.resolve_left (fun x => x rfl))
  · rw [cn_wp_ne e]
theorem ci_new {l : Launch} {en : cn_E} {mi : cn_M} {d kc ks : Nat} {S : cn_S} {I : cn_I} {P : cn_P} {Q : Option Value → cn_S → cn_I → cn_P → Prop} {pc pc' : Nat} {lv : List (Nat × Value)} {st : List Value} {N ci idx kc' ks' : Nat} (hN : S.1 = N) (hN6 : N + 1 ≤ 1000000) (hw : cn_nw mi.1.cls idx ci) (hci : ci < 10) (hkc : kc' + 1 ≤ kc) (hks : ks' + cn_NF ci ≤ ks) (hd : decode mi.2.1 pc = .ok (.new idx, 3)) (hp : pc + 3 = pc') (K : ∀ (S' : cn_S) (I' : cn_I) (P' : cn_P), S'.1 = N + 1 → ext S S' → cn_ob S' N ci → I' N = (fun _ => 0) → (∀ b, b ≠ N → I' b = I b) → (∀ b, b ≠ N → P' b = P b) → cn_V l en mi d kc' ks' S' I' P' Q pc' lv (.ref N :: st)) : cn_V l en mi d kc ks S I P Q pc lv st := by
  subst hN
  exact cn_new hw (w_dv ci hci) hkc hks hN6 hd hp (K _ _ _ rfl sn_ext ⟨Nat.lt_succ_self _, sn_at⟩ cn_In_row (fun b h => cn_In_ne h) (fun b h => cn_Pn_ne h))
theorem ci_newa {l : Launch} {en : cn_E} {mi : cn_M} {d kc ks : Nat} {S : cn_S} {I : cn_I} {P : cn_P} {Q : Option Value → cn_S → cn_I → cn_P → Prop} {pc pc' : Nat} {lv : List (Nat × Value)} {st : List Value} {t n N kc' ks' : Nat} {atype : ArrayType} (hN : S.1 = N) (hN6 : N + 1 ≤ 1000000) (ht : t < 3) (hty : newarray.typeOf atype = cn_ty t) (hw : Cond.arrayClass (cn_ty t) ∈ cn_T) (hdv : defaultValue (cn_ty t) = .int 0) (hRA : ∀ (U : State) (cA : ClassId), va_RA U cA (cn_ty t) → U.vm.findClass ("[" ++ (cn_ty t).toString) = some cA) (hb8 : componentBytes (cn_ty t) ≤ 8) (hn : n ≤ 60000) (hkc : kc' + 1 ≤ kc) (hks : ks' + n ≤ ks) (hd : decode mi.2.1 pc = .ok (.newarray atype, 2)) (hp : pc + 2 = pc') (K : ∀ (S' : cn_S) (I' : cn_I) (P' : cn_P), S'.1 = N + 1 → ext S S' → cn_ar S' N t n → I' N = (fun _ => 0) → (∀ b, b ≠ N → I' b = I b) → (∀ b, b ≠ N → P' b = P b) → cn_V l en mi d kc' ks' S' I' P' Q pc' lv (.ref N :: st)) : cn_V l en mi d kc ks S I P Q pc lv (.int (nI n) :: st) := by
  subst hN
  exact cn_newa ht hty hw hdv hRA hb8 hn hkc hks hN6 hd hp (K _ _ _ rfl sn_ext ⟨Nat.lt_succ_self _, sn_at⟩ cn_In_row (fun b h => cn_In_ne h) (fun b h => cn_Pn_ne h))
theorem ci_newq {l : Launch} {en : cn_E} {mi : cn_M} {d kc ks : Nat} {S : cn_S} {I : cn_I} {P : cn_P} {Q : Option Value → cn_S → cn_I → cn_P → Prop} {pc pc' : Nat} {lv : List (Nat × Value)} {st : List Value} {t n N idx kc' ks' : Nat} {E : String} (hN : S.1 = N) (hN6 : N + 1 ≤ 1000000) (ht : ¬ t < 3) (ht7 : t < 7) (hE : cn_ty t = .object E) (hO : E ∈ cn_O) (hw : Cond.classLink mi.1.cls idx E ∈ cn_T) (hn : n ≤ 60000) (hkc : kc' + 1 ≤ kc) (hks : ks' + n ≤ ks) (hd : decode mi.2.1 pc = .ok (.anewarray idx, 3)) (hp : pc + 3 = pc') (K : ∀ (S' : cn_S) (I' : cn_I) (P' : cn_P), S'.1 = N + 1 → ext S S' → cn_ar S' N t n → I' N = (fun _ => 0) → (∀ b, b ≠ N → I' b = I b) → (∀ b, b ≠ N → P' b = P b) → cn_V l en mi d kc' ks' S' I' P' Q pc' lv (.ref N :: st)) : cn_V l en mi d kc ks S I P Q pc lv (.int (nI n) :: st) := by
  subst hN
  exact cn_newq ht ht7 hE hO hw hn hkc hks hN6 hd hp (K _ _ _ rfl sn_ext ⟨Nat.lt_succ_self _, sn_at⟩ cn_In_row (fun b h => cn_In_ne h) (fun b h => cn_Pn_ne h))
section
variable {l : Launch} {en : cn_E} {d : Nat} {S : cn_S} {I : cn_I} {P : cn_P} {Q : Option Value → cn_S → cn_I → cn_P → Prop}
theorem i_By {a n : Nat} (hn : n ≤ 1000) (hS : S.1 = a + 1) (ha : a + 0 < 900000) (ho : cn_ob S a 0) (hz : I a = fun _ => 0) (hd1 : 1 ≤ d) (K : ∀ (S' : cn_S) (I' : cn_I) (P' : cn_P), S'.1 = a + 2 → ext S S' → (∀ b, b ≤ a → I' b = I b) → (∀ b, b < a → P' b = P b) → yb S' P' a n → ys I' a [] → Q none S' I' P') : cn_V l en mi_By_init d 1 n S I P Q 0 [(0, .ref a), (1, .int (nI n))] [] := by
  refine cn_aload_n (pc' := 1) (k := 0) rfl rfl d_By_init_0 rfl ?_
  refine cn_objInit (pc' := 4) w_obj_By w_oi w_oc (by omega) (Nat.le_of_ble_eq_true rfl) d_By_init_1 rfl ?_
  refine cn_aload_n (pc' := 5) (k := 0) rfl rfl d_By_init_4 rfl ?_
  refine cn_iload_n (pc' := 6) (k := 1) rfl rfl d_By_init_5 rfl ?_
  refine ci_newa (pc' := 8) (t := 1) (n := n) (atype := .byte) (N := a + 1) (kc' := 0) (ks' := 0) (by omega) (by omega) (by decide) rfl w_ac_1 rfl (fun _ _ h => h) (by decide) (by first | omega | decide) (by first | omega | decide) (by first | omega | decide) d_By_init_6 rfl (fun S1 I1 P1 hn1 hx1 ho1 hz1 hI1 hP1 => ?_)
  refine cn_putF (pc' := 11) cn_ok_By (by decide) ff_By_7 rfl (ho.ext hx1) (by omega) rfl rfl rfl (fun _ => rfl) (fun _ => rfl) d_By_init_8 rfl ?_
  refine cn_vret rfl d_By_init_11 ?_
  exact K S1 I1 _ hn1 hx1 (fun b hb => hI1 b (by omega)) (fun b hb => by rw [cn_wp_ne (by omega)]; exact hP1 b (by omega)) ⟨ho.ext hx1, wp_e, ho1, hn⟩ ⟨by rw [hI1 a (by omega), hz]; rfl, fun j hj => absurd hj (Nat.not_lt_zero j), fun x hx => absurd hx List.not_mem_nil⟩
theorem i_No {a : Nat} (hS : S.1 = a + 1) (ha : a + 10 < 900000) (ho : cn_ob S a 4) (hz : I a = fun _ => 0) (hd1 : 2 ≤ d) (K : ∀ (S' : cn_S) (I' : cn_I) (P' : cn_P), S'.1 = a + 3 → ext S S' → (∀ b, b < a → I' b = I b) → (∀ b, b < a → P' b = P b) → yn S' P' a → ys I' (a + 1) [] → Q none S' I' P') : cn_V l en mi_No_init d 2 63 S I P Q 0 [(0, .ref a)] [] := by
  refine cn_aload_n (pc' := 1) (k := 0) rfl rfl d_No_init_0 rfl ?_
  refine cn_objInit (pc' := 4) w_obj_No w_oi w_oc (by omega) (Nat.le_of_ble_eq_true rfl) d_No_init_1 rfl ?_
  refine cn_aload_n (pc' := 5) (k := 0) rfl rfl d_No_init_4 rfl ?_
  refine ci_new (pc' := 8) (N := a + 1) (kc' := 1) (ks' := 61) (by omega) (by omega) nw_No_9 (by decide) (by first | omega | decide) (by first | (show _ + 2 ≤ _; omega) | decide) d_No_init_5 rfl (fun S1 I1 P1 hn1 hx1 ho1 hz1 hI1 hP1 => ?_)
  refine cn_dup (pc' := 9) rfl d_No_init_8 rfl ?_
  refine cn_bipush (pc' := 11) k_b_61 d_No_init_9 rfl ?_
  refine cn_callI (pc' := 14) (kc1 := 1) (ks1 := 61) (kc2 := 0) (ks2 := 0) (a := a + 1) (rest := [.ref (a + 1), .ref a]) (lvj := [(0, .ref (a + 1)), (1, .int (nI (61)))]) [.int (nI (61))] mn_No_11 (by omega) rfl rfl rfl (Nat.le_of_ble_eq_true rfl) (Nat.le_of_ble_eq_true rfl) (by omega) (by first | omega | decide) (by first | omega | decide) d_No_init_11 rfl ?_
  refine i_By (a := a + 1) (n := 61) (by decide) (by omega) (by omega) ho1 hz1 (by omega) (fun S2 I2 P2 hn2 hx2 hI2 hP2 hy2 hys2 => ?_)
  have hx := hx1.tr hx2
  show cn_V l en mi_No_init d 0 0 S2 I2 P2 Q 14 [(0, .ref a)] [.ref (a + 1), .ref a]
  refine cn_putF (pc' := 17) cn_ok_No (by decide) ff_No_14 rfl (ho.ext hx) (by omega) rfl rfl rfl (fun _ => rfl) (fun _ => rfl) d_No_init_14 rfl ?_
  refine cn_vret rfl d_No_init_17 ?_
  exact K S2 I2 _ (by omega) hx (fun b hb => (hI2 b (by omega)).trans (hI1 b (by omega))) (fun b hb => by rw [cn_wp_ne (by omega), hP2 b (by omega)]; exact hP1 b (by omega)) ⟨ho.ext hx, wp_e, (yb.keepP hy2 (cn_wp_ne (by omega)))⟩ hys2
theorem i_Nt {a : Nat} (hS : S.1 = a + 1) (ha : a + 10 < 900000) (ho : cn_ob S a 5) (hz : I a = fun _ => 0) (hd1 : 2 ≤ d) (K : ∀ (S' : cn_S) (I' : cn_I) (P' : cn_P), S'.1 = a + 3 → ext S S' → (∀ b, b < a → I' b = I b) → (∀ b, b < a → P' b = P b) → cn_ob S' a 5 → P' a 0 = some (a + 1) → yb S' P' (a + 1) 61 → Q none S' I' P') : cn_V l en mi_Nt_init d 2 63 S I P Q 0 [(0, .ref a)] [] := by
  refine cn_aload_n (pc' := 1) (k := 0) rfl rfl d_Nt_init_0 rfl ?_
  refine cn_objInit (pc' := 4) w_obj_Nt w_oi w_oc (by omega) (Nat.le_of_ble_eq_true rfl) d_Nt_init_1 rfl ?_
  refine cn_aload_n (pc' := 5) (k := 0) rfl rfl d_Nt_init_4 rfl ?_
  refine ci_new (pc' := 8) (N := a + 1) (kc' := 1) (ks' := 61) (by omega) (by omega) nw_Nt_9 (by decide) (by first | omega | decide) (by first | (show _ + 2 ≤ _; omega) | decide) d_Nt_init_5 rfl (fun S1 I1 P1 hn1 hx1 ho1 hz1 hI1 hP1 => ?_)
  refine cn_dup (pc' := 9) rfl d_Nt_init_8 rfl ?_
  refine cn_bipush (pc' := 11) k_b_61 d_Nt_init_9 rfl ?_
  refine cn_callI (pc' := 14) (kc1 := 1) (ks1 := 61) (kc2 := 0) (ks2 := 0) (a := a + 1) (rest := [.ref (a + 1), .ref a]) (lvj := [(0, .ref (a + 1)), (1, .int (nI (61)))]) [.int (nI (61))] mn_Nt_11 (by omega) rfl rfl rfl (Nat.le_of_ble_eq_true rfl) (Nat.le_of_ble_eq_true rfl) (by omega) (by first | omega | decide) (by first | omega | decide) d_Nt_init_11 rfl ?_
  refine i_By (a := a + 1) (n := 61) (by decide) (by omega) (by omega) ho1 hz1 (by omega) (fun S2 I2 P2 hn2 hx2 hI2 hP2 hy2 hys2 => ?_)
  have hx := hx1.tr hx2
  show cn_V l en mi_Nt_init d 0 0 S2 I2 P2 Q 14 [(0, .ref a)] [.ref (a + 1), .ref a]
  refine cn_putF (pc' := 17) cn_ok_Nt (by decide) ff_Nt_14 rfl (ho.ext hx) (by omega) rfl rfl rfl (fun _ => rfl) (fun _ => rfl) d_Nt_init_14 rfl ?_
  refine cn_vret rfl d_Nt_init_17 ?_
  exact K S2 I2 _ (by omega) hx (fun b hb => (hI2 b (by omega)).trans (hI1 b (by omega))) (fun b hb => by rw [cn_wp_ne (by omega), hP2 b (by omega)]; exact hP1 b (by omega)) (ho.ext hx) wp_e (yb.keepP hy2 (cn_wp_ne (by omega)))
theorem i_Pa {a : Nat} (hS : S.1 = a + 1) (ha : a + 10 < 900000) (ho : cn_ob S a 6) (hz : I a = fun _ => 0) (hd1 : 2 ≤ d) (K : ∀ (S' : cn_S) (I' : cn_I) (P' : cn_P), S'.1 = a + 3 → ext S S' → (∀ b, b < a → I' b = I b) → (∀ b, b < a → P' b = P b) → cn_ob S' a 6 → P' a 1 = some (a + 1) → yb S' P' (a + 1) 194 → Q none S' I' P') : cn_V l en mi_Pa_init d 2 196 S I P Q 0 [(0, .ref a)] [] := by
  refine cn_aload_n (pc' := 1) (k := 0) rfl rfl d_Pa_init_0 rfl ?_
  refine cn_objInit (pc' := 4) w_obj_Pa w_oi w_oc (by omega) (Nat.le_of_ble_eq_true rfl) d_Pa_init_1 rfl ?_
  refine cn_aload_n (pc' := 5) (k := 0) rfl rfl d_Pa_init_4 rfl ?_
  refine ci_new (pc' := 8) (N := a + 1) (kc' := 1) (ks' := 194) (by omega) (by omega) nw_Pa_9 (by decide) (by first | omega | decide) (by first | (show _ + 2 ≤ _; omega) | decide) d_Pa_init_5 rfl (fun S1 I1 P1 hn1 hx1 ho1 hz1 hI1 hP1 => ?_)
  refine cn_dup (pc' := 9) rfl d_Pa_init_8 rfl ?_
  refine cn_sipush (pc' := 12) k_s_194 d_Pa_init_9 rfl ?_
  refine cn_callI (pc' := 15) (kc1 := 1) (ks1 := 194) (kc2 := 0) (ks2 := 0) (a := a + 1) (rest := [.ref (a + 1), .ref a]) (lvj := [(0, .ref (a + 1)), (1, .int (nI (194)))]) [.int (nI (194))] mn_Pa_11 (by omega) rfl rfl rfl (Nat.le_of_ble_eq_true rfl) (Nat.le_of_ble_eq_true rfl) (by omega) (by first | omega | decide) (by first | omega | decide) d_Pa_init_12 rfl ?_
  refine i_By (a := a + 1) (n := 194) (by decide) (by omega) (by omega) ho1 hz1 (by omega) (fun S2 I2 P2 hn2 hx2 hI2 hP2 hy2 hys2 => ?_)
  have hx := hx1.tr hx2
  show cn_V l en mi_Pa_init d 0 0 S2 I2 P2 Q 15 [(0, .ref a)] [.ref (a + 1), .ref a]
  refine cn_putF (pc' := 18) cn_ok_Pa (by decide) ff_Pa_14 rfl (ho.ext hx) (by omega) rfl rfl rfl (fun _ => rfl) (fun _ => rfl) d_Pa_init_15 rfl ?_
  refine cn_vret rfl d_Pa_init_18 ?_
  exact K S2 I2 _ (by omega) hx (fun b hb => (hI2 b (by omega)).trans (hI1 b (by omega))) (fun b hb => by rw [cn_wp_ne (by omega), hP2 b (by omega)]; exact hP1 b (by omega)) (ho.ext hx) wp_e (yb.keepP hy2 (cn_wp_ne (by omega)))
theorem i_Me {a : Nat} (hS : S.1 = a + 1) (ha : a + 10 < 900000) (ho : cn_ob S a 3) (hz : I a = fun _ => 0) (hd1 : 2 ≤ d) (K : ∀ (S' : cn_S) (I' : cn_I) (P' : cn_P), S'.1 = a + 3 → ext S S' → (∀ b, b ≤ a → I' b = I b) → (∀ b, b < a → P' b = P b) → ym S' P' a → ys I' (a + 1) [] → Q none S' I' P') : cn_V l en mi_Me_init d 2 66 S I P Q 0 [(0, .ref a)] [] := by
  refine cn_aload_n (pc' := 1) (k := 0) rfl rfl d_Me_init_0 rfl ?_
  refine cn_objInit (pc' := 4) w_obj_Me w_oi w_oc (by omega) (Nat.le_of_ble_eq_true rfl) d_Me_init_1 rfl ?_
  refine cn_aload_n (pc' := 5) (k := 0) rfl rfl d_Me_init_4 rfl ?_
  refine ci_new (pc' := 8) (N := a + 1) (kc' := 1) (ks' := 64) (by omega) (by omega) nw_Me_9 (by decide) (by first | omega | decide) (by first | (show _ + 2 ≤ _; omega) | decide) d_Me_init_5 rfl (fun S1 I1 P1 hn1 hx1 ho1 hz1 hI1 hP1 => ?_)
  refine cn_dup (pc' := 9) rfl d_Me_init_8 rfl ?_
  refine cn_bipush (pc' := 11) k_b_64 d_Me_init_9 rfl ?_
  refine cn_callI (pc' := 14) (kc1 := 1) (ks1 := 64) (kc2 := 0) (ks2 := 0) (a := a + 1) (rest := [.ref (a + 1), .ref a]) (lvj := [(0, .ref (a + 1)), (1, .int (nI (64)))]) [.int (nI (64))] mn_Me_11 (by omega) rfl rfl rfl (Nat.le_of_ble_eq_true rfl) (Nat.le_of_ble_eq_true rfl) (by omega) (by first | omega | decide) (by first | omega | decide) d_Me_init_11 rfl ?_
  refine i_By (a := a + 1) (n := 64) (by decide) (by omega) (by omega) ho1 hz1 (by omega) (fun S2 I2 P2 hn2 hx2 hI2 hP2 hy2 hys2 => ?_)
  have hx := hx1.tr hx2
  show cn_V l en mi_Me_init d 0 0 S2 I2 P2 Q 14 [(0, .ref a)] [.ref (a + 1), .ref a]
  refine cn_putF (pc' := 17) cn_ok_Me (by decide) ff_Me_14 rfl (ho.ext hx) (by omega) rfl rfl rfl (fun _ => rfl) (fun _ => rfl) d_Me_init_14 rfl ?_
  refine cn_vret rfl d_Me_init_17 ?_
  exact K S2 I2 _ (by omega) hx (fun b hb => (hI2 b (by omega)).trans (hI1 b (by omega))) (fun b hb => by rw [cn_wp_ne (by omega), hP2 b (by omega)]; exact hP1 b (by omega)) ⟨ho.ext hx, wp_e, (yb.keepP hy2 (cn_wp_ne (by omega)))⟩ hys2
theorem i_Ch {a : Nat} (hS : S.1 = a + 1) (ha : a + 20 < 900000) (ho : cn_ob S a 1) (hz : I a = fun _ => 0) (hd1 : 3 ≤ d) (K : ∀ (S' : cn_S) (I' : cn_I) (P' : cn_P), S'.1 = a + 4 → ext S S' → (∀ b, b < a → I' b = I b) → (∀ b, b < a → P' b = P b) → yc S' P' a → chs I' a (true, false, 0, none, []) → Q none S' I' P') : cn_V l en mi_Ch_init d 3 69 S I P Q 0 [(0, .ref a)] [] := by
  refine cn_aload_n (pc' := 1) (k := 0) rfl rfl d_Ch_init_0 rfl ?_
  refine cn_objInit (pc' := 4) w_obj_Ch w_oi w_oc (by omega) (Nat.le_of_ble_eq_true rfl) d_Ch_init_1 rfl ?_
  refine cn_aload_n (pc' := 5) (k := 0) rfl rfl d_Ch_init_4 rfl ?_
  refine ci_new (pc' := 8) (N := a + 1) (kc' := 2) (ks' := 66) (by omega) (by omega) nw_Ch_9 (by decide) (by first | omega | decide) (by first | (show _ + 3 ≤ _; omega) | decide) d_Ch_init_5 rfl (fun S1 I1 P1 hn1 hx1 ho1 hz1 hI1 hP1 => ?_)
  refine cn_dup (pc' := 9) rfl d_Ch_init_8 rfl ?_
  refine cn_callI (pc' := 12) (kc1 := 2) (ks1 := 66) (kc2 := 0) (ks2 := 0) (a := a + 1) (rest := [.ref (a + 1), .ref a]) (lvj := [(0, .ref (a + 1))]) [] mn_Ch_11 (by omega) rfl rfl rfl (Nat.le_of_ble_eq_true rfl) (Nat.le_of_ble_eq_true rfl) (by omega) (by first | omega | decide) (by first | omega | decide) d_Ch_init_9 rfl ?_
  refine i_Me (a := a + 1) (by omega) (by omega) ho1 hz1 (by omega) (fun S2 I2 P2 hn2 hx2 hI2 hP2 hy2 hys2 => ?_)
  have hx := hx1.tr hx2
  show cn_V l en mi_Ch_init d 0 0 S2 I2 P2 Q 12 [(0, .ref a)] [.ref (a + 1), .ref a]
  refine cn_putF (pc' := 15) cn_ok_Ch (by decide) ff_Ch_12 rfl (ho.ext hx) (by omega) rfl rfl rfl (fun _ => rfl) (fun _ => rfl) d_Ch_init_12 rfl ?_
  refine cn_aload_n (pc' := 16) (k := 0) rfl rfl d_Ch_init_15 rfl ?_
  refine cn_iconst (pc' := 17) k_c_1 d_Ch_init_16 rfl ?_
  refine cn_putI (pc' := 20) fl_Ch_18 (ho.ext hx) rfl rfl rfl rfl d_Ch_init_17 rfl ?_
  refine cn_vret rfl d_Ch_init_20 ?_
  have hra : I2 a = fun _ => 0 := by rw [hI2 a (by omega), hI1 a (by omega)]; exact hz
  exact K S2 _ _ (by omega) hx (fun b hb => by rw [cn_wi_ne (by omega), hI2 b (by omega)]; exact hI1 b (by omega)) (fun b hb => by rw [cn_wp_ne (by omega), hP2 b (by omega)]; exact hP1 b (by omega)) ⟨ho.ext hx, wp_e, hy2.1, by rw [cn_wp_ne (by omega)]; exact hy2.2.1, yb.keepP hy2.2.2 (cn_wp_ne (by omega))⟩ ⟨mw_e, mw_k (by decide) (by rw [hra]; rfl), mw_k (by decide) (by rw [hra]), mw_k (by decide) (by rw [hra]; rfl), (fun q hq => by cases hq), ys_cong1 hys2 (by omega) (by omega), Nat.zero_le _⟩
theorem i_It_loop {a : Nat} (ha : a + 100 < 900000) (hd1 : 3 ≤ d) (S0 : cn_S) (I0 : cn_I) (P0 : cn_P) (K : ∀ (S' : cn_S) (P' : cn_P), S'.1 = a + 14 → ext S0 S' → cn_ob S' a 2 → P' a 0 = some (a + 1) → cn_ar S' (a + 1) 5 4 → (∀ (I' : cn_I), (∀ b, b ≤ a → I' b = I0 b) → (∀ b, b < a → P' b = P0 b) → (∀ q, q < 4 → (cn_ob S' (a + 2 + 3 * q) 5 ∧ P' (a + 2 + 3 * q) 0 = some (a + 3 + 3 * q) ∧ yb S' P' (a + 3 + 3 * q) 61 ∧ P' (a + 1) q = some (a + 2 + 3 * q))) → Q none S' I' P')) : ∀ (r i : Nat) (S : cn_S) (I : cn_I) (P : cn_P), i + r = 4 → S.1 = a + 2 + 3 * i → ext S0 S → cn_ob S a 2 → P a 0 = some (a + 1) → cn_ar S (a + 1) 5 4 → (∀ b, b ≤ a → I b = I0 b) → (∀ b, b < a → P b = P0 b) → (∀ q, q < i → (cn_ob S (a + 2 + 3 * q) 5 ∧ P (a + 2 + 3 * q) 0 = some (a + 3 + 3 * q) ∧ yb S P (a + 3 + 3 * q) 61 ∧ P (a + 1) q = some (a + 2 + 3 * q))) → cn_V l en mi_It_init d (3 * r) (65 * r) S I P Q 19 [(0, .ref a), (1, .int (nI i))] [] := by
  intro r
  induction r with
  | zero =>
    intro i S I P hir hS hxx ho hp har hI hP hq
    refine cn_iload_n (pc' := 20) (k := 1) rfl rfl d_It_init_19 rfl ?_
    refine cn_iconst (pc' := 21) k_c_4 d_It_init_20 rfl ?_
    refine cn_icmp_ge_n (tgt := 43) (pc' := 24) (by omega) (by omega) d_It_init_21 (by decide) rfl (fun hc21 => ?_) (fun hc21 => ?_)
    · refine cn_vret rfl d_It_init_43 ?_
      obtain rfl : i = 4 := by omega
      exact K S P hS hxx ho hp har I hI hP hq
    · exact absurd hc21 (by omega)
  | succ r ih =>
    intro i S I P hir hS hxx ho hp har hI hP hq
    refine cn_iload_n (pc' := 20) (k := 1) rfl rfl d_It_init_19 rfl ?_
    refine cn_iconst (pc' := 21) k_c_4 d_It_init_20 rfl ?_
    refine cn_icmp_ge_n (tgt := 43) (pc' := 24) (by omega) (by omega) d_It_init_21 (by decide) rfl (fun hc21 => ?_) (fun hc21 => ?_)
    · exact absurd hc21 (by omega)
    · refine cn_aload_n (pc' := 25) (k := 0) rfl rfl d_It_init_24 rfl ?_
      refine cn_getP (pc' := 28) (b := (a + 1)) hp fl_It_11 ho rfl d_It_init_25 rfl ?_
      refine cn_iload_n (pc' := 29) (k := 1) rfl rfl d_It_init_28 rfl ?_
      refine ci_new (pc' := 32) (N := a + 2 + 3 * i) (kc' := 3 * r + 2) (ks' := 65 * r + 63) (by omega) (by omega) nw_It_9 (by decide) (by first | omega | decide) (by first | (show _ + 2 ≤ _; omega) | decide) d_It_init_29 rfl (fun S1 I1 P1 hn1 hx1 ho1 hz1 hI1 hP1 => ?_)
      refine cn_dup (pc' := 33) rfl d_It_init_32 rfl ?_
      refine cn_callI (pc' := 36) (kc1 := 2) (ks1 := 63) (kc2 := 3 * r + 0) (ks2 := 65 * r + 0) (a := a + 2 + 3 * i) (rest := [.ref (a + 2 + 3 * i), .int (nI (i)), .ref ((a + 1))]) (lvj := [(0, .ref (a + 2 + 3 * i))]) [] mn_It_21 (by omega) rfl rfl rfl (Nat.le_of_ble_eq_true rfl) (Nat.le_of_ble_eq_true rfl) (by omega) (by first | omega | decide) (by first | omega | decide) d_It_init_33 rfl ?_
      refine i_Nt (a := a + 2 + 3 * i) (by omega) (by omega) ho1 hz1 (by omega) (fun S2 I2 P2 hn2 hx2 hI2 hP2 hb2 hc2 hy2 => ?_)
      have hx := hx1.tr hx2
      have hPa : ∀ b, b < a + 2 + 3 * i → P2 b = P b := fun b hb => (hP2 b (by omega)).trans (hP1 b (by omega))
      show cn_V l en mi_It_init d (3 * r + 0) (65 * r + 0) S2 I2 P2 Q 36 [(0, .ref a), (1, .int (nI (i)))] [.ref (a + 2 + 3 * i), .int (nI (i)), .ref ((a + 1))]
      refine cn_aast (pc' := 37) (har.ext hx) (by decide) (by decide) hb2 rfl rfl (by omega) (by decide) d_It_init_36 rfl ?_
      refine cn_iinc_n (pc' := 40) (lv' := [(0, .ref a), (1, .int (nI (i + 1)))]) (k := 1) [1, 0] rfl (Nat.le_of_ble_eq_true rfl) rfl d_It_init_37 rfl ?_
      refine cn_goto (tgt := 19) d_It_init_40 (by decide) ?_
      show cn_V l en mi_It_init d (3 * r) (65 * r) S2 I2 _ Q 19 _ _
      refine ih (i + 1) S2 I2 _ (by omega) (by omega) (hxx.tr hx) (ho.ext hx) (by rw [cn_wp_ne (by omega), hPa a (by omega)]; exact hp) (har.ext hx) (fun b hb => (hI2 b (by omega)).trans ((hI1 b (by omega)).trans (hI b hb))) (fun b hb => by rw [cn_wp_ne (by omega), hPa b (by omega)]; exact hP b hb) (fun q hqi => ?_)
      by_cases e : q = i
      · subst e
        rw [show a + 2 + 3 * q + 1 = a + 3 + 3 * q by omega] at hc2 hy2
        exact ⟨hb2, by rw [cn_wp_ne (by omega)]; exact hc2, yb.keepP hy2 (cn_wp_ne (by omega)), wp_e⟩
      · obtain ⟨c1, c2, c3, c4⟩ := hq q (by omega)
        exact ⟨c1.ext hx, by rw [cn_wp_ne (by omega), hPa _ (by omega)]; exact c2, c3.ext hx (by rw [cn_wp_ne (by omega), hPa _ (by omega)]), by rw [wp_o (by omega), hPa _ (by omega)]; exact c4⟩
theorem i_It {a : Nat} (hS : S.1 = a + 1) (ha : a + 100 < 900000) (ho : cn_ob S a 2) (hz : I a = fun _ => 0) (hd1 : 3 ≤ d) (K : ∀ (S' : cn_S) (I' : cn_I) (P' : cn_P), S'.1 = a + 14 → ext S S' → (∀ b, b < a → I' b = I b) → (∀ b, b < a → P' b = P b) → yi S' P' a → ypm P' (a + 1) (a + 2) 4 (fun j => j) → Q none S' I' P') : cn_V l en mi_It_init d 13 264 S I P Q 0 [(0, .ref a)] [] := by
  refine cn_aload_n (pc' := 1) (k := 0) rfl rfl d_It_init_0 rfl ?_
  refine cn_objInit (pc' := 4) w_obj_It w_oi w_oc (by omega) (Nat.le_of_ble_eq_true rfl) d_It_init_1 rfl ?_
  refine cn_aload_n (pc' := 5) (k := 0) rfl rfl d_It_init_4 rfl ?_
  refine cn_iconst (pc' := 6) k_c_4 d_It_init_5 rfl ?_
  refine ci_newq (pc' := 9) (t := 5) (n := 4) (E := "ChunkedNodes$Notice") (N := a + 1) (kc' := 12) (ks' := 260) (by omega) (by omega) (by decide) (by decide) rfl (by decide) w_cl_It_9 (by first | omega | decide) (by first | omega | decide) (by first | omega | decide) d_It_init_6 rfl (fun S1 I1 P1 hn1 hx1 ho1 hz1 hI1 hP1 => ?_)
  refine cn_putF (pc' := 12) cn_ok_It (by decide) ff_It_11 rfl (ho.ext hx1) (by omega) rfl rfl rfl (fun _ => rfl) (fun _ => rfl) d_It_init_9 rfl ?_
  refine cn_aload_n (pc' := 13) (k := 0) rfl rfl d_It_init_12 rfl ?_
  refine cn_iconst (pc' := 14) k_c_1 d_It_init_13 rfl ?_
  refine cn_putI (pc' := 17) fl_It_17 (ho.ext hx1) rfl rfl rfl rfl d_It_init_14 rfl ?_
  refine cn_iconst (pc' := 18) k_c_0 d_It_init_17 rfl ?_
  refine cn_istore_n (pc' := 19) (lv' := [(0, .ref a), (1, .int (nI (0)))]) rfl [1, 0] (Nat.le_of_ble_eq_true rfl) rfl d_It_init_18 rfl ?_
  have hoa : cn_ob S1 a 2 := ho.ext hx1
  show cn_V l en mi_It_init d (3 * 4) (65 * 4) S1 _ _ Q 19 _ _
  refine i_It_loop ha hd1 S1 _ (cn_wp P1 a 0 (some (a + 1))) (fun S2 P2 hn2 hx2 ho2 hp2 har2 I2 hI2 hP2 hq2 => ?_) 4 0 S1 _ _ (by omega) (by omega) ext.rf hoa wp_e ho1 (fun _ _ => rfl) (fun _ _ => rfl) (fun q hq => absurd hq (Nat.not_lt_zero q))
  refine K S2 I2 P2 (by omega) (hx1.tr hx2) (fun b hb => ?_) (fun b hb => ?_) ⟨ho2, hp2, har2, fun q hq => ⟨(hq2 q hq).1, (hq2 q hq).2.1, (hq2 q hq).2.2.1⟩⟩ ⟨fun j hj => hj, fun i j _ _ e => e, fun j hj => (hq2 j hj).2.2.2⟩
  · rw [hI2 b (by omega), cn_wi_ne (by omega)]; exact hI1 b (by omega)
  · rw [hP2 b (by omega), cn_wp_ne (by omega)]; exact hP1 b (by omega)
theorem i_Sf_loop {a : Nat} (ha : a + 100 < 900000) (hd1 : 3 ≤ d) (S0 : cn_S) (I0 : cn_I) (P0 : cn_P) (K : ∀ (S' : cn_S) (P' : cn_P), S'.1 = a + 11 → ext S0 S' → cn_ob S' a 7 → P' a 0 = some (a + 1) → cn_ar S' (a + 1) 6 3 → (∀ (I' : cn_I), (∀ b, b ≤ a → I' b = I0 b) → (∀ b, b < a → P' b = P0 b) → (∀ q, q < 3 → (cn_ob S' (a + 2 + 3 * q) 6 ∧ P' (a + 2 + 3 * q) 1 = some (a + 3 + 3 * q) ∧ yb S' P' (a + 3 + 3 * q) 194 ∧ P' (a + 1) q = some (a + 2 + 3 * q))) → Q none S' I' P')) : ∀ (r i : Nat) (S : cn_S) (I : cn_I) (P : cn_P), i + r = 3 → S.1 = a + 2 + 3 * i → ext S0 S → cn_ob S a 7 → P a 0 = some (a + 1) → cn_ar S (a + 1) 6 3 → (∀ b, b ≤ a → I b = I0 b) → (∀ b, b < a → P b = P0 b) → (∀ q, q < i → (cn_ob S (a + 2 + 3 * q) 6 ∧ P (a + 2 + 3 * q) 1 = some (a + 3 + 3 * q) ∧ yb S P (a + 3 + 3 * q) 194 ∧ P (a + 1) q = some (a + 2 + 3 * q))) → cn_V l en mi_Sf_init d (3 * r) (198 * r) S I P Q 14 [(0, .ref a), (1, .int (nI i))] [] := by
  intro r
  induction r with
  | zero =>
    intro i S I P hir hS hxx ho hp har hI hP hq
    refine cn_iload_n (pc' := 15) (k := 1) rfl rfl d_Sf_init_14 rfl ?_
    refine cn_iconst (pc' := 16) k_c_3 d_Sf_init_15 rfl ?_
    refine cn_icmp_ge_n (tgt := 38) (pc' := 19) (by omega) (by omega) d_Sf_init_16 (by decide) rfl (fun hc16 => ?_) (fun hc16 => ?_)
    · refine cn_vret rfl d_Sf_init_38 ?_
      obtain rfl : i = 3 := by omega
      exact K S P hS hxx ho hp har I hI hP hq
    · exact absurd hc16 (by omega)
  | succ r ih =>
    intro i S I P hir hS hxx ho hp har hI hP hq
    refine cn_iload_n (pc' := 15) (k := 1) rfl rfl d_Sf_init_14 rfl ?_
    refine cn_iconst (pc' := 16) k_c_3 d_Sf_init_15 rfl ?_
    refine cn_icmp_ge_n (tgt := 38) (pc' := 19) (by omega) (by omega) d_Sf_init_16 (by decide) rfl (fun hc16 => ?_) (fun hc16 => ?_)
    · exact absurd hc16 (by omega)
    · refine cn_aload_n (pc' := 20) (k := 0) rfl rfl d_Sf_init_19 rfl ?_
      refine cn_getP (pc' := 23) (b := (a + 1)) hp fl_Sf_11 ho rfl d_Sf_init_20 rfl ?_
      refine cn_iload_n (pc' := 24) (k := 1) rfl rfl d_Sf_init_23 rfl ?_
      refine ci_new (pc' := 27) (N := a + 2 + 3 * i) (kc' := 3 * r + 2) (ks' := 198 * r + 196) (by omega) (by omega) nw_Sf_9 (by decide) (by first | omega | decide) (by first | (show _ + 2 ≤ _; omega) | decide) d_Sf_init_24 rfl (fun S1 I1 P1 hn1 hx1 ho1 hz1 hI1 hP1 => ?_)
      refine cn_dup (pc' := 28) rfl d_Sf_init_27 rfl ?_
      refine cn_callI (pc' := 31) (kc1 := 2) (ks1 := 196) (kc2 := 3 * r + 0) (ks2 := 198 * r + 0) (a := a + 2 + 3 * i) (rest := [.ref (a + 2 + 3 * i), .int (nI (i)), .ref ((a + 1))]) (lvj := [(0, .ref (a + 2 + 3 * i))]) [] mn_Sf_17 (by omega) rfl rfl rfl (Nat.le_of_ble_eq_true rfl) (Nat.le_of_ble_eq_true rfl) (by omega) (by first | omega | decide) (by first | omega | decide) d_Sf_init_28 rfl ?_
      refine i_Pa (a := a + 2 + 3 * i) (by omega) (by omega) ho1 hz1 (by omega) (fun S2 I2 P2 hn2 hx2 hI2 hP2 hb2 hc2 hy2 => ?_)
      have hx := hx1.tr hx2
      have hPa : ∀ b, b < a + 2 + 3 * i → P2 b = P b := fun b hb => (hP2 b (by omega)).trans (hP1 b (by omega))
      show cn_V l en mi_Sf_init d (3 * r + 0) (198 * r + 0) S2 I2 P2 Q 31 [(0, .ref a), (1, .int (nI (i)))] [.ref (a + 2 + 3 * i), .int (nI (i)), .ref ((a + 1))]
      refine cn_aast (pc' := 32) (har.ext hx) (by decide) (by decide) hb2 rfl rfl (by omega) (by decide) d_Sf_init_31 rfl ?_
      refine cn_iinc_n (pc' := 35) (lv' := [(0, .ref a), (1, .int (nI (i + 1)))]) (k := 1) [1, 0] rfl (Nat.le_of_ble_eq_true rfl) rfl d_Sf_init_32 rfl ?_
      refine cn_goto (tgt := 14) d_Sf_init_35 (by decide) ?_
      show cn_V l en mi_Sf_init d (3 * r) (198 * r) S2 I2 _ Q 14 _ _
      refine ih (i + 1) S2 I2 _ (by omega) (by omega) (hxx.tr hx) (ho.ext hx) (by rw [cn_wp_ne (by omega), hPa a (by omega)]; exact hp) (har.ext hx) (fun b hb => (hI2 b (by omega)).trans ((hI1 b (by omega)).trans (hI b hb))) (fun b hb => by rw [cn_wp_ne (by omega), hPa b (by omega)]; exact hP b hb) (fun q hqi => ?_)
      by_cases e : q = i
      · subst e
        rw [show a + 2 + 3 * q + 1 = a + 3 + 3 * q by omega] at hc2 hy2
        exact ⟨hb2, by rw [cn_wp_ne (by omega)]; exact hc2, yb.keepP hy2 (cn_wp_ne (by omega)), wp_e⟩
      · obtain ⟨c1, c2, c3, c4⟩ := hq q (by omega)
        exact ⟨c1.ext hx, by rw [cn_wp_ne (by omega), hPa _ (by omega)]; exact c2, c3.ext hx (by rw [cn_wp_ne (by omega), hPa _ (by omega)]), by rw [wp_o (by omega), hPa _ (by omega)]; exact c4⟩
theorem i_Sf {a : Nat} (hS : S.1 = a + 1) (ha : a + 100 < 900000) (ho : cn_ob S a 7) (hz : I a = fun _ => 0) (hd1 : 3 ≤ d) (K : ∀ (S' : cn_S) (I' : cn_I) (P' : cn_P), S'.1 = a + 11 → ext S S' → (∀ b, b < a → I' b = I b) → (∀ b, b < a → P' b = P b) → yh S' P' a → yk I' P' a [] (fun j => j) → I' a 2 = 0 → Q none S' I' P') : cn_V l en mi_Sf_init d 10 597 S I P Q 0 [(0, .ref a)] [] := by
  refine cn_aload_n (pc' := 1) (k := 0) rfl rfl d_Sf_init_0 rfl ?_
  refine cn_objInit (pc' := 4) w_obj_Sf w_oi w_oc (by omega) (Nat.le_of_ble_eq_true rfl) d_Sf_init_1 rfl ?_
  refine cn_aload_n (pc' := 5) (k := 0) rfl rfl d_Sf_init_4 rfl ?_
  refine cn_iconst (pc' := 6) k_c_3 d_Sf_init_5 rfl ?_
  refine ci_newq (pc' := 9) (t := 6) (n := 3) (E := "ChunkedNodes$Parcel") (N := a + 1) (kc' := 9) (ks' := 594) (by omega) (by omega) (by decide) (by decide) rfl (by decide) w_cl_Sf_9 (by first | omega | decide) (by first | omega | decide) (by first | omega | decide) d_Sf_init_6 rfl (fun S1 I1 P1 hn1 hx1 ho1 hz1 hI1 hP1 => ?_)
  refine cn_putF (pc' := 12) cn_ok_Sf (by decide) ff_Sf_11 rfl (ho.ext hx1) (by omega) rfl rfl rfl (fun _ => rfl) (fun _ => rfl) d_Sf_init_9 rfl ?_
  refine cn_iconst (pc' := 13) k_c_0 d_Sf_init_12 rfl ?_
  refine cn_istore_n (pc' := 14) (lv' := [(0, .ref a), (1, .int (nI (0)))]) rfl [1, 0] (Nat.le_of_ble_eq_true rfl) rfl d_Sf_init_13 rfl ?_
  have hoa : cn_ob S1 a 7 := ho.ext hx1
  show cn_V l en mi_Sf_init d (3 * 3) (198 * 3) S1 _ _ Q 14 _ _
  refine i_Sf_loop ha hd1 S1 _ (cn_wp P1 a 0 (some (a + 1))) (fun S2 P2 hn2 hx2 ho2 hp2 har2 I2 hI2 hP2 hq2 => ?_) 3 0 S1 _ _ (by omega) (by omega) ext.rf hoa wp_e ho1 (fun _ _ => rfl) (fun _ _ => rfl) (fun q hq => absurd hq (Nat.not_lt_zero q))
  refine K S2 I2 P2 (by omega) (hx1.tr hx2) (fun b hb => ?_) (fun b hb => ?_) ⟨ho2, hp2, har2, fun q hq => ⟨(hq2 q hq).1, (hq2 q hq).2.1, (hq2 q hq).2.2.1⟩⟩ ⟨?_, Nat.zero_le _, ⟨fun j hj => hj, fun i j _ _ e => e, fun j hj => (hq2 j hj).2.2.2⟩, fun j hj => absurd hj (Nat.not_lt_zero j)⟩ ?_
  · rw [hI2 b (by omega)]; exact hI1 b (by omega)
  · rw [hP2 b (by omega), cn_wp_ne (by omega)]; exact hP1 b (by omega)
  · rw [hI2 a (by omega), hI1 a (by omega), hz]; rfl
  · rw [hI2 a (by omega), hI1 a (by omega), hz]
end
