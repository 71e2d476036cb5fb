theorem k_b_6 : (Int8.ofInt 6).toInt32 = nI 6 := by decide +kernel
theorem k_b_7 : (Int8.ofInt 7).toInt32 = nI 7 := by decide +kernel
theorem k_b_8 : (Int8.ofInt 8).toInt32 = nI 8 := by decide +kernel
theorem k_b_9 : (Int8.ofInt 9).toInt32 = nI 9 := by decide +kernel
theorem k_b_12 : (Int8.ofInt 12).toInt32 = nI 12 := by decide +kernel
theorem k_b_15 : (Int8.ofInt 15).toInt32 = nI 15 := by decide +kernel
theorem k_b_16 : (Int8.ofInt 16).toInt32 = nI 16 := by decide +kernel
theorem k_b_24 : (Int8.ofInt 24).toInt32 = nI 24 := by decide +kernel
theorem k_b_32 : (Int8.ofInt 32).toInt32 = nI 32 := by decide +kernel
theorem k_b_61 : (Int8.ofInt 61).toInt32 = nI 61 := by decide +kernel
theorem k_b_64 : (Int8.ofInt 64).toInt32 = nI 64 := by decide +kernel
theorem k_c_m1 : Int32.ofInt (-1) = (-1) := by decide +kernel
theorem k_c_0 : Int32.ofInt 0 = nI 0 := by decide +kernel
theorem k_c_1 : Int32.ofInt 1 = nI 1 := by decide +kernel
theorem k_c_2 : Int32.ofInt 2 = nI 2 := by decide +kernel
theorem k_c_3 : Int32.ofInt 3 = nI 3 := by decide +kernel
theorem k_c_4 : Int32.ofInt 4 = nI 4 := by decide +kernel
theorem k_c_5 : Int32.ofInt 5 = nI 5 := by decide +kernel
theorem k_s_152 : (Int16.ofInt 152).toInt32 = nI 152 := by decide +kernel
theorem k_s_194 : (Int16.ofInt 194).toInt32 = nI 194 := by decide +kernel
theorem k_s_195 : (Int16.ofInt 195).toInt32 = nI 195 := by decide +kernel
theorem k_s_200 : (Int16.ofInt 200).toInt32 = nI 200 := by decide +kernel
theorem k_s_255 : (Int16.ofInt 255).toInt32 = nI 255 := by decide +kernel
theorem k_s_256 : (Int16.ofInt 256).toInt32 = nI 256 := by decide +kernel
theorem k_s_600 : (Int16.ofInt 600).toInt32 = nI 600 := by decide +kernel
theorem k_s_1000 : (Int16.ofInt 1000).toInt32 = nI 1000 := by decide +kernel
theorem k_s_1024 : (Int16.ofInt 1024).toInt32 = nI 1024 := by decide +kernel
theorem k_s_1536 : (Int16.ofInt 1536).toInt32 = nI 1536 := by decide +kernel
theorem cn_getIv {l : Launch} {en : cn_E} {mi : cn_M} {d kc ks : Nat} {S : cn_S} {I : cn_I} {P : cn_P} {Q : Option Value → cn_S → cn_I → cn_P → Prop} {pc pc' : Nat} {lv : List (Nat × Value)} {st : List Value} {a ci k idx : Nat} {v : Int32} (hv : I a k = v) (hf : cn_fl mi.1.cls idx ci k) (ho : cn_ob S a ci) (hr : cn_isr (cn_ft ci k) = false) (hd : decode mi.2.1 pc = .ok (.getfield idx, 3)) (hp : pc + 3 = pc') (K : cn_V l en mi d kc ks S I P Q pc' lv (.int v :: st)) : cn_V l en mi d kc ks S I P Q pc lv (.ref a :: st) := cn_getI hf ho hr hd hp (by rw [hv]; exact K)
theorem cn_ialdv {l : Launch} {en : cn_E} {mi : cn_M} {d kc ks : Nat} {S : cn_S} {I : cn_I} {P : cn_P} {Q : Option Value → cn_S → cn_I → cn_P → Prop} {pc pc' : Nat} {lv : List (Nat × Value)} {st : List Value} {a n j : Nat} {v : Int32} (hv : I a j = v) (hA : cn_ar S a 0 n) (hj : j < n) (hn : n < 2 ^ 31) (hd : decode mi.2.1 pc = .ok (.iaload, 1)) (hp : pc + 1 = pc') (K : cn_V l en mi d kc ks S I P Q pc' lv (.int v :: st)) : cn_V l en mi d kc ks S I P Q pc lv (.int (nI j) :: .ref a :: st) := cn_iald hA hj hn hd hp (by rw [hv]; exact K)
theorem cn_baldv {l : Launch} {en : cn_E} {mi : cn_M} {d kc ks : Nat} {S : cn_S} {I : cn_I} {P : cn_P} {Q : Option Value → cn_S → cn_I → cn_P → Prop} {pc pc' : Nat} {lv : List (Nat × Value)} {st : List Value} {a n j : Nat} {v : Int32} (hv : I a j = v) (hA : cn_ar S a 1 n) (hj : j < n) (hn : n < 2 ^ 31) (hd : decode mi.2.1 pc = .ok (.baload, 1)) (hp : pc + 1 = pc') (K : cn_V l en mi d kc ks S I P Q pc' lv (.int v :: st)) : cn_V l en mi d kc ks S I P Q pc lv (.int (nI j) :: .ref a :: st) := cn_bald hA hj hn hd hp (by rw [hv]; exact K)
theorem cn_zaldv {l : Launch} {en : cn_E} {mi : cn_M} {d kc ks : Nat} {S : cn_S} {I : cn_I} {P : cn_P} {Q : Option Value → cn_S → cn_I → cn_P → Prop} {pc pc' : Nat} {lv : List (Nat × Value)} {st : List Value} {a n j : Nat} {v : Int32} (hv : I a j = v) (hA : cn_ar S a 2 n) (hj : j < n) (hn : n < 2 ^ 31) (hd : decode mi.2.1 pc = .ok (.baload, 1)) (hp : pc + 1 = pc') (K : cn_V l en mi d kc ks S I P Q pc' lv (.int v :: st)) : cn_V l en mi d kc ks S I P Q pc lv (.int (nI j) :: .ref a :: st) := cn_zald hA hj hn hd hp (by rw [hv]; exact K)
theorem cn_iadd_n {l : Launch} {en : cn_E} {mi : cn_M} {d kc ks : Nat} {S : cn_S} {I : cn_I} {P : cn_P} {Q : Option Value → cn_S → cn_I → cn_P → Prop} {pc pc' : Nat} {lv : List (Nat × Value)} {st : List Value} {x y : Nat} (hd : decode mi.2.1 pc = .ok (.iadd, 1)) (hp : pc + 1 = pc') (K : cn_V l en mi d kc ks S I P Q pc' lv (.int (nI (x + y)) :: st)) : cn_V l en mi d kc ks S I P Q pc lv (.int (nI y) :: .int (nI x) :: st) := cn_iadd hd hp (by rw [nI_add]; exact K)
theorem cn_imul_n {l : Launch} {en : cn_E} {mi : cn_M} {d kc ks : Nat} {S : cn_S} {I : cn_I} {P : cn_P} {Q : Option Value → cn_S → cn_I → cn_P → Prop} {pc pc' : Nat} {lv : List (Nat × Value)} {st : List Value} {x y : Nat} (hd : decode mi.2.1 pc = .ok (.imul, 1)) (hp : pc + 1 = pc') (K : cn_V l en mi d kc ks S I P Q pc' lv (.int (nI (x * y)) :: st)) : cn_V l en mi d kc ks S I P Q pc lv (.int (nI y) :: .int (nI x) :: st) := cn_imul hd hp (by rw [pk_mul]; exact K)
theorem cn_isub_n {l : Launch} {en : cn_E} {mi : cn_M} {d kc ks : Nat} {S : cn_S} {I : cn_I} {P : cn_P} {Q : Option Value → cn_S → cn_I → cn_P → Prop} {pc pc' : Nat} {lv : List (Nat × Value)} {st : List Value} {x y : Nat} (h : y ≤ x) (hd : decode mi.2.1 pc = .ok (.isub, 1)) (hp : pc + 1 = pc') (K : cn_V l en mi d kc ks S I P Q pc' lv (.int (nI (x - y)) :: st)) : cn_V l en mi d kc ks S I P Q pc lv (.int (nI y) :: .int (nI x) :: st) := cn_isub hd hp (by rw [pk_sub h]; exact K)
theorem cn_iinc_n {l : Launch} {en : cn_E} {mi : cn_M} {d kc ks : Nat} {S : cn_S} {I : cn_I} {P : cn_P} {Q : Option Value → cn_S → cn_I → cn_P → Prop} {pc pc' : Nat} {lv : List (Nat × Value)} {st : List Value} {lv' : List (Nat × Value)} {i k x : Nat} (pk : List Nat) (hk0 : lv[k]? = some (i, .int (nI x))) (hn : i < mi.2.2.1) (hlv : cn_st i (.int (nI (x + 1))) lv pk = lv') (hd : decode mi.2.1 pc = .ok (.iinc i 1, 3)) (hp : pc + 3 = pc') (K : cn_V l en mi d kc ks S I P Q pc' lv' st) : cn_V l en mi d kc ks S I P Q pc lv st := cn_iinc pk hk0 (show nI x + Int32.ofInt 1 = nI (x + 1) from nI_1 x) hn hlv hd hp K
theorem cn_idec_n {l : Launch} {en : cn_E} {mi : cn_M} {d kc ks : Nat} {S : cn_S} {I : cn_I} {P : cn_P} {Q : Option Value → cn_S → cn_I → cn_P → Prop} {pc pc' : Nat} {lv : List (Nat × Value)} {st : List Value} {lv' : List (Nat × Value)} {i k x : Nat} (pk : List Nat) (hk0 : lv[k]? = some (i, .int (nI (x + 1)))) (hn : i < mi.2.2.1) (hlv : cn_st i (.int (nI x)) lv pk = lv') (hd : decode mi.2.1 pc = .ok (.iinc i (-1), 3)) (hp : pc + 3 = pc') (K : cn_V l en mi d kc ks S I P Q pc' lv' st) : cn_V l en mi d kc ks S I P Q pc lv st := cn_iinc pk hk0 (show nI (x + 1) + Int32.ofInt (-1) = nI x from pk_m1 x) hn hlv hd hp K
theorem cn_icmp_eq_n {l : Launch} {en : cn_E} {mi : cn_M} {d kc ks : Nat} {S : cn_S} {I : cn_I} {P : cn_P} {Q : Option Value → cn_S → cn_I → cn_P → Prop} {pc pc' : Nat} {lv : List (Nat × Value)} {st : List Value} {a b : Nat} {off : Int} {tgt : Nat} (ha : a < 2 ^ 31) (hb : b < 2 ^ 31) (hd : decode mi.2.1 pc = .ok (.if_icmp .eq off, 3)) (ht : (pc : Int) + off = (tgt : Int)) (hp : pc + 3 = pc') (kt : a = b → cn_V l en mi d kc ks S I P Q tgt lv st) (kf : ¬ a = b → cn_V l en mi d kc ks S I P Q pc' lv st) : cn_V l en mi d kc ks S I P Q pc lv (.int (nI b) :: .int (nI a) :: st) := cn_icmp_eq hd ht hp (fun h => kt (by first | exact h | (simpa [nI_eq ha hb, nI_eq hb ha, nI_ltI ha hb, nI_ltI hb ha, nI_leI ha hb, nI_leI hb ha] using h))) (fun h => kf (by first | exact h | (simpa [nI_eq ha hb, nI_eq hb ha, nI_ltI ha hb, nI_ltI hb ha, nI_leI ha hb, nI_leI hb ha] using h)))
theorem cn_if_eq_n {l : Launch} {en : cn_E} {mi : cn_M} {d kc ks : Nat} {S : cn_S} {I : cn_I} {P : cn_P} {Q : Option Value → cn_S → cn_I → cn_P → Prop} {pc pc' : Nat} {lv : List (Nat × Value)} {st : List Value} {a : Nat} {off : Int} {tgt : Nat} (ha : a < 2 ^ 31) (hd : decode mi.2.1 pc = .ok (.ifCond .eq off, 3)) (ht : (pc : Int) + off = (tgt : Int)) (hp : pc + 3 = pc') (kt : a = 0 → cn_V l en mi d kc ks S I P Q tgt lv st) (kf : ¬ a = 0 → cn_V l en mi d kc ks S I P Q pc' lv st) : cn_V l en mi d kc ks S I P Q pc lv (.int (nI a) :: st) := by
  have hz : (0 : Nat) < 2 ^ 31 := by decide
  have e1 := nI_eq ha hz
  have e2 := nI_ltI ha hz
  have e3 := nI_ltI hz ha
  have e4 := nI_leI ha hz
  have e5 := nI_leI hz ha
  rw [nI_0] at e1 e2 e3 e4 e5
  refine cn_if_eq hd ht hp (fun h => kt ?_) (fun h => kf ?_)
  · first | exact e1.mp h | exact e2.mp h | exact e3.mp h | exact e4.mp h | exact e5.mp h | exact fun q => h (e1.mpr q) | exact fun q => h (e2.mpr q) | exact fun q => h (e3.mpr q) | exact fun q => h (e4.mpr q) | exact fun q => h (e5.mpr q)
  · first | exact e1.mp h | exact e2.mp h | exact e3.mp h | exact e4.mp h | exact e5.mp h | exact fun q => h (e1.mpr q) | exact fun q => h (e2.mpr q) | exact fun q => h (e3.mpr q) | exact fun q => h (e4.mpr q) | exact fun q => h (e5.mpr q)
theorem cn_icmp_ne_n {l : Launch} {en : cn_E} {mi : cn_M} {d kc ks : Nat} {S : cn_S} {I : cn_I} {P : cn_P} {Q : Option Value → cn_S → cn_I → cn_P → Prop} {pc pc' : Nat} {lv : List (Nat × Value)} {st : List Value} {a b : Nat} {off : Int} {tgt : Nat} (ha : a < 2 ^ 31) (hb : b < 2 ^ 31) (hd : decode mi.2.1 pc = .ok (.if_icmp .ne off, 3)) (ht : (pc : Int) + off = (tgt : Int)) (hp : pc + 3 = pc') (kt : ¬ a = b → cn_V l en mi d kc ks S I P Q tgt lv st) (kf : a = b → cn_V l en mi d kc ks S I P Q pc' lv st) : cn_V l en mi d kc ks S I P Q pc lv (.int (nI b) :: .int (nI a) :: st) := cn_icmp_ne hd ht hp (fun h => kt (by first | exact h | (simpa [nI_eq ha hb, nI_eq hb ha, nI_ltI ha hb, nI_ltI hb ha, nI_leI ha hb, nI_leI hb ha] using h))) (fun h => kf (by first | exact h | (simpa [nI_eq ha hb, nI_eq hb ha, nI_ltI ha hb, nI_ltI hb ha, nI_leI ha hb, nI_leI hb ha] using h)))
theorem cn_if_ne_n {l : Launch} {en : cn_E} {mi : cn_M} {d kc ks : Nat} {S : cn_S} {I : cn_I} {P : cn_P} {Q : Option Value → cn_S → cn_I → cn_P → Prop} {pc pc' : Nat} {lv : List (Nat × Value)} {st : List Value} {a : Nat} {off : Int} {tgt : Nat} (ha : a < 2 ^ 31) (hd : decode mi.2.1 pc = .ok (.ifCond .ne off, 3)) (ht : (pc : Int) + off = (tgt : Int)) (hp : pc + 3 = pc') (kt : ¬ a = 0 → cn_V l en mi d kc ks S I P Q tgt lv st) (kf : a = 0 → cn_V l en mi d kc ks S I P Q pc' lv st) : cn_V l en mi d kc ks S I P Q pc lv (.int (nI a) :: st) := by
  have hz : (0 : Nat) < 2 ^ 31 := by decide
  have e1 := nI_eq ha hz
  have e2 := nI_ltI ha hz
  have e3 := nI_ltI hz ha
  have e4 := nI_leI ha hz
  have e5 := nI_leI hz ha
  rw [nI_0] at e1 e2 e3 e4 e5
  refine cn_if_ne hd ht hp (fun h => kt ?_) (fun h => kf ?_)
  · first | exact e1.mp h | exact e2.mp h | exact e3.mp h | exact e4.mp h | exact e5.mp h | exact fun q => h (e1.mpr q) | exact fun q => h (e2.mpr q) | exact fun q => h (e3.mpr q) | exact fun q => h (e4.mpr q) | exact fun q => h (e5.mpr q)
  · first | exact e1.mp h | exact e2.mp h | exact e3.mp h | exact e4.mp h | exact e5.mp h | exact fun q => h (e1.mpr q) | exact fun q => h (e2.mpr q) | exact fun q => h (e3.mpr q) | exact fun q => h (e4.mpr q) | exact fun q => h (e5.mpr q)
theorem cn_icmp_lt_n {l : Launch} {en : cn_E} {mi : cn_M} {d kc ks : Nat} {S : cn_S} {I : cn_I} {P : cn_P} {Q : Option Value → cn_S → cn_I → cn_P → Prop} {pc pc' : Nat} {lv : List (Nat × Value)} {st : List Value} {a b : Nat} {off : Int} {tgt : Nat} (ha : a < 2 ^ 31) (hb : b < 2 ^ 31) (hd : decode mi.2.1 pc = .ok (.if_icmp .lt off, 3)) (ht : (pc : Int) + off = (tgt : Int)) (hp : pc + 3 = pc') (kt : a < b → cn_V l en mi d kc ks S I P Q tgt lv st) (kf : ¬ a < b → cn_V l en mi d kc ks S I P Q pc' lv st) : cn_V l en mi d kc ks S I P Q pc lv (.int (nI b) :: .int (nI a) :: st) := cn_icmp_lt hd ht hp (fun h => kt (by first | exact h | (simpa [nI_eq ha hb, nI_eq hb ha, nI_ltI ha hb, nI_ltI hb ha, nI_leI ha hb, nI_leI hb ha] using h))) (fun h => kf (by first | exact h | (simpa [nI_eq ha hb, nI_eq hb ha, nI_ltI ha hb, nI_ltI hb ha, nI_leI ha hb, nI_leI hb ha] using h)))
theorem cn_if_lt_n {l : Launch} {en : cn_E} {mi : cn_M} {d kc ks : Nat} {S : cn_S} {I : cn_I} {P : cn_P} {Q : Option Value → cn_S → cn_I → cn_P → Prop} {pc pc' : Nat} {lv : List (Nat × Value)} {st : List Value} {a : Nat} {off : Int} {tgt : Nat} (ha : a < 2 ^ 31) (hd : decode mi.2.1 pc = .ok (.ifCond .lt off, 3)) (ht : (pc : Int) + off = (tgt : Int)) (hp : pc + 3 = pc') (kt : a < 0 → cn_V l en mi d kc ks S I P Q tgt lv st) (kf : ¬ a < 0 → cn_V l en mi d kc ks S I P Q pc' lv st) : cn_V l en mi d kc ks S I P Q pc lv (.int (nI a) :: st) := by
  have hz : (0 : Nat) < 2 ^ 31 := by decide
  have e1 := nI_eq ha hz
  have e2 := nI_ltI ha hz
  have e3 := nI_ltI hz ha
  have e4 := nI_leI ha hz
  have e5 := nI_leI hz ha
  rw [nI_0] at e1 e2 e3 e4 e5
  refine cn_if_lt hd ht hp (fun h => kt ?_) (fun h => kf ?_)
  · first | exact e1.mp h | exact e2.mp h | exact e3.mp h | exact e4.mp h | exact e5.mp h | exact fun q => h (e1.mpr q) | exact fun q => h (e2.mpr q) | exact fun q => h (e3.mpr q) | exact fun q => h (e4.mpr q) | exact fun q => h (e5.mpr q)
  · first | exact e1.mp h | exact e2.mp h | exact e3.mp h | exact e4.mp h | exact e5.mp h | exact fun q => h (e1.mpr q) | exact fun q => h (e2.mpr q) | exact fun q => h (e3.mpr q) | exact fun q => h (e4.mpr q) | exact fun q => h (e5.mpr q)
theorem cn_icmp_ge_n {l : Launch} {en : cn_E} {mi : cn_M} {d kc ks : Nat} {S : cn_S} {I : cn_I} {P : cn_P} {Q : Option Value → cn_S → cn_I → cn_P → Prop} {pc pc' : Nat} {lv : List (Nat × Value)} {st : List Value} {a b : Nat} {off : Int} {tgt : Nat} (ha : a < 2 ^ 31) (hb : b < 2 ^ 31) (hd : decode mi.2.1 pc = .ok (.if_icmp .ge off, 3)) (ht : (pc : Int) + off = (tgt : Int)) (hp : pc + 3 = pc') (kt : b ≤ a → cn_V l en mi d kc ks S I P Q tgt lv st) (kf : ¬ b ≤ a → cn_V l en mi d kc ks S I P Q pc' lv st) : cn_V l en mi d kc ks S I P Q pc lv (.int (nI b) :: .int (nI a) :: st) := cn_icmp_ge hd ht hp (fun h => kt (by first | exact h | (simpa [nI_eq ha hb, nI_eq hb ha, nI_ltI ha hb, nI_ltI hb ha, nI_leI ha hb, nI_leI hb ha] using h))) (fun h => kf (by first | exact h | (simpa [nI_eq ha hb, nI_eq hb ha, nI_ltI ha hb, nI_ltI hb ha, nI_leI ha hb, nI_leI hb ha] using h)))
theorem cn_if_ge_n {l : Launch} {en : cn_E} {mi : cn_M} {d kc ks : Nat} {S : cn_S} {I : cn_I} {P : cn_P} {Q : Option Value → cn_S → cn_I → cn_P → Prop} {pc pc' : Nat} {lv : List (Nat × Value)} {st : List Value} {a : Nat} {off : Int} {tgt : Nat} (ha : a < 2 ^ 31) (hd : decode mi.2.1 pc = .ok (.ifCond .ge off, 3)) (ht : (pc : Int) + off = (tgt : Int)) (hp : pc + 3 = pc') (kt : 0 ≤ a → cn_V l en mi d kc ks S I P Q tgt lv st) (kf : ¬ 0 ≤ a → cn_V l en mi d kc ks S I P Q pc' lv st) : cn_V l en mi d kc ks S I P Q pc lv (.int (nI a) :: st) := by
  have hz : (0 : Nat) < 2 ^ 31 := by decide
  have e1 := nI_eq ha hz
  have e2 := nI_ltI ha hz
  have e3 := nI_ltI hz ha
  have e4 := nI_leI ha hz
  have e5 := nI_leI hz ha
  rw [nI_0] at e1 e2 e3 e4 e5
  refine cn_if_ge hd ht hp (fun h => kt ?_) (fun h => kf ?_)
  · first | exact e1.mp h | exact e2.mp h | exact e3.mp h | exact e4.mp h | exact e5.mp h | exact fun q => h (e1.mpr q) | exact fun q => h (e2.mpr q) | exact fun q => h (e3.mpr q) | exact fun q => h (e4.mpr q) | exact fun q => h (e5.mpr q)
  · first | exact e1.mp h | exact e2.mp h | exact e3.mp h | exact e4.mp h | exact e5.mp h | exact fun q => h (e1.mpr q) | exact fun q => h (e2.mpr q) | exact fun q => h (e3.mpr q) | exact fun q => h (e4.mpr q) | exact fun q => h (e5.mpr q)
theorem cn_icmp_gt_n {l : Launch} {en : cn_E} {mi : cn_M} {d kc ks : Nat} {S : cn_S} {I : cn_I} {P : cn_P} {Q : Option Value → cn_S → cn_I → cn_P → Prop} {pc pc' : Nat} {lv : List (Nat × Value)} {st : List Value} {a b : Nat} {off : Int} {tgt : Nat} (ha : a < 2 ^ 31) (hb : b < 2 ^ 31) (hd : decode mi.2.1 pc = .ok (.if_icmp .gt off, 3)) (ht : (pc : Int) + off = (tgt : Int)) (hp : pc + 3 = pc') (kt : b < a → cn_V l en mi d kc ks S I P Q tgt lv st) (kf : ¬ b < a → cn_V l en mi d kc ks S I P Q pc' lv st) : cn_V l en mi d kc ks S I P Q pc lv (.int (nI b) :: .int (nI a) :: st) := cn_icmp_gt hd ht hp (fun h => kt (by first | exact h | (simpa [nI_eq ha hb, nI_eq hb ha, nI_ltI ha hb, nI_ltI hb ha, nI_leI ha hb, nI_leI hb ha] using h))) (fun h => kf (by first | exact h | (simpa [nI_eq ha hb, nI_eq hb ha, nI_ltI ha hb, nI_ltI hb ha, nI_leI ha hb, nI_leI hb ha] using h)))
theorem cn_if_gt_n {l : Launch} {en : cn_E} {mi : cn_M} {d kc ks : Nat} {S : cn_S} {I : cn_I} {P : cn_P} {Q : Option Value → cn_S → cn_I → cn_P → Prop} {pc pc' : Nat} {lv : List (Nat × Value)} {st : List Value} {a : Nat} {off : Int} {tgt : Nat} (ha : a < 2 ^ 31) (hd : decode mi.2.1 pc = .ok (.ifCond .gt off, 3)) (ht : (pc : Int) + off = (tgt : Int)) (hp : pc + 3 = pc') (kt : 0 < a → cn_V l en mi d kc ks S I P Q tgt lv st) (kf : ¬ 0 < a → cn_V l en mi d kc ks S I P Q pc' lv st) : cn_V l en mi d kc ks S I P Q pc lv (.int (nI a) :: st) := by
  have hz : (0 : Nat) < 2 ^ 31 := by decide
  have e1 := nI_eq ha hz
  have e2 := nI_ltI ha hz
  have e3 := nI_ltI hz ha
  have e4 := nI_leI ha hz
  have e5 := nI_leI hz ha
  rw [nI_0] at e1 e2 e3 e4 e5
  refine cn_if_gt hd ht hp (fun h => kt ?_) (fun h => kf ?_)
  · first | exact e1.mp h | exact e2.mp h | exact e3.mp h | exact e4.mp h | exact e5.mp h | exact fun q => h (e1.mpr q) | exact fun q => h (e2.mpr q) | exact fun q => h (e3.mpr q) | exact fun q => h (e4.mpr q) | exact fun q => h (e5.mpr q)
  · first | exact e1.mp h | exact e2.mp h | exact e3.mp h | exact e4.mp h | exact e5.mp h | exact fun q => h (e1.mpr q) | exact fun q => h (e2.mpr q) | exact fun q => h (e3.mpr q) | exact fun q => h (e4.mpr q) | exact fun q => h (e5.mpr q)
theorem cn_icmp_le_n {l : Launch} {en : cn_E} {mi : cn_M} {d kc ks : Nat} {S : cn_S} {I : cn_I} {P : cn_P} {Q : Option Value → cn_S → cn_I → cn_P → Prop} {pc pc' : Nat} {lv : List (Nat × Value)} {st : List Value} {a b : Nat} {off : Int} {tgt : Nat} (ha : a < 2 ^ 31) (hb : b < 2 ^ 31) (hd : decode mi.2.1 pc = .ok (.if_icmp .le off, 3)) (ht : (pc : Int) + off = (tgt : Int)) (hp : pc + 3 = pc') (kt : a ≤ b → cn_V l en mi d kc ks S I P Q tgt lv st) (kf : ¬ a ≤ b → cn_V l en mi d kc ks S I P Q pc' lv st) : cn_V l en mi d kc ks S I P Q pc lv (.int (nI b) :: .int (nI a) :: st) := cn_icmp_le hd ht hp (fun h => kt (by first | exact h | (simpa [nI_eq ha hb, nI_eq hb ha, nI_ltI ha hb, nI_ltI hb ha, nI_leI ha hb, nI_leI hb ha] using h))) (fun h => kf (by first | exact h | (simpa [nI_eq ha hb, nI_eq hb ha, nI_ltI ha hb, nI_ltI hb ha, nI_leI ha hb, nI_leI hb ha] using h)))
theorem cn_if_le_n {l : Launch} {en : cn_E} {mi : cn_M} {d kc ks : Nat} {S : cn_S} {I : cn_I} {P : cn_P} {Q : Option Value → cn_S → cn_I → cn_P → Prop} {pc pc' : Nat} {lv : List (Nat × Value)} {st : List Value} {a : Nat} {off : Int} {tgt : Nat} (ha : a < 2 ^ 31) (hd : decode mi.2.1 pc = .ok (.ifCond .le off, 3)) (ht : (pc : Int) + off = (tgt : Int)) (hp : pc + 3 = pc') (kt : a ≤ 0 → cn_V l en mi d kc ks S I P Q tgt lv st) (kf : ¬ a ≤ 0 → cn_V l en mi d kc ks S I P Q pc' lv st) : cn_V l en mi d kc ks S I P Q pc lv (.int (nI a) :: st) := by
  have hz : (0 : Nat) < 2 ^ 31 := by decide
  have e1 := nI_eq ha hz
  have e2 := nI_ltI ha hz
  have e3 := nI_ltI hz ha
  have e4 := nI_leI ha hz
  have e5 := nI_leI hz ha
  rw [nI_0] at e1 e2 e3 e4 e5
  refine cn_if_le hd ht hp (fun h => kt ?_) (fun h => kf ?_)
  · first | exact e1.mp h | exact e2.mp h | exact e3.mp h | exact e4.mp h | exact e5.mp h | exact fun q => h (e1.mpr q) | exact fun q => h (e2.mpr q) | exact fun q => h (e3.mpr q) | exact fun q => h (e4.mpr q) | exact fun q => h (e5.mpr q)
  · first | exact e1.mp h | exact e2.mp h | exact e3.mp h | exact e4.mp h | exact e5.mp h | exact fun q => h (e1.mpr q) | exact fun q => h (e2.mpr q) | exact fun q => h (e3.mpr q) | exact fun q => h (e4.mpr q) | exact fun q => h (e5.mpr q)
