/-- the reference's arrays, by field and by cell -/
def mfd : Nat → Option Nat := fun k => match k with
  | 2 => some 156
  | 3 => some 157
  | 4 => some 158
  | 5 => some 159
  | 6 => some 160
  | 8 => some 161
  | 9 => some 162
  | 10 => some 163
  | 11 => some 164
  | 12 => some 165
  | 13 => some 166
  | 14 => some 167
  | 17 => some 168
  | 18 => some 169
  | 19 => some 170
  | 26 => some 171
  | 31 => some 172
  | 32 => some 173
  | 36 => some 174
  | _ => none
def mar : Nat → Option (Nat × Nat) := fun a => match a with
  | 156 => some (0, 16)
  | 157 => some (2, 16)
  | 158 => some (0, 16)
  | 159 => some (0, 16)
  | 160 => some (0, 1024)
  | 161 => some (0, 6)
  | 162 => some (0, 6)
  | 163 => some (2, 6)
  | 164 => some (0, 6)
  | 165 => some (0, 24)
  | 166 => some (0, 24)
  | 167 => some (0, 1536)
  | 168 => some (0, 3)
  | 169 => some (0, 3)
  | 170 => some (0, 600)
  | 171 => some (0, 64)
  | 172 => some (0, 64)
  | 173 => some (0, 4)
  | 174 => some (0, 200)
  | _ => none
def wM (S : cn_S) (P : cn_P) : Prop := cn_ob S 155 9 ∧ (∀ k a, mfd k = some a → P 155 k = some a) ∧ ∀ a t n, mar a = some (t, n) → cn_ar S a t n
theorem mw_e {I : cn_I} {a k : Nat} {v : Int32} : cn_wi I a k v a k = v := by rw [cn_wi_row]; exact if_pos rfl
theorem mw_k {I : cn_I} {a j k : Nat} {v w : Int32} (h : k ≠ j) (e : I a k = w) : cn_wi I a j v a k = w := by rw [cn_wi_row]; exact (if_neg h).trans e
theorem mw_a {I : cn_I} {a b j k : Nat} {v w : Int32} (h : a ≠ b) (e : I a k = w) : cn_wi I b j v a k = w := by rw [cn_wi_ne h]; exact e
theorem mw_o {I : cn_I} {a b j k : Nat} {v : Int32} (h : a ≠ b ∨ k ≠ j) : cn_wi I b j v a k = I a k := by
  by_cases e : a = b
  · subst e; rw [cn_wi_row]; exact if_neg (h.resolve_left (fun x => x rfl))
  · rw [cn_wi_ne e]
theorem zn_b (b : Bool) : vp_nar .boolean (nI b.toNat) = nI b.toNat := by cases b <;> rfl
/-- the message that is read: its bytes, how far, whether well formed -/
def mg (I : cn_I) (g : List Int32) (p : Nat) (w : Bool) : Prop := I 155 25 = nI g.length ∧ I 155 27 = nI p ∧ I 155 28 = nI w.toNat ∧ p ≤ g.length ∧ g.length ≤ 64 ∧ (∀ j, j < g.length → I 171 j = g.getD j 0) ∧ ∀ j, g.getD j 0 &&& 255 = g.getD j 0
/-- the answer so far -/
def mo (I : cn_I) (u : List Int32) : Prop := I 155 35 = nI u.length ∧ u.length ≤ 200 ∧ ∀ j, j < u.length → I 174 j = u.getD j 0
/-- the value that is read -/
def mv (I : cn_I) (v : List Int32) : Prop := I 155 30 = nI v.length ∧ v.length ≤ 64 ∧ ∀ j, j < v.length → I 172 j = v.getD j 0
def fN (I I' : cn_I) : Prop := ∀ a k, (a ≠ 155 ∨ (k ≠ 27 ∧ k ≠ 28)) → I' a k = I a k
def fP (I I' : cn_I) : Prop := ∀ a k, (a ≠ 155 ∨ k ≠ 30) → a ≠ 172 → I' a k = I a k
def fR (I I' : cn_I) : Prop := ∀ a k, (a ≠ 155 ∨ k < 27 ∨ 30 < k) → a ≠ 172 → a ≠ 173 → I' a k = I a k
def fO (I I' : cn_I) : Prop := ∀ a k, (a ≠ 155 ∨ k ≠ 35) → a ≠ 174 → I' a k = I a k
theorem fN.rf {I : cn_I} : fN I I := fun _ _ _ => rfl
theorem fN.tr {I I1 I2 : cn_I} (h1 : fN I I1) (h2 : fN I1 I2) : fN I I2 := fun a k x => (h2 a k x).trans (h1 a k x)
theorem fP.rf {I : cn_I} : fP I I := fun _ _ _ _ => rfl
theorem fP.tr {I I1 I2 : cn_I} (h1 : fP I I1) (h2 : fP I1 I2) : fP I I2 := fun a k x y => (h2 a k x y).trans (h1 a k x y)
theorem fO.rf {I : cn_I} : fO I I := fun _ _ _ _ => rfl
theorem fO.tr {I I1 I2 : cn_I} (h1 : fO I I1) (h2 : fO I1 I2) : fO I I2 := fun a k x y => (h2 a k x y).trans (h1 a k x y)
theorem fR.rf {I : cn_I} : fR I I := fun _ _ _ _ _ => rfl
theorem fR.tr {I I1 I2 : cn_I} (h1 : fR I I1) (h2 : fR I1 I2) : fR I I2 := fun a k x y z => (h2 a k x y z).trans (h1 a k x y z)
theorem fN.toR {I I' : cn_I} (h : fN I I') : fR I I' := fun a k x _ _ => h a k (by omega)
theorem fP.toR {I I' : cn_I} (h : fP I I') : fR I I' := fun a k x y _ => h a k (by omega) y
theorem mg.congr {I I' : cn_I} {g : List Int32} {p : Nat} {w : Bool} (h : mg I g p w) (e25 : I' 155 25 = I 155 25) (e27 : I' 155 27 = I 155 27) (e28 : I' 155 28 = I 155 28) (e : ∀ j, I' 171 j = I 171 j) : mg I' g p w :=
  ⟨e25.trans h.1, e27.trans h.2.1, e28.trans h.2.2.1, h.2.2.2.1, h.2.2.2.2.1, fun j hj => (e j).trans (h.2.2.2.2.2.1 j hj), h.2.2.2.2.2.2⟩
theorem mo.congr {I I' : cn_I} {u : List Int32} (h : mo I u) (e35 : I' 155 35 = I 155 35) (e : ∀ j, I' 174 j = I 174 j) : mo I' u := ⟨e35.trans h.1, h.2.1, fun j hj => (e j).trans (h.2.2 j hj)⟩
theorem mv.congr {I I' : cn_I} {u : List Int32} (h : mv I u) (e30 : I' 155 30 = I 155 30) (e : ∀ j, I' 172 j = I 172 j) : mv I' u := ⟨e30.trans h.1, h.2.1, fun j hj => (e j).trans (h.2.2 j hj)⟩
theorem mg.fP {I I' : cn_I} {g : List Int32} {p : Nat} {w : Bool} (h : mg I g p w) (hf : fP I I') : mg I' g p w := h.congr (hf _ _ (by omega) (by omega)) (hf _ _ (by omega) (by omega)) (hf _ _ (by omega) (by omega)) (fun j => hf _ _ (by omega) (by omega))
theorem mv.fN {I I' : cn_I} {v : List Int32} (h : mv I v) (hf : fN I I') : mv I' v := h.congr (hf _ _ (by omega)) (fun j => hf _ _ (by omega))
theorem mo.fR {I I' : cn_I} {v : List Int32} (h : mo I v) (hf : fR I I') : mo I' v := h.congr (hf _ _ (by omega) (by omega) (by omega)) (fun j => hf _ _ (by omega) (by omega) (by omega))
/-- the number in n bytes from p on -/
def nmk (g : List Int32) (p : Nat) : Nat → Int32
  | 0 => nI 0
  | k + 1 => nmk g p k ||| g.getD (p + k) 0 <<< (nI (8 * k) &&& 31)
theorem or_0 (x : Int32) : nI 0 ||| x <<< (nI 0 &&& 31) = x := by
  apply b_ext
  intro i hi
  rw [b_or, b_shl 0 (by omega) x hi, show nI 0 = 0 from rfl, b_0]
  simp
theorem nmk_2 (g : List Int32) (p : Nat) : nmk g p 2 = rn2 g p := by
  show (nI 0 ||| g.getD (p + 0) 0 <<< (nI (8 * 0) &&& 31)) ||| g.getD (p + 1) 0 <<< (nI (8 * 1) &&& 31) = _
  rw [show 8 * 0 = 0 from rfl, or_0]; rfl
theorem nmk_4 (g : List Int32) (p : Nat) : nmk g p 4 = rn4 g p := by
  show (((nI 0 ||| g.getD (p + 0) 0 <<< (nI (8 * 0) &&& 31)) ||| g.getD (p + 1) 0 <<< (nI (8 * 1) &&& 31)) ||| g.getD (p + 2) 0 <<< (nI (8 * 2) &&& 31)) ||| g.getD (p + 3) 0 <<< (nI (8 * 3) &&& 31) = _
  rw [show 8 * 0 = 0 from rfl, or_0]; rfl
theorem mo_push {I : cn_I} {u : List Int32} {x : Int32} (h : mo I u) (h2 : u.length < 200) : mo (cn_wi (cn_wi I 174 u.length x) 155 35 (nI (u.length + 1))) (u ++ [x]) := by
  refine ⟨by rw [List.length_append]; exact mw_e, by rw [List.length_append]; exact h2, fun j hj => ?_⟩
  rw [List.length_append] at hj
  have hj : j < u.length + 1 := hj
  rw [mw_o (by omega)]
  by_cases e : j = u.length
  · subst e
    rw [gd_r (Nat.le_refl _), Nat.sub_self]; exact mw_e
  · rw [gd_l (by omega), mw_o (by omega)]; exact h.2.2 j (by omega)
theorem mv_push {I : cn_I} {u : List Int32} {x : Int32} (h : mv I u) (h2 : u.length < 64) : mv (cn_wi (cn_wi I 172 u.length x) 155 30 (nI (u.length + 1))) (u ++ [x]) := by
  refine ⟨by rw [List.length_append]; exact mw_e, by rw [List.length_append]; exact h2, fun j hj => ?_⟩
  rw [List.length_append] at hj
  have hj : j < u.length + 1 := hj
  rw [mw_o (by omega)]
  by_cases e : j = u.length
  · subst e
    rw [gd_r (Nat.le_refl _), Nat.sub_self]; exact mw_e
  · rw [gd_l (by omega), mw_o (by omega)]; exact h.2.2 j (by omega)
/-- a byte of a number, both ways -/
theorem say_by {v : Int32} {i : Nat} (hi : i < 4) : v >>> (nI (8 * i) &&& 31) &&& (nI 255) = lby v.toInt64 i := by
  apply b_ext
  intro j hj
  rw [b_and, show (nI 255 : Int32) = 255 from rfl, b_255]
  by_cases h8 : j < 8
  · rw [b_sshr (8 * i) (by omega) v hj, if_pos (by omega), lby_bit (by omega) h8, bi_l (by omega)]
    simp [h8]
  · rw [lby_hi (by omega)]
    simp [h8]
section
variable {l : Launch} {en : cn_E} {d : Nat} {S : cn_S} {I : cn_I} {P : cn_P} {Q : Option Value → cn_S → cn_I → cn_P → Prop}
variable {ns : List sNode} {g : List Int32} {p : Nat} {w : Bool}
theorem c_M_next (hm : wM S P) (hr : mg I g p w) (K : ∀ I', mg I' g (rp g p 1) (rw_ g p 1 w) → fN I I' → Q (some (.int (g.getD p 0))) S I' P) : cn_V l en mi_M_next d 0 0 S I P Q 0 [(0, .ref 155)] [] := by
  obtain ⟨r1, r2, r3, r4, r5, r6, r7⟩ := id hr
  refine cn_aload_n (pc' := 1) (k := 0) rfl rfl d_M_next_0 rfl ?_
  refine cn_getIv (pc' := 4) (v := nI (p)) r2 fl_M_158 hm.1 rfl d_M_next_1 rfl ?_
  refine cn_aload_n (pc' := 5) (k := 0) rfl rfl d_M_next_4 rfl ?_
  refine cn_getIv (pc' := 8) (v := nI (g.length)) r1 fl_M_140 hm.1 rfl d_M_next_5 rfl ?_
  refine cn_icmp_lt_n (tgt := 18) (pc' := 11) (by omega) (by omega) d_M_next_8 (by decide) rfl (fun hc8 => ?_) (fun hc8 => ?_)
  · refine cn_aload_n (pc' := 19) (k := 0) rfl rfl d_M_next_18 rfl ?_
    refine cn_dup (pc' := 20) rfl d_M_next_19 rfl ?_
    refine cn_getIv (pc' := 23) (v := nI (p)) r2 fl_M_158 hm.1 rfl d_M_next_20 rfl ?_
    refine cn_iconst (pc' := 24) k_c_1 d_M_next_23 rfl ?_
    refine cn_iadd_n (pc' := 25) d_M_next_24 rfl ?_
    refine cn_putI (pc' := 28) fl_M_158 hm.1 rfl rfl rfl rfl d_M_next_25 rfl ?_
    refine cn_aload_n (pc' := 29) (k := 0) rfl rfl d_M_next_28 rfl ?_
    refine cn_getP (pc' := 32) (b := 171) (hm.2.1 26 171 rfl) fl_M_60 hm.1 rfl d_M_next_29 rfl ?_
    refine cn_aload_n (pc' := 33) (k := 0) rfl rfl d_M_next_32 rfl ?_
    refine cn_getIv (pc' := 36) (v := nI (p + 1)) mw_e fl_M_158 hm.1 rfl d_M_next_33 rfl ?_
    refine cn_iconst (pc' := 37) k_c_1 d_M_next_36 rfl ?_
    refine cn_isub_n (pc' := 38) (by omega) d_M_next_37 rfl ?_
    refine cn_ialdv (pc' := 39) (v := g.getD ((p + 1) - 1) 0) (mw_a (by decide) (r6 _ (by omega))) (hm.2.2 171 0 64 rfl) (by omega) (by decide) d_M_next_38 rfl ?_
    refine cn_iret rfl d_M_next_39 ?_
    have e1 : rp g p 1 = p + 1 := by unfold rp; omega
    have e2 : rw_ g p 1 w = w := by unfold rw_; rw [decide_eq_true (by omega), Bool.and_true]
    rw [e1, e2] at K
    rw [show p + 1 - 1 = p from rfl]
    exact K _ ⟨mw_k (by decide) r1, mw_e, mw_k (by decide) r3, by omega, r5, fun j hj => mw_a (by decide) (r6 j hj), r7⟩ (fun a k x => by rw [mw_o (by omega)])
  · refine cn_aload_n (pc' := 12) (k := 0) rfl rfl d_M_next_11 rfl ?_
    refine cn_iconst (pc' := 13) k_c_0 d_M_next_12 rfl ?_
    refine cn_putI (pc' := 16) fl_M_161 hm.1 rfl rfl rfl rfl d_M_next_13 rfl ?_
    refine cn_iconst (pc' := 17) k_c_0 d_M_next_16 rfl ?_
    refine cn_iret rfl d_M_next_17 ?_
    have e : p = g.length := by omega
    have e1 : rp g p 1 = p := by unfold rp; omega
    have e2 : rw_ g p 1 w = false := by unfold rw_; rw [decide_eq_false (by omega), Bool.and_false]
    rw [e1, e2, gd_out (by omega)] at K
    exact K _ ⟨mw_k (by decide) r1, mw_k (by decide) r2, mw_e, r4, r5, fun j hj => mw_a (by decide) (r6 j hj), r7⟩ (fun a k x => by rw [mw_o (by omega)])
theorem c_M_number_loop {n : Nat} (hm : wM S P) (hn : n ≤ 4) (hd1 : 1 ≤ d) (I0 : cn_I) (K : ∀ I', mg I' g (rp g p n) (rw_ g p n w) → fN I0 I' → Q (some (.int (nmk g p n))) S I' P) : ∀ (k i : Nat) (I : cn_I), i + k = n → mg I g (rp g p i) (rw_ g p i w) → fN I0 I → cn_V l en mi_M_number d 0 0 S I P Q 4 [(0, .ref 155), (1, .int (nI n)), (2, .int (nmk g p i)), (3, .int (nI i))] [] := by
  intro k
  induction k with
  | zero =>
    intro i I hik hr hf
    refine cn_iload_n (pc' := 5) (k := 3) rfl rfl d_M_number_4 rfl ?_
    refine cn_iload_n (pc' := 6) (k := 1) rfl rfl d_M_number_5 rfl ?_
    refine cn_icmp_ge_n (tgt := 27) (pc' := 9) (by omega) (by omega) d_M_number_6 (by decide) rfl (fun hc6 => ?_) (fun hc6 => ?_)
    · refine cn_iload_n (pc' := 28) (k := 2) rfl rfl d_M_number_27 rfl ?_
      refine cn_iret rfl d_M_number_28 ?_
      obtain rfl : i = n := by omega
      exact K I hr hf
    · exact absurd hc6 (by omega)
  | succ k ih =>
    intro i I hik hr hf
    refine cn_iload_n (pc' := 5) (k := 3) rfl rfl d_M_number_4 rfl ?_
    refine cn_iload_n (pc' := 6) (k := 1) rfl rfl d_M_number_5 rfl ?_
    refine cn_icmp_ge_n (tgt := 27) (pc' := 9) (by omega) (by omega) d_M_number_6 (by decide) rfl (fun hc6 => ?_) (fun hc6 => ?_)
    · exact absurd hc6 (by omega)
    · refine cn_iload_n (pc' := 10) (k := 2) rfl rfl d_M_number_9 rfl ?_
      refine cn_aload_n (pc' := 11) (k := 0) rfl rfl d_M_number_10 rfl ?_
      refine cn_callV (pc' := 14) (kc1 := 0) (ks1 := 0) (kc2 := 0) (ks2 := 0) (rest := [.int (nmk g p i)]) (lvj := [(0, .ref 155)]) [] mv_M_164 hm.1 rfl rfl rfl (Nat.le_of_ble_eq_true rfl) (Nat.le_of_ble_eq_true rfl) (by omega) (by omega) (by omega) d_M_number_11 rfl ?_
      refine c_M_next hm hr (fun I1 hr1 hf1 => ?_)
      rw [rp_add, rw_add] at hr1
      rw [gd_rp]
      show cn_V l en mi_M_number d 0 0 S I1 P Q 14 [(0, .ref 155), (1, .int (nI (n))), (2, .int (nmk g p i)), (3, .int (nI (i)))] [.int (g.getD (p + i) 0), .int (nmk g p i)]
      refine cn_bipush (pc' := 16) k_b_8 d_M_number_14 rfl ?_
      refine cn_iload_n (pc' := 17) (k := 3) rfl rfl d_M_number_16 rfl ?_
      refine cn_imul_n (pc' := 18) d_M_number_17 rfl ?_
      refine cn_ishl (pc' := 19) d_M_number_18 rfl ?_
      refine cn_ior (pc' := 20) d_M_number_19 rfl ?_
      refine cn_istore_n (pc' := 21) (lv' := [(0, .ref 155), (1, .int (nI (n))), (2, .int ((nmk g p i) ||| ((g.getD (p + i) 0) <<< ((nI (8 * i)) &&& 31)))), (3, .int (nI (i)))]) rfl [1, 2, 0, 3] (Nat.le_of_ble_eq_true rfl) rfl d_M_number_20 rfl ?_
      refine cn_iinc_n (pc' := 24) (lv' := [(0, .ref 155), (1, .int (nI (n))), (2, .int ((nmk g p i) ||| ((g.getD (p + i) 0) <<< ((nI (8 * i)) &&& 31)))), (3, .int (nI (i + 1)))]) (k := 3) [1, 2, 3, 0] rfl (Nat.le_of_ble_eq_true rfl) rfl d_M_number_21 rfl ?_
      refine cn_goto (tgt := 4) d_M_number_24 (by decide) ?_
      exact ih (i + 1) I1 (by omega) hr1 (hf.tr hf1)
theorem mg.z (hr : mg I g p w) : mg I g (rp g p 0) (rw_ g p 0 w) := by
  have h4 := hr.2.2.2.1
  rw [show rp g p 0 = p by unfold rp; omega, show rw_ g p 0 w = w by unfold rw_; rw [decide_eq_true (by omega), Bool.and_true]]; exact hr
theorem c_M_number {n : Nat} (hm : wM S P) (hn : n ≤ 4) (hd1 : 1 ≤ d) (hr : mg I g p w) (K : ∀ I', mg I' g (rp g p n) (rw_ g p n w) → fN I I' → Q (some (.int (nmk g p n))) S I' P) : cn_V l en mi_M_number d 0 0 S I P Q 0 [(0, .ref 155), (1, .int (nI n))] [] := by
  refine cn_iconst (pc' := 1) k_c_0 d_M_number_0 rfl ?_
  refine cn_istore_n (pc' := 2) (lv' := [(0, .ref 155), (1, .int (nI (n))), (2, .int (nI (0)))]) rfl [1, 2, 0] (Nat.le_of_ble_eq_true rfl) rfl d_M_number_1 rfl ?_
  refine cn_iconst (pc' := 3) k_c_0 d_M_number_2 rfl ?_
  refine cn_istore_n (pc' := 4) (lv' := [(0, .ref 155), (1, .int (nI (n))), (2, .int (nI (0))), (3, .int (nI (0)))]) rfl [1, 2, 3, 0] (Nat.le_of_ble_eq_true rfl) rfl d_M_number_3 rfl ?_
  exact c_M_number_loop hm hn hd1 I K n 0 I (by omega) hr.z fN.rf
theorem c_M_whole (hm : wM S P) (hr : mg I g p w) (K : Q (some (.int (nI (whl g p w).toNat))) S I P) : cn_V l en mi_M_whole d 0 0 S I P Q 0 [(0, .ref 155)] [] := by
  obtain ⟨r1, r2, r3, r4, r5, r6, r7⟩ := id hr
  have hwb := tn_le w
  refine cn_aload_n (pc' := 1) (k := 0) rfl rfl d_M_whole_0 rfl ?_
  refine cn_getIv (pc' := 4) (v := nI (w.toNat)) r3 fl_M_161 hm.1 rfl d_M_whole_1 rfl ?_
  refine cn_if_eq_n (tgt := 22) (pc' := 7) (by omega) d_M_whole_4 (by decide) rfl (fun hc4 => ?_) (fun hc4 => ?_)
  · refine cn_iconst (pc' := 23) k_c_0 d_M_whole_22 rfl ?_
    refine cn_zret rfl (Or.inl rfl) d_M_whole_23 ?_
    have e : whl g p w = false := by unfold whl; rw [tn_0 hc4]; rfl
    rw [e] at K; exact K
  · refine cn_aload_n (pc' := 8) (k := 0) rfl rfl d_M_whole_7 rfl ?_
    refine cn_getIv (pc' := 11) (v := nI (p)) r2 fl_M_158 hm.1 rfl d_M_whole_8 rfl ?_
    refine cn_aload_n (pc' := 12) (k := 0) rfl rfl d_M_whole_11 rfl ?_
    refine cn_getIv (pc' := 15) (v := nI (g.length)) r1 fl_M_140 hm.1 rfl d_M_whole_12 rfl ?_
    refine cn_icmp_ne_n (tgt := 22) (pc' := 18) (by omega) (by omega) d_M_whole_15 (by decide) rfl (fun hc15 => ?_) (fun hc15 => ?_)
    · refine cn_iconst (pc' := 23) k_c_0 d_M_whole_22 rfl ?_
      refine cn_zret rfl (Or.inl rfl) d_M_whole_23 ?_
      have e : whl g p w = false := by unfold whl; rw [decide_eq_false hc15, Bool.and_false]
      rw [e] at K; exact K
    · refine cn_iconst (pc' := 19) k_c_1 d_M_whole_18 rfl ?_
      refine cn_goto (tgt := 23) d_M_whole_19 (by decide) ?_
      refine cn_zret rfl (Or.inr rfl) d_M_whole_23 ?_
      have e : whl g p w = true := by unfold whl; rw [tn_1 hc4, decide_eq_true hc15]; rfl
      rw [e] at K; exact K
theorem c_M_isNode {n : Int32} (hm : wM S P) (h1 : I 155 1 = nI ns.length) (hl : ns.length ≤ 16) (K1 : ∀ k, n = nI k → k < ns.length → Q (some (.int (nI 1))) S I P) (K0 : ndx ns n = none → Q (some (.int (nI 0))) S I P) : cn_V l en mi_M_isNode d 0 0 S I P Q 0 [(0, .ref 155), (1, .int n)] [] := by
  refine cn_iload_n (pc' := 1) (k := 1) rfl rfl d_M_isNode_0 rfl ?_
  refine cn_if_lt (tgt := 16) (pc' := 4) d_M_isNode_1 (by decide) rfl (fun hc1 => ?_) (fun hc1 => ?_)
  · refine cn_iconst (pc' := 17) k_c_0 d_M_isNode_16 rfl ?_
    refine cn_zret rfl (Or.inl rfl) d_M_isNode_17 ?_
    exact K0 (ndx_neg hc1)
  · obtain ⟨j, hj, rfl⟩ := nI_of hc1
    refine cn_iload_n (pc' := 5) (k := 1) rfl rfl d_M_isNode_4 rfl ?_
    refine cn_aload_n (pc' := 6) (k := 0) rfl rfl d_M_isNode_5 rfl ?_
    refine cn_getIv (pc' := 9) (v := nI (ns.length)) h1 fl_M_7 hm.1 rfl d_M_isNode_6 rfl ?_
    refine cn_icmp_ge_n (tgt := 16) (pc' := 12) (by omega) (by omega) d_M_isNode_9 (by decide) rfl (fun hc9 => ?_) (fun hc9 => ?_)
    · refine cn_iconst (pc' := 17) k_c_0 d_M_isNode_16 rfl ?_
      refine cn_zret rfl (Or.inl rfl) d_M_isNode_17 ?_
      exact K0 (ndx_ge (by omega) hj)
    · refine cn_iconst (pc' := 13) k_c_1 d_M_isNode_12 rfl ?_
      refine cn_goto (tgt := 17) d_M_isNode_13 (by decide) ?_
      refine cn_zret rfl (Or.inr rfl) d_M_isNode_17 ?_
      exact K1 j rfl (by omega)
theorem c_M_say {x : Int32} {u : List Int32} (hm : wM S P) (ho : mo I u) (hu : u.length < 200) (K : ∀ I', mo I' (u ++ [x]) → fO I I' → Q none S I' P) : cn_V l en mi_M_say d 0 0 S I P Q 0 [(0, .ref 155), (1, .int x)] [] := by
  refine cn_aload_n (pc' := 1) (k := 0) rfl rfl d_M_say_0 rfl ?_
  refine cn_getP (pc' := 4) (b := 174) (hm.2.1 36 174 rfl) fl_M_69 hm.1 rfl d_M_say_1 rfl ?_
  refine cn_aload_n (pc' := 5) (k := 0) rfl rfl d_M_say_4 rfl ?_
  refine cn_getIv (pc' := 8) (v := nI (u.length)) ho.1 fl_M_94 hm.1 rfl d_M_say_5 rfl ?_
  refine cn_iload_n (pc' := 9) (k := 1) rfl rfl d_M_say_8 rfl ?_
  refine cn_iast (pc' := 10) (hm.2.2 174 0 200 rfl) (by omega) (by decide) d_M_say_9 rfl ?_
  refine cn_aload_n (pc' := 11) (k := 0) rfl rfl d_M_say_10 rfl ?_
  refine cn_dup (pc' := 12) rfl d_M_say_11 rfl ?_
  refine cn_getIv (pc' := 15) (v := nI (u.length)) (mw_a (by decide) ho.1) fl_M_94 hm.1 rfl d_M_say_12 rfl ?_
  refine cn_iconst (pc' := 16) k_c_1 d_M_say_15 rfl ?_
  refine cn_iadd_n (pc' := 17) d_M_say_16 rfl ?_
  refine cn_putI (pc' := 20) fl_M_94 hm.1 rfl rfl rfl rfl d_M_say_17 rfl ?_
  refine cn_vret rfl d_M_say_20 ?_
  exact K _ (mo_push ho hu) (fun a k x y => by rw [mw_o (by omega), mw_o (by omega)])
theorem c_M_code {x : Int32} (hm : wM S P) (hd1 : 1 ≤ d) (K : ∀ I', mo I' [x] → fO I I' → Q none S I' P) : cn_V l en mi_M_code d 0 0 S I P Q 0 [(0, .ref 155), (1, .int x)] [] := by
  refine cn_aload_n (pc' := 1) (k := 0) rfl rfl d_M_code_0 rfl ?_
  refine cn_iconst (pc' := 2) k_c_0 d_M_code_1 rfl ?_
  refine cn_putI (pc' := 5) fl_M_94 hm.1 rfl rfl rfl rfl d_M_code_2 rfl ?_
  refine cn_aload_n (pc' := 6) (k := 0) rfl rfl d_M_code_5 rfl ?_
  refine cn_iload_n (pc' := 7) (k := 1) rfl rfl d_M_code_6 rfl ?_
  refine cn_callV (pc' := 10) (kc1 := 0) (ks1 := 0) (kc2 := 0) (ks2 := 0) (rest := []) (lvj := [(0, .ref 155), (1, .int (x))]) [.int (x)] mv_M_184 hm.1 rfl rfl rfl (Nat.le_of_ble_eq_true rfl) (Nat.le_of_ble_eq_true rfl) (by omega) (by omega) (by omega) d_M_code_7 rfl ?_
  refine c_M_say (u := []) hm ⟨mw_e, by decide, fun j hj => absurd hj (Nat.not_lt_zero j)⟩ (by decide) (fun I1 ho1 hf1 => ?_)
  show cn_V l en mi_M_code d 0 0 S I1 P Q 10 [(0, .ref 155), (1, .int (x))] []
  refine cn_vret rfl d_M_code_10 ?_
  exact K I1 ho1 (fun a k x y => by rw [hf1 a k x y, mw_o (by omega)])
theorem c_M_sayNumber_loop {x : Int32} {u : List Int32} (hm : wM S P) (hu : u.length + 4 ≤ 200) (hd1 : 1 ≤ d) (I0 : cn_I) (K : ∀ I', mo I' (u ++ lbs x.toInt64 4) → fO I0 I' → Q none S I' P) : ∀ (k i : Nat) (I : cn_I), i + k = 4 → mo I (u ++ lbs x.toInt64 i) → fO I0 I → cn_V l en mi_M_sayNumber d 0 0 S I P Q 2 [(0, .ref 155), (1, .int x), (2, .int (nI i))] [] := by
  intro k
  induction k with
  | zero =>
    intro i I hik ho hf
    refine cn_iload_n (pc' := 3) (k := 2) rfl rfl d_M_sayNumber_2 rfl ?_
    refine cn_iconst (pc' := 4) k_c_4 d_M_sayNumber_3 rfl ?_
    refine cn_icmp_ge_n (tgt := 27) (pc' := 7) (by omega) (by omega) d_M_sayNumber_4 (by decide) rfl (fun hc4 => ?_) (fun hc4 => ?_)
    · refine cn_vret rfl d_M_sayNumber_27 ?_
      obtain rfl : i = 4 := by omega
      exact K I ho hf
    · exact absurd hc4 (by omega)
  | succ k ih =>
    intro i I hik ho hf
    refine cn_iload_n (pc' := 3) (k := 2) rfl rfl d_M_sayNumber_2 rfl ?_
    refine cn_iconst (pc' := 4) k_c_4 d_M_sayNumber_3 rfl ?_
    refine cn_icmp_ge_n (tgt := 27) (pc' := 7) (by omega) (by omega) d_M_sayNumber_4 (by decide) rfl (fun hc4 => ?_) (fun hc4 => ?_)
    · exact absurd hc4 (by omega)
    · refine cn_aload_n (pc' := 8) (k := 0) rfl rfl d_M_sayNumber_7 rfl ?_
      refine cn_iload_n (pc' := 9) (k := 1) rfl rfl d_M_sayNumber_8 rfl ?_
      refine cn_bipush (pc' := 11) k_b_8 d_M_sayNumber_9 rfl ?_
      refine cn_iload_n (pc' := 12) (k := 2) rfl rfl d_M_sayNumber_11 rfl ?_
      refine cn_imul_n (pc' := 13) d_M_sayNumber_12 rfl ?_
      refine cn_ishr (pc' := 14) d_M_sayNumber_13 rfl ?_
      refine cn_sipush (pc' := 17) k_s_255 d_M_sayNumber_14 rfl ?_
      refine cn_iand (pc' := 18) d_M_sayNumber_17 rfl ?_
      refine cn_callV (pc' := 21) (kc1 := 0) (ks1 := 0) (kc2 := 0) (ks2 := 0) (rest := []) (lvj := [(0, .ref 155), (1, .int ((x >>> ((nI (8 * i)) &&& 31)) &&& (nI (255))))]) [.int ((x >>> ((nI (8 * i)) &&& 31)) &&& (nI (255)))] mv_M_184 hm.1 rfl rfl rfl (Nat.le_of_ble_eq_true rfl) (Nat.le_of_ble_eq_true rfl) (by omega) (by omega) (by omega) d_M_sayNumber_18 rfl ?_
      rw [say_by (by omega)]
      refine c_M_say hm ho (by rw [List.length_append, lbs_len]; omega) (fun I1 ho1 hf1 => ?_)
      rw [List.append_assoc, ← lbs_succ] at ho1
      show cn_V l en mi_M_sayNumber d 0 0 S I1 P Q 21 [(0, .ref 155), (1, .int (x)), (2, .int (nI (i)))] []
      refine cn_iinc_n (pc' := 24) (lv' := [(0, .ref 155), (1, .int (x)), (2, .int (nI (i + 1)))]) (k := 2) [1, 2, 0] rfl (Nat.le_of_ble_eq_true rfl) rfl d_M_sayNumber_21 rfl ?_
      refine cn_goto (tgt := 2) d_M_sayNumber_24 (by decide) ?_
      exact ih (i + 1) I1 (by omega) ho1 (hf.tr hf1)
theorem c_M_sayNumber {x : Int32} {u : List Int32} (hm : wM S P) (ho : mo I u) (hu : u.length + 4 ≤ 200) (hd1 : 1 ≤ d) (K : ∀ I', mo I' (u ++ lbs x.toInt64 4) → fO I I' → Q none S I' P) : cn_V l en mi_M_sayNumber d 0 0 S I P Q 0 [(0, .ref 155), (1, .int x)] [] := by
  refine cn_iconst (pc' := 1) k_c_0 d_M_sayNumber_0 rfl ?_
  refine cn_istore_n (pc' := 2) (lv' := [(0, .ref 155), (1, .int (x)), (2, .int (nI (0)))]) rfl [1, 2, 0] (Nat.le_of_ble_eq_true rfl) rfl d_M_sayNumber_1 rfl ?_
  exact c_M_sayNumber_loop hm hu hd1 I K 4 0 I (by omega) (by rw [show lbs x.toInt64 0 = [] from rfl, List.append_nil]; exact ho) fO.rf
theorem c_M_put {x : Int32} {v : List Int32} (hm : wM S P) (ho : mv I v) (K : ∀ I', mv I' ((v ++ [x]).take 64) → fP I I' → Q none S I' P) : cn_V l en mi_M_put d 0 0 S I P Q 0 [(0, .ref 155), (1, .int x)] [] := by
  have h64 := ho.2.1
  refine cn_aload_n (pc' := 1) (k := 0) rfl rfl d_M_put_0 rfl ?_
  refine cn_getIv (pc' := 4) (v := nI (v.length)) ho.1 fl_M_125 hm.1 rfl d_M_put_1 rfl ?_
  refine cn_bipush (pc' := 6) k_b_64 d_M_put_4 rfl ?_
  refine cn_icmp_ge_n (tgt := 29) (pc' := 9) (by omega) (by omega) d_M_put_6 (by decide) rfl (fun hc6 => ?_) (fun hc6 => ?_)
  · refine cn_vret rfl d_M_put_29 ?_
    rw [tk_ge (by omega)] at K
    exact K I ho fP.rf
  · refine cn_aload_n (pc' := 10) (k := 0) rfl rfl d_M_put_9 rfl ?_
    refine cn_getP (pc' := 13) (b := 172) (hm.2.1 31 172 rfl) fl_M_63 hm.1 rfl d_M_put_10 rfl ?_
    refine cn_aload_n (pc' := 14) (k := 0) rfl rfl d_M_put_13 rfl ?_
    refine cn_getIv (pc' := 17) (v := nI (v.length)) ho.1 fl_M_125 hm.1 rfl d_M_put_14 rfl ?_
    refine cn_iload_n (pc' := 18) (k := 1) rfl rfl d_M_put_17 rfl ?_
    refine cn_iast (pc' := 19) (hm.2.2 172 0 64 rfl) (by omega) (by decide) d_M_put_18 rfl ?_
    refine cn_aload_n (pc' := 20) (k := 0) rfl rfl d_M_put_19 rfl ?_
    refine cn_dup (pc' := 21) rfl d_M_put_20 rfl ?_
    refine cn_getIv (pc' := 24) (v := nI (v.length)) (mw_a (by decide) ho.1) fl_M_125 hm.1 rfl d_M_put_21 rfl ?_
    refine cn_iconst (pc' := 25) k_c_1 d_M_put_24 rfl ?_
    refine cn_iadd_n (pc' := 26) d_M_put_25 rfl ?_
    refine cn_putI (pc' := 29) fl_M_125 hm.1 rfl rfl rfl rfl d_M_put_26 rfl ?_
    refine cn_vret rfl d_M_put_29 ?_
    rw [tk_lt (by omega)] at K
    exact K _ (mv_push ho (by omega)) (fun a k x y => by rw [mw_o (by omega), mw_o (by omega)])
end
