abbrev cn_I : Type := Nat → Nat → Int32
abbrev cn_P : Type := Nat → Nat → Option Nat
abbrev cn_S : Type := Nat × Nat × (Nat → Nat ⊕ (Nat × Nat))
abbrev cn_E : Type := Nat × Nat × Nat × (Nat → Int32) × (Nat → ClassId) × (Nat → Nat → Nat) × (Nat → ClassId)
abbrev cn_b (en : cn_E) : Nat := en.1
abbrev cn_B (en : cn_E) : Nat := en.2.1
abbrev cn_L (en : cn_E) : Nat := en.2.2.1
abbrev cn_x (en : cn_E) : Nat → Int32 := en.2.2.2.1
abbrev cn_D (en : cn_E) : va_G := (en.2.2.2.2.1, en.2.2.2.2.2.1)
abbrev cn_dA (en : cn_E) : Nat → ClassId := en.2.2.2.2.2.2
abbrev cn_A (en : cn_E) : Nat → Prop := fun q => cn_B en ≤ q
def cn_ad (en : cn_E) (k : Nat) : Nat := if k = 1000000 then cn_b en else cn_B en + k
def cn_rv (en : cn_E) (v : Value) : Value := match v with
  | .ref k => .ref (cn_ad en k)
  | w => w
theorem cn_rv_cat (en : cn_E) (v : Value) : (cn_rv en v).category = v.category := by cases v <;> rfl
def cn_lv (en : cn_E) (lv : List (Nat × Value)) : List (Nat × Value) := lv.map (fun q => (q.1, cn_rv en q.2))
def cn_isr (t : FieldType) : Bool := match t with
  | .object _ => true
  | .array _ => true
  | _ => false
def cn_fv (en : cn_E) (ci j : Nat) (x : Int32) (r : Option Nat) : Value := if cn_isr (cn_ft ci j) = true then va_rf (r.map (cn_ad en)) else .int x
def cn_fs (en : cn_E) (ci : Nat) (f : Nat → Int32) (g : Nat → Option Nat) : List Value := (List.range (cn_NF ci)).map (fun j => cn_fv en ci j (f j) (g j))
def cn_cell (en : cn_E) (S : cn_S) (I : cn_I) (P : cn_P) (k : Nat) : va_E := match S.2.2 k with
  | .inl ci => .inr (ci, cn_fs en ci (I k) (P k))
  | .inr (t, n) => .inl (cn_dA en t, n, if t < 3 then .inl (I k) else .inr (.inr (.inr (.inr (fun j => (P k j).map (cn_ad en))))))
def cn_ws (en : cn_E) (S : cn_S) (I : cn_I) (P : cn_P) : va_W := (List.range S.1).map (fun k => (cn_B en + k, cn_cell en S I P k))
theorem cn_ws_at {en : cn_E} {S : cn_S} {I : cn_I} {P : cn_P} {k : Nat} (h : k < S.1) : (cn_ws en S I P)[k]? = some (cn_B en + k, cn_cell en S I P k) := by
  simp [cn_ws, List.getElem?_map, List.getElem?_range h]
theorem cn_ws_inv {en : cn_E} {S : cn_S} {I : cn_I} {P : cn_P} {k : Nat} {q : Nat × va_E} (h : (cn_ws en S I P)[k]? = some q) : k < S.1 ∧ q = (cn_B en + k, cn_cell en S I P k) := by
  have hk : k < S.1 := by
    have h1 := (List.getElem?_eq_some_iff.mp h).1
    simpa [cn_ws] using h1
  rw [cn_ws_at hk] at h
  exact ⟨hk, (Option.some.inj h).symm⟩
theorem cn_ws_D (en : cn_E) (S : cn_S) (I : cn_I) (P : cn_P) : va_D (cn_A en) (cn_ws en S I P) := by
  refine ⟨fun i j x y hi hj hxy => ?_, fun k q hk => ?_⟩
  · obtain ⟨-, rfl⟩ := cn_ws_inv hi
    obtain ⟨-, rfl⟩ := cn_ws_inv hj
    have h : cn_B en + i = cn_B en + j := hxy
    omega
  · obtain ⟨-, rfl⟩ := cn_ws_inv hk
    exact Nat.le_add_right _ _
theorem cn_cell_congr {en : cn_E} {S : cn_S} {I I' : cn_I} {P P' : cn_P} {k : Nat} (hI : I' k = I k) (hP : P' k = P k) : cn_cell en S I' P' k = cn_cell en S I P k := by
  unfold cn_cell
  rw [hI, hP]
theorem cn_ws_set {en : cn_E} {S : cn_S} {I I' : cn_I} {P P' : cn_P} {a : Nat} (ha : a < S.1) (hI : ∀ k, k ≠ a → I' k = I k) (hP : ∀ k, k ≠ a → P' k = P k) : (cn_ws en S I P).set a (cn_B en + a, cn_cell en S I' P' a) = cn_ws en S I' P' := by
  apply List.ext_getElem?
  intro k
  by_cases hk : k = a
  · subst hk
    rw [List.getElem?_set_self (by simpa [cn_ws] using ha), cn_ws_at ha]
  · rw [List.getElem?_set_ne (Ne.symm hk)]
    by_cases hl : k < S.1
    · rw [cn_ws_at hl, cn_ws_at hl, cn_cell_congr (hI k hk) (hP k hk)]
    · have e1 : (cn_ws en S I P).length ≤ k := by simp [cn_ws]; omega
      have e2 : (cn_ws en S I' P').length ≤ k := by simp [cn_ws]; omega
      rw [List.getElem?_eq_none e1, List.getElem?_eq_none e2]
def cn_wi (I : cn_I) (a k : Nat) (v : Int32) : cn_I := fun a' => if a' = a then upd (I a) k v else I a'
def cn_wp (P : cn_P) (a k : Nat) (r : Option Nat) : cn_P := fun a' => if a' = a then va_up (P a) k r else P a'
def cn_wr (I : cn_I) (a : Nat) (f : Nat → Int32) : cn_I := fun a' => if a' = a then f else I a'
theorem cn_wi_row {I : cn_I} {a k : Nat} {v : Int32} : cn_wi I a k v a = upd (I a) k v := if_pos rfl
theorem cn_wi_ne {I : cn_I} {a k b : Nat} {v : Int32} (h : b ≠ a) : cn_wi I a k v b = I b := if_neg h
theorem cn_wp_row {P : cn_P} {a k : Nat} {r : Option Nat} : cn_wp P a k r a = va_up (P a) k r := if_pos rfl
theorem cn_wp_ne {P : cn_P} {a k b : Nat} {r : Option Nat} (h : b ≠ a) : cn_wp P a k r b = P b := if_neg h
theorem cn_wr_row {I : cn_I} {a : Nat} {f : Nat → Int32} : cn_wr I a f a = f := if_pos rfl
theorem cn_wr_ne {I : cn_I} {a b : Nat} {f : Nat → Int32} (h : b ≠ a) : cn_wr I a f b = I b := if_neg h
theorem cn_fs_at {en : cn_E} {ci k : Nat} {f : Nat → Int32} {g : Nat → Option Nat} (hk : k < cn_NF ci) : (cn_fs en ci f g)[k]? = some (cn_fv en ci k (f k) (g k)) := by
  simp [cn_fs, List.getElem?_map, List.getElem?_range hk]
theorem cn_fs_len {en : cn_E} {ci : Nat} {f : Nat → Int32} {g : Nat → Option Nat} : (cn_fs en ci f g).length = cn_NF ci := by simp [cn_fs]
theorem cn_fs_seti {en : cn_E} {ci k : Nat} {f : Nat → Int32} {g : Nat → Option Nat} {v : Int32} (hk : k < cn_NF ci) (hr : cn_isr (cn_ft ci k) = false) : (cn_fs en ci f g).set k (.int v) = cn_fs en ci (upd f k v) g := by
  apply List.ext_getElem?
  intro j
  by_cases hj : j = k
  · subst hj
    rw [List.getElem?_set_self (by rw [cn_fs_len]; exact hk), cn_fs_at hk]
    simp [cn_fv, hr, upd]
  · rw [List.getElem?_set_ne (Ne.symm hj)]
    by_cases hl : j < cn_NF ci
    · rw [cn_fs_at hl, cn_fs_at hl]
      simp [upd, hj]
    · rw [List.getElem?_eq_none (by rw [cn_fs_len]; omega), List.getElem?_eq_none (by rw [cn_fs_len]; omega)]
theorem cn_fs_setp {en : cn_E} {ci k : Nat} {f : Nat → Int32} {g : Nat → Option Nat} {r : Option Nat} (hk : k < cn_NF ci) (hr : cn_isr (cn_ft ci k) = true) : (cn_fs en ci f g).set k (va_rf (r.map (cn_ad en))) = cn_fs en ci f (va_up g k r) := by
  apply List.ext_getElem?
  intro j
  by_cases hj : j = k
  · subst hj
    rw [List.getElem?_set_self (by rw [cn_fs_len]; exact hk), cn_fs_at hk]
    simp [cn_fv, hr, va_up]
  · rw [List.getElem?_set_ne (Ne.symm hj)]
    by_cases hl : j < cn_NF ci
    · rw [cn_fs_at hl, cn_fs_at hl]
      simp [va_up, hj]
    · rw [List.getElem?_eq_none (by rw [cn_fs_len]; omega), List.getElem?_eq_none (by rw [cn_fs_len]; omega)]
def cn_ob (S : cn_S) (a ci : Nat) : Prop := a < S.1 ∧ S.2.2 a = .inl ci
def cn_ar (S : cn_S) (a t n : Nat) : Prop := a < S.1 ∧ S.2.2 a = .inr (t, n)
theorem cn_ob_cell {en : cn_E} {S : cn_S} {I : cn_I} {P : cn_P} {a ci : Nat} (h : cn_ob S a ci) : cn_cell en S I P a = .inr (ci, cn_fs en ci (I a) (P a)) := by
  unfold cn_cell
  rw [h.2]
theorem cn_ar_cell {en : cn_E} {S : cn_S} {I : cn_I} {P : cn_P} {a t n : Nat} (h : cn_ar S a t n) (ht : t < 3) : cn_cell en S I P a = .inl (cn_dA en t, n, .inl (I a)) := by
  unfold cn_cell
  rw [h.2]
  simp [ht]
theorem cn_ar_cellq {en : cn_E} {S : cn_S} {I : cn_I} {P : cn_P} {a t n : Nat} (h : cn_ar S a t n) (ht : ¬ t < 3) : cn_cell en S I P a = .inl (cn_dA en t, n, .inr (.inr (.inr (.inr (fun j => (P a j).map (cn_ad en)))))) := by
  unfold cn_cell
  rw [h.2]
  simp [ht]
def cn_ty : Nat → FieldType := fun t => match t with
  | 0 => .int
  | 1 => .byte
  | 2 => .boolean
  | 3 => .object "ChunkedNodes$Node"
  | 4 => .object "ChunkedNodes$Item"
  | 5 => .object "ChunkedNodes$Notice"
  | _ => .object "ChunkedNodes$Parcel"
def cn_tys (en : cn_E) : List (ClassId × FieldType) := (List.range 7).map (fun t => (cn_dA en t, cn_ty t))
theorem cn_tys_at {en : cn_E} {t : Nat} (h : t < 7) : (cn_tys en)[t]? = some (cn_dA en t, cn_ty t) := by
  simp [cn_tys, List.getElem?_map, List.getElem?_range h]
def cn_O : List String := ["ChunkedNodes$Node", "ChunkedNodes$Item", "ChunkedNodes$Notice", "ChunkedNodes$Parcel"]
def cn_K (en : cn_E) (U : State) : Prop := va_K (cn_D en) cn_cl (cn_tys en) U ∧ (∀ w ∈ cn_N, va_Nw w U) ∧ ∀ C ∈ cn_O, va_AO C U
theorem cn_K.warm {en : cn_E} {s U : State} (hW : s.WarmedH U.vm) (h : cn_K en s) : cn_K en U := by
  refine ⟨va_K.moved hW.alike h.1, fun w hw => ?_, fun C hC => va_AO.moved hW.alike (h.2.2 C hC)⟩
  have h1 := h.2.1 w hw
  have h2 := (List.mem_filter.mp hw).2
  cases w <;> first | exact va_Nw.warmF hW h1 | exact va_Nw.warmM hW h1 | cases h2
theorem cn_K.call {en : cn_E} {U : State} {g : JFrame} {mk : MethodId} {a : Array Value} (h : cn_K en U) : cn_K en (U.calling g mk a) := by
  refine ⟨va_K.moved (u := U) (U := U.calling g mk a) (Vm.Alike.refl U.vm) h.1, fun w hw => ?_, fun C hC => va_AO.moved (u := U) (U := U.calling g mk a) (Vm.Alike.refl U.vm) (h.2.2 C hC)⟩
  have h1 := h.2.1 w hw
  have h2 := (List.mem_filter.mp hw).2
  cases w <;> first | exact va_Nw.same (u := U) (U := U.calling g mk a) rfl rfl h1 | cases h2
def cn_bok (S : cn_S) (I : cn_I) : Prop := ∀ (a n : Nat), S.2.2 a = .inr (1, n) → ∀ j : Nat, fits .byte (.int (I a j)) = true
def cn_H (en : cn_E) (S : cn_S) (I : cn_I) (P : cn_P) (H : Heap) : Prop := va_P (cn_D en) cn_cl (cn_ws en S I P) H ∧ H.size = cn_B en + S.1 ∧ cn_bok S I ∧ S.1 ≤ 1000000
def cn_C (en : cn_E) (mi : cn_M) (d : Nat) (p : Program) (s : State) (m : MethodId) (args : Array Value) (meth : Method) (c : Code) (R : Room) : Prop :=
  p.tables.exec = Jvm.exec ∧ c.code = mi.2.1 ∧ c.maxLocals = mi.2.2.1 ∧ meth.sig.returnType = mi.2.2.2 ∧ s.vm.findClass mi.1.cls = some m.cls ∧ (∀ w ∈ cn_T, w.before args s = true) ∧ meth.locks = false ∧ (mi.1.name = "<init>" → meth.name = "<init>") ∧ cn_K en s ∧ va_X (cn_b en) (cn_L en) (cn_x en) s s.heap ∧ cn_b en < cn_B en ∧ cn_B en ≤ s.heap.size ∧ d ≤ R.frames ∧ 64 * d ≤ R.locals
def cn_ret (mi : cn_M) (pc : Nat) (r : Option Value) : Prop :=
  (r = none ∧ mi.2.2.2 = none ∧ decode mi.2.1 pc = .ok (.return_, 1)) ∨ (∃ v : Int32, r = some (.int v) ∧ decode mi.2.1 pc = .ok (.ireturn, 1) ∧ ∃ ty : FieldType, mi.2.2.2 = some ty ∧ narrow ty (.int v) = .int v) ∨ (∃ a : Nat, r = some (.ref a) ∧ decode mi.2.1 pc = .ok (.areturn, 1) ∧ ∃ n : String, mi.2.2.2 = some (.object n))
/-- THE JUDGEMENT: method mi at pc with the locals lv, the stack st, over the flat memory (S, I, P), comes to a return with Q; at most d frames deep, kc cells and ks slots more -/
def cn_V (l : Launch) (en : cn_E) (mi : cn_M) (d kc ks : Nat) (S : cn_S) (I : cn_I) (P : cn_P) (Q : Option Value → cn_S → cn_I → cn_P → Prop) (pc : Nat) (lv : List (Nat × Value)) (st : List Value) : Prop :=
  ∀ (p : Program) (e : Env) (R : Room) (s : State) (m : MethodId) (args : Array Value) (below : List Frame) (meth : Method) (c : Code) (Z : State → Prop) (H : Heap) (locs : List Loc) (cells slots : Nat) (ls : Array Slot),
    cn_C en mi d p s m args meth c R → cells + kc ≤ R.cells → slots + ks ≤ R.slots → cn_H en S I P H → va_S (cn_A en) s.heap H locs → lv_has ls mi.2.2.1 (cn_lv en lv) →
    (∀ (r : Option Value) (S' : cn_S) (I' : cn_I) (P' : cn_P) (H' : Heap) (locs' : List Loc) (cells' slots' pc' : Nat) (ls' : Array Slot), Q r S' I' P' → cn_H en S' I' P' H' → va_S (cn_A en) s.heap H' locs' → cells' ≤ cells + kc → slots' ≤ slots + ks → cn_ret mi pc' r →
      W p l e R s m args below meth c H' locs' cells' slots' Z (F0 m pc' ls' (r.toList.map (cn_rv en)))) →
    W p l e R s m args below meth c H locs cells slots Z (F0 m pc ls (st.map (cn_rv en)))
theorem cn_lv_at {en : cn_E} {lv : List (Nat × Value)} {ls : Array Slot} {n k i : Nat} {v : Value} (h : lv_has ls n (cn_lv en lv)) (hk : lv[k]? = some (i, v)) : ls[i]? = some (.val (cn_rv en v)) := by
  refine h.2.2 (i, cn_rv en v) (List.mem_map.mpr ⟨(i, v), List.mem_of_getElem? hk, rfl⟩)
def cn_st (i : Nat) (v : Value) (lv : List (Nat × Value)) (ks : List Nat) : List (Nat × Value) := lv_pick ((i, v) :: lv.filter (fun q => !(q.1 == i) && !(q.1 + 1 == i && q.2.category == 2))) ks
def cn_st2 (i : Nat) (v : Value) (lv : List (Nat × Value)) (ks : List Nat) : List (Nat × Value) := lv_pick ((i, v) :: lv.filter (fun q => !(q.1 == i) && (!(q.1 == i + 1) && !(q.1 + 1 == i && q.2.category == 2)))) ks
theorem cn_lv_pick {en : cn_E} {l : List (Nat × Value)} {ls : Array Slot} {n : Nat} (ks : List Nat) (h : lv_has ls n (cn_lv en l)) : lv_has ls n (cn_lv en (lv_pick l ks)) := by
  refine ⟨h.1, h.2.1, fun q hq => ?_⟩
  obtain ⟨q0, h1, rfl⟩ := List.mem_map.mp hq
  obtain ⟨k, -, hk⟩ := List.mem_filterMap.mp h1
  exact h.2.2 _ (List.mem_map.mpr ⟨q0, List.mem_of_getElem? hk, rfl⟩)
theorem cn_lv_filter (en : cn_E) (lv : List (Nat × Value)) (f : Nat → Nat → Bool) : (cn_lv en lv).filter (fun q => f q.1 q.2.category) = cn_lv en (lv.filter (fun q => f q.1 q.2.category)) := by
  unfold cn_lv
  rw [List.filter_map]
  congr 1
  apply List.filter_congr
  intro q _
  simp [cn_rv_cat]
theorem cn_iconst {l : Launch} {en : cn_E} {mi : cn_M} {d kc ks : Nat} {S : cn_S} {I : cn_I} {P : cn_P} {Q : Option Value → cn_S → cn_I → cn_P → Prop} {pc pc' : Nat} {lv : List (Nat × Value)} {st : List Value} {n : Int} {v : Int32} (hv : Int32.ofInt n = v) (hd : decode mi.2.1 pc = .ok (.iconst n, 1)) (hp : pc + 1 = pc') (K : cn_V l en mi d kc ks S I P Q pc' lv (.int v :: st)) : cn_V l en mi d kc ks S I P Q pc lv st := by
  subst hp
  intro p e R s m args below meth c Z H locs cells slots ls C hc hs hH hS hl hk
  exact lv_iconst C.1 C.2.1 hd hv (K p e R s m args below meth c Z H locs cells slots ls C hc hs hH hS hl hk)
theorem cn_bipush {l : Launch} {en : cn_E} {mi : cn_M} {d kc ks : Nat} {S : cn_S} {I : cn_I} {P : cn_P} {Q : Option Value → cn_S → cn_I → cn_P → Prop} {pc pc' : Nat} {lv : List (Nat × Value)} {st : List Value} {n : Int} {v : Int32} (hv : (Int8.ofInt n).toInt32 = v) (hd : decode mi.2.1 pc = .ok (.bipush n, 2)) (hp : pc + 2 = pc') (K : cn_V l en mi d kc ks S I P Q pc' lv (.int v :: st)) : cn_V l en mi d kc ks S I P Q pc lv st := by
  subst hp
  intro p e R s m args below meth c Z H locs cells slots ls C hc hs hH hS hl hk
  exact lv_bipush C.1 C.2.1 hd hv (K p e R s m args below meth c Z H locs cells slots ls C hc hs hH hS hl hk)
theorem cn_sipush {l : Launch} {en : cn_E} {mi : cn_M} {d kc ks : Nat} {S : cn_S} {I : cn_I} {P : cn_P} {Q : Option Value → cn_S → cn_I → cn_P → Prop} {pc pc' : Nat} {lv : List (Nat × Value)} {st : List Value} {n : Int} {v : Int32} (hv : (Int16.ofInt n).toInt32 = v) (hd : decode mi.2.1 pc = .ok (.sipush n, 3)) (hp : pc + 3 = pc') (K : cn_V l en mi d kc ks S I P Q pc' lv (.int v :: st)) : cn_V l en mi d kc ks S I P Q pc lv st := by
  subst hp
  intro p e R s m args below meth c Z H locs cells slots ls C hc hs hH hS hl hk
  exact lv_sipush C.1 C.2.1 hd hv (K p e R s m args below meth c Z H locs cells slots ls C hc hs hH hS hl hk)
theorem cn_lconst {l : Launch} {en : cn_E} {mi : cn_M} {d kc ks : Nat} {S : cn_S} {I : cn_I} {P : cn_P} {Q : Option Value → cn_S → cn_I → cn_P → Prop} {pc pc' : Nat} {lv : List (Nat × Value)} {st : List Value} {n : Fin 2} {v : Int64} (hv : Int64.ofNat (n : Nat) = v) (hd : decode mi.2.1 pc = .ok (.lconst n, 1)) (hp : pc + 1 = pc') (K : cn_V l en mi d kc ks S I P Q pc' lv (.long v :: st)) : cn_V l en mi d kc ks S I P Q pc lv st := by
  subst hp
  intro p e R s m args below meth c Z H locs cells slots ls C hc hs hH hS hl hk
  exact lv_lconst C.1 C.2.1 hd hv (K p e R s m args below meth c Z H locs cells slots ls C hc hs hH hS hl hk)
theorem cn_ldc2 {l : Launch} {en : cn_E} {mi : cn_M} {d kc ks : Nat} {S : cn_S} {I : cn_I} {P : cn_P} {Q : Option Value → cn_S → cn_I → cn_P → Prop} {pc pc' : Nat} {lv : List (Nat × Value)} {st : List Value} {idx : Nat} {v : Int64} (hw : Cond.constantLong mi.1.cls idx v ∈ cn_T) (hd : decode mi.2.1 pc = .ok (.ldc2_w idx, 3)) (hp : pc + 3 = pc') (K : cn_V l en mi d kc ks S I P Q pc' lv (.long v :: st)) : cn_V l en mi d kc ks S I P Q pc lv st := by
  subst hp
  intro p e R s m args below meth c Z H locs cells slots ls C hc hs hH hS hl hk
  exact lv_ldc2 C.1 C.2.1 C.2.2.2.2.1 (C.2.2.2.2.2.1 _ hw) hd (K p e R s m args below meth c Z H locs cells slots ls C hc hs hH hS hl hk)
theorem cn_iload_n {l : Launch} {en : cn_E} {mi : cn_M} {d kc ks : Nat} {S : cn_S} {I : cn_I} {P : cn_P} {Q : Option Value → cn_S → cn_I → cn_P → Prop} {pc pc' : Nat} {lv : List (Nat × Value)} {st : List Value} {j : Fin 4} {i k : Nat} {x : Int32} (hi : (j : Nat) = i) (hv : lv[k]? = some (i, .int x)) (hd : decode mi.2.1 pc = .ok (.iload_n j, 1)) (hp : pc + 1 = pc') (K : cn_V l en mi d kc ks S I P Q pc' lv (.int x :: st)) : cn_V l en mi d kc ks S I P Q pc lv st := by
  subst hp
  intro p e R s m args below meth c Z H locs cells slots ls C hc hs hH hS hl hk
  exact lv_iload_n C.1 C.2.1 hd hi (cn_lv_at hl hv) (K p e R s m args below meth c Z H locs cells slots ls C hc hs hH hS hl hk)
theorem cn_iload {l : Launch} {en : cn_E} {mi : cn_M} {d kc ks : Nat} {S : cn_S} {I : cn_I} {P : cn_P} {Q : Option Value → cn_S → cn_I → cn_P → Prop} {pc pc' : Nat} {lv : List (Nat × Value)} {st : List Value} {i k : Nat} {x : Int32} (hv : lv[k]? = some (i, .int x)) (hd : decode mi.2.1 pc = .ok (.iload i, 2)) (hp : pc + 2 = pc') (K : cn_V l en mi d kc ks S I P Q pc' lv (.int x :: st)) : cn_V l en mi d kc ks S I P Q pc lv st := by
  subst hp
  intro p e R s m args below meth c Z H locs cells slots ls C hc hs hH hS hl hk
  exact lv_iload C.1 C.2.1 hd (cn_lv_at hl hv) (K p e R s m args below meth c Z H locs cells slots ls C hc hs hH hS hl hk)
theorem cn_lload_n {l : Launch} {en : cn_E} {mi : cn_M} {d kc ks : Nat} {S : cn_S} {I : cn_I} {P : cn_P} {Q : Option Value → cn_S → cn_I → cn_P → Prop} {pc pc' : Nat} {lv : List (Nat × Value)} {st : List Value} {j : Fin 4} {i k : Nat} {x : Int64} (hi : (j : Nat) = i) (hv : lv[k]? = some (i, .long x)) (hd : decode mi.2.1 pc = .ok (.lload_n j, 1)) (hp : pc + 1 = pc') (K : cn_V l en mi d kc ks S I P Q pc' lv (.long x :: st)) : cn_V l en mi d kc ks S I P Q pc lv st := by
  subst hp
  intro p e R s m args below meth c Z H locs cells slots ls C hc hs hH hS hl hk
  exact lv_lload_n C.1 C.2.1 hd hi (cn_lv_at hl hv) (K p e R s m args below meth c Z H locs cells slots ls C hc hs hH hS hl hk)
theorem cn_lload {l : Launch} {en : cn_E} {mi : cn_M} {d kc ks : Nat} {S : cn_S} {I : cn_I} {P : cn_P} {Q : Option Value → cn_S → cn_I → cn_P → Prop} {pc pc' : Nat} {lv : List (Nat × Value)} {st : List Value} {i k : Nat} {x : Int64} (hv : lv[k]? = some (i, .long x)) (hd : decode mi.2.1 pc = .ok (.lload i, 2)) (hp : pc + 2 = pc') (K : cn_V l en mi d kc ks S I P Q pc' lv (.long x :: st)) : cn_V l en mi d kc ks S I P Q pc lv st := by
  subst hp
  intro p e R s m args below meth c Z H locs cells slots ls C hc hs hH hS hl hk
  exact lv_lload C.1 C.2.1 hd (cn_lv_at hl hv) (K p e R s m args below meth c Z H locs cells slots ls C hc hs hH hS hl hk)
theorem cn_aload_n {l : Launch} {en : cn_E} {mi : cn_M} {d kc ks : Nat} {S : cn_S} {I : cn_I} {P : cn_P} {Q : Option Value → cn_S → cn_I → cn_P → Prop} {pc pc' : Nat} {lv : List (Nat × Value)} {st : List Value} {j : Fin 4} {i k : Nat} {x : Nat} (hi : (j : Nat) = i) (hv : lv[k]? = some (i, .ref x)) (hd : decode mi.2.1 pc = .ok (.aload_n j, 1)) (hp : pc + 1 = pc') (K : cn_V l en mi d kc ks S I P Q pc' lv (.ref x :: st)) : cn_V l en mi d kc ks S I P Q pc lv st := by
  subst hp
  intro p e R s m args below meth c Z H locs cells slots ls C hc hs hH hS hl hk
  exact lv_aload_n C.1 C.2.1 hd hi (cn_lv_at hl hv) (K p e R s m args below meth c Z H locs cells slots ls C hc hs hH hS hl hk)
theorem cn_aload {l : Launch} {en : cn_E} {mi : cn_M} {d kc ks : Nat} {S : cn_S} {I : cn_I} {P : cn_P} {Q : Option Value → cn_S → cn_I → cn_P → Prop} {pc pc' : Nat} {lv : List (Nat × Value)} {st : List Value} {i k : Nat} {x : Nat} (hv : lv[k]? = some (i, .ref x)) (hd : decode mi.2.1 pc = .ok (.aload i, 2)) (hp : pc + 2 = pc') (K : cn_V l en mi d kc ks S I P Q pc' lv (.ref x :: st)) : cn_V l en mi d kc ks S I P Q pc lv st := by
  subst hp
  intro p e R s m args below meth c Z H locs cells slots ls C hc hs hH hS hl hk
  exact lv_aload C.1 C.2.1 hd (cn_lv_at hl hv) (K p e R s m args below meth c Z H locs cells slots ls C hc hs hH hS hl hk)
theorem cn_istore_n {l : Launch} {en : cn_E} {mi : cn_M} {d kc ks : Nat} {S : cn_S} {I : cn_I} {P : cn_P} {Q : Option Value → cn_S → cn_I → cn_P → Prop} {pc pc' : Nat} {lv : List (Nat × Value)} {st : List Value} {lv' : List (Nat × Value)} {j : Fin 4} {i : Nat} {x : Int32} (hi : (j : Nat) = i) (pk : List Nat) (hn : i < mi.2.2.1) (hlv : cn_st i (.int x) lv pk = lv') (hd : decode mi.2.1 pc = .ok (.istore_n j, 1)) (hp : pc + 1 = pc') (K : cn_V l en mi d kc ks S I P Q pc' lv' st) : cn_V l en mi d kc ks S I P Q pc lv (.int x :: st) := by
  subst hp; subst hlv
  intro p e R s m args below meth c Z H locs cells slots ls C hc hs hH hS hl hk
  refine lv_istore_n C.1 C.2.1 hd hi hl hn rfl (fun ls' h' => K p e R s m args below meth c Z H locs cells slots ls' C hc hs hH hS ?_ hk)
  have e1 := cn_lv_filter en lv (fun a c => !(a == i) && !(a + 1 == i && c == 2))
  have e2 : lv_has ls' mi.2.2.1 (cn_lv en ((i, .int x) :: lv.filter (fun q => (fun a c => !(a == i) && !(a + 1 == i && c == 2)) q.1 q.2.category))) := by
    have e3 : cn_lv en ((i, .int x) :: lv.filter (fun q => (fun a c => !(a == i) && !(a + 1 == i && c == 2)) q.1 q.2.category)) = (i, cn_rv en (.int x)) :: cn_lv en (lv.filter (fun q => (fun a c => !(a == i) && !(a + 1 == i && c == 2)) q.1 q.2.category)) := rfl
    rw [e3, ← e1]
    exact h'
  exact cn_lv_pick pk e2
theorem cn_istore {l : Launch} {en : cn_E} {mi : cn_M} {d kc ks : Nat} {S : cn_S} {I : cn_I} {P : cn_P} {Q : Option Value → cn_S → cn_I → cn_P → Prop} {pc pc' : Nat} {lv : List (Nat × Value)} {st : List Value} {lv' : List (Nat × Value)} {i : Nat} {x : Int32} (pk : List Nat) (hn : i < mi.2.2.1) (hlv : cn_st i (.int x) lv pk = lv') (hd : decode mi.2.1 pc = .ok (.istore i, 2)) (hp : pc + 2 = pc') (K : cn_V l en mi d kc ks S I P Q pc' lv' st) : cn_V l en mi d kc ks S I P Q pc lv (.int x :: st) := by
  subst hp; subst hlv
  intro p e R s m args below meth c Z H locs cells slots ls C hc hs hH hS hl hk
  refine lv_istore C.1 C.2.1 hd hl hn rfl (fun ls' h' => K p e R s m args below meth c Z H locs cells slots ls' C hc hs hH hS ?_ hk)
  have e1 := cn_lv_filter en lv (fun a c => !(a == i) && !(a + 1 == i && c == 2))
  have e2 : lv_has ls' mi.2.2.1 (cn_lv en ((i, .int x) :: lv.filter (fun q => (fun a c => !(a == i) && !(a + 1 == i && c == 2)) q.1 q.2.category))) := by
    have e3 : cn_lv en ((i, .int x) :: lv.filter (fun q => (fun a c => !(a == i) && !(a + 1 == i && c == 2)) q.1 q.2.category)) = (i, cn_rv en (.int x)) :: cn_lv en (lv.filter (fun q => (fun a c => !(a == i) && !(a + 1 == i && c == 2)) q.1 q.2.category)) := rfl
    rw [e3, ← e1]
    exact h'
  exact cn_lv_pick pk e2
theorem cn_lstore_n {l : Launch} {en : cn_E} {mi : cn_M} {d kc ks : Nat} {S : cn_S} {I : cn_I} {P : cn_P} {Q : Option Value → cn_S → cn_I → cn_P → Prop} {pc pc' : Nat} {lv : List (Nat × Value)} {st : List Value} {lv' : List (Nat × Value)} {j : Fin 4} {i : Nat} {x : Int64} (hi : (j : Nat) = i) (pk : List Nat) (hn : i + 1 < mi.2.2.1) (hlv : cn_st2 i (.long x) lv pk = lv') (hd : decode mi.2.1 pc = .ok (.lstore_n j, 1)) (hp : pc + 1 = pc') (K : cn_V l en mi d kc ks S I P Q pc' lv' st) : cn_V l en mi d kc ks S I P Q pc lv (.long x :: st) := by
  subst hp; subst hlv
  intro p e R s m args below meth c Z H locs cells slots ls C hc hs hH hS hl hk
  refine lv_lstore_n C.1 C.2.1 hd hi hl hn rfl (fun ls' h' => K p e R s m args below meth c Z H locs cells slots ls' C hc hs hH hS ?_ hk)
  have e1 := cn_lv_filter en lv (fun a c => !(a == i) && (!(a == i + 1) && !(a + 1 == i && c == 2)))
  have e2 : lv_has ls' mi.2.2.1 (cn_lv en ((i, .long x) :: lv.filter (fun q => (fun a c => !(a == i) && (!(a == i + 1) && !(a + 1 == i && c == 2))) q.1 q.2.category))) := by
    have e3 : cn_lv en ((i, .long x) :: lv.filter (fun q => (fun a c => !(a == i) && (!(a == i + 1) && !(a + 1 == i && c == 2))) q.1 q.2.category)) = (i, cn_rv en (.long x)) :: cn_lv en (lv.filter (fun q => (fun a c => !(a == i) && (!(a == i + 1) && !(a + 1 == i && c == 2))) q.1 q.2.category)) := rfl
    rw [e3, ← e1]
    exact h'
  exact cn_lv_pick pk e2
theorem cn_lstore {l : Launch} {en : cn_E} {mi : cn_M} {d kc ks : Nat} {S : cn_S} {I : cn_I} {P : cn_P} {Q : Option Value → cn_S → cn_I → cn_P → Prop} {pc pc' : Nat} {lv : List (Nat × Value)} {st : List Value} {lv' : List (Nat × Value)} {i : Nat} {x : Int64} (pk : List Nat) (hn : i + 1 < mi.2.2.1) (hlv : cn_st2 i (.long x) lv pk = lv') (hd : decode mi.2.1 pc = .ok (.lstore i, 2)) (hp : pc + 2 = pc') (K : cn_V l en mi d kc ks S I P Q pc' lv' st) : cn_V l en mi d kc ks S I P Q pc lv (.long x :: st) := by
  subst hp; subst hlv
  intro p e R s m args below meth c Z H locs cells slots ls C hc hs hH hS hl hk
  refine lv_lstore C.1 C.2.1 hd hl hn rfl (fun ls' h' => K p e R s m args below meth c Z H locs cells slots ls' C hc hs hH hS ?_ hk)
  have e1 := cn_lv_filter en lv (fun a c => !(a == i) && (!(a == i + 1) && !(a + 1 == i && c == 2)))
  have e2 : lv_has ls' mi.2.2.1 (cn_lv en ((i, .long x) :: lv.filter (fun q => (fun a c => !(a == i) && (!(a == i + 1) && !(a + 1 == i && c == 2))) q.1 q.2.category))) := by
    have e3 : cn_lv en ((i, .long x) :: lv.filter (fun q => (fun a c => !(a == i) && (!(a == i + 1) && !(a + 1 == i && c == 2))) q.1 q.2.category)) = (i, cn_rv en (.long x)) :: cn_lv en (lv.filter (fun q => (fun a c => !(a == i) && (!(a == i + 1) && !(a + 1 == i && c == 2))) q.1 q.2.category)) := rfl
    rw [e3, ← e1]
    exact h'
  exact cn_lv_pick pk e2
theorem cn_astore_n {l : Launch} {en : cn_E} {mi : cn_M} {d kc ks : Nat} {S : cn_S} {I : cn_I} {P : cn_P} {Q : Option Value → cn_S → cn_I → cn_P → Prop} {pc pc' : Nat} {lv : List (Nat × Value)} {st : List Value} {lv' : List (Nat × Value)} {j : Fin 4} {i : Nat} {x : Nat} (hi : (j : Nat) = i) (pk : List Nat) (hn : i < mi.2.2.1) (hlv : cn_st i (.ref x) lv pk = lv') (hd : decode mi.2.1 pc = .ok (.astore_n j, 1)) (hp : pc + 1 = pc') (K : cn_V l en mi d kc ks S I P Q pc' lv' st) : cn_V l en mi d kc ks S I P Q pc lv (.ref x :: st) := by
  subst hp; subst hlv
  intro p e R s m args below meth c Z H locs cells slots ls C hc hs hH hS hl hk
  refine lv_astore_n C.1 C.2.1 hd hi hl hn rfl (fun ls' h' => K p e R s m args below meth c Z H locs cells slots ls' C hc hs hH hS ?_ hk)
  have e1 := cn_lv_filter en lv (fun a c => !(a == i) && !(a + 1 == i && c == 2))
  have e2 : lv_has ls' mi.2.2.1 (cn_lv en ((i, .ref x) :: lv.filter (fun q => (fun a c => !(a == i) && !(a + 1 == i && c == 2)) q.1 q.2.category))) := by
    have e3 : cn_lv en ((i, .ref x) :: lv.filter (fun q => (fun a c => !(a == i) && !(a + 1 == i && c == 2)) q.1 q.2.category)) = (i, cn_rv en (.ref x)) :: cn_lv en (lv.filter (fun q => (fun a c => !(a == i) && !(a + 1 == i && c == 2)) q.1 q.2.category)) := rfl
    rw [e3, ← e1]
    exact h'
  exact cn_lv_pick pk e2
theorem cn_astore {l : Launch} {en : cn_E} {mi : cn_M} {d kc ks : Nat} {S : cn_S} {I : cn_I} {P : cn_P} {Q : Option Value → cn_S → cn_I → cn_P → Prop} {pc pc' : Nat} {lv : List (Nat × Value)} {st : List Value} {lv' : List (Nat × Value)} {i : Nat} {x : Nat} (pk : List Nat) (hn : i < mi.2.2.1) (hlv : cn_st i (.ref x) lv pk = lv') (hd : decode mi.2.1 pc = .ok (.astore i, 2)) (hp : pc + 2 = pc') (K : cn_V l en mi d kc ks S I P Q pc' lv' st) : cn_V l en mi d kc ks S I P Q pc lv (.ref x :: st) := by
  subst hp; subst hlv
  intro p e R s m args below meth c Z H locs cells slots ls C hc hs hH hS hl hk
  refine lv_astore C.1 C.2.1 hd hl hn rfl (fun ls' h' => K p e R s m args below meth c Z H locs cells slots ls' C hc hs hH hS ?_ hk)
  have e1 := cn_lv_filter en lv (fun a c => !(a == i) && !(a + 1 == i && c == 2))
  have e2 : lv_has ls' mi.2.2.1 (cn_lv en ((i, .ref x) :: lv.filter (fun q => (fun a c => !(a == i) && !(a + 1 == i && c == 2)) q.1 q.2.category))) := by
    have e3 : cn_lv en ((i, .ref x) :: lv.filter (fun q => (fun a c => !(a == i) && !(a + 1 == i && c == 2)) q.1 q.2.category)) = (i, cn_rv en (.ref x)) :: cn_lv en (lv.filter (fun q => (fun a c => !(a == i) && !(a + 1 == i && c == 2)) q.1 q.2.category)) := rfl
    rw [e3, ← e1]
    exact h'
  exact cn_lv_pick pk e2
theorem cn_iinc {l : Launch} {en : cn_E} {mi : cn_M} {d kc ks : Nat} {S : cn_S} {I : cn_I} {P : cn_P} {Q : Option Value → cn_S → cn_I → cn_P → Prop} {pc pc' : Nat} {lv : List (Nat × Value)} {st : List Value} {lv' : List (Nat × Value)} {i k : Nat} {n : Int} {x v : Int32} (pk : List Nat) (hk0 : lv[k]? = some (i, .int x)) (hv : x + Int32.ofInt n = v) (hn : i < mi.2.2.1) (hlv : cn_st i (.int v) lv pk = lv') (hd : decode mi.2.1 pc = .ok (.iinc i n, 3)) (hp : pc + 3 = pc') (K : cn_V l en mi d kc ks S I P Q pc' lv' st) : cn_V l en mi d kc ks S I P Q pc lv st := by
  subst hp; subst hlv
  intro p e R s m args below meth c Z H locs cells slots ls C hc hs hH hS hl hk
  have hkk : (cn_lv en lv)[k]? = some (i, .int x) := by simp [cn_lv, List.getElem?_map, hk0, cn_rv]
  refine lv_iinc C.1 C.2.1 hd hl hkk hv hn rfl (fun ls' h' => K p e R s m args below meth c Z H locs cells slots ls' C hc hs hH hS ?_ hk)
  have e1 := cn_lv_filter en lv (fun a c => !(a == i) && !(a + 1 == i && c == 2))
  have e2 : lv_has ls' mi.2.2.1 (cn_lv en ((i, .int v) :: lv.filter (fun q => (fun a c => !(a == i) && !(a + 1 == i && c == 2)) q.1 q.2.category))) := by
    have e3 : cn_lv en ((i, .int v) :: lv.filter (fun q => (fun a c => !(a == i) && !(a + 1 == i && c == 2)) q.1 q.2.category)) = (i, cn_rv en (.int v)) :: cn_lv en (lv.filter (fun q => (fun a c => !(a == i) && !(a + 1 == i && c == 2)) q.1 q.2.category)) := rfl
    rw [e3, ← e1]
    exact h'
  exact cn_lv_pick pk e2
theorem cn_iadd {l : Launch} {en : cn_E} {mi : cn_M} {d kc ks : Nat} {S : cn_S} {I : cn_I} {P : cn_P} {Q : Option Value → cn_S → cn_I → cn_P → Prop} {pc pc' : Nat} {lv : List (Nat × Value)} {st : List Value} {x y : Int32} (hd : decode mi.2.1 pc = .ok (.iadd, 1)) (hp : pc + 1 = pc') (K : cn_V l en mi d kc ks S I P Q pc' lv (.int (x + y) :: st)) : cn_V l en mi d kc ks S I P Q pc lv (.int y :: .int x :: st) := by
  subst hp
  intro p e R s m args below meth c Z H locs cells slots ls C hc hs hH hS hl hk
  exact lv_iadd C.1 C.2.1 hd (K p e R s m args below meth c Z H locs cells slots ls C hc hs hH hS hl hk)
theorem cn_isub {l : Launch} {en : cn_E} {mi : cn_M} {d kc ks : Nat} {S : cn_S} {I : cn_I} {P : cn_P} {Q : Option Value → cn_S → cn_I → cn_P → Prop} {pc pc' : Nat} {lv : List (Nat × Value)} {st : List Value} {x y : Int32} (hd : decode mi.2.1 pc = .ok (.isub, 1)) (hp : pc + 1 = pc') (K : cn_V l en mi d kc ks S I P Q pc' lv (.int (x - y) :: st)) : cn_V l en mi d kc ks S I P Q pc lv (.int y :: .int x :: st) := by
  subst hp
  intro p e R s m args below meth c Z H locs cells slots ls C hc hs hH hS hl hk
  exact lv_isub C.1 C.2.1 hd (K p e R s m args below meth c Z H locs cells slots ls C hc hs hH hS hl hk)
theorem cn_imul {l : Launch} {en : cn_E} {mi : cn_M} {d kc ks : Nat} {S : cn_S} {I : cn_I} {P : cn_P} {Q : Option Value → cn_S → cn_I → cn_P → Prop} {pc pc' : Nat} {lv : List (Nat × Value)} {st : List Value} {x y : Int32} (hd : decode mi.2.1 pc = .ok (.imul, 1)) (hp : pc + 1 = pc') (K : cn_V l en mi d kc ks S I P Q pc' lv (.int (x * y) :: st)) : cn_V l en mi d kc ks S I P Q pc lv (.int y :: .int x :: st) := by
  subst hp
  intro p e R s m args below meth c Z H locs cells slots ls C hc hs hH hS hl hk
  exact lv_imul C.1 C.2.1 hd (K p e R s m args below meth c Z H locs cells slots ls C hc hs hH hS hl hk)
theorem cn_iand {l : Launch} {en : cn_E} {mi : cn_M} {d kc ks : Nat} {S : cn_S} {I : cn_I} {P : cn_P} {Q : Option Value → cn_S → cn_I → cn_P → Prop} {pc pc' : Nat} {lv : List (Nat × Value)} {st : List Value} {x y : Int32} (hd : decode mi.2.1 pc = .ok (.iand, 1)) (hp : pc + 1 = pc') (K : cn_V l en mi d kc ks S I P Q pc' lv (.int (x &&& y) :: st)) : cn_V l en mi d kc ks S I P Q pc lv (.int y :: .int x :: st) := by
  subst hp
  intro p e R s m args below meth c Z H locs cells slots ls C hc hs hH hS hl hk
  exact lv_iand C.1 C.2.1 hd (K p e R s m args below meth c Z H locs cells slots ls C hc hs hH hS hl hk)
theorem cn_ior {l : Launch} {en : cn_E} {mi : cn_M} {d kc ks : Nat} {S : cn_S} {I : cn_I} {P : cn_P} {Q : Option Value → cn_S → cn_I → cn_P → Prop} {pc pc' : Nat} {lv : List (Nat × Value)} {st : List Value} {x y : Int32} (hd : decode mi.2.1 pc = .ok (.ior, 1)) (hp : pc + 1 = pc') (K : cn_V l en mi d kc ks S I P Q pc' lv (.int (x ||| y) :: st)) : cn_V l en mi d kc ks S I P Q pc lv (.int y :: .int x :: st) := by
  subst hp
  intro p e R s m args below meth c Z H locs cells slots ls C hc hs hH hS hl hk
  exact lv_ior C.1 C.2.1 hd (K p e R s m args below meth c Z H locs cells slots ls C hc hs hH hS hl hk)
theorem cn_ishl {l : Launch} {en : cn_E} {mi : cn_M} {d kc ks : Nat} {S : cn_S} {I : cn_I} {P : cn_P} {Q : Option Value → cn_S → cn_I → cn_P → Prop} {pc pc' : Nat} {lv : List (Nat × Value)} {st : List Value} {x y : Int32} (hd : decode mi.2.1 pc = .ok (.ishl, 1)) (hp : pc + 1 = pc') (K : cn_V l en mi d kc ks S I P Q pc' lv (.int (x <<< (y &&& 31)) :: st)) : cn_V l en mi d kc ks S I P Q pc lv (.int y :: .int x :: st) := by
  subst hp
  intro p e R s m args below meth c Z H locs cells slots ls C hc hs hH hS hl hk
  exact lv_ishl C.1 C.2.1 hd (K p e R s m args below meth c Z H locs cells slots ls C hc hs hH hS hl hk)
theorem cn_ishr {l : Launch} {en : cn_E} {mi : cn_M} {d kc ks : Nat} {S : cn_S} {I : cn_I} {P : cn_P} {Q : Option Value → cn_S → cn_I → cn_P → Prop} {pc pc' : Nat} {lv : List (Nat × Value)} {st : List Value} {x y : Int32} (hd : decode mi.2.1 pc = .ok (.ishr, 1)) (hp : pc + 1 = pc') (K : cn_V l en mi d kc ks S I P Q pc' lv (.int (x >>> (y &&& 31)) :: st)) : cn_V l en mi d kc ks S I P Q pc lv (.int y :: .int x :: st) := by
  subst hp
  intro p e R s m args below meth c Z H locs cells slots ls C hc hs hH hS hl hk
  exact lv_ishr C.1 C.2.1 hd (K p e R s m args below meth c Z H locs cells slots ls C hc hs hH hS hl hk)
theorem cn_ladd {l : Launch} {en : cn_E} {mi : cn_M} {d kc ks : Nat} {S : cn_S} {I : cn_I} {P : cn_P} {Q : Option Value → cn_S → cn_I → cn_P → Prop} {pc pc' : Nat} {lv : List (Nat × Value)} {st : List Value} {x y : Int64} (hd : decode mi.2.1 pc = .ok (.ladd, 1)) (hp : pc + 1 = pc') (K : cn_V l en mi d kc ks S I P Q pc' lv (.long (x + y) :: st)) : cn_V l en mi d kc ks S I P Q pc lv (.long y :: .long x :: st) := by
  subst hp
  intro p e R s m args below meth c Z H locs cells slots ls C hc hs hH hS hl hk
  exact lv_ladd C.1 C.2.1 hd (K p e R s m args below meth c Z H locs cells slots ls C hc hs hH hS hl hk)
theorem cn_land {l : Launch} {en : cn_E} {mi : cn_M} {d kc ks : Nat} {S : cn_S} {I : cn_I} {P : cn_P} {Q : Option Value → cn_S → cn_I → cn_P → Prop} {pc pc' : Nat} {lv : List (Nat × Value)} {st : List Value} {x y : Int64} (hd : decode mi.2.1 pc = .ok (.land, 1)) (hp : pc + 1 = pc') (K : cn_V l en mi d kc ks S I P Q pc' lv (.long (x &&& y) :: st)) : cn_V l en mi d kc ks S I P Q pc lv (.long y :: .long x :: st) := by
  subst hp
  intro p e R s m args below meth c Z H locs cells slots ls C hc hs hH hS hl hk
  exact lv_land C.1 C.2.1 hd (K p e R s m args below meth c Z H locs cells slots ls C hc hs hH hS hl hk)
theorem cn_lor {l : Launch} {en : cn_E} {mi : cn_M} {d kc ks : Nat} {S : cn_S} {I : cn_I} {P : cn_P} {Q : Option Value → cn_S → cn_I → cn_P → Prop} {pc pc' : Nat} {lv : List (Nat × Value)} {st : List Value} {x y : Int64} (hd : decode mi.2.1 pc = .ok (.lor, 1)) (hp : pc + 1 = pc') (K : cn_V l en mi d kc ks S I P Q pc' lv (.long (x ||| y) :: st)) : cn_V l en mi d kc ks S I P Q pc lv (.long y :: .long x :: st) := by
  subst hp
  intro p e R s m args below meth c Z H locs cells slots ls C hc hs hH hS hl hk
  exact lv_lor C.1 C.2.1 hd (K p e R s m args below meth c Z H locs cells slots ls C hc hs hH hS hl hk)
theorem cn_lshl {l : Launch} {en : cn_E} {mi : cn_M} {d kc ks : Nat} {S : cn_S} {I : cn_I} {P : cn_P} {Q : Option Value → cn_S → cn_I → cn_P → Prop} {pc pc' : Nat} {lv : List (Nat × Value)} {st : List Value} {x : Int64} {y : Int32} (hd : decode mi.2.1 pc = .ok (.lshl, 1)) (hp : pc + 1 = pc') (K : cn_V l en mi d kc ks S I P Q pc' lv (.long (x <<< (y.toInt64 &&& 63)) :: st)) : cn_V l en mi d kc ks S I P Q pc lv (.int y :: .long x :: st) := by
  subst hp
  intro p e R s m args below meth c Z H locs cells slots ls C hc hs hH hS hl hk
  exact lv_lshl C.1 C.2.1 hd rfl (K p e R s m args below meth c Z H locs cells slots ls C hc hs hH hS hl hk)
theorem cn_lshr {l : Launch} {en : cn_E} {mi : cn_M} {d kc ks : Nat} {S : cn_S} {I : cn_I} {P : cn_P} {Q : Option Value → cn_S → cn_I → cn_P → Prop} {pc pc' : Nat} {lv : List (Nat × Value)} {st : List Value} {x : Int64} {y : Int32} (hd : decode mi.2.1 pc = .ok (.lshr, 1)) (hp : pc + 1 = pc') (K : cn_V l en mi d kc ks S I P Q pc' lv (.long (x >>> (y.toInt64 &&& 63)) :: st)) : cn_V l en mi d kc ks S I P Q pc lv (.int y :: .long x :: st) := by
  subst hp
  intro p e R s m args below meth c Z H locs cells slots ls C hc hs hH hS hl hk
  exact lv_lshr C.1 C.2.1 hd rfl (K p e R s m args below meth c Z H locs cells slots ls C hc hs hH hS hl hk)
theorem cn_i2l {l : Launch} {en : cn_E} {mi : cn_M} {d kc ks : Nat} {S : cn_S} {I : cn_I} {P : cn_P} {Q : Option Value → cn_S → cn_I → cn_P → Prop} {pc pc' : Nat} {lv : List (Nat × Value)} {st : List Value} {x : Int32} (hd : decode mi.2.1 pc = .ok (.i2l, 1)) (hp : pc + 1 = pc') (K : cn_V l en mi d kc ks S I P Q pc' lv (.long x.toInt64 :: st)) : cn_V l en mi d kc ks S I P Q pc lv (.int x :: st) := by
  subst hp
  intro p e R s m args below meth c Z H locs cells slots ls C hc hs hH hS hl hk
  exact lv_i2l C.1 C.2.1 hd rfl (K p e R s m args below meth c Z H locs cells slots ls C hc hs hH hS hl hk)
theorem cn_l2i {l : Launch} {en : cn_E} {mi : cn_M} {d kc ks : Nat} {S : cn_S} {I : cn_I} {P : cn_P} {Q : Option Value → cn_S → cn_I → cn_P → Prop} {pc pc' : Nat} {lv : List (Nat × Value)} {st : List Value} {x : Int64} (hd : decode mi.2.1 pc = .ok (.l2i, 1)) (hp : pc + 1 = pc') (K : cn_V l en mi d kc ks S I P Q pc' lv (.int x.toInt32 :: st)) : cn_V l en mi d kc ks S I P Q pc lv (.long x :: st) := by
  subst hp
  intro p e R s m args below meth c Z H locs cells slots ls C hc hs hH hS hl hk
  exact lv_l2i C.1 C.2.1 hd rfl (K p e R s m args below meth c Z H locs cells slots ls C hc hs hH hS hl hk)
theorem cn_i2b {l : Launch} {en : cn_E} {mi : cn_M} {d kc ks : Nat} {S : cn_S} {I : cn_I} {P : cn_P} {Q : Option Value → cn_S → cn_I → cn_P → Prop} {pc pc' : Nat} {lv : List (Nat × Value)} {st : List Value} {x : Int32} (hd : decode mi.2.1 pc = .ok (.i2b, 1)) (hp : pc + 1 = pc') (K : cn_V l en mi d kc ks S I P Q pc' lv (.int x.toInt8.toInt32 :: st)) : cn_V l en mi d kc ks S I P Q pc lv (.int x :: st) := by
  subst hp
  intro p e R s m args below meth c Z H locs cells slots ls C hc hs hH hS hl hk
  exact lv_i2b C.1 C.2.1 hd rfl (K p e R s m args below meth c Z H locs cells slots ls C hc hs hH hS hl hk)
theorem cn_lcmp {l : Launch} {en : cn_E} {mi : cn_M} {d kc ks : Nat} {S : cn_S} {I : cn_I} {P : cn_P} {Q : Option Value → cn_S → cn_I → cn_P → Prop} {pc pc' : Nat} {lv : List (Nat × Value)} {st : List Value} {x y : Int64} (hd : decode mi.2.1 pc = .ok (.lcmp, 1)) (hp : pc + 1 = pc') (K : cn_V l en mi d kc ks S I P Q pc' lv (.int (lg_cmp x y) :: st)) : cn_V l en mi d kc ks S I P Q pc lv (.long y :: .long x :: st) := by
  subst hp
  intro p e R s m args below meth c Z H locs cells slots ls C hc hs hH hS hl hk
  exact W.lcmp C.1 C.2.1 hd (K p e R s m args below meth c Z H locs cells slots ls C hc hs hH hS hl hk)
theorem cn_dup {l : Launch} {en : cn_E} {mi : cn_M} {d kc ks : Nat} {S : cn_S} {I : cn_I} {P : cn_P} {Q : Option Value → cn_S → cn_I → cn_P → Prop} {pc pc' : Nat} {lv : List (Nat × Value)} {st : List Value} {v : Value} (hv : v.category = 1) (hd : decode mi.2.1 pc = .ok (.dup, 1)) (hp : pc + 1 = pc') (K : cn_V l en mi d kc ks S I P Q pc' lv (v :: v :: st)) : cn_V l en mi d kc ks S I P Q pc lv (v :: st) := by
  subst hp
  intro p e R s m args below meth c Z H locs cells slots ls C hc hs hH hS hl hk
  exact lv_dup C.1 C.2.1 hd (by rw [cn_rv_cat]; exact hv) (K p e R s m args below meth c Z H locs cells slots ls C hc hs hH hS hl hk)
theorem cn_pop {l : Launch} {en : cn_E} {mi : cn_M} {d kc ks : Nat} {S : cn_S} {I : cn_I} {P : cn_P} {Q : Option Value → cn_S → cn_I → cn_P → Prop} {pc pc' : Nat} {lv : List (Nat × Value)} {st : List Value} {v : Value} (hv : v.category = 1) (hd : decode mi.2.1 pc = .ok (.pop, 1)) (hp : pc + 1 = pc') (K : cn_V l en mi d kc ks S I P Q pc' lv st) : cn_V l en mi d kc ks S I P Q pc lv (v :: st) := by
  subst hp
  intro p e R s m args below meth c Z H locs cells slots ls C hc hs hH hS hl hk
  exact lv_pop C.1 C.2.1 hd (by rw [cn_rv_cat]; exact hv) (K p e R s m args below meth c Z H locs cells slots ls C hc hs hH hS hl hk)
theorem cn_dup2 {l : Launch} {en : cn_E} {mi : cn_M} {d kc ks : Nat} {S : cn_S} {I : cn_I} {P : cn_P} {Q : Option Value → cn_S → cn_I → cn_P → Prop} {pc pc' : Nat} {lv : List (Nat × Value)} {st : List Value} {v w : Value} (hv : v.category = 1) (hw : w.category = 1) (hd : decode mi.2.1 pc = .ok (.dup2, 1)) (hp : pc + 1 = pc') (K : cn_V l en mi d kc ks S I P Q pc' lv (v :: w :: v :: w :: st)) : cn_V l en mi d kc ks S I P Q pc lv (v :: w :: st) := by
  subst hp
  intro p e R s m args below meth c Z H locs cells slots ls C hc hs hH hS hl hk
  exact lv_dup2_11 C.1 C.2.1 hd (by rw [cn_rv_cat]; exact hv) (by rw [cn_rv_cat]; exact hw) (K p e R s m args below meth c Z H locs cells slots ls C hc hs hH hS hl hk)
theorem cn_if_eq {l : Launch} {en : cn_E} {mi : cn_M} {d kc ks : Nat} {S : cn_S} {I : cn_I} {P : cn_P} {Q : Option Value → cn_S → cn_I → cn_P → Prop} {pc pc' : Nat} {lv : List (Nat × Value)} {st : List Value} {x : Int32} {off : Int} {tgt : Nat} (hd : decode mi.2.1 pc = .ok (.ifCond .eq off, 3)) (ht : (pc : Int) + off = (tgt : Int)) (hp : pc + 3 = pc') (kt : x = 0 → cn_V l en mi d kc ks S I P Q tgt lv st) (kf : ¬ x = 0 → cn_V l en mi d kc ks S I P Q pc' lv st) : cn_V l en mi d kc ks S I P Q pc lv (.int x :: st) := by
  subst hp
  intro p e R s m args below meth c Z H locs cells slots ls C hc hs hH hS hl hk
  exact lv_if_eq C.1 C.2.1 hd ht (fun h => kt h p e R s m args below meth c Z H locs cells slots ls C hc hs hH hS hl hk) (fun h => kf h p e R s m args below meth c Z H locs cells slots ls C hc hs hH hS hl hk)
theorem cn_icmp_eq {l : Launch} {en : cn_E} {mi : cn_M} {d kc ks : Nat} {S : cn_S} {I : cn_I} {P : cn_P} {Q : Option Value → cn_S → cn_I → cn_P → Prop} {pc pc' : Nat} {lv : List (Nat × Value)} {st : List Value} {x y : Int32} {off : Int} {tgt : Nat} (hd : decode mi.2.1 pc = .ok (.if_icmp .eq off, 3)) (ht : (pc : Int) + off = (tgt : Int)) (hp : pc + 3 = pc') (kt : x = y → cn_V l en mi d kc ks S I P Q tgt lv st) (kf : ¬ x = y → cn_V l en mi d kc ks S I P Q pc' lv st) : cn_V l en mi d kc ks S I P Q pc lv (.int y :: .int x :: st) := by
  subst hp
  intro p e R s m args below meth c Z H locs cells slots ls C hc hs hH hS hl hk
  exact lv_icmp_eq C.1 C.2.1 hd ht (fun h => kt h p e R s m args below meth c Z H locs cells slots ls C hc hs hH hS hl hk) (fun h => kf h p e R s m args below meth c Z H locs cells slots ls C hc hs hH hS hl hk)
theorem cn_if_ne {l : Launch} {en : cn_E} {mi : cn_M} {d kc ks : Nat} {S : cn_S} {I : cn_I} {P : cn_P} {Q : Option Value → cn_S → cn_I → cn_P → Prop} {pc pc' : Nat} {lv : List (Nat × Value)} {st : List Value} {x : Int32} {off : Int} {tgt : Nat} (hd : decode mi.2.1 pc = .ok (.ifCond .ne off, 3)) (ht : (pc : Int) + off = (tgt : Int)) (hp : pc + 3 = pc') (kt : ¬ x = 0 → cn_V l en mi d kc ks S I P Q tgt lv st) (kf : x = 0 → cn_V l en mi d kc ks S I P Q pc' lv st) : cn_V l en mi d kc ks S I P Q pc lv (.int x :: st) := by
  subst hp
  intro p e R s m args below meth c Z H locs cells slots ls C hc hs hH hS hl hk
  exact lv_if_ne C.1 C.2.1 hd ht (fun h => kt h p e R s m args below meth c Z H locs cells slots ls C hc hs hH hS hl hk) (fun h => kf h p e R s m args below meth c Z H locs cells slots ls C hc hs hH hS hl hk)
theorem cn_icmp_ne {l : Launch} {en : cn_E} {mi : cn_M} {d kc ks : Nat} {S : cn_S} {I : cn_I} {P : cn_P} {Q : Option Value → cn_S → cn_I → cn_P → Prop} {pc pc' : Nat} {lv : List (Nat × Value)} {st : List Value} {x y : Int32} {off : Int} {tgt : Nat} (hd : decode mi.2.1 pc = .ok (.if_icmp .ne off, 3)) (ht : (pc : Int) + off = (tgt : Int)) (hp : pc + 3 = pc') (kt : ¬ x = y → cn_V l en mi d kc ks S I P Q tgt lv st) (kf : x = y → cn_V l en mi d kc ks S I P Q pc' lv st) : cn_V l en mi d kc ks S I P Q pc lv (.int y :: .int x :: st) := by
  subst hp
  intro p e R s m args below meth c Z H locs cells slots ls C hc hs hH hS hl hk
  exact lv_icmp_ne C.1 C.2.1 hd ht (fun h => kt h p e R s m args below meth c Z H locs cells slots ls C hc hs hH hS hl hk) (fun h => kf h p e R s m args below meth c Z H locs cells slots ls C hc hs hH hS hl hk)
theorem cn_if_lt {l : Launch} {en : cn_E} {mi : cn_M} {d kc ks : Nat} {S : cn_S} {I : cn_I} {P : cn_P} {Q : Option Value → cn_S → cn_I → cn_P → Prop} {pc pc' : Nat} {lv : List (Nat × Value)} {st : List Value} {x : Int32} {off : Int} {tgt : Nat} (hd : decode mi.2.1 pc = .ok (.ifCond .lt off, 3)) (ht : (pc : Int) + off = (tgt : Int)) (hp : pc + 3 = pc') (kt : x < 0 → cn_V l en mi d kc ks S I P Q tgt lv st) (kf : ¬ x < 0 → cn_V l en mi d kc ks S I P Q pc' lv st) : cn_V l en mi d kc ks S I P Q pc lv (.int x :: st) := by
  subst hp
  intro p e R s m args below meth c Z H locs cells slots ls C hc hs hH hS hl hk
  exact lv_if_lt C.1 C.2.1 hd ht (fun h => kt h p e R s m args below meth c Z H locs cells slots ls C hc hs hH hS hl hk) (fun h => kf h p e R s m args below meth c Z H locs cells slots ls C hc hs hH hS hl hk)
theorem cn_icmp_lt {l : Launch} {en : cn_E} {mi : cn_M} {d kc ks : Nat} {S : cn_S} {I : cn_I} {P : cn_P} {Q : Option Value → cn_S → cn_I → cn_P → Prop} {pc pc' : Nat} {lv : List (Nat × Value)} {st : List Value} {x y : Int32} {off : Int} {tgt : Nat} (hd : decode mi.2.1 pc = .ok (.if_icmp .lt off, 3)) (ht : (pc : Int) + off = (tgt : Int)) (hp : pc + 3 = pc') (kt : x < y → cn_V l en mi d kc ks S I P Q tgt lv st) (kf : ¬ x < y → cn_V l en mi d kc ks S I P Q pc' lv st) : cn_V l en mi d kc ks S I P Q pc lv (.int y :: .int x :: st) := by
  subst hp
  intro p e R s m args below meth c Z H locs cells slots ls C hc hs hH hS hl hk
  exact lv_icmp_lt C.1 C.2.1 hd ht (fun h => kt h p e R s m args below meth c Z H locs cells slots ls C hc hs hH hS hl hk) (fun h => kf h p e R s m args below meth c Z H locs cells slots ls C hc hs hH hS hl hk)
theorem cn_if_ge {l : Launch} {en : cn_E} {mi : cn_M} {d kc ks : Nat} {S : cn_S} {I : cn_I} {P : cn_P} {Q : Option Value → cn_S → cn_I → cn_P → Prop} {pc pc' : Nat} {lv : List (Nat × Value)} {st : List Value} {x : Int32} {off : Int} {tgt : Nat} (hd : decode mi.2.1 pc = .ok (.ifCond .ge off, 3)) (ht : (pc : Int) + off = (tgt : Int)) (hp : pc + 3 = pc') (kt : 0 ≤ x → cn_V l en mi d kc ks S I P Q tgt lv st) (kf : ¬ 0 ≤ x → cn_V l en mi d kc ks S I P Q pc' lv st) : cn_V l en mi d kc ks S I P Q pc lv (.int x :: st) := by
  subst hp
  intro p e R s m args below meth c Z H locs cells slots ls C hc hs hH hS hl hk
  exact lv_if_ge C.1 C.2.1 hd ht (fun h => kt h p e R s m args below meth c Z H locs cells slots ls C hc hs hH hS hl hk) (fun h => kf h p e R s m args below meth c Z H locs cells slots ls C hc hs hH hS hl hk)
theorem cn_icmp_ge {l : Launch} {en : cn_E} {mi : cn_M} {d kc ks : Nat} {S : cn_S} {I : cn_I} {P : cn_P} {Q : Option Value → cn_S → cn_I → cn_P → Prop} {pc pc' : Nat} {lv : List (Nat × Value)} {st : List Value} {x y : Int32} {off : Int} {tgt : Nat} (hd : decode mi.2.1 pc = .ok (.if_icmp .ge off, 3)) (ht : (pc : Int) + off = (tgt : Int)) (hp : pc + 3 = pc') (kt : y ≤ x → cn_V l en mi d kc ks S I P Q tgt lv st) (kf : ¬ y ≤ x → cn_V l en mi d kc ks S I P Q pc' lv st) : cn_V l en mi d kc ks S I P Q pc lv (.int y :: .int x :: st) := by
  subst hp
  intro p e R s m args below meth c Z H locs cells slots ls C hc hs hH hS hl hk
  exact lv_icmp_ge C.1 C.2.1 hd ht (fun h => kt h p e R s m args below meth c Z H locs cells slots ls C hc hs hH hS hl hk) (fun h => kf h p e R s m args below meth c Z H locs cells slots ls C hc hs hH hS hl hk)
theorem cn_if_gt {l : Launch} {en : cn_E} {mi : cn_M} {d kc ks : Nat} {S : cn_S} {I : cn_I} {P : cn_P} {Q : Option Value → cn_S → cn_I → cn_P → Prop} {pc pc' : Nat} {lv : List (Nat × Value)} {st : List Value} {x : Int32} {off : Int} {tgt : Nat} (hd : decode mi.2.1 pc = .ok (.ifCond .gt off, 3)) (ht : (pc : Int) + off = (tgt : Int)) (hp : pc + 3 = pc') (kt : 0 < x → cn_V l en mi d kc ks S I P Q tgt lv st) (kf : ¬ 0 < x → cn_V l en mi d kc ks S I P Q pc' lv st) : cn_V l en mi d kc ks S I P Q pc lv (.int x :: st) := by
  subst hp
  intro p e R s m args below meth c Z H locs cells slots ls C hc hs hH hS hl hk
  exact lv_if_gt C.1 C.2.1 hd ht (fun h => kt h p e R s m args below meth c Z H locs cells slots ls C hc hs hH hS hl hk) (fun h => kf h p e R s m args below meth c Z H locs cells slots ls C hc hs hH hS hl hk)
theorem cn_icmp_gt {l : Launch} {en : cn_E} {mi : cn_M} {d kc ks : Nat} {S : cn_S} {I : cn_I} {P : cn_P} {Q : Option Value → cn_S → cn_I → cn_P → Prop} {pc pc' : Nat} {lv : List (Nat × Value)} {st : List Value} {x y : Int32} {off : Int} {tgt : Nat} (hd : decode mi.2.1 pc = .ok (.if_icmp .gt off, 3)) (ht : (pc : Int) + off = (tgt : Int)) (hp : pc + 3 = pc') (kt : y < x → cn_V l en mi d kc ks S I P Q tgt lv st) (kf : ¬ y < x → cn_V l en mi d kc ks S I P Q pc' lv st) : cn_V l en mi d kc ks S I P Q pc lv (.int y :: .int x :: st) := by
  subst hp
  intro p e R s m args below meth c Z H locs cells slots ls C hc hs hH hS hl hk
  exact lv_icmp_gt C.1 C.2.1 hd ht (fun h => kt h p e R s m args below meth c Z H locs cells slots ls C hc hs hH hS hl hk) (fun h => kf h p e R s m args below meth c Z H locs cells slots ls C hc hs hH hS hl hk)
theorem cn_if_le {l : Launch} {en : cn_E} {mi : cn_M} {d kc ks : Nat} {S : cn_S} {I : cn_I} {P : cn_P} {Q : Option Value → cn_S → cn_I → cn_P → Prop} {pc pc' : Nat} {lv : List (Nat × Value)} {st : List Value} {x : Int32} {off : Int} {tgt : Nat} (hd : decode mi.2.1 pc = .ok (.ifCond .le off, 3)) (ht : (pc : Int) + off = (tgt : Int)) (hp : pc + 3 = pc') (kt : x ≤ 0 → cn_V l en mi d kc ks S I P Q tgt lv st) (kf : ¬ x ≤ 0 → cn_V l en mi d kc ks S I P Q pc' lv st) : cn_V l en mi d kc ks S I P Q pc lv (.int x :: st) := by
  subst hp
  intro p e R s m args below meth c Z H locs cells slots ls C hc hs hH hS hl hk
  exact lv_if_le C.1 C.2.1 hd ht (fun h => kt h p e R s m args below meth c Z H locs cells slots ls C hc hs hH hS hl hk) (fun h => kf h p e R s m args below meth c Z H locs cells slots ls C hc hs hH hS hl hk)
theorem cn_icmp_le {l : Launch} {en : cn_E} {mi : cn_M} {d kc ks : Nat} {S : cn_S} {I : cn_I} {P : cn_P} {Q : Option Value → cn_S → cn_I → cn_P → Prop} {pc pc' : Nat} {lv : List (Nat × Value)} {st : List Value} {x y : Int32} {off : Int} {tgt : Nat} (hd : decode mi.2.1 pc = .ok (.if_icmp .le off, 3)) (ht : (pc : Int) + off = (tgt : Int)) (hp : pc + 3 = pc') (kt : x ≤ y → cn_V l en mi d kc ks S I P Q tgt lv st) (kf : ¬ x ≤ y → cn_V l en mi d kc ks S I P Q pc' lv st) : cn_V l en mi d kc ks S I P Q pc lv (.int y :: .int x :: st) := by
  subst hp
  intro p e R s m args below meth c Z H locs cells slots ls C hc hs hH hS hl hk
  exact lv_icmp_le C.1 C.2.1 hd ht (fun h => kt h p e R s m args below meth c Z H locs cells slots ls C hc hs hH hS hl hk) (fun h => kf h p e R s m args below meth c Z H locs cells slots ls C hc hs hH hS hl hk)
theorem cn_goto {l : Launch} {en : cn_E} {mi : cn_M} {d kc ks : Nat} {S : cn_S} {I : cn_I} {P : cn_P} {Q : Option Value → cn_S → cn_I → cn_P → Prop} {pc : Nat} {lv : List (Nat × Value)} {st : List Value} {off : Int} {tgt : Nat} (hd : decode mi.2.1 pc = .ok (.goto off, 3)) (ht : (pc : Int) + off = (tgt : Int)) (K : cn_V l en mi d kc ks S I P Q tgt lv st) : cn_V l en mi d kc ks S I P Q pc lv st := by
  intro p e R s m args below meth c Z H locs cells slots ls C hc hs hH hS hl hk
  exact lv_goto C.1 C.2.1 hd ht (K p e R s m args below meth c Z H locs cells slots ls C hc hs hH hS hl hk)
theorem cn_tableOut {l : Launch} {en : cn_E} {mi : cn_M} {d kc ks : Nat} {S : cn_S} {I : cn_I} {P : cn_P} {Q : Option Value → cn_S → cn_I → cn_P → Prop} {pc : Nat} {lv : List (Nat × Value)} {st : List Value} {dflt lo hi : Int} {offs : Array Int} {len : Nat} {x : Int32} {tgt : Nat} (hd : decode mi.2.1 pc = .ok (.tableswitch dflt lo hi offs, len)) (h : x.toInt < lo ∨ hi < x.toInt) (ht : (pc : Int) + dflt = (tgt : Int)) (K : cn_V l en mi d kc ks S I P Q tgt lv st) : cn_V l en mi d kc ks S I P Q pc lv (.int x :: st) := by
  intro p e R s m args below meth c Z H locs cells slots ls C hc hs hH hS hl hk
  exact lv_tableOut C.1 C.2.1 hd h ht (K p e R s m args below meth c Z H locs cells slots ls C hc hs hH hS hl hk)
theorem cn_tableIn {l : Launch} {en : cn_E} {mi : cn_M} {d kc ks : Nat} {S : cn_S} {I : cn_I} {P : cn_P} {Q : Option Value → cn_S → cn_I → cn_P → Prop} {pc : Nat} {lv : List (Nat × Value)} {st : List Value} {dflt lo hi : Int} {offs : Array Int} {len : Nat} {x : Int32} {off : Int} {tgt : Nat} (hd : decode mi.2.1 pc = .ok (.tableswitch dflt lo hi offs, len)) (h1 : ¬ x.toInt < lo) (h2 : ¬ hi < x.toInt) (ho : offs[(x.toInt - lo).toNat]? = some off) (ht : (pc : Int) + off = (tgt : Int)) (K : cn_V l en mi d kc ks S I P Q tgt lv st) : cn_V l en mi d kc ks S I P Q pc lv (.int x :: st) := by
  intro p e R s m args below meth c Z H locs cells slots ls C hc hs hH hS hl hk
  exact lv_tableIn C.1 C.2.1 hd h1 h2 ho ht (K p e R s m args below meth c Z H locs cells slots ls C hc hs hH hS hl hk)
theorem cn_lookup {l : Launch} {en : cn_E} {mi : cn_M} {d kc ks : Nat} {S : cn_S} {I : cn_I} {P : cn_P} {Q : Option Value → cn_S → cn_I → cn_P → Prop} {pc : Nat} {lv : List (Nat × Value)} {st : List Value} {dflt : Int} {ps : Array (Int × Int)} {len : Nat} {x : Int32} {off : Int} {tgt : Nat} (hd : decode mi.2.1 pc = .ok (.lookupswitch dflt ps, len)) (hps : (ps.toList.zip (ps.toList.drop 1)).all (fun (a, next) => a.1 < next.1) = true) (ho : Op.lookupswitch.offset ps.toList dflt x.toInt = off) (ht : (pc : Int) + off = (tgt : Int)) (K : cn_V l en mi d kc ks S I P Q tgt lv st) : cn_V l en mi d kc ks S I P Q pc lv (.int x :: st) := by
  intro p e R s m args below meth c Z H locs cells slots ls C hc hs hH hS hl hk
  exact lv_lookup C.1 C.2.1 hd hps ho ht (K p e R s m args below meth c Z H locs cells slots ls C hc hs hH hS hl hk)
