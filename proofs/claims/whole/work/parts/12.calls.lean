def cn_wq (P : cn_P) (a : Nat) (f : Nat → Option Nat) : cn_P := fun a' => if a' = a then f else P a'
theorem cn_wq_row {P : cn_P} {a : Nat} {f : Nat → Option Nat} : cn_wq P a f a = f := if_pos rfl
theorem cn_wq_ne {P : cn_P} {a b : Nat} {f : Nat → Option Nat} (h : b ≠ a) : cn_wq P a f b = P b := if_neg h
/-- a cell more -/
def cn_Sn (S : cn_S) (n : Nat) (sh : Nat ⊕ (Nat × Nat)) : cn_S := (S.1 + 1, S.2.1 + n, va_up S.2.2 S.1 sh)
def cn_In (S : cn_S) (I : cn_I) : cn_I := cn_wr I S.1 (fun _ => 0)
def cn_Pn (S : cn_S) (P : cn_P) : cn_P := cn_wq P S.1 (fun _ => none)
theorem cn_In_row {S : cn_S} {I : cn_I} : cn_In S I S.1 = fun _ => 0 := if_pos rfl
theorem cn_In_ne {S : cn_S} {I : cn_I} {b : Nat} (h : b ≠ S.1) : cn_In S I b = I b := if_neg h
theorem cn_Pn_row {S : cn_S} {P : cn_P} : cn_Pn S P S.1 = fun _ => none := if_pos rfl
theorem cn_Pn_ne {S : cn_S} {P : cn_P} {b : Nat} (h : b ≠ S.1) : cn_Pn S P b = P b := if_neg h
theorem cn_H.push {en : cn_E} {S : cn_S} {I : cn_I} {P : cn_P} {H H1 : Heap} {n : Nat} {sh : Nat ⊕ (Nat × Nat)} (hH : cn_H en S I P H) (he : va_at (cn_D en) cn_cl (cn_B en + S.1, cn_cell en (cn_Sn S n sh) (cn_In S I) (cn_Pn S P) S.1) H1) (z : H1.size = H.size + 1) (o1 : ∀ q : Nat, q < H.size → H1[q]? = H[q]?) (hsz : S.1 + 1 ≤ 1000000) : cn_H en (cn_Sn S n sh) (cn_In S I) (cn_Pn S P) H1 := by
  refine ⟨fun k q hk => ?_, by rw [z, hH.2.1]; rfl, fun b m hb j => ?_, hsz⟩
  · obtain ⟨hk1, rfl⟩ := cn_ws_inv hk
    have hk1 : k < S.1 + 1 := hk1
    by_cases hkS : k = S.1
    · subst hkS
      exact he
    · have hlt : k < S.1 := by omega
      have h1 := hH.1 k _ (cn_ws_at hlt)
      have e1 : cn_cell en (cn_Sn S n sh) (cn_In S I) (cn_Pn S P) k = cn_cell en S I P k := by
        have e2 : (cn_Sn S n sh).2.2 k = S.2.2 k := va_up_ne _ _ hkS
        unfold cn_cell
        rw [e2, cn_In_ne hkS, cn_Pn_ne hkS]
      rw [e1]
      exact h1.kept (o1 _ h1.lt)
  · by_cases hbS : b = S.1
    · subst hbS
      rw [cn_In_row]
      rfl
    · have e2 : (cn_Sn S n sh).2.2 b = S.2.2 b := va_up_ne _ _ hbS
      rw [e2] at hb
      rw [cn_In_ne hbS]
      exact hH.2.2.1 b m hb j
theorem cn_Sgrow {en : cn_E} {H0 H H1 : Heap} {locs : List Loc} (hS : va_S (cn_A en) H0 H locs) (z : H1.size = H.size + 1) (o1 : ∀ q : Nat, q < H.size → H1[q]? = H[q]?) : va_S (cn_A en) H0 H1 locs :=
  ⟨Nat.le_trans hS.1 (by omega), fun x h1 h2 => (o1 x (Nat.lt_of_lt_of_le h1 hS.1)).trans (hS.2.1 x h1 h2), hS.2.2⟩
theorem cn_new {l : Launch} {en : cn_E} {mi : cn_M} {d kc ks : Nat} {S : cn_S} {I : cn_I} {P : cn_P} {Q : Option Value → cn_S → cn_I → cn_P → Prop} {pc pc' : Nat} {lv : List (Nat × Value)} {st : List Value} {ci idx kc' ks' : Nat} (hw : cn_nw mi.1.cls idx ci) (hdv : ∀ j, j < cn_NF ci → defaultValue (cn_ft ci j) = if cn_isr (cn_ft ci j) = true then .null else .int 0) (hkc : kc' + 1 ≤ kc) (hks : ks' + cn_NF ci ≤ ks) (hsz : S.1 + 1 ≤ 1000000) (hd : decode mi.2.1 pc = .ok (.new idx, 3)) (hp : pc + 3 = pc') (K : cn_V l en mi d kc' ks' (cn_Sn S (cn_NF ci) (.inl ci)) (cn_In S I) (cn_Pn S P) Q pc' lv (.ref S.1 :: st)) : cn_V l en mi d kc ks S I P Q pc lv st := by
  subst hp
  intro p e R s m args below meth c Z H locs cells slots ls C hc hs hH hS hl hk
  obtain ⟨hx, hb, hml, hr0, hown, hts, hlocks, hname, hK, hX, hbB, hBs, hdF, hdL⟩ := id C
  obtain ⟨C0, T, N, hok, hcl, hinst, hini⟩ := hw
  have hN : cn_NF ci = N := hok.2.2.2.2.1
  have hKn := hK.1.1 ci _ hok.1
  refine W.newcK (n := N) hx hb hown (hts _ hcl) (hts _ hinst) (hts _ hini) rfl hd (by omega) (by omega) hKn.2.1 rfl fun H1 kC hkC e1 z1 o1 => ?_
  have hfs : ∀ j, j < N → defaultValue (cn_ft ci j) = vp_V (cn_fs en ci (fun _ => 0) (fun _ => none)) j := by
    intro j hj
    rw [hdv j (by omega)]
    unfold vp_V
    rw [List.getD_eq_getElem?_getD, cn_fs_at (by omega)]
    simp only [cn_fv, Option.getD_some]
    by_cases hr : cn_isr (cn_ft ci j) = true
    · rw [if_pos hr, if_pos hr]; rfl
    · rw [if_neg hr, if_neg hr]
  have hH1 : cn_H en (cn_Sn S (cn_NF ci) (.inl ci)) (cn_In S I) (cn_Pn S P) H1 := by
    refine hH.push ?_ z1 o1 hsz
    have ec : cn_cell en (cn_Sn S (cn_NF ci) (.inl ci)) (cn_In S I) (cn_Pn S P) S.1 = .inr (ci, cn_fs en ci (fun _ => 0) (fun _ => none)) := by
      have e2 : (cn_Sn S (cn_NF ci) (.inl ci)).2.2 S.1 = .inl ci := va_up_self _ _ _
      unfold cn_cell
      rw [e2, cn_In_row, cn_Pn_row]
    rw [ec]
    rw [hH.2.1] at e1
    exact ⟨_, hok.1, (u_born (cn_ft ci) hts hok.2.1 hKn hkC e1 hok.2.2.1).to hfs⟩
  have eA : (Value.ref H.size : Value) = cn_rv en (.ref S.1) := by
    rw [hH.2.1]
    simp [cn_rv, cn_ad_lt (show S.1 < 1000000 by omega)]
  show W p l e R s m args below meth c H1 locs (cells + 1) (slots + N) Z (F0 m (pc + 3) ls (Value.ref H.size :: st.map (cn_rv en)))
  rw [eA]
  exact K p e R s m args below meth c Z H1 locs (cells + 1) (slots + N) ls C (by omega) (by omega) hH1 (cn_Sgrow hS z1 o1) hl (fun r S' I' P' H' locs' c' s' q' l' a1 a2 a3 a4 a5 a6 => hk r S' I' P' H' locs' c' s' q' l' a1 a2 a3 (by omega) (by omega) a6)
theorem cn_newa {l : Launch} {en : cn_E} {mi : cn_M} {d kc ks : Nat} {S : cn_S} {I : cn_I} {P : cn_P} {Q : Option Value → cn_S → cn_I → cn_P → Prop} {pc pc' : Nat} {lv : List (Nat × Value)} {st : List Value} {t n kc' ks' : Nat} {atype : ArrayType} (ht : t < 3) (hty : newarray.typeOf atype = cn_ty t) (hw : Cond.arrayClass (cn_ty t) ∈ cn_T) (hdv : defaultValue (cn_ty t) = .int 0) (hRA : ∀ (U : State) (cA : ClassId), va_RA U cA (cn_ty t) → U.vm.findClass ("[" ++ (cn_ty t).toString) = some cA) (hb8 : componentBytes (cn_ty t) ≤ 8) (hn : n ≤ 60000) (hkc : kc' + 1 ≤ kc) (hks : ks' + n ≤ ks) (hsz : S.1 + 1 ≤ 1000000) (hd : decode mi.2.1 pc = .ok (.newarray atype, 2)) (hp : pc + 2 = pc') (K : cn_V l en mi d kc' ks' (cn_Sn S n (.inr (t, n))) (cn_In S I) (cn_Pn S P) Q pc' lv (.ref S.1 :: st)) : cn_V l en mi d kc ks S I P Q pc lv (.int (nI n) :: st) := by
  subst hp
  intro p e R s m args below meth c Z H locs cells slots ls C hc hs hH hS hl hk
  obtain ⟨hx, hb, hml, hr0, hown, hts, hlocks, hname, hK, hX, hbB, hBs, hdF, hdL⟩ := id C
  have i2 : (nI n).toNatClampNeg = n := nI_clamp (by omega)
  have hbyt : n * componentBytes (newarray.typeOf atype) ≤ 536870912 := by
    rw [hty]
    exact Nat.le_trans (Nat.mul_le_mul hn hb8) (by decide)
  refine va_newaK hx hb (by rw [hty]; exact hts _ hw) rfl hd rfl (nI_pos (by omega)) i2 hbyt (by omega) (by omega) rfl fun H1 cA e1 z1 o1 hAr hNm => ?_
  have hcA : cA = cn_dA en t := by
    have h1 := hRA s _ (hK.1.2 t _ (cn_tys_at (by omega))).2
    rw [hty] at hNm
    exact Option.some.inj (hNm.symm.trans h1)
  subst hcA
  have hH1 : cn_H en (cn_Sn S n (.inr (t, n))) (cn_In S I) (cn_Pn S P) H1 := by
    refine hH.push ?_ z1 o1 hsz
    have ec : cn_cell en (cn_Sn S n (.inr (t, n))) (cn_In S I) (cn_Pn S P) S.1 = .inl (cn_dA en t, n, .inl (fun _ => 0)) := by
      have e2 : (cn_Sn S n (.inr (t, n))).2.2 S.1 = .inr (t, n) := va_up_self _ _ _
      unfold cn_cell
      rw [e2, cn_In_row]
      simp [ht]
    rw [ec]
    show H1[cn_B en + S.1]? = some (vp_cell _ _)
    rw [hH.2.1] at e1
    rw [e1, hty, hdv]
    rfl
  have eA : (Value.ref H.size : Value) = cn_rv en (.ref S.1) := by
    rw [hH.2.1]
    simp [cn_rv, cn_ad_lt (show S.1 < 1000000 by omega)]
  show W p l e R s m args below meth c H1 locs (cells + 1) (slots + n) Z (F0 m (pc + 2) ls (Value.ref H.size :: st.map (cn_rv en)))
  rw [eA]
  exact K p e R s m args below meth c Z H1 locs (cells + 1) (slots + n) ls C (by omega) (by omega) hH1 (cn_Sgrow hS z1 o1) hl (fun r S' I' P' H' locs' c' s' q' l' a1 a2 a3 a4 a5 a6 => hk r S' I' P' H' locs' c' s' q' l' a1 a2 a3 (by omega) (by omega) a6)
theorem cn_newq {l : Launch} {en : cn_E} {mi : cn_M} {d kc ks : Nat} {S : cn_S} {I : cn_I} {P : cn_P} {Q : Option Value → cn_S → cn_I → cn_P → Prop} {pc pc' : Nat} {lv : List (Nat × Value)} {st : List Value} {t n idx kc' ks' : Nat} {E : String} (ht : ¬ t < 3) (ht7 : t < 7) (hE : cn_ty t = .object E) (hO : E ∈ cn_O) (hw : Cond.classLink mi.1.cls idx E ∈ cn_T) (hn : n ≤ 60000) (hkc : kc' + 1 ≤ kc) (hks : ks' + n ≤ ks) (hsz : S.1 + 1 ≤ 1000000) (hd : decode mi.2.1 pc = .ok (.anewarray idx, 3)) (hp : pc + 3 = pc') (K : cn_V l en mi d kc' ks' (cn_Sn S n (.inr (t, n))) (cn_In S I) (cn_Pn S P) Q pc' lv (.ref S.1 :: st)) : cn_V l en mi d kc ks S I P Q pc lv (.int (nI n) :: st) := by
  subst hp
  intro p e R s m args below meth c Z H locs cells slots ls C hc hs hH hS hl hk
  obtain ⟨hx, hb, hml, hr0, hown, hts, hlocks, hname, hK, hX, hbB, hBs, hdF, hdL⟩ := id C
  have i2 : (nI n).toNatClampNeg = n := nI_clamp (by omega)
  refine W.anew hx hb hown (hts _ hw) (va_AO.use (hK.2.2 _ hO)) rfl hd rfl (nI_pos (by omega)) (by rw [i2]; omega) (by omega) (by rw [i2]; omega) fun cA kA comp f1 f2 f3 f4 => ?_
  rw [i2]
  have hcA : cA = cn_dA en t := by
    have h1 := (hK.1.2 t _ (cn_tys_at ht7)).2
    rw [hE] at h1
    obtain ⟨kA', comp', g1, g2, g3, g4⟩ := h1
    exact Option.some.inj (f1.symm.trans g4)
  subst hcA
  generalize hH1 : H.push ({ cls := cn_dA en t, slots := Array.replicate n .null, vm := .none } : Cell) = H1
  have z1 : H1.size = H.size + 1 := by rw [← hH1, Array.size_push]
  have e1 : H1[H.size]? = some (arrV (cn_dA en t) n (fun _ => .null)) := by rw [← hH1, Array.getElem?_push_size, ← arrV_new]
  have o1 : ∀ q : Nat, q < H.size → H1[q]? = H[q]? := fun q hq => by rw [← hH1, Array.getElem?_push, if_neg (Nat.ne_of_lt hq)]
  have hH2 : cn_H en (cn_Sn S n (.inr (t, n))) (cn_In S I) (cn_Pn S P) H1 := by
    refine hH.push ?_ z1 o1 hsz
    have ec : cn_cell en (cn_Sn S n (.inr (t, n))) (cn_In S I) (cn_Pn S P) S.1 = .inl (cn_dA en t, n, .inr (.inr (.inr (.inr (fun _ => none))))) := by
      have e2 : (cn_Sn S n (.inr (t, n))).2.2 S.1 = .inr (t, n) := va_up_self _ _ _
      unfold cn_cell
      rw [e2, cn_Pn_row]
      simp [ht]
    rw [ec]
    show H1[cn_B en + S.1]? = some (vp_cell _ _)
    rw [hH.2.1] at e1
    rw [e1]
    rfl
  have eA : (Value.ref H.size : Value) = cn_rv en (.ref S.1) := by
    rw [hH.2.1]
    simp [cn_rv, cn_ad_lt (show S.1 < 1000000 by omega)]
  show W p l e R s m args below meth c H1 locs (cells + 1) (slots + n) Z (F0 m (pc + 3) ls (Value.ref H.size :: st.map (cn_rv en)))
  rw [eA]
  exact K p e R s m args below meth c Z H1 locs (cells + 1) (slots + n) ls C (by omega) (by omega) hH2 (cn_Sgrow hS z1 o1) hl (fun r S' I' P' H' locs' c' s' q' l' a1 a2 a3 a4 a5 a6 => hk r S' I' P' H' locs' c' s' q' l' a1 a2 a3 (by omega) (by omega) a6)
theorem cn_objInit {l : Launch} {en : cn_E} {mi : cn_M} {d kc ks : Nat} {S : cn_S} {I : cn_I} {P : cn_P} {Q : Option Value → cn_S → cn_I → cn_P → Prop} {pc pc' : Nat} {lv : List (Nat × Value)} {st : List Value} {a idx : Nat} (hw : Cond.methodLink mi.1.cls idx Lib.objectInit ∈ cn_T) (hi : Cond.instanceMethod Lib.objectInit ∈ cn_T) (hco : Cond.code Lib.objectInit ⟨#[0xb1]⟩ 1 none ∈ cn_T) (hd1 : 1 ≤ d) (hr : (st.map fun v => v.category).sum ≤ 8) (hd : decode mi.2.1 pc = .ok (.invokespecial idx, 3)) (hp : pc + 3 = pc') (K : cn_V l en mi d kc ks S I P Q pc' lv st) : cn_V l en mi d kc ks S I P Q pc lv (.ref a :: st) := by
  subst hp
  intro p e R s m args below meth c Z H locs cells slots ls C hc hs hH hS hl hk
  obtain ⟨hx, hb, hml, hr0, hown, hts, hlocks, hname, hK, hX, hbB, hBs, hdF, hdL⟩ := id C
  have hcat : ((st.map (cn_rv en)).map fun v => v.category) = st.map fun v => v.category := by
    rw [List.map_map]
    exact List.map_congr_left (fun v _ => cn_rv_cat en v)
  refine W.objInit hx hb hown (hts _ hw) (hts _ hi) (hts _ hco) rfl (by rw [hml]; exact hl.1) (a := cn_ad en a) rfl hd (by omega) ?_ (K p e R s m args below meth c Z H locs cells slots ls C hc hs hH hS hl hk)
  exact Nat.le_trans (Nat.add_le_add_right (lv_room (by rw [hcat]; exact hr)) 12) (by omega)
def cn_Qc (en : cn_E) (Q : Option Value → cn_S → cn_I → cn_P → Prop) : Array Value → State → Outcome → State → Prop := fun _ st o t => (∃ (r : Option Value) (S' : cn_S) (I' : cn_I) (P' : cn_P), o = .returned (r.map (cn_rv en)) ∧ Q r S' I' P' ∧ cn_H en S' I' P' t.heap) ∧ va_F (cn_A en) st t
def cn_Pc (en : cn_E) (S : cn_S) (I : cn_I) (P : cn_P) (U : State) : Prop := cn_K en U ∧ va_X (cn_b en) (cn_L en) (cn_x en) U U.heap ∧ cn_b en < cn_B en ∧ cn_B en ≤ U.heap.size ∧ cn_H en S I P U.heap
abbrev cn_W (mi : cn_M) : List Cond := Cond.code mi.1 mi.2.1 mi.2.2.1 mi.2.2.2 :: cn_T
abbrev cn_R (d kc ks : Nat) : Room := { frames := d, cells := kc, slots := ks, locals := 64 * d }
theorem cn_args_lv (en : cn_E) : ∀ (as : List Value) (i : Nat), lv_args i (as.map (cn_rv en)) = cn_lv en (lv_args i as)
  | [], _ => rfl
  | v :: vs, i => by
    show (i, cn_rv en v) :: lv_args (if (cn_rv en v).category = 2 then i + 2 else i + 1) (vs.map (cn_rv en)) = (i, cn_rv en v) :: cn_lv en (lv_args (if v.category = 2 then i + 2 else i + 1) vs)
    rw [cn_rv_cat, cn_args_lv en vs]
theorem cn_sl_len (en : cn_E) : ∀ as : List Value, (lg_sl (as.map (cn_rv en))).length = (lg_sl as).length
  | [] => rfl
  | v :: vs => by
    have ih := cn_sl_len en vs
    cases v <;> simp_all [lg_sl, cn_rv, Value.category]
theorem cn_met {l : Launch} {en : cn_E} {mi : cn_M} {d kc ks : Nat} {S : cn_S} {I : cn_I} {P : cn_P} {Q : Option Value → cn_S → cn_I → cn_P → Prop} {as : List Value} (hmo : cn_mok mi) (hlen : (lg_sl as).length ≤ mi.2.2.1) (hV : cn_V l en mi d kc ks S I P Q 0 (lv_args 0 as) []) :
    Met l mi.1 (cn_W mi) (cn_R d kc ks) (va_Pc (as.map (cn_rv en)) (cn_Pc en S I P)) (cn_Qc en Q) kc ks (cn_A en) := by
  refine Met.ofW (cc := mi.2.1) (maxL := mi.2.2.1) (ret := mi.2.2.2) hmo.2.2.2.1 rfl ?_
  intro p e s m args below meth c s₁ B hml hv
  obtain ⟨rfl, hK, hX, hbB, hBs, hH⟩ := hv
  have hts := atoms_spec (ws := cn_W mi) B.pre
  have hown : s.vm.findClass mi.1.cls = some m.cls := findClass_of_methodNamed B.named
  have hnm : meth.name = mi.1.name := (name_of_methodNamed B.named B.method).1
  have hl := lv_entry (as.map (cn_rv en)) (n := mi.2.2.1) (by rw [cn_sl_len]; exact hlen)
  rw [lg_entry_eq]
  generalize (lg_sl (as.map (cn_rv en)) ++ List.replicate (mi.2.2.1 - (lg_sl (as.map (cn_rv en))).length) Slot.unset).toArray = ls at hl ⊢
  rw [cn_args_lv] at hl
  refine hV p e (headSpec (cn_W mi) (cn_R d kc ks)).room s m _ below meth c _ s.heap [] 0 0 ls ⟨B.exec, B.bytes, hml, B.returns, hown, fun w hw => hts w (List.mem_cons_of_mem _ hw), B.notSynchronized, fun h => hnm.trans h, hK, hX, hbB, hBs, Nat.le_refl _, Nat.le_refl _⟩ (by show 0 + kc ≤ kc; omega) (by show 0 + ks ≤ ks; omega) hH va_S.rf hl ?_
  intro r S' I' P' H' locs' cells' slots' pc' ls' hq hH' hS' hc' hs' hret
  have post : ∀ t : State, t.heap = H' → cn_Qc en Q (as.map (cn_rv en)).toArray s (.returned (r.map (cn_rv en))) t := fun t ht => ⟨⟨r, S', I', P', rfl, hq, by rw [ht]; exact hH'⟩, hS'.F ht⟩
  refine W.widen (k := kc) (n := ks) (by omega) (by omega) ?_
  rcases hret with ⟨rfl, e1, e2⟩ | ⟨v, rfl, e2, ty, e1, e3⟩ | ⟨a, rfl, e2, n, e1⟩
  · exact W.vret B.exec B.bytes (B.returns.trans e1) (fun t ht _ => post t ht) hS'.2.2 e2 B.notSynchronized
  · exact W.zret B.exec B.bytes (B.returns.trans e1) e3 (fun t ht _ => post t ht) hS'.2.2 e2 B.notSynchronized
  · exact W.aret B.exec B.bytes (B.returns.trans e1) (Or.inl ⟨n, rfl⟩) (Or.inr ⟨_, rfl⟩) (fun t ht _ => post t ht) hS'.2.2 e2 B.notSynchronized
theorem cn_blind {en : cn_E} {S : cn_S} {I : cn_I} {P : cn_P} {as : List Value} : FrameBlind (va_Pc as (cn_Pc en S I P)) := by
  intro a U g mk h
  obtain ⟨h1, h2, h3, h4⟩ := h
  exact ⟨h1, h2.call, va_X.moved (u := U) (U := U.calling g mk a) (Vm.Alike.refl U.vm) h3, h4⟩
theorem cn_pre {en : cn_E} {S : cn_S} {I : cn_I} {P : cn_P} {as : List Value} {s : State} {H : Heap} {locs : List Loc} (hK : cn_K en s) (hX : va_X (cn_b en) (cn_L en) (cn_x en) s s.heap) (hbB : cn_b en < cn_B en) (hBs : cn_B en ≤ s.heap.size) (hH : cn_H en S I P H) (hS : va_S (cn_A en) s.heap H locs) : ∀ U : State, U.heap = H → s.WarmedH U.vm → va_Pc as (cn_Pc en S I P) as.toArray U := by
  intro U hU hW
  refine ⟨rfl, hK.warm hW, ?_, hbB, by rw [hU]; exact Nat.le_trans hBs hS.1, by rw [hU]; exact hH⟩
  rw [hU]
  exact va_X.moved hW.alike (hX.kept (hS.2.1 _ (Nat.lt_of_lt_of_le hbB hBs) (Nat.not_le.mpr hbB)))
theorem cn_words {mi : cn_M} {s : State} {args : Array Value} (hts : ∀ w ∈ cn_T, w.before args s = true) (hmo : cn_mok mi) : ∀ w ∈ cn_W mi, ∀ (a' : Array Value) (U : State), s.WarmedH U.vm → w.before a' U = true := by
  intro w hw a' U hW
  have h1 : w ∈ cn_T := by
    rcases List.mem_cons.mp hw with rfl | h
    · exact hmo.2.1
    · exact h
  exact word_at hW (good_of_word (List.mem_filter.mp h1).2) (hts w h1)
section
variable {p : Program} {l : Launch} {e : Env} {R : Room} {s : State} {m : MethodId} {args : Array Value} {below : List Frame} {meth : Method} {c : Code} {H : Heap} {locs : List Loc} {cells slots mc ms : Nat} {Z : State → Prop}
theorem cn_after {en : cn_E} {Q : Option Value → cn_S → cn_I → cn_P → Prop} {pc : Nat} {ls : Array Slot} {st0 rest : List Value} {a : Array Value} (hr : va_Run p l e R s m args below meth c H locs cells slots mc ms (F0 m pc ls st0) rest (cn_Qc en Q a) (cn_A en)) (hS : va_S (cn_A en) s.heap H locs)
    (kk : ∀ (r : Option Value) (S' : cn_S) (I' : cn_I) (P' : cn_P) (H1 : Heap) (locs1 : List Loc), Q r S' I' P' → cn_H en S' I' P' H1 → va_S (cn_A en) s.heap H1 locs1 → W p l e R s m args below meth c H1 locs1 (cells + mc) (slots + ms) Z (F0 m (pc + 3) ls ((r.map (cn_rv en)).toList ++ rest))) : W p l e R s m args below meth c H locs cells slots Z (F0 m pc ls st0) := by
  intro T hT X
  obtain ⟨v, st₀, t, T', L, h0, X', hL, e1, e2, ⟨⟨r, S', I', P', hv, hq, hh⟩, hz, hk⟩, st⟩ := hr T hT X
  cases hv
  rw [h0] at hz hk
  obtain ⟨t2, a1, b1⟩ := kk r S' I' P' T'.heap (locs ++ L) hq (by rw [e1]; exact hh)
    ⟨Nat.le_trans hS.1 (by rw [e1]; exact hz), fun q h1 h2 => by rw [e1, hk q (Nat.lt_of_lt_of_le h1 hS.1) h2]; exact hS.2.1 q h1 h2, fun q hq => by
      rcases List.mem_append.mp hq with h | h
      · exact hS.2.2 q h
      · exact hL q h⟩ T' rfl X'
  exact ⟨t2, st t2 a1, b1⟩
end
theorem cn_cat_map (en : cn_E) (st : List Value) : ((st.map (cn_rv en)).map fun v => v.category) = st.map fun v => v.category := by
  rw [List.map_map]
  exact List.map_congr_left (fun v _ => cn_rv_cat en v)
theorem cn_ret_map (en : cn_E) (r : Option Value) (rest : List Value) : ((r.map (cn_rv en)).toList ++ rest.map (cn_rv en)) = (r.toList ++ rest).map (cn_rv en) := by
  cases r <;> simp
theorem cn_callV {l : Launch} {en : cn_E} {mi : cn_M} {d kc ks : Nat} {S : cn_S} {I : cn_I} {P : cn_P} {Q : Option Value → cn_S → cn_I → cn_P → Prop} {pc pc' : Nat} {lv : List (Nat × Value)} {st : List Value} {mj : cn_M} {idx cj n a kc1 ks1 kc2 ks2 : Nat} (as : List Value) {rest : List Value} {lvj : List (Nat × Value)} (hm : cn_mv mi.1.cls idx mj cj n) (ho : cn_ob S a cj) (hst : st = as.reverse ++ .ref a :: rest) (hn : as.length = n) (hlv : lv_args 0 (.ref a :: as) = lvj) (hlen : (lg_sl (.ref a :: as)).length ≤ mj.2.2.1) (hr : (rest.map fun v => v.category).sum ≤ 8) (hd1 : 1 ≤ d) (hkc : kc1 + kc2 ≤ kc) (hks : ks1 + ks2 ≤ ks) (hd : decode mi.2.1 pc = .ok (.invokevirtual idx, 3)) (hp : pc + 3 = pc') (K : cn_V l en mj (d - 1) kc1 ks1 S I P (fun r S' I' P' => cn_V l en mi d kc2 ks2 S' I' P' Q pc' lv (r.toList ++ rest)) 0 lvj []) : cn_V l en mi d kc ks S I P Q pc lv st := by
  subst hp; subst hst; subst hlv
  intro p e R s m args below meth c Z H locs cells slots ls C hc hs hH hS hl hk
  obtain ⟨hx, hb, hml, hr0, hown, hts, hlocks, hname, hK, hX, hbB, hBs, hdF, hdL⟩ := id C
  obtain ⟨hlink, hinst, hsel, hmo, hnp, hcj⟩ := hm
  have hMet := cn_met (as := .ref a :: as) hmo hlen K
  have hA := cn_rv_ref hH ho.1
  have hsig : ∀ sig, parseMethodDescriptor mj.1.desc = some sig → n = sig.parameters.length := fun sig h => by
    have h2 : (parseMethodDescriptor mj.1.desc).map (fun d => d.parameters.length) = some n := hnp
    rw [h] at h2
    exact (Option.some.inj h2).symm
  obtain ⟨⟨C0, T0, N0⟩, hcl, hC0⟩ := Option.map_eq_some_iff.mp hcj
  have hw : (cn_ws en S I P)[a]? = some (cn_B en + a, .inr (cj, cn_fs en cj (I a) (P a))) := by rw [cn_ws_at ho.1, cn_ob_cell ho]
  have hrecv : ∃ cell : Cell, H[cn_B en + a]? = some cell ∧ cell.vm.isStatics = false ∧ s.vm.findClass mj.1.cls = some cell.cls := by
    rw [← hC0]
    exact va_recv hK.1 hH.1 hcl hw
  have hpre := cn_pre (as := (Value.ref a :: as).map (cn_rv en)) hK hX hbB hBs hH hS
  have eargs : (Value.ref a :: as).map (cn_rv en) = Value.ref (cn_B en + a) :: as.map (cn_rv en) := by rw [List.map_cons, hA]
  have hstk : ((as.reverse ++ Value.ref a :: rest).map (cn_rv en)) = (as.map (cn_rv en)).reverse ++ Value.ref (cn_B en + a) :: rest.map (cn_rv en) := by
    rw [List.map_append, List.map_cons, hA, List.map_reverse]
  have hroom := lv_room (m := m) (pc := pc) (ls := ls) (rest := ((as.reverse ++ Value.ref a :: rest).map (cn_rv en))) (st := rest.map (cn_rv en)) (by rw [cn_cat_map]; exact hr)
  have hbl := cn_blind (en := en) (S := S) (I := I) (P := P) (as := (Value.ref a :: as).map (cn_rv en))
  rw [eargs] at hMet hpre hbl
  have hml21 := hmo.2.2.2.2
  refine cn_after (mc := kc1) (ms := ks1) (rest := rest.map (cn_rv en)) (a := (Value.ref (cn_B en + a) :: as.map (cn_rv en)).toArray) (Q := fun r S' I' P' => cn_V l en mi d kc2 ks2 S' I' P' Q (pc + 3) lv (r.toList ++ rest)) ?_ hS (fun r S' I' P' H1 locs1 hq hH1 hS1 => ?_)
  · rcases hlink with h | ⟨host, h⟩
    · exact va_runV (C := mj.1.cls) (bytes := mj.2.1) (maxL := mj.2.2.1) (ret := mj.2.2.2) (n := n) ⟨hx, hb, hml, hown, hts⟩ hMet ⟨⟨rfl, rfl, by show d - 1 + 1 ≤ _; omega, by show 8 + (mj.2.2.1 + 11) + 64 * (d - 1) ≤ _; omega, cn_words hts hmo, List.mem_cons_self, hts _ hmo.2.1, hts _ hmo.1, hmo.2.2.1, hsig, hts _ h⟩, hts _ hinst, hts _ hsel⟩ ⟨hbl, hrecv, hpre⟩ rfl (by rw [List.length_map]; exact hn) hl.1 hstk hroom hd ⟨by omega, by omega⟩
    · exact va_runVN (C := mj.1.cls) (bytes := mj.2.1) (maxL := mj.2.2.1) (ret := mj.2.2.2) (n := n) ⟨hx, hb, hml, hown, hts⟩ hMet ⟨⟨⟨rfl, rfl, by show d - 1 + 1 ≤ _; omega, by show 8 + (mj.2.2.1 + 11) + 64 * (d - 1) ≤ _; omega, cn_words hts hmo, List.mem_cons_self⟩, hts _ hmo.2.1, hts _ hmo.1, hmo.2.2.1, hsig, va_Nw.use rfl (hK.2.1 _ h)⟩, hts _ hinst, hts _ hsel⟩ ⟨hbl, hrecv, hpre⟩ rfl (by rw [List.length_map]; exact hn) hl.1 hstk hroom hd ⟨by omega, by omega⟩
  · rw [cn_ret_map]
    exact hq p e R s m args below meth c Z H1 locs1 _ _ ls C (by omega) (by omega) hH1 hS1 hl (fun r S' I' P' H' locs' c' s' q' l' a1 a2 a3 a4 a5 a6 => hk r S' I' P' H' locs' c' s' q' l' a1 a2 a3 (by omega) (by omega) a6)
theorem cn_callI {l : Launch} {en : cn_E} {mi : cn_M} {d kc ks : Nat} {S : cn_S} {I : cn_I} {P : cn_P} {Q : Option Value → cn_S → cn_I → cn_P → Prop} {pc pc' : Nat} {lv : List (Nat × Value)} {st : List Value} {mj : cn_M} {idx n a kc1 ks1 kc2 ks2 : Nat} (as : List Value) {rest : List Value} {lvj : List (Nat × Value)} (hm : cn_mi mi.1.cls idx mj n) (ha : a < S.1) (hst : st = as.reverse ++ .ref a :: rest) (hn : as.length = n) (hlv : lv_args 0 (.ref a :: as) = lvj) (hlen : (lg_sl (.ref a :: as)).length ≤ mj.2.2.1) (hr : (rest.map fun v => v.category).sum ≤ 8) (hd1 : 1 ≤ d) (hkc : kc1 + kc2 ≤ kc) (hks : ks1 + ks2 ≤ ks) (hd : decode mi.2.1 pc = .ok (.invokespecial idx, 3)) (hp : pc + 3 = pc') (K : cn_V l en mj (d - 1) kc1 ks1 S I P (fun r S' I' P' => cn_V l en mi d kc2 ks2 S' I' P' Q pc' lv (r.toList ++ rest)) 0 lvj []) : cn_V l en mi d kc ks S I P Q pc lv st := by
  subst hp; subst hst; subst hlv
  intro p e R s m args below meth c Z H locs cells slots ls C hc hs hH hS hl hk
  obtain ⟨hx, hb, hml, hr0, hown, hts, hlocks, hname, hK, hX, hbB, hBs, hdF, hdL⟩ := id C
  obtain ⟨hlink, hinst, hinit, hmo, hnp, hret⟩ := hm
  have hMet := cn_met (as := .ref a :: as) hmo hlen K
  have hA := cn_rv_ref hH ha
  have hsig : ∀ sig, parseMethodDescriptor mj.1.desc = some sig → n = sig.parameters.length := fun sig h => by
    have h2 : (parseMethodDescriptor mj.1.desc).map (fun d => d.parameters.length) = some n := hnp
    rw [h] at h2
    exact (Option.some.inj h2).symm
  have hpre := cn_pre (as := (Value.ref a :: as).map (cn_rv en)) hK hX hbB hBs hH hS
  have eargs : (Value.ref a :: as).map (cn_rv en) = Value.ref (cn_B en + a) :: as.map (cn_rv en) := by rw [List.map_cons, hA]
  have hstk : ((as.reverse ++ Value.ref a :: rest).map (cn_rv en)) = (as.map (cn_rv en)).reverse ++ Value.ref (cn_B en + a) :: rest.map (cn_rv en) := by
    rw [List.map_append, List.map_cons, hA, List.map_reverse]
  have hroom := lv_room (m := m) (pc := pc) (ls := ls) (rest := ((as.reverse ++ Value.ref a :: rest).map (cn_rv en))) (st := rest.map (cn_rv en)) (by rw [cn_cat_map]; exact hr)
  have hbl := cn_blind (en := en) (S := S) (I := I) (P := P) (as := (Value.ref a :: as).map (cn_rv en))
  rw [eargs] at hMet hpre hbl
  have hml21 := hmo.2.2.2.2
  have hco : Cond.code mj.1 mj.2.1 mj.2.2.1 none ∈ cn_W mj := by rw [← hret]; exact List.mem_cons_self
  have hcb : (Cond.code mj.1 mj.2.1 mj.2.2.1 none).before args s = true := by rw [← hret]; exact hts _ hmo.2.1
  refine cn_after (mc := kc1) (ms := ks1) (rest := rest.map (cn_rv en)) (a := (Value.ref (cn_B en + a) :: as.map (cn_rv en)).toArray) (Q := fun r S' I' P' => cn_V l en mi d kc2 ks2 S' I' P' Q (pc + 3) lv (r.toList ++ rest)) ?_ hS (fun r S' I' P' H1 locs1 hq hH1 hS1 => ?_)
  · rcases hlink with h | ⟨host, h⟩
    · exact va_runI (bytes := mj.2.1) (maxL := mj.2.2.1) (n := n) ⟨hx, hb, hml, hown, hts⟩ hMet ⟨⟨rfl, rfl, by show d - 1 + 1 ≤ _; omega, by show 8 + (mj.2.2.1 + 11) + 64 * (d - 1) ≤ _; omega, cn_words hts hmo, hco, hcb, hts _ hmo.1, hmo.2.2.1, hsig, hts _ h⟩, hinit, hts _ hinst⟩ ⟨hbl, hpre⟩ rfl (by rw [List.length_map]; exact hn) hl.1 hstk hroom hd ⟨by omega, by omega⟩
    · exact va_runIN (bytes := mj.2.1) (maxL := mj.2.2.1) (n := n) ⟨hx, hb, hml, hown, hts⟩ hMet ⟨⟨⟨rfl, rfl, by show d - 1 + 1 ≤ _; omega, by show 8 + (mj.2.2.1 + 11) + 64 * (d - 1) ≤ _; omega, cn_words hts hmo, hco⟩, hcb, hts _ hmo.1, hmo.2.2.1, hsig, va_Nw.use rfl (hK.2.1 _ h)⟩, hinit, hts _ hinst⟩ ⟨hbl, hpre⟩ rfl (by rw [List.length_map]; exact hn) hl.1 hstk hroom hd ⟨by omega, by omega⟩
  · rw [cn_ret_map]
    exact hq p e R s m args below meth c Z H1 locs1 _ _ ls C (by omega) (by omega) hH1 hS1 hl (fun r S' I' P' H' locs' c' s' q' l' a1 a2 a3 a4 a5 a6 => hk r S' I' P' H' locs' c' s' q' l' a1 a2 a3 (by omega) (by omega) a6)
theorem cn_callS {l : Launch} {en : cn_E} {mi : cn_M} {d kc ks : Nat} {S : cn_S} {I : cn_I} {P : cn_P} {Q : Option Value → cn_S → cn_I → cn_P → Prop} {pc pc' : Nat} {lv : List (Nat × Value)} {st : List Value} {mj : cn_M} {idx n kc1 ks1 kc2 ks2 : Nat} (as : List Value) {rest : List Value} {lvj : List (Nat × Value)} (hm : cn_ms mi.1.cls idx mj n) (hst : st = as.reverse ++ rest) (hn : as.length = n) (hlv : lv_args 0 as = lvj) (hlen : (lg_sl as).length ≤ mj.2.2.1) (hr : (rest.map fun v => v.category).sum ≤ 8) (hd1 : 1 ≤ d) (hkc : kc1 + kc2 ≤ kc) (hks : ks1 + ks2 ≤ ks) (hd : decode mi.2.1 pc = .ok (.invokestatic idx, 3)) (hp : pc + 3 = pc') (K : cn_V l en mj (d - 1) kc1 ks1 S I P (fun r S' I' P' => cn_V l en mi d kc2 ks2 S' I' P' Q pc' lv (r.toList ++ rest)) 0 lvj []) : cn_V l en mi d kc ks S I P Q pc lv st := by
  subst hp; subst hst; subst hlv
  intro p e R s m args below meth c Z H locs cells slots ls C hc hs hH hS hl hk
  obtain ⟨hx, hb, hml, hr0, hown, hts, hlocks, hname, hK, hX, hbB, hBs, hdF, hdL⟩ := id C
  obtain ⟨h, hstat, hmo, hnp⟩ := hm
  have hMet := cn_met (as := as) hmo hlen K
  have hsig : ∀ sig, parseMethodDescriptor mj.1.desc = some sig → n = sig.parameters.length := fun sig h => by
    have h2 : (parseMethodDescriptor mj.1.desc).map (fun d => d.parameters.length) = some n := hnp
    rw [h] at h2
    exact (Option.some.inj h2).symm
  have hpre := cn_pre (as := as.map (cn_rv en)) hK hX hbB hBs hH hS
  have hstk : ((as.reverse ++ rest).map (cn_rv en)) = (as.map (cn_rv en)).reverse ++ rest.map (cn_rv en) := by
    rw [List.map_append, List.map_reverse]
  have hroom := lv_room (m := m) (pc := pc) (ls := ls) (rest := ((as.reverse ++ rest).map (cn_rv en))) (st := rest.map (cn_rv en)) (by rw [cn_cat_map]; exact hr)
  have hml21 := hmo.2.2.2.2
  refine cn_after (mc := kc1) (ms := ks1) (rest := rest.map (cn_rv en)) (a := (as.map (cn_rv en)).toArray) (Q := fun r S' I' P' => cn_V l en mi d kc2 ks2 S' I' P' Q (pc + 3) lv (r.toList ++ rest)) ?_ hS (fun r S' I' P' H1 locs1 hq hH1 hS1 => ?_)
  · exact va_runS (bytes := mj.2.1) (maxL := mj.2.2.1) (ret := mj.2.2.2) (n := n) ⟨hx, hb, hml, hown, hts⟩ hMet ⟨⟨rfl, rfl, by show d - 1 + 1 ≤ _; omega, by show 8 + (mj.2.2.1 + 11) + 64 * (d - 1) ≤ _; omega, cn_words hts hmo, List.mem_cons_self, hts _ hmo.2.1, hts _ hmo.1, hmo.2.2.1, hsig, hts _ h⟩, hts _ hstat⟩ ⟨cn_blind, hpre⟩ rfl (by rw [List.length_map]; exact hn) hl.1 hstk hroom hd ⟨by omega, by omega⟩
  · rw [cn_ret_map]
    exact hq p e R s m args below meth c Z H1 locs1 _ _ ls C (by omega) (by omega) hH1 hS1 hl (fun r S' I' P' H' locs' c' s' q' l' a1 a2 a3 a4 a5 a6 => hk r S' I' P' H' locs' c' s' q' l' a1 a2 a3 (by omega) (by omega) a6)
theorem cn_iret {l : Launch} {en : cn_E} {mi : cn_M} {d kc ks : Nat} {S : cn_S} {I : cn_I} {P : cn_P} {Q : Option Value → cn_S → cn_I → cn_P → Prop} {pc : Nat} {lv : List (Nat × Value)} {v : Int32} (ht : mi.2.2.2 = some .int) (hd : decode mi.2.1 pc = .ok (.ireturn, 1)) (hq : Q (some (.int v)) S I P) : cn_V l en mi d kc ks S I P Q pc lv [.int v] := by
  intro p e R s m args below meth c Z H locs cells slots ls C hc hs hH hS hl hk
  exact hk (some (.int v)) S I P H locs cells slots pc ls hq hH hS (by omega) (by omega) (Or.inr (Or.inl ⟨v, rfl, hd, .int, ht, rfl⟩))
theorem cn_zret {l : Launch} {en : cn_E} {mi : cn_M} {d kc ks : Nat} {S : cn_S} {I : cn_I} {P : cn_P} {Q : Option Value → cn_S → cn_I → cn_P → Prop} {pc : Nat} {lv : List (Nat × Value)} {v : Int32} (ht : mi.2.2.2 = some .boolean) (hz : v = 0 ∨ v = 1) (hd : decode mi.2.1 pc = .ok (.ireturn, 1)) (hq : Q (some (.int v)) S I P) : cn_V l en mi d kc ks S I P Q pc lv [.int v] := by
  intro p e R s m args below meth c Z H locs cells slots ls C hc hs hH hS hl hk
  exact hk (some (.int v)) S I P H locs cells slots pc ls hq hH hS (by omega) (by omega) (Or.inr (Or.inl ⟨v, rfl, hd, .boolean, ht, by rcases hz with rfl | rfl <;> rfl⟩))
theorem cn_aret {l : Launch} {en : cn_E} {mi : cn_M} {d kc ks : Nat} {S : cn_S} {I : cn_I} {P : cn_P} {Q : Option Value → cn_S → cn_I → cn_P → Prop} {pc : Nat} {lv : List (Nat × Value)} {a : Nat} {E : String} (ht : mi.2.2.2 = some (.object E)) (hd : decode mi.2.1 pc = .ok (.areturn, 1)) (hq : Q (some (.ref a)) S I P) : cn_V l en mi d kc ks S I P Q pc lv [.ref a] := by
  intro p e R s m args below meth c Z H locs cells slots ls C hc hs hH hS hl hk
  exact hk (some (.ref a)) S I P H locs cells slots pc ls hq hH hS (by omega) (by omega) (Or.inr (Or.inr ⟨a, rfl, hd, E, ht⟩))
theorem cn_vret {l : Launch} {en : cn_E} {mi : cn_M} {d kc ks : Nat} {S : cn_S} {I : cn_I} {P : cn_P} {Q : Option Value → cn_S → cn_I → cn_P → Prop} {pc : Nat} {lv : List (Nat × Value)} (ht : mi.2.2.2 = none) (hd : decode mi.2.1 pc = .ok (.return_, 1)) (hq : Q (none) S I P) : cn_V l en mi d kc ks S I P Q pc lv [] := by
  intro p e R s m args below meth c Z H locs cells slots ls C hc hs hH hS hl hk
  exact hk (none) S I P H locs cells slots pc ls hq hH hS (by omega) (by omega) (Or.inl ⟨rfl, ht, hd⟩)
theorem cn_mmax {l : Launch} {en : cn_E} {mi : cn_M} {d kc ks : Nat} {S : cn_S} {I : cn_I} {P : cn_P} {Q : Option Value → cn_S → cn_I → cn_P → Prop} {pc pc' : Nat} {lv : List (Nat × Value)} {st : List Value} {idx : Nat} {x y : Int32} (hw : Cond.methodLink mi.1.cls idx Lib.Math.max.name ∈ cn_T) (hst : Cond.static Lib.Math.max.name ∈ cn_T) (hini : Cond.initialized "java/lang/Math" ∈ cn_T) (hco : Cond.code Lib.Math.max.name Lib.Math.max.code 2 (some .int) ∈ cn_T) (hd1 : 1 ≤ d) (hr : (st.map fun v => v.category).sum ≤ 8) (hd : decode mi.2.1 pc = .ok (.invokestatic idx, 3)) (hp : pc + 3 = pc') (K : cn_V l en mi d kc ks S I P Q pc' lv (.int (if x < y then y else x) :: st)) : cn_V l en mi d kc ks S I P Q pc lv (.int y :: .int x :: st) := by
  subst hp
  intro p e R s m args below meth c Z H locs cells slots ls C hc hs hH hS hl hk
  obtain ⟨hx, hb, hml, hr0, hown, hts, hlocks, hname, hK, hX, hbB, hBs, hdF, hdL⟩ := id C
  exact va_mmax hx hb (hml.trans hl.1.symm) hown (hts _ hw) (hts _ hst) (hts _ hini) (hts _ hco) (by omega) (by rw [cn_cat_map]; omega) (by omega) (by omega) hd (K p e R s m args below meth c Z H locs cells slots ls C hc hs hH hS hl hk)
theorem cn_mmin {l : Launch} {en : cn_E} {mi : cn_M} {d kc ks : Nat} {S : cn_S} {I : cn_I} {P : cn_P} {Q : Option Value → cn_S → cn_I → cn_P → Prop} {pc pc' : Nat} {lv : List (Nat × Value)} {st : List Value} {idx : Nat} {x y : Int32} (hw : Cond.methodLink mi.1.cls idx Lib.Math.min.name ∈ cn_T) (hst : Cond.static Lib.Math.min.name ∈ cn_T) (hini : Cond.initialized "java/lang/Math" ∈ cn_T) (hco : Cond.code Lib.Math.min.name Lib.Math.min.code 2 (some .int) ∈ cn_T) (hd1 : 1 ≤ d) (hr : (st.map fun v => v.category).sum ≤ 8) (hd : decode mi.2.1 pc = .ok (.invokestatic idx, 3)) (hp : pc + 3 = pc') (K : cn_V l en mi d kc ks S I P Q pc' lv (.int (if y < x then y else x) :: st)) : cn_V l en mi d kc ks S I P Q pc lv (.int y :: .int x :: st) := by
  subst hp
  intro p e R s m args below meth c Z H locs cells slots ls C hc hs hH hS hl hk
  obtain ⟨hx, hb, hml, hr0, hown, hts, hlocks, hname, hK, hX, hbB, hBs, hdF, hdL⟩ := id C
  exact va_mmin hx hb (hml.trans hl.1.symm) hown (hts _ hw) (hts _ hst) (hts _ hini) (hts _ hco) (by omega) (by rw [cn_cat_map]; omega) (by omega) (by omega) hd (K p e R s m args below meth c Z H locs cells slots ls C hc hs hH hS hl hk)
