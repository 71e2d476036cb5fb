theorem cn_bok_r {S : cn_S} {I : cn_I} {a : Nat} {f : Nat → Int32} (h : cn_bok S I) (hv : ∀ j, fits .byte (.int (f j)) = true) : cn_bok S (cn_wr I a f) := by
  intro b n hb j
  by_cases hne : b = a
  · subst hne
    rw [cn_wr_row]
    exact hv j
  · rw [cn_wr_ne hne]
    exact h b n hb j
theorem cn_copy {l : Launch} {en : cn_E} {mi : cn_M} {d kc ks : Nat} {S : cn_S} {I : cn_I} {P : cn_P} {Q : Option Value → cn_S → cn_I → cn_P → Prop} {pc pc' : Nat} {lv : List (Nat × Value)} {st : List Value} {idx a0 a1 n0 n1 sp dp n : Nat} (hw : Cond.methodLink mi.1.cls idx arraycopyName ∈ cn_T) (hnat : Cond.native arraycopyName ∈ cn_T) (hstat : Cond.static arraycopyName ∈ cn_T) (hini : Cond.initialized "java/lang/System" ∈ cn_T) (hA0 : cn_ar S a0 1 n0) (hA1 : cn_ar S a1 1 n1) (h4 : sp + n ≤ n0) (h5 : dp + n ≤ n1) (hn0 : n0 < 2 ^ 31) (hn1 : n1 < 2 ^ 31) (hd1 : 1 ≤ d) (hr : (st.map fun v => v.category).sum ≤ 8) (hd : decode mi.2.1 pc = .ok (.invokestatic idx, 3)) (hp : pc + 3 = pc') (K : cn_V l en mi d kc ks S (cn_wr I a1 (va_cpy (I a0) (I a1) sp dp n)) P Q pc' lv st) : cn_V l en mi d kc ks S I P Q pc lv (.int (nI n) :: .int (nI dp) :: .ref a1 :: .int (nI sp) :: .ref a0 :: st) := by
  subst hp
  intro p e R s m args below meth c Z H locs cells slots ls C hc hs hH hS hl hk
  obtain ⟨hx, hb, hml, hr0, hown, hts, hlocks, hname, hK, hX, hbB, hBs, hdF, hdL⟩ := id C
  have c1 : (nI n).toNatClampNeg = n := nI_clamp (by omega)
  have c2 : (nI sp).toNatClampNeg = sp := nI_clamp (by omega)
  have c3 : (nI dp).toNatClampNeg = dp := nI_clamp (by omega)
  have t1 : (nI n).toInt = (n : Int) := nI_toInt (by omega)
  have t2 : (nI sp).toInt = (sp : Int) := nI_toInt (by omega)
  have t3 : (nI dp).toInt = (dp : Int) := nI_toInt (by omega)
  show W p l e R s m args below meth c H locs cells slots Z (F0 m pc ls (.int (nI n) :: .int (nI dp) :: cn_rv en (.ref a1) :: .int (nI sp) :: cn_rv en (.ref a0) :: st.map (cn_rv en)))
  rw [cn_rv_ref hH hA0.1, cn_rv_ref hH hA1.1]
  have ha0 : (cn_ws en S I P)[a0]? = some (cn_B en + a0, .inl (cn_dA en 1, n0, .inl (I a0))) := by rw [cn_ws_at hA0.1, cn_ar_cell hA0 (by decide)]
  have ha1 : (cn_ws en S I P)[a1]? = some (cn_B en + a1, .inl (cn_dA en 1, n1, .inl (I a1))) := by rw [cn_ws_at hA1.1, cn_ar_cell hA1 (by decide)]
  have hc0 : H[cn_B en + a0]? = some (vp_cell (cn_dA en 1) (n0, .inl (I a0))) := hH.1 a0 _ ha0
  have hc1 : H[cn_B en + a1]? = some (vp_cell (cn_dA en 1) (n1, .inl (I a1))) := hH.1 a1 _ ha1
  have hty : (cn_tys en)[1]? = some (cn_dA en 1, .byte) := cn_tys_at (by decide)
  have hbyte : ∀ j, fits .byte (.int (va_cpy (I a0) (I a1) sp dp n j)) = true := by
    intro j
    unfold va_cpy
    split
    · exact hH.2.2.1 a0 n0 hA0.2 _
    · exact hH.2.2.1 a1 n1 hA1.2 _
  intro T hT X
  obtain ⟨-, k0, hk0, cm0, hkk0⟩ := (hK.1.2 1 _ hty).1 n0 (fun j => .int (I a0 j))
  obtain ⟨-, k1, hk1, cm1, hkk1⟩ := (hK.1.2 1 _ hty).1 n1 (fun j => .int (I a1 j))
  obtain ⟨vm', X', step⟩ := X.arraycopy hx hown (hts _ hw) (hts _ hnat) (hts _ hstat) (hts _ hini) (src := cn_B en + a0) (dst := cn_B en + a1) (cs := vp_cell (cn_dA en 1) (n0, .inl (I a0))) (cd := vp_cell (cn_dA en 1) (n1, .inl (I a1))) (srcPos := nI sp) (destPos := nI dp) (n := nI n) (by rw [hT]; exact hc0) (by rw [hT]; exact hc1)
    (fun _ h => by cases h) (fun _ h => by cases h) (fun h => by cases h) (fun h => by cases h) hk0 hk1 hkk0 hkk1 (by simp [refKind]) (nI_pos (by omega)) (nI_pos (by omega)) (nI_pos (by omega))
    (by rw [t2, t1]; show ¬ _ > ((arrV (cn_dA en 1) n0 (fun j => .int (I a0 j))).slots.size : Int); rw [arrV_size]; omega)
    (by rw [t3, t1]; show ¬ _ > ((arrV (cn_dA en 1) n1 (fun j => .int (I a1 j))).slots.size : Int); rw [arrV_size]; omega)
    (fun vm₁ _ i hi => by
      rw [c1] at hi
      have e : (vp_cell (cn_dA en 1) (n0, .inl (I a0))).slots.getD ((nI sp).toNatClampNeg + i) .null = .int (I a0 (sp + i)) := by
        show (arrV (cn_dA en 1) n0 (fun j => .int (I a0 j))).slots.getD _ _ = _
        rw [c2, Array.getD_eq_getD_getElem?, arrV_read _ _ (by omega)]
        rfl
      refine ⟨?_, ?_⟩
      · rw [e]
        exact hH.2.2.1 a0 n0 hA0.2 _
      · rw [e]
        exact trivial)
    (g := F0 m pc ls (.int (nI n) :: .int (nI dp) :: .ref (cn_B en + a1) :: .int (nI sp) :: .ref (cn_B en + a0) :: st.map (cn_rv en))) rfl (by rw [hml]; exact hl.1) (rest := st.map (cn_rv en)) rfl (by rw [hb]; exact hd) (by omega) (by
      have h9 : ((st.map (cn_rv en)).map fun v => v.category).sum ≤ 8 := by rw [cn_cat_map]; exact hr
      have h8 : nativeFrameWords "java/lang/System" "arraycopy" 5 + 11 ≤ 40 := by decide +kernel
      show 2 * 0 + _ + _ ≤ _
      omega)
  have e1 : copied (vp_cell (cn_dA en 1) (n0, .inl (I a0))) (vp_cell (cn_dA en 1) (n1, .inl (I a1))) (nI sp) (nI dp) (nI n) = vp_cell (cn_dA en 1) (n1, .inl (va_cpy (I a0) (I a1) sp dp n)) := by
    have h := va_copied (sp := sp) (dp := dp) (n := n) (fun z => Value.int z) (cn_dA en 1) (cn_dA en 1) (n0 := n0) (n1 := n1) (I a0) (I a1) h4
    unfold copied
    rw [c1, c2, c3]
    exact h
  rw [e1] at X' step
  have hlt : cn_B en + a1 < H.size := (Array.getElem?_eq_some_iff.mp hc1).1
  have hheap : ((T.setVm vm').setCell (cn_B en + a1) (vp_cell (cn_dA en 1) (n1, .inl (va_cpy (I a0) (I a1) sp dp n)))).heap = H.setIfInBounds (cn_B en + a1) (vp_cell (cn_dA en 1) (n1, .inl (va_cpy (I a0) (I a1) sp dp n))) := by rw [← hT]; rfl
  have oq : ∀ q : Nat, q ≠ cn_B en + a1 → (H.setIfInBounds (cn_B en + a1) (vp_cell (cn_dA en 1) (n1, .inl (va_cpy (I a0) (I a1) sp dp n))))[q]? = H[q]? := fun q hq => by simp [Array.getElem?_setIfInBounds, Ne.symm hq]
  have z1 : (H.setIfInBounds (cn_B en + a1) (vp_cell (cn_dA en 1) (n1, .inl (va_cpy (I a0) (I a1) sp dp n)))).size = H.size := by simp
  have hH1 : cn_H en S (cn_wr I a1 (va_cpy (I a0) (I a1) sp dp n)) P (H.setIfInBounds (cn_B en + a1) (vp_cell (cn_dA en 1) (n1, .inl (va_cpy (I a0) (I a1) sp dp n)))) := by
    refine cn_H.set hH hA1.1 ?_ z1 oq (fun b hb => cn_wr_ne hb) (fun _ _ => rfl) (cn_bok_r hH.2.2.1 hbyte)
    rw [cn_ar_cell hA1 (by decide), cn_wr_row]
    show (H.setIfInBounds _ _)[cn_B en + a1]? = some _
    simp [Array.getElem?_setIfInBounds, hlt]
  obtain ⟨t, a1', b1⟩ := K p e R s m args below meth c Z _ _ cells slots ls C hc hs hH1 ⟨by rw [z1]; exact hS.1, fun q g1 g2 => by
      rw [oq q (fun e => g2 (by rw [e]; exact Nat.le_add_right _ _))]
      exact hS.2.1 q g1 g2, fun q hq => by
      rcases List.mem_append.mp hq with h | h
      · exact hS.2.2 q h
      · obtain ⟨z, -, hz⟩ := List.mem_map.mp h
        rw [← hz]
        exact Nat.le_add_right _ _⟩ hl hk _ hheap X'
  exact ⟨t, step t a1', b1⟩
