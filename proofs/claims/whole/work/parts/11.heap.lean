theorem cn_rv_ref {en : cn_E} {S : cn_S} {I : cn_I} {P : cn_P} {H : Heap} {a : Nat} (hH : cn_H en S I P H) (ha : a < S.1) : cn_rv en (.ref a) = .ref (cn_B en + a) := by
  have h : ¬ a = 1000000 := by have := hH.2.2.2; omega
  simp [cn_rv, cn_ad, h]
theorem cn_ad_lt {en : cn_E} {a : Nat} (ha : a < 1000000) : cn_ad en a = cn_B en + a := by
  have h : ¬ a = 1000000 := by omega
  simp [cn_ad, h]
theorem cn_H.set {en : cn_E} {S : cn_S} {I I' : cn_I} {P P' : cn_P} {H H1 : Heap} {a : Nat} (hH : cn_H en S I P H) (ha : a < S.1) (he : va_at (cn_D en) cn_cl (cn_B en + a, cn_cell en S I' P' a) H1) (z : H1.size = H.size) (oq : ∀ q : Nat, q ≠ cn_B en + a → H1[q]? = H[q]?) (hI : ∀ k, k ≠ a → I' k = I k) (hP : ∀ k, k ≠ a → P' k = P k) (hb : cn_bok S I') : cn_H en S I' P' H1 := by
  refine ⟨?_, z.trans hH.2.1, hb, hH.2.2.2⟩
  rw [← cn_ws_set ha hI hP]
  exact va_P.set hH.1 (cn_ws_D en S I P) (cn_ws_at ha) he oq
theorem cn_bok_ob {S : cn_S} {I : cn_I} {a ci k : Nat} {v : Int32} (h : cn_bok S I) (ho : cn_ob S a ci) : cn_bok S (cn_wi I a k v) := by
  intro b n hb j
  have hne : b ≠ a := fun e => by rw [e, ho.2] at hb; cases hb
  rw [cn_wi_ne hne]
  exact h b n hb j
theorem cn_fin_of {ci k : Nat} {C : String} {T : u_T} {N : Nat} {b : Bool} (h : cn_cok ci C T N) (hf : (cn_cl[ci]?).map (fun q => (q.2.1 k).2.2.2) = some b) : (T k).2.2.2 = b := by
  rw [h.1] at hf
  exact Option.some.inj hf
theorem cn_getI {l : Launch} {en : cn_E} {mi : cn_M} {d kc ks : Nat} {S : cn_S} {I : cn_I} {P : cn_P} {Q : Option Value → cn_S → cn_I → cn_P → Prop} {pc pc' : Nat} {lv : List (Nat × Value)} {st : List Value} {a ci k idx : Nat} (hf : cn_fl mi.1.cls idx ci k) (ho : cn_ob S a ci) (hr : cn_isr (cn_ft ci k) = false) (hd : decode mi.2.1 pc = .ok (.getfield idx, 3)) (hp : pc + 3 = pc') (K : cn_V l en mi d kc ks S I P Q pc' lv (.int (I a k) :: st)) : cn_V l en mi d kc ks S I P Q pc lv (.ref a :: st) := by
  subst hp
  intro p e R s m args below meth c Z H locs cells slots ls C hc hs hH hS hl hk
  obtain ⟨hx, hb, hml, hr0, hown, hts, hlocks, hname, hK, hX, hbB, hBs, hdF, hdL⟩ := id C
  obtain ⟨C0, T, N, hok, hkN, hlink⟩ := hf
  have hv : (cn_fs en ci (I a) (P a))[k]? = some (cn_rv en (.int (I a k))) := by
    rw [cn_fs_at (by rw [hok.2.2.2.2.1]; exact hkN)]
    simp [cn_fv, hr, cn_rv]
  have hw : (cn_ws en S I P)[a]? = some (cn_B en + a, .inr (ci, cn_fs en ci (I a) (P a))) := by rw [cn_ws_at ho.1, cn_ob_cell ho]
  have hT : (T k).1 = C0 := hok.2.2.2.2.2 k hkN
  show W p l e R s m args below meth c H locs cells slots Z (F0 m pc ls (cn_rv en (.ref a) :: st.map (cn_rv en)))
  rw [cn_rv_ref hH ho.1]
  rcases hlink with h | ⟨host, h⟩
  · exact va_get hx hb hts hok.2.1 hown hK.1 hH.1 a hw hok.1 k hkN (hts _ h) (fun x hx => by rw [hT] at hx; exact hx) hv hd (K p e R s m args below meth c Z H locs cells slots ls C hc hs hH hS hl hk)
  · exact va_getN hx hb hts hok.2.1 hown hK.1 hH.1 a hw hok.1 k hkN (va_Nw.use rfl (hK.2.1 _ h)) (fun x hx => by rw [hT] at hx; exact hx) hv hd (K p e R s m args below meth c Z H locs cells slots ls C hc hs hH hS hl hk)
theorem cn_getP {l : Launch} {en : cn_E} {mi : cn_M} {d kc ks : Nat} {S : cn_S} {I : cn_I} {P : cn_P} {Q : Option Value → cn_S → cn_I → cn_P → Prop} {pc pc' : Nat} {lv : List (Nat × Value)} {st : List Value} {a ci k idx : Nat} {b : Nat} (hP0 : P a k = some b) (hf : cn_fl mi.1.cls idx ci k) (ho : cn_ob S a ci) (hr : cn_isr (cn_ft ci k) = true) (hd : decode mi.2.1 pc = .ok (.getfield idx, 3)) (hp : pc + 3 = pc') (K : cn_V l en mi d kc ks S I P Q pc' lv (.ref b :: st)) : cn_V l en mi d kc ks S I P Q pc lv (.ref a :: st) := by
  subst hp
  intro p e R s m args below meth c Z H locs cells slots ls C hc hs hH hS hl hk
  obtain ⟨hx, hb, hml, hr0, hown, hts, hlocks, hname, hK, hX, hbB, hBs, hdF, hdL⟩ := id C
  obtain ⟨C0, T, N, hok, hkN, hlink⟩ := hf
  have hv : (cn_fs en ci (I a) (P a))[k]? = some (cn_rv en (.ref b)) := by
    rw [cn_fs_at (by rw [hok.2.2.2.2.1]; exact hkN)]
    simp [cn_fv, hr, hP0, va_rf, cn_rv]
  have hw : (cn_ws en S I P)[a]? = some (cn_B en + a, .inr (ci, cn_fs en ci (I a) (P a))) := by rw [cn_ws_at ho.1, cn_ob_cell ho]
  have hT : (T k).1 = C0 := hok.2.2.2.2.2 k hkN
  show W p l e R s m args below meth c H locs cells slots Z (F0 m pc ls (cn_rv en (.ref a) :: st.map (cn_rv en)))
  rw [cn_rv_ref hH ho.1]
  rcases hlink with h | ⟨host, h⟩
  · exact va_get hx hb hts hok.2.1 hown hK.1 hH.1 a hw hok.1 k hkN (hts _ h) (fun x hx => by rw [hT] at hx; exact hx) hv hd (K p e R s m args below meth c Z H locs cells slots ls C hc hs hH hS hl hk)
  · exact va_getN hx hb hts hok.2.1 hown hK.1 hH.1 a hw hok.1 k hkN (va_Nw.use rfl (hK.2.1 _ h)) (fun x hx => by rw [hT] at hx; exact hx) hv hd (K p e R s m args below meth c Z H locs cells slots ls C hc hs hH hS hl hk)
theorem cn_putI {l : Launch} {en : cn_E} {mi : cn_M} {d kc ks : Nat} {S : cn_S} {I : cn_I} {P : cn_P} {Q : Option Value → cn_S → cn_I → cn_P → Prop} {pc pc' : Nat} {lv : List (Nat × Value)} {st : List Value} {a ci k idx : Nat} {v : Int32} (hf : cn_fl mi.1.cls idx ci k) (ho : cn_ob S a ci) (hr : cn_isr (cn_ft ci k) = false) (hfin : (cn_cl[ci]?).map (fun q => (q.2.1 k).2.2.2) = some false) (hn : narrow (cn_ft ci k) (.int v) = .int v) (hfit : fits (cn_ft ci k) (.int v) = true) (hd : decode mi.2.1 pc = .ok (.putfield idx, 3)) (hp : pc + 3 = pc') (K : cn_V l en mi d kc ks S (cn_wi I a k v) P Q pc' lv st) : cn_V l en mi d kc ks S I P Q pc lv (.int v :: .ref a :: st) := by
  subst hp
  intro p e R s m args below meth c Z H locs cells slots ls C hc hs hH hS hl hk
  obtain ⟨hx, hb, hml, hr0, hown, hts, hlocks, hname, hK, hX, hbB, hBs, hdF, hdL⟩ := id C
  obtain ⟨C0, T, N, hok, hkN, hlink⟩ := hf
  have hNk : k < cn_NF ci := by rw [hok.2.2.2.2.1]; exact hkN
  have hw : (cn_ws en S I P)[a]? = some (cn_B en + a, .inr (ci, cn_fs en ci (I a) (P a))) := by rw [cn_ws_at ho.1, cn_ob_cell ho]
  have hT : (T k).1 = C0 := hok.2.2.2.2.2 k hkN
  have hF := cn_fin_of hok hfin
  show W p l e R s m args below meth c H locs cells slots Z (F0 m pc ls (.int v :: cn_rv en (.ref a) :: st.map (cn_rv en)))
  rw [cn_rv_ref hH ho.1]
  have hap := va_apart (own := mi.1.cls) hts hok.2.1 (cn_ft ci) hok.2.2.1 hok.2.2.2.1 hK.1 hok.1
  obtain ⟨r, h1, cell, q1, q2, q3, q4⟩ := hH.1 a _ hw
  have hr : r = (C0, T, N) := Option.some.inj (h1.symm.trans hok.1)
  subst hr
  obtain ⟨hSl, hfc, kC, hkC, hkind⟩ := hK.1.1 ci _ hok.1
  obtain ⟨cf, kf, fi, f, hi, hsl⟩ := hSl k hkN
  have hsame : s.fieldFound? C0 (T k).2.1 (T k).2.2.1 = some (cf, kf, fi, f) := by rw [hT] at hi; exact hi
  have hlay := hts _ (hok.2.1 _ (u_in_lay hkN))
  unfold u_lay at hlay
  have hst := (u_facts hfc hkC (u_lays hts hok.2.1 hkN) hi).1
  have fin : ∀ H1 : Heap, H1[cn_B en + a]? = some (cell.setSlot (cn_D en |>.2 ci k) (.int v)) → H1.size = H.size → (∀ q, q ≠ cn_B en + a → H1[q]? = H[q]?) → cn_H en S (cn_wi I a k v) P H1 := by
    intro H1 e1 e2 e3
    refine cn_H.set hH ho.1 ?_ e2 e3 (fun b hb => cn_wi_ne hb) (fun _ _ => rfl) (cn_bok_ob hH.2.2.1 ho)
    rw [cn_ob_cell ho, cn_wi_row, ← cn_fs_seti hNk hr]
    exact ⟨_, hok.1, t_OB.to (V := updV (vp_V (cn_fs en ci (I a) (P a))) k (.int v)) ⟨_, e1, q2, q3, t_set q4 hap hkN (.int v)⟩ (fun j _ => vp_updV_set (by rw [cn_fs_len]; exact hNk) (.int v) j)⟩
  rw [if_neg (by rw [hF]; decide)] at hlay
  have h6 := u_store hfc hkC hkind hlay hi (hok.2.2.1 k hkN) hn hfit
  rcases hlink with h | ⟨host, h⟩
  · refine W.putK hx hb (f := f) ⟨hown, hts _ h, ⟨_, _, _, hsame⟩, hst⟩ (by rw [q2]; exact h6) q1 q3 (by rw [hsl]; exact k2_hasslot (q4 k hkN)) rfl rfl hd fun H1 e1 e2 e3 => ?_
    rw [hsl] at e1 ⊢
    exact K p e R s m args below meth c Z H1 _ cells slots ls C hc hs (fin H1 e1 e2 e3) (hS.put e2 e3 (Nat.le_add_right _ _)) hl hk
  · refine va_WputK hx hb (f := f) hown (va_Nw.use rfl (hK.2.1 _ h)) hsame hst (by rw [q2]; exact h6) q1 q3 (by rw [hsl]; exact k2_hasslot (q4 k hkN)) rfl rfl hd fun H1 e1 e2 e3 => ?_
    rw [hsl] at e1 ⊢
    exact K p e R s m args below meth c Z H1 _ cells slots ls C hc hs (fin H1 e1 e2 e3) (hS.put e2 e3 (Nat.le_add_right _ _)) hl hk
theorem cn_putP {l : Launch} {en : cn_E} {mi : cn_M} {d kc ks : Nat} {S : cn_S} {I : cn_I} {P : cn_P} {Q : Option Value → cn_S → cn_I → cn_P → Prop} {pc pc' : Nat} {lv : List (Nat × Value)} {st : List Value} {a b ci k idx : Nat} (hf : cn_fl mi.1.cls idx ci k) (ho : cn_ob S a ci) (hbS : b < S.1) (hr : cn_isr (cn_ft ci k) = true) (hfin : (cn_cl[ci]?).map (fun q => (q.2.1 k).2.2.2) = some false) (hn : ∀ x : Nat, narrow (cn_ft ci k) (.ref x) = .ref x) (hfit : ∀ x : Nat, fits (cn_ft ci k) (.ref x) = true) (hd : decode mi.2.1 pc = .ok (.putfield idx, 3)) (hp : pc + 3 = pc') (K : cn_V l en mi d kc ks S I (cn_wp P a k (some b)) Q pc' lv st) : cn_V l en mi d kc ks S I P Q pc lv (.ref b :: .ref a :: st) := by
  subst hp
  intro p e R s m args below meth c Z H locs cells slots ls C hc hs hH hS hl hk
  obtain ⟨hx, hb, hml, hr0, hown, hts, hlocks, hname, hK, hX, hbB, hBs, hdF, hdL⟩ := id C
  obtain ⟨C0, T, N, hok, hkN, hlink⟩ := hf
  have hNk : k < cn_NF ci := by rw [hok.2.2.2.2.1]; exact hkN
  have hw : (cn_ws en S I P)[a]? = some (cn_B en + a, .inr (ci, cn_fs en ci (I a) (P a))) := by rw [cn_ws_at ho.1, cn_ob_cell ho]
  have hT : (T k).1 = C0 := hok.2.2.2.2.2 k hkN
  have hF := cn_fin_of hok hfin
  show W p l e R s m args below meth c H locs cells slots Z (F0 m pc ls (cn_rv en (.ref b) :: cn_rv en (.ref a) :: st.map (cn_rv en)))
  rw [cn_rv_ref hH ho.1, cn_rv_ref hH hbS]
  have hap := va_apart (own := mi.1.cls) hts hok.2.1 (cn_ft ci) hok.2.2.1 hok.2.2.2.1 hK.1 hok.1
  obtain ⟨r, h1, cell, q1, q2, q3, q4⟩ := hH.1 a _ hw
  have hr : r = (C0, T, N) := Option.some.inj (h1.symm.trans hok.1)
  subst hr
  obtain ⟨hSl, hfc, kC, hkC, hkind⟩ := hK.1.1 ci _ hok.1
  obtain ⟨cf, kf, fi, f, hi, hsl⟩ := hSl k hkN
  have hsame : s.fieldFound? C0 (T k).2.1 (T k).2.2.1 = some (cf, kf, fi, f) := by rw [hT] at hi; exact hi
  have hlay := hts _ (hok.2.1 _ (u_in_lay hkN))
  unfold u_lay at hlay
  have hst := (u_facts hfc hkC (u_lays hts hok.2.1 hkN) hi).1
  have fin : ∀ H1 : Heap, H1[cn_B en + a]? = some (cell.setSlot (cn_D en |>.2 ci k) (.ref (cn_B en + b))) → H1.size = H.size → (∀ q, q ≠ cn_B en + a → H1[q]? = H[q]?) → cn_H en S I (cn_wp P a k (some b)) H1 := by
    intro H1 e1 e2 e3
    refine cn_H.set hH ho.1 ?_ e2 e3 (fun _ _ => rfl) (fun b hb => cn_wp_ne hb) hH.2.2.1
    rw [cn_ob_cell ho, cn_wp_row, ← cn_fs_setp hNk hr, show va_rf ((some b).map (cn_ad en)) = .ref (cn_B en + b) by simp [va_rf, cn_ad_lt (show b < 1000000 by have := hH.2.2.2; omega)]]
    exact ⟨_, hok.1, t_OB.to (V := updV (vp_V (cn_fs en ci (I a) (P a))) k (.ref (cn_B en + b))) ⟨_, e1, q2, q3, t_set q4 hap hkN (.ref (cn_B en + b))⟩ (fun j _ => vp_updV_set (by rw [cn_fs_len]; exact hNk) (.ref (cn_B en + b)) j)⟩
  rw [if_neg (by rw [hF]; decide)] at hlay
  have h6 := u_store hfc hkC hkind hlay hi (hok.2.2.1 k hkN) (hn (cn_B en + b)) (hfit (cn_B en + b))
  rcases hlink with h | ⟨host, h⟩
  · refine W.putK hx hb (f := f) ⟨hown, hts _ h, ⟨_, _, _, hsame⟩, hst⟩ (by rw [q2]; exact h6) q1 q3 (by rw [hsl]; exact k2_hasslot (q4 k hkN)) rfl rfl hd fun H1 e1 e2 e3 => ?_
    rw [hsl] at e1 ⊢
    exact K p e R s m args below meth c Z H1 _ cells slots ls C hc hs (fin H1 e1 e2 e3) (hS.put e2 e3 (Nat.le_add_right _ _)) hl hk
  · refine va_WputK hx hb (f := f) hown (va_Nw.use rfl (hK.2.1 _ h)) hsame hst (by rw [q2]; exact h6) q1 q3 (by rw [hsl]; exact k2_hasslot (q4 k hkN)) rfl rfl hd fun H1 e1 e2 e3 => ?_
    rw [hsl] at e1 ⊢
    exact K p e R s m args below meth c Z H1 _ cells slots ls C hc hs (fin H1 e1 e2 e3) (hS.put e2 e3 (Nat.le_add_right _ _)) hl hk
theorem cn_putF {l : Launch} {en : cn_E} {mi : cn_M} {d kc ks : Nat} {S : cn_S} {I : cn_I} {P : cn_P} {Q : Option Value → cn_S → cn_I → cn_P → Prop} {pc pc' : Nat} {lv : List (Nat × Value)} {st : List Value} {a b ci k idx : Nat} {C0 : String} {T : u_T} {N : Nat} (hok : cn_cok ci C0 T N) (hkN : k < N) (hlink : Cond.fieldLink mi.1.cls idx C0 (T k).2.1 (T k).2.2.1 ∈ cn_T) (hdecl : mi.1.cls = C0) (ho : cn_ob S a ci) (hbS : b < S.1) (hr : cn_isr (cn_ft ci k) = true) (hfin : (cn_cl[ci]?).map (fun q => (q.2.1 k).2.2.2) = some true) (hini : mi.1.name = "<init>") (hn : ∀ x : Nat, narrow (cn_ft ci k) (.ref x) = .ref x) (hfit : ∀ x : Nat, fits (cn_ft ci k) (.ref x) = true) (hd : decode mi.2.1 pc = .ok (.putfield idx, 3)) (hp : pc + 3 = pc') (K : cn_V l en mi d kc ks S I (cn_wp P a k (some b)) Q pc' lv st) : cn_V l en mi d kc ks S I P Q pc lv (.ref b :: .ref a :: st) := by
  subst hp
  intro p e R s m args below meth c Z H locs cells slots ls C hc hs hH hS hl hk
  obtain ⟨hx, hb, hml, hr0, hown, hts, hlocks, hname, hK, hX, hbB, hBs, hdF, hdL⟩ := id C
  have hNk : k < cn_NF ci := by rw [hok.2.2.2.2.1]; exact hkN
  have hw : (cn_ws en S I P)[a]? = some (cn_B en + a, .inr (ci, cn_fs en ci (I a) (P a))) := by rw [cn_ws_at ho.1, cn_ob_cell ho]
  have hT : (T k).1 = C0 := hok.2.2.2.2.2 k hkN
  have hF := cn_fin_of hok hfin
  show W p l e R s m args below meth c H locs cells slots Z (F0 m pc ls (cn_rv en (.ref b) :: cn_rv en (.ref a) :: st.map (cn_rv en)))
  rw [cn_rv_ref hH ho.1, cn_rv_ref hH hbS]
  have hap := va_apart (own := mi.1.cls) hts hok.2.1 (cn_ft ci) hok.2.2.1 hok.2.2.2.1 hK.1 hok.1
  obtain ⟨r, h1, cell, q1, q2, q3, q4⟩ := hH.1 a _ hw
  have hr : r = (C0, T, N) := Option.some.inj (h1.symm.trans hok.1)
  subst hr
  obtain ⟨hSl, hfc, kC, hkC, hkind⟩ := hK.1.1 ci _ hok.1
  obtain ⟨cf, kf, fi, f, hi, hsl⟩ := hSl k hkN
  have hsame : s.fieldFound? C0 (T k).2.1 (T k).2.2.1 = some (cf, kf, fi, f) := by rw [hT] at hi; exact hi
  have hlay := hts _ (hok.2.1 _ (u_in_lay hkN))
  unfold u_lay at hlay
  have hst := (u_facts hfc hkC (u_lays hts hok.2.1 hkN) hi).1
  have fin : ∀ H1 : Heap, H1[cn_B en + a]? = some (cell.setSlot (cn_D en |>.2 ci k) (.ref (cn_B en + b))) → H1.size = H.size → (∀ q, q ≠ cn_B en + a → H1[q]? = H[q]?) → cn_H en S I (cn_wp P a k (some b)) H1 := by
    intro H1 e1 e2 e3
    refine cn_H.set hH ho.1 ?_ e2 e3 (fun _ _ => rfl) (fun b hb => cn_wp_ne hb) hH.2.2.1
    rw [cn_ob_cell ho, cn_wp_row, ← cn_fs_setp hNk hr, show va_rf ((some b).map (cn_ad en)) = .ref (cn_B en + b) by simp [va_rf, cn_ad_lt (show b < 1000000 by have := hH.2.2.2; omega)]]
    exact ⟨_, hok.1, t_OB.to (V := updV (vp_V (cn_fs en ci (I a) (P a))) k (.ref (cn_B en + b))) ⟨_, e1, q2, q3, t_set q4 hap hkN (.ref (cn_B en + b))⟩ (fun j _ => vp_updV_set (by rw [cn_fs_len]; exact hNk) (.ref (cn_B en + b)) j)⟩
  rw [if_pos hF] at hlay
  have hcf : m.cls = cf := by
    obtain ⟨_, _, c', _, _, _, -, -, hf', -, -, -, hown2, -⟩ := Cond.laysFinal_spec hlay
    have e1 : c' = cf := by have := hi.symm.trans hf'; simp at this; exact this.1.symm
    rw [hT, ← hdecl] at hown2
    rw [← e1]; exact Option.some.inj (hown.symm.trans hown2)
  have h6 := u_fits hfc hkC hkind (Or.inr hlay) hi (hok.2.2.1 k hkN) (hn (cn_B en + b)) (hfit (cn_B en + b))
  refine W.putFinK hx hb hown (hts _ hlink) hsame hst hcf (hname hini) (by rw [q2]; exact h6) q1 q3 (by rw [hsl]; exact k2_hasslot (q4 k hkN)) rfl rfl hd fun H1 e1 e2 e3 => ?_
  rw [hsl] at e1 ⊢
  exact K p e R s m args below meth c Z H1 _ cells slots ls C hc hs (fin H1 e1 e2 e3) (hS.put e2 e3 (Nat.le_add_right _ _)) hl hk
theorem cn_ix {j n : Nat} (h : j < n) (hn : n < 2 ^ 31) : vp_in (nI j) n ∧ (nI j).toNatClampNeg = j := ⟨vp_in_nI h hn, nI_clamp (by omega)⟩
theorem cn_alen {l : Launch} {en : cn_E} {mi : cn_M} {d kc ks : Nat} {S : cn_S} {I : cn_I} {P : cn_P} {Q : Option Value → cn_S → cn_I → cn_P → Prop} {pc pc' : Nat} {lv : List (Nat × Value)} {st : List Value} {a t n : Nat} (hA : cn_ar S a t n) (ht : t < 7) (hd : decode mi.2.1 pc = .ok (.arraylength, 1)) (hp : pc + 1 = pc') (K : cn_V l en mi d kc ks S I P Q pc' lv (.int (nI n) :: st)) : cn_V l en mi d kc ks S I P Q pc lv (.ref a :: st) := by
  subst hp
  intro p e R s m args below meth c Z H locs cells slots ls C hc hs hH hS hl hk
  obtain ⟨hx, hb, hml, hr0, hown, hts, hlocks, hname, hK, hX, hbB, hBs, hdF, hdL⟩ := id C
  show W p l e R s m args below meth c H locs cells slots Z (F0 m pc ls (cn_rv en (.ref a) :: st.map (cn_rv en)))
  rw [cn_rv_ref hH hA.1]
  by_cases h3 : t < 3
  · exact va_alen (v := nI n) hx hb hK.1 hH.1 a t (by rw [cn_ws_at hA.1, cn_ar_cell hA h3]) (cn_tys_at ht) rfl hd (K p e R s m args below meth c Z H locs cells slots ls C hc hs hH hS hl hk)
  · exact va_alen (v := nI n) hx hb hK.1 hH.1 a t (by rw [cn_ws_at hA.1, cn_ar_cellq hA h3]) (cn_tys_at ht) rfl hd (K p e R s m args below meth c Z H locs cells slots ls C hc hs hH hS hl hk)
theorem cn_iald {l : Launch} {en : cn_E} {mi : cn_M} {d kc ks : Nat} {S : cn_S} {I : cn_I} {P : cn_P} {Q : Option Value → cn_S → cn_I → cn_P → Prop} {pc pc' : Nat} {lv : List (Nat × Value)} {st : List Value} {a n j : Nat} (hA : cn_ar S a 0 n) (hj : j < n) (hn : n < 2 ^ 31) (hd : decode mi.2.1 pc = .ok (.iaload, 1)) (hp : pc + 1 = pc') (K : cn_V l en mi d kc ks S I P Q pc' lv (.int (I a j) :: st)) : cn_V l en mi d kc ks S I P Q pc lv (.int (nI j) :: .ref a :: st) := by
  subst hp
  intro p e R s m args below meth c Z H locs cells slots ls C hc hs hH hS hl hk
  obtain ⟨hx, hb, hml, hr0, hown, hts, hlocks, hname, hK, hX, hbB, hBs, hdF, hdL⟩ := id C
  obtain ⟨i1, i2⟩ := cn_ix hj hn
  show W p l e R s m args below meth c H locs cells slots Z (F0 m pc ls (.int (nI j) :: cn_rv en (.ref a) :: st.map (cn_rv en)))
  rw [cn_rv_ref hH hA.1]
  refine va_iald hx hb hK.1 hH.1 a 0 (by rw [cn_ws_at hA.1, cn_ar_cell hA (by decide)]) (cn_tys_at (by decide)) i1 hd ?_
  rw [i2]
  exact K p e R s m args below meth c Z H locs cells slots ls C hc hs hH hS hl hk
theorem cn_bald {l : Launch} {en : cn_E} {mi : cn_M} {d kc ks : Nat} {S : cn_S} {I : cn_I} {P : cn_P} {Q : Option Value → cn_S → cn_I → cn_P → Prop} {pc pc' : Nat} {lv : List (Nat × Value)} {st : List Value} {a n j : Nat} (hA : cn_ar S a 1 n) (hj : j < n) (hn : n < 2 ^ 31) (hd : decode mi.2.1 pc = .ok (.baload, 1)) (hp : pc + 1 = pc') (K : cn_V l en mi d kc ks S I P Q pc' lv (.int (I a j) :: st)) : cn_V l en mi d kc ks S I P Q pc lv (.int (nI j) :: .ref a :: st) := by
  subst hp
  intro p e R s m args below meth c Z H locs cells slots ls C hc hs hH hS hl hk
  obtain ⟨hx, hb, hml, hr0, hown, hts, hlocks, hname, hK, hX, hbB, hBs, hdF, hdL⟩ := id C
  obtain ⟨i1, i2⟩ := cn_ix hj hn
  show W p l e R s m args below meth c H locs cells slots Z (F0 m pc ls (.int (nI j) :: cn_rv en (.ref a) :: st.map (cn_rv en)))
  rw [cn_rv_ref hH hA.1]
  refine va_bald hx hb hK.1 hH.1 a 1 (by rw [cn_ws_at hA.1, cn_ar_cell hA (by decide)]) (cn_tys_at (by decide)) i1 hd ?_
  rw [i2]
  exact K p e R s m args below meth c Z H locs cells slots ls C hc hs hH hS hl hk
theorem cn_zald {l : Launch} {en : cn_E} {mi : cn_M} {d kc ks : Nat} {S : cn_S} {I : cn_I} {P : cn_P} {Q : Option Value → cn_S → cn_I → cn_P → Prop} {pc pc' : Nat} {lv : List (Nat × Value)} {st : List Value} {a n j : Nat} (hA : cn_ar S a 2 n) (hj : j < n) (hn : n < 2 ^ 31) (hd : decode mi.2.1 pc = .ok (.baload, 1)) (hp : pc + 1 = pc') (K : cn_V l en mi d kc ks S I P Q pc' lv (.int (I a j) :: st)) : cn_V l en mi d kc ks S I P Q pc lv (.int (nI j) :: .ref a :: st) := by
  subst hp
  intro p e R s m args below meth c Z H locs cells slots ls C hc hs hH hS hl hk
  obtain ⟨hx, hb, hml, hr0, hown, hts, hlocks, hname, hK, hX, hbB, hBs, hdF, hdL⟩ := id C
  obtain ⟨i1, i2⟩ := cn_ix hj hn
  show W p l e R s m args below meth c H locs cells slots Z (F0 m pc ls (.int (nI j) :: cn_rv en (.ref a) :: st.map (cn_rv en)))
  rw [cn_rv_ref hH hA.1]
  refine va_zald hx hb hK.1 hH.1 a 2 (by rw [cn_ws_at hA.1, cn_ar_cell hA (by decide)]) (cn_tys_at (by decide)) i1 hd ?_
  rw [i2]
  exact K p e R s m args below meth c Z H locs cells slots ls C hc hs hH hS hl hk
theorem cn_aald {l : Launch} {en : cn_E} {mi : cn_M} {d kc ks : Nat} {S : cn_S} {I : cn_I} {P : cn_P} {Q : Option Value → cn_S → cn_I → cn_P → Prop} {pc pc' : Nat} {lv : List (Nat × Value)} {st : List Value} {a t n j b : Nat} {E : String} (hA : cn_ar S a t n) (ht : ¬ t < 3) (ht7 : t < 7) (hE : cn_ty t = .object E) (hj : j < n) (hn : n < 2 ^ 31) (hP0 : P a j = some b) (hd : decode mi.2.1 pc = .ok (.aaload, 1)) (hp : pc + 1 = pc') (K : cn_V l en mi d kc ks S I P Q pc' lv (.ref b :: st)) : cn_V l en mi d kc ks S I P Q pc lv (.int (nI j) :: .ref a :: st) := by
  subst hp
  intro p e R s m args below meth c Z H locs cells slots ls C hc hs hH hS hl hk
  obtain ⟨hx, hb, hml, hr0, hown, hts, hlocks, hname, hK, hX, hbB, hBs, hdF, hdL⟩ := id C
  obtain ⟨i1, i2⟩ := cn_ix hj hn
  show W p l e R s m args below meth c H locs cells slots Z (F0 m pc ls (.int (nI j) :: cn_rv en (.ref a) :: st.map (cn_rv en)))
  rw [cn_rv_ref hH hA.1]
  refine va_aldq (C := E) hx hb hK.1 hH.1 a t (by rw [cn_ws_at hA.1, cn_ar_cellq hA ht]) (by rw [cn_tys_at ht7, hE]) i1 hd ?_
  rw [i2, hP0]
  exact K p e R s m args below meth c Z H locs cells slots ls C hc hs hH hS hl hk
theorem cn_nar_fit (x : Int32) : fits .byte (.int (vp_nar .byte x)) = true := pk_fb x
theorem cn_bok_i {S : cn_S} {I : cn_I} {a t n k : Nat} {v : Int32} (h : cn_bok S I) (ho : cn_ar S a t n) (ht : t ≠ 1) : cn_bok S (cn_wi I a k v) := by
  intro b n' hb j
  have hne : b ≠ a := fun e => by rw [e, ho.2] at hb; cases hb; exact ht rfl
  rw [cn_wi_ne hne]
  exact h b n' hb j
theorem cn_bok_b {S : cn_S} {I : cn_I} {a k : Nat} {v : Int32} (h : cn_bok S I) (hv : fits .byte (.int v) = true) : cn_bok S (cn_wi I a k v) := by
  intro b n hb j
  by_cases hne : b = a
  · subst hne
    rw [cn_wi_row]
    by_cases hj : j = k
    · subst hj
      simp only [upd, if_true]
      exact hv
    · simp only [upd, if_neg hj]
      exact h b n hb j
  · rw [cn_wi_ne hne]
    exact h b n hb j
theorem cn_iast {l : Launch} {en : cn_E} {mi : cn_M} {d kc ks : Nat} {S : cn_S} {I : cn_I} {P : cn_P} {Q : Option Value → cn_S → cn_I → cn_P → Prop} {pc pc' : Nat} {lv : List (Nat × Value)} {st : List Value} {a n j : Nat} {v : Int32} (hA : cn_ar S a 0 n) (hj : j < n) (hn : n < 2 ^ 31) (hd : decode mi.2.1 pc = .ok (.iastore, 1)) (hp : pc + 1 = pc') (K : cn_V l en mi d kc ks S (cn_wi I a j v) P Q pc' lv st) : cn_V l en mi d kc ks S I P Q pc lv (.int v :: .int (nI j) :: .ref a :: st) := by
  subst hp
  intro p e R s m args below meth c Z H locs cells slots ls C hc hs hH hS hl hk
  obtain ⟨hx, hb, hml, hr0, hown, hts, hlocks, hname, hK, hX, hbB, hBs, hdF, hdL⟩ := id C
  obtain ⟨i1, i2⟩ := cn_ix hj hn
  show W p l e R s m args below meth c H locs cells slots Z (F0 m pc ls (.int v :: .int (nI j) :: cn_rv en (.ref a) :: st.map (cn_rv en)))
  rw [cn_rv_ref hH hA.1]
  have ha : (cn_ws en S I P)[a]? = some (cn_B en + a, .inl (cn_dA en 0, n, .inl (I a))) := by rw [cn_ws_at hA.1, cn_ar_cell hA (by decide)]
  refine W.iast hx hb (hH.1 a _ ha) ((hK.1.2 0 _ (cn_tys_at (by decide))).1 n (fun j => .int (I a j))) (fun q => by cases q) (by show ¬ (nI j < 0 ∨ (arrV _ _ _).slots.size ≤ _); rw [arrV_size]; exact i1) rfl rfl hd fun H1 e1 e2 e3 => ?_
  refine K p e R s m args below meth c Z H1 _ cells slots ls C hc hs (cn_H.set hH hA.1 ?_ e2 e3 (fun b hb => cn_wi_ne hb) (fun _ _ => rfl) (cn_bok_i hH.2.2.1 hA (by decide))) (hS.put e2 e3 (Nat.le_add_right _ _)) hl hk
  rw [cn_ar_cell hA (by decide), cn_wi_row]
  show H1[cn_B en + a]? = some (vp_cell _ _)
  rw [e1]
  show some ((arrV (cn_dA en 0) n (fun j => .int (I a j))).setSlot _ _) = _
  rw [vp_cell_i, arrV_store, i2]
  congr 2
  funext q
  by_cases hq : q = j
  · subst hq
    simp [updV, upd]
    try rfl
  · simp [updV, upd, hq]
theorem cn_bast {l : Launch} {en : cn_E} {mi : cn_M} {d kc ks : Nat} {S : cn_S} {I : cn_I} {P : cn_P} {Q : Option Value → cn_S → cn_I → cn_P → Prop} {pc pc' : Nat} {lv : List (Nat × Value)} {st : List Value} {a n j : Nat} {v : Int32} (hA : cn_ar S a 1 n) (hj : j < n) (hn : n < 2 ^ 31) (hd : decode mi.2.1 pc = .ok (.bastore, 1)) (hp : pc + 1 = pc') (K : cn_V l en mi d kc ks S (cn_wi I a j (vp_nar .byte v)) P Q pc' lv st) : cn_V l en mi d kc ks S I P Q pc lv (.int v :: .int (nI j) :: .ref a :: st) := by
  subst hp
  intro p e R s m args below meth c Z H locs cells slots ls C hc hs hH hS hl hk
  obtain ⟨hx, hb, hml, hr0, hown, hts, hlocks, hname, hK, hX, hbB, hBs, hdF, hdL⟩ := id C
  obtain ⟨i1, i2⟩ := cn_ix hj hn
  show W p l e R s m args below meth c H locs cells slots Z (F0 m pc ls (.int v :: .int (nI j) :: cn_rv en (.ref a) :: st.map (cn_rv en)))
  rw [cn_rv_ref hH hA.1]
  have ha : (cn_ws en S I P)[a]? = some (cn_B en + a, .inl (cn_dA en 1, n, .inl (I a))) := by rw [cn_ws_at hA.1, cn_ar_cell hA (by decide)]
  refine W.bast hx hb (hH.1 a _ ha) ((hK.1.2 1 _ (cn_tys_at (by decide))).1 n (fun j => .int (I a j))) (fun q => by cases q) (by show ¬ (nI j < 0 ∨ (arrV _ _ _).slots.size ≤ _); rw [arrV_size]; exact i1) rfl rfl hd fun H1 e1 e2 e3 => ?_
  refine K p e R s m args below meth c Z H1 _ cells slots ls C hc hs (cn_H.set hH hA.1 ?_ e2 e3 (fun b hb => cn_wi_ne hb) (fun _ _ => rfl) (cn_bok_b hH.2.2.1 (cn_nar_fit v))) (hS.put e2 e3 (Nat.le_add_right _ _)) hl hk
  rw [cn_ar_cell hA (by decide), cn_wi_row]
  show H1[cn_B en + a]? = some (vp_cell _ _)
  rw [e1]
  show some ((arrV (cn_dA en 1) n (fun j => .int (I a j))).setSlot _ _) = _
  rw [vp_cell_i, arrV_store, i2]
  congr 2
  funext q
  by_cases hq : q = j
  · subst hq
    simp [updV, upd, vp_nar]
    try rfl
  · simp [updV, upd, hq]
theorem cn_zast {l : Launch} {en : cn_E} {mi : cn_M} {d kc ks : Nat} {S : cn_S} {I : cn_I} {P : cn_P} {Q : Option Value → cn_S → cn_I → cn_P → Prop} {pc pc' : Nat} {lv : List (Nat × Value)} {st : List Value} {a n j : Nat} {v : Int32} (hA : cn_ar S a 2 n) (hj : j < n) (hn : n < 2 ^ 31) (hd : decode mi.2.1 pc = .ok (.bastore, 1)) (hp : pc + 1 = pc') (K : cn_V l en mi d kc ks S (cn_wi I a j (vp_nar .boolean v)) P Q pc' lv st) : cn_V l en mi d kc ks S I P Q pc lv (.int v :: .int (nI j) :: .ref a :: st) := by
  subst hp
  intro p e R s m args below meth c Z H locs cells slots ls C hc hs hH hS hl hk
  obtain ⟨hx, hb, hml, hr0, hown, hts, hlocks, hname, hK, hX, hbB, hBs, hdF, hdL⟩ := id C
  obtain ⟨i1, i2⟩ := cn_ix hj hn
  show W p l e R s m args below meth c H locs cells slots Z (F0 m pc ls (.int v :: .int (nI j) :: cn_rv en (.ref a) :: st.map (cn_rv en)))
  rw [cn_rv_ref hH hA.1]
  have ha : (cn_ws en S I P)[a]? = some (cn_B en + a, .inl (cn_dA en 2, n, .inl (I a))) := by rw [cn_ws_at hA.1, cn_ar_cell hA (by decide)]
  refine W.zast hx hb (hH.1 a _ ha) ((hK.1.2 2 _ (cn_tys_at (by decide))).1 n (fun j => .int (I a j))) (fun q => by cases q) (by show ¬ (nI j < 0 ∨ (arrV _ _ _).slots.size ≤ _); rw [arrV_size]; exact i1) rfl rfl hd fun H1 e1 e2 e3 => ?_
  refine K p e R s m args below meth c Z H1 _ cells slots ls C hc hs (cn_H.set hH hA.1 ?_ e2 e3 (fun b hb => cn_wi_ne hb) (fun _ _ => rfl) (cn_bok_i hH.2.2.1 hA (by decide))) (hS.put e2 e3 (Nat.le_add_right _ _)) hl hk
  rw [cn_ar_cell hA (by decide), cn_wi_row]
  show H1[cn_B en + a]? = some (vp_cell _ _)
  rw [e1]
  show some ((arrV (cn_dA en 2) n (fun j => .int (I a j))).setSlot _ _) = _
  rw [vp_cell_i, arrV_store, i2]
  congr 2
  funext q
  by_cases hq : q = j
  · subst hq
    simp [updV, upd, vp_nar]
    try rfl
  · simp [updV, upd, hq]
theorem cn_aast {l : Launch} {en : cn_E} {mi : cn_M} {d kc ks : Nat} {S : cn_S} {I : cn_I} {P : cn_P} {Q : Option Value → cn_S → cn_I → cn_P → Prop} {pc pc' : Nat} {lv : List (Nat × Value)} {st : List Value} {a b t n j cj : Nat} {r : vw_C} (hA : cn_ar S a t n) (ht : ¬ t < 3) (ht7 : t < 7) (hB : cn_ob S b cj) (hc0 : cn_cl[cj]? = some r) (hE : cn_ty t = .object r.1) (hj : j < n) (hn : n < 2 ^ 31) (hd : decode mi.2.1 pc = .ok (.aastore, 1)) (hp : pc + 1 = pc') (K : cn_V l en mi d kc ks S I (cn_wp P a j (some b)) Q pc' lv st) : cn_V l en mi d kc ks S I P Q pc lv (.ref b :: .int (nI j) :: .ref a :: st) := by
  subst hp
  intro p e R s m args below meth c Z H locs cells slots ls C hc hs hH hS hl hk
  obtain ⟨hx, hb, hml, hr0, hown, hts, hlocks, hname, hK, hX, hbB, hBs, hdF, hdL⟩ := id C
  obtain ⟨i1, i2⟩ := cn_ix hj hn
  show W p l e R s m args below meth c H locs cells slots Z (F0 m pc ls (cn_rv en (.ref b) :: .int (nI j) :: cn_rv en (.ref a) :: st.map (cn_rv en)))
  rw [cn_rv_ref hH hA.1, cn_rv_ref hH hB.1]
  have ha : (cn_ws en S I P)[a]? = some (cn_B en + a, .inl (cn_dA en t, n, .inr (.inr (.inr (.inr (fun j => (P a j).map (cn_ad en))))))) := by rw [cn_ws_at hA.1, cn_ar_cellq hA ht]
  have hv : (cn_ws en S I P)[b]? = some (cn_B en + b, .inr (cj, cn_fs en cj (I b) (P b))) := by rw [cn_ws_at hB.1, cn_ob_cell hB]
  have htt : (cn_tys en)[t]? = some (cn_dA en t, .object r.1) := by rw [cn_tys_at ht7, hE]
  have h0 : ¬ nI j < 0 := fun q => i1 (Or.inl q)
  obtain ⟨r', hr', cellV, g1, g2, g3, -⟩ := hH.1 b _ hv
  have hcls := (hK.1.1 cj r hc0).2
  obtain ⟨kA, comp, k1, k2, k3, -⟩ := (hK.1.2 t _ htt).2
  have hcomp : comp = (cn_D en).1 cj := Option.some.inj (k3.symm.trans hcls.1)
  subst hcomp
  obtain ⟨kC, hkC, -⟩ := hcls.2
  refine W.aast hx hb (hH.1 a _ ha) (fun q h => by cases h) (fun h => by cases h) k1 k2 rfl hkC ⟨h0, by show _ < (arrV _ _ _).slots.size; rw [arrV_size, i2]; exact hj⟩ g1 (fun q h => by rw [g3] at h; cases h) (by rw [g2]; exact hkC) (by rw [g2]; exact va_assign hcls) rfl rfl hd fun H1 e1 e2 e3 => ?_
  refine K p e R s m args below meth c Z H1 _ cells slots ls C hc hs (cn_H.set hH hA.1 ?_ e2 e3 (fun _ _ => rfl) (fun b hb => cn_wp_ne hb) hH.2.2.1) (hS.put e2 e3 (Nat.le_add_right _ _)) hl hk
  rw [cn_ar_cellq hA ht, cn_wp_row]
  show H1[cn_B en + a]? = some (vp_cell _ _)
  rw [e1]
  show some ((arrV (cn_dA en t) n (fun j => va_rf ((P a j).map (cn_ad en)))).setSlot _ _) = _
  rw [vp_cell_q, arrV_store, i2]
  congr 2
  funext q
  by_cases hq : q = j
  · subst hq
    simp [updV, va_up, va_rf, cn_ad_lt (show b < 1000000 by have := hB.1; have := hH.2.2.2; omega)]
  · simp [updV, va_up, hq]
theorem cn_sld {l : Launch} {en : cn_E} {mi : cn_M} {d kc ks : Nat} {S : cn_S} {I : cn_I} {P : cn_P} {Q : Option Value → cn_S → cn_I → cn_P → Prop} {pc pc' : Nat} {lv : List (Nat × Value)} {st : List Value} {j : Nat} (hj : j < cn_L en) (hn : cn_L en < 2 ^ 31) (hd : decode mi.2.1 pc = .ok (.iaload, 1)) (hp : pc + 1 = pc') (K : cn_V l en mi d kc ks S I P Q pc' lv (.int (cn_x en j) :: st)) : cn_V l en mi d kc ks S I P Q pc lv (.int (nI j) :: .ref 1000000 :: st) := by
  subst hp
  intro p e R s m args below meth c Z H locs cells slots ls C hc hs hH hS hl hk
  obtain ⟨hx, hb, hml, hr0, hown, hts, hlocks, hname, hK, hX, hbB, hBs, hdF, hdL⟩ := id C
  obtain ⟨i1, i2⟩ := cn_ix hj hn
  have h := K p e R s m args below meth c Z H locs cells slots ls C hc hs hH hS hl hk
  rw [← i2] at h
  exact va_sld hx hb hX (Nat.lt_of_lt_of_le hbB hBs) (Nat.not_le.mpr hbB) hS i1 hd h
theorem cn_slen {l : Launch} {en : cn_E} {mi : cn_M} {d kc ks : Nat} {S : cn_S} {I : cn_I} {P : cn_P} {Q : Option Value → cn_S → cn_I → cn_P → Prop} {pc pc' : Nat} {lv : List (Nat × Value)} {st : List Value} (hd : decode mi.2.1 pc = .ok (.arraylength, 1)) (hp : pc + 1 = pc') (K : cn_V l en mi d kc ks S I P Q pc' lv (.int (nI (cn_L en)) :: st)) : cn_V l en mi d kc ks S I P Q pc lv (.ref 1000000 :: st) := by
  subst hp
  intro p e R s m args below meth c Z H locs cells slots ls C hc hs hH hS hl hk
  obtain ⟨hx, hb, hml, hr0, hown, hts, hlocks, hname, hK, hX, hbB, hBs, hdF, hdL⟩ := id C
  exact va_slen hx hb hX (Nat.lt_of_lt_of_le hbB hBs) (Nat.not_le.mpr hbB) hS hd (K p e R s m args below meth c Z H locs cells slots ls C hc hs hH hS hl hk)
