/-! THE CLAIM OUT OF ONE WALK OF THE LAW'S BODY. Your part is whole_start (and what it stands on); all else here is the same for every law, but numbers. -/
def R_law : String := "ChunkedNodesLaw"
def lw_P (b : Addr) (xs : List Int32) (args : Array Value) (s : State) : Prop := args = #[.ref b] ∧ s.IntsAt b xs ∧ xs.length ≤ 3584 ∧ (Jvm.Cond.and given_1 narrow_1).before args s = true
def lw_Q (_ : Array Value) (s : State) (o : Outcome) (t : State) : Prop := o = .returned (some (.int 1)) ∧ Framed s o t [] 600000 7302250
def lw_Z (below : List Frame) (a : Array Value) (s : State) : State → Prop := fun t => ∃ o, t.status = .running ∧ Ended t below o ∧ lw_Q a s o t
/-- the law's own end, with 1 on the stack, nothing written that was there before, its room as the claim has it -/
theorem lw_ret {p : Program} {l : Launch} {e : Env} {s : State} {m : MethodId} {below : List Frame} {meth : Method} {c : Code} {b : Nat} (hx : p.tables.exec = Jvm.exec) (hb : c.code = code) (hr : meth.sig.returnType = ret) (hlocks : meth.locks = false) {pc : Nat} {H : Heap} {ls : Array Slot} (hdg : decode code pc = .ok (.ireturn, 1)) : W p l e room_1 s m #[Value.ref b] below meth c H [] 600000 7302250 (lw_Z below #[Value.ref b] s) (F0 m pc ls [.int 1]) := by
  intro T hT X
  obtain ⟨fs, hret, hrun, hended, hW, hframe⟩ := X.leave (v := some (.int 1)) (hlocks := hlocks) (fun h => by rw [hr] at h; cases h)
  have hmeth' : T.vm.method? m = some meth := X.method'
  refine ⟨T.setFrames fs, ?_, .returned (some (.int 1)), hrun, hended, rfl, ⟨_, rfl⟩, hW, hframe⟩
  jvm_step X.here [X.here.top, hx, hb, hdg, hmeth', hr, ret, narrow_b1]
  (try refine ⟨rfl, ?_⟩); (try refine ⟨rfl, ?_⟩)
  first | (intro acts; rw [hret _ acts rfl rfl rfl]) | rw [hret _ _ rfl rfl rfl]
  exact Steps.refl _
/-- what holds at the law's entry: the machine, the code, the tables' words (any of lw_tbl by 'hts w (by decide +kernel)'), the script of L ints xs at the cell b, what the Statement gives of the start (any of its parts by flat_of_before) -/
def lw_At (p : Program) (s : State) (m : MethodId) (meth : Method) (c : Code) (b L : Nat) (xs : Nat → Int32) : Prop :=
  p.tables.exec = Jvm.exec ∧ c.code = code ∧ meth.sig.returnType = ret ∧ c.maxLocals = 4 ∧ s.vm.findClass R_law = some m.cls ∧ (∀ w ∈ lw_tbl, w.before #[Value.ref b] s = true) ∧ va_X b L xs s s.heap ∧ b < s.heap.size ∧ meth.locks = false ∧ (Jvm.Cond.and given_1 narrow_1).before #[Value.ref b] s = true
def cn_Law (l : Launch) : Prop := ∀ en : cn_E, cn_L en ≤ 3584 → cn_V l en mi_L_law 100 600000 7302250 (0, 0, fun _ => .inl 0) (fun _ _ => 0) (fun _ _ => none) (fun r _ _ _ => r = some (.int 1)) 0 [(0, .ref 1000000)] []
theorem cn_arr {s : State} {cA comp : ClassId} {kA : Class} {ty : FieldType} (h2 : s.vm.classes[cA]? = some kA) (h3 : kA.kind = .array comp ty) : ArrOfT s cA ty := fun _ _ => ⟨fun _ h => (by cases h), kA, h2, comp, h3⟩
theorem cn_arrP {s : State} {args : Array Value} {ty : FieldType} (h : (Cond.arrayClass ty).before args s = true) (hp : ∀ cA : ClassId, s.vm.findClass ("[" ++ ty.toString) = some cA → va_RA s cA ty) : ∃ cA : ClassId, ArrOfT s cA ty ∧ va_RA s cA ty := by
  obtain ⟨cA, kA, comp, h1, h2, h3⟩ := Cond.arrayClass_spec h
  exact ⟨cA, cn_arr h2 h3, hp cA h1⟩
theorem cn_arrQ {s : State} {args : Array Value} {E : String} (h : (Cond.arrayOver (.object E)).before args s = true) : ∃ cA : ClassId, ArrOfT s cA (.object E) ∧ va_RA s cA (.object E) := by
  obtain ⟨comp, cA, kA, h1, -, h3, h4, h5⟩ := Cond.arrayOver_spec h
  exact ⟨cA, cn_arr h3 h4, kA, comp, h3, h4, h1, h5⟩
theorem cn_K0 {s : State} {b : Nat} (hts : ∀ w ∈ lw_tbl, w.before #[Value.ref b] s = true) : ∃ (dC : Nat → ClassId) (dI : Nat → Nat → Nat) (dA : Nat → ClassId), ∀ (B L : Nat) (xs : Nat → Int32), cn_K (b, B, L, xs, dC, dI, dA) s := by
  have hT : ∀ w ∈ cn_T, w.before #[Value.ref b] s = true := fun w h => hts w (List.mem_filter.mp h).1
  obtain ⟨c0, i0, h0⟩ := u_known (C := cn_RBy) (T := cn_TBy) (N := 2) (n := 2) hT cn_lays_By (hts (.instantiable cn_RBy 2) (List.mem_of_getElem? (i := 96) (by decide +kernel)))
  obtain ⟨c1, i1, h1⟩ := u_known (C := cn_RCh) (T := cn_TCh) (N := 7) (n := 7) hT cn_lays_Ch (hts (.instantiable cn_RCh 7) (List.mem_of_getElem? (i := 136) (by decide +kernel)))
  obtain ⟨c2, i2, h2⟩ := u_known (C := cn_RIt) (T := cn_TIt) (N := 5) (n := 5) hT cn_lays_It (hts (.instantiable cn_RIt 5) (List.mem_of_getElem? (i := 209) (by decide +kernel)))
  obtain ⟨c3, i3, h3⟩ := u_known (C := cn_RMe) (T := cn_TMe) (N := 3) (n := 3) hT cn_lays_Me (hts (.instantiable cn_RMe 3) (List.mem_of_getElem? (i := 142) (by decide +kernel)))
  obtain ⟨c4, i4, h4⟩ := u_known (C := cn_RNo) (T := cn_TNo) (N := 3) (n := 3) hT cn_lays_No (hts (.instantiable cn_RNo 3) (List.mem_of_getElem? (i := 188) (by decide +kernel)))
  obtain ⟨c5, i5, h5⟩ := u_known (C := cn_RNt) (T := cn_TNt) (N := 2) (n := 2) hT cn_lays_Nt (hts (.instantiable cn_RNt 2) (List.mem_of_getElem? (i := 216) (by decide +kernel)))
  obtain ⟨c6, i6, h6⟩ := u_known (C := cn_RPa) (T := cn_TPa) (N := 2) (n := 2) hT cn_lays_Pa (hts (.instantiable cn_RPa 2) (List.mem_of_getElem? (i := 90) (by decide +kernel)))
  obtain ⟨c7, i7, h7⟩ := u_known (C := cn_RSf) (T := cn_TSf) (N := 3) (n := 3) hT cn_lays_Sf (hts (.instantiable cn_RSf 3) (List.mem_of_getElem? (i := 83) (by decide +kernel)))
  obtain ⟨c8, i8, h8⟩ := u_known (C := cn_RX) (T := cn_TX) (N := 10) (n := 10) hT cn_lays_X (hts (.instantiable cn_RX 10) (List.mem_of_getElem? (i := 71) (by decide +kernel)))
  obtain ⟨c9, i9, h9⟩ := u_known (C := cn_RM) (T := cn_TM) (N := 37) (n := 37) hT cn_lays_M (hts (.instantiable cn_RM 37) (List.mem_of_getElem? (i := 566) (by decide +kernel)))
  obtain ⟨a0, g0, r0⟩ := cn_arrP (ty := .int) (hts (.arrayClass .int) (List.mem_of_getElem? (i := 208) (by decide +kernel))) (fun _ h => h)
  obtain ⟨a1, g1, r1⟩ := cn_arrP (ty := .byte) (hts (.arrayClass .byte) (List.mem_of_getElem? (i := 112) (by decide +kernel))) (fun _ h => h)
  obtain ⟨a2, g2, r2⟩ := cn_arrP (ty := .boolean) (hts (.arrayClass .boolean) (List.mem_of_getElem? (i := 683) (by decide +kernel))) (fun _ h => h)
  obtain ⟨a3, g3, r3⟩ := cn_arrQ (E := "ChunkedNodes$Node") (hts (.arrayOver (.object "ChunkedNodes$Node")) (List.mem_of_getElem? (i := 79) (by decide +kernel)))
  obtain ⟨a4, g4, r4⟩ := cn_arrQ (E := "ChunkedNodes$Item") (hts (.arrayOver (.object "ChunkedNodes$Item")) (List.mem_of_getElem? (i := 81) (by decide +kernel)))
  obtain ⟨a5, g5, r5⟩ := cn_arrQ (E := "ChunkedNodes$Notice") (hts (.arrayOver (.object "ChunkedNodes$Notice")) (List.mem_of_getElem? (i := 215) (by decide +kernel)))
  obtain ⟨a6, g6, r6⟩ := cn_arrQ (E := "ChunkedNodes$Parcel") (hts (.arrayOver (.object "ChunkedNodes$Parcel")) (List.mem_of_getElem? (i := 89) (by decide +kernel)))
  refine ⟨fun k => if k = 0 then c0 else if k = 1 then c1 else if k = 2 then c2 else if k = 3 then c3 else if k = 4 then c4 else if k = 5 then c5 else if k = 6 then c6 else if k = 7 then c7 else if k = 8 then c8 else c9, fun k => if k = 0 then i0 else if k = 1 then i1 else if k = 2 then i2 else if k = 3 then i3 else if k = 4 then i4 else if k = 5 then i5 else if k = 6 then i6 else if k = 7 then i7 else if k = 8 then i8 else i9, fun k => if k = 0 then a0 else if k = 1 then a1 else if k = 2 then a2 else if k = 3 then a3 else if k = 4 then a4 else if k = 5 then a5 else a6, fun B L xs => ⟨⟨?_, ?_⟩, ?_, ?_⟩⟩
  · intro k q hq
    match k, hq with
    | 0, hq => cases hq; exact h0
    | 1, hq => cases hq; exact h1
    | 2, hq => cases hq; exact h2
    | 3, hq => cases hq; exact h3
    | 4, hq => cases hq; exact h4
    | 5, hq => cases hq; exact h5
    | 6, hq => cases hq; exact h6
    | 7, hq => cases hq; exact h7
    | 8, hq => cases hq; exact h8
    | 9, hq => cases hq; exact h9
    | k + 10, hq => simp [cn_cl] at hq
  · intro k q hq
    have hk : k < 7 := by
      have h1 := (List.getElem?_eq_some_iff.mp hq).1
      simpa [cn_tys] using h1
    rw [cn_tys_at hk] at hq
    match k, hk, hq with
    | 0, _, hq => cases hq; exact ⟨g0, r0⟩
    | 1, _, hq => cases hq; exact ⟨g1, r1⟩
    | 2, _, hq => cases hq; exact ⟨g2, r2⟩
    | 3, _, hq => cases hq; exact ⟨g3, r3⟩
    | 4, _, hq => cases hq; exact ⟨g4, r4⟩
    | 5, _, hq => cases hq; exact ⟨g5, r5⟩
    | 6, _, hq => cases hq; exact ⟨g6, r6⟩
    | k + 7, hk, _ => exact absurd hk (by omega)
  · intro w hw
    have h1 := hts w (List.mem_filter.mp hw).1
    have h2 := (List.mem_filter.mp hw).2
    cases w <;> first | exact va_Nw.of rfl h1 | cases h2
  · intro C hC
    have key : ∀ E ∈ cn_O, Cond.arrayOver (.object E) ∈ lw_tbl := by
      intro E hE
      simp only [cn_O, List.mem_cons, List.not_mem_nil, or_false] at hE
      rcases hE with rfl | rfl | rfl | rfl
      · exact (List.mem_of_getElem? (i := 79) (by decide +kernel))
      · exact (List.mem_of_getElem? (i := 81) (by decide +kernel))
      · exact (List.mem_of_getElem? (i := 215) (by decide +kernel))
      · exact (List.mem_of_getElem? (i := 89) (by decide +kernel))
    exact va_AO.of (hts _ (key C hC))
theorem cn_start {p : Program} {e : Env} {s : State} {m : MethodId} {below : List Frame} {meth : Method} {c : Code} (l : Launch) (hV : cn_Law l) {b L : Nat} {xs : Nat → Int32} (hL : L ≤ 3584) (C0 : lw_At p s m meth c b L xs) : W p l e room_1 s m #[Value.ref b] below meth c s.heap [] 0 0 (lw_Z below #[Value.ref b] s) (entryFrame m ([Value.ref b] : List Value).toArray 4) := by
  obtain ⟨hx, hb, hr, hml, hown, hts, hX, hbl, hlocks, -⟩ := C0
  have hT : ∀ w ∈ cn_T, w.before #[Value.ref b] s = true := fun w h => hts w (List.mem_filter.mp h).1
  obtain ⟨dC, dI, dA, hK⟩ := cn_K0 hts
  have hl := lv_entry ([.ref b]) (n := 4) (Nat.le_of_ble_eq_true rfl)
  rw [lg_entry_eq]
  generalize (lg_sl ([.ref b]) ++ List.replicate (4 - (lg_sl ([.ref b])).length) Slot.unset).toArray = ls at hl ⊢
  have hl : lv_has ls 4 [(0, .ref b)] := hl
  have h1 := hV (b, s.heap.size, L, xs, dC, dI, dA) hL p e room_1 s m #[Value.ref b] below meth c (lw_Z below #[Value.ref b] s) s.heap [] 0 0 ls ⟨hx, hb, hml, hr, hown, hT, hlocks, fun h => absurd h (by decide), hK _ _ _, hX, hbl, Nat.le_refl _, by decide, by decide⟩ (by decide) (by decide)
    ⟨fun k q h => by obtain ⟨h1, -⟩ := cn_ws_inv h; exact absurd h1 (Nat.not_lt_zero k), rfl, fun a n h => (by cases h), by decide⟩ va_S.rf (by have e : cn_lv (b, s.heap.size, L, xs, dC, dI, dA) [(0, .ref 1000000)] = [(0, .ref b)] := (by simp [cn_lv, cn_rv, cn_ad]); rw [e]; exact hl) ?_
  · exact h1
  · intro r S' I' P' H' locs' cells' slots' pc' ls' hq hH' hS' hc' hs' hret
    subst hq
    refine va_forget (fun q h => hS'.2.2 q h) ?_
    refine W.widen (k := 600000) (n := 7302250) (by omega) (by omega) ?_
    rcases hret with ⟨h, -⟩ | ⟨v, hv, e2, -⟩ | ⟨a, h, -⟩
    · cases h
    · cases hv
      exact lw_ret hx hb hr hlocks e2
    · cases h
