/-- parent, type (-1: a folder), value -/
abbrev sNode : Type := Int32 × Int32 × List Int32
def nd0 : sNode := (0, 0, [])
/-- node, capacity, whether the oldest go, queue -/
abbrev sItem : Type := Nat × Nat × Bool × List sNt
def it0 : sItem := (0, 1, false, [])
/-- nodes, items, parcels and the latest number -/
abbrev sNIS : Type := List sNode × List sItem × (List sPar × Int32)
/-- these, the channel, the request and the bytes of the answer -/
abbrev sSt : Type := List sNode × List sItem × (List sPar × Int32) × sCh × (Int32 × List Int32)
def ndx (ns : List sNode) (n : Int32) : Option Nat := if n < 0 then none else if n.toNatClampNeg < ns.length then some n.toNatClampNeg else none
def isv (ns : List sNode) (k : Nat) : Bool := decide (¬ (ns.getD k nd0).2.1 = -1)
def vdx (ns : List sNode) (n : Int32) : Option Nat := match ndx ns n with
  | none => none
  | some k => if isv ns k = true then some k else none
def sp_add (ns : List sNode) (par t : Int32) : Int32 × List sNode := match ndx ns par with
  | none => (-1, ns)
  | some k => if isv ns k = true ∨ ns.length = 16 then (-1, ns) else (nI ns.length, ns ++ [(par, t, if t = -1 then [] else sv0 t)])
def isT (t : Int32) : Bool := decide (t = nI 0) || decide (t = nI 1) || decide (t = nI 6) || decide (t = nI 8) || decide (t = nI 12)
def chx (k : Nat) (u : List Int32) (x : sItem) : sItem := if x.1 = k then (x.1, x.2.1, x.2.2.1, nq x.2.1 x.2.2.1 x.2.2.2 u) else x
def chg (ns : List sNode) (xs : List sItem) (k : Nat) (u : List Int32) : Bool × List sNode × List sItem :=
  if (ns.getD k nd0).2.2 = u then (false, ns, xs) else (true, ns.set k ((ns.getD k nd0).1, (ns.getD k nd0).2.1, u), xs.map (chx k u))
def pkv (t : Int32) (v : Int64) : List Int32 := if t = nI 1 then [nI 1, if v = 0 then nI 0 else nI 1] else if t = nI 6 then nI 6 :: lbs v 4 else nI 8 :: lbs v 8
def sp_poke (ns : List sNode) (xs : List sItem) (n : Int32) (v : Int64) : Bool × List sNode × List sItem := match vdx ns n with
  | none => (false, ns, xs)
  | some k => if (ns.getD k nd0).2.1 = nI 1 ∨ (ns.getD k nd0).2.1 = nI 6 ∨ (ns.getD k nd0).2.1 = nI 8 then chg ns xs k (pkv (ns.getD k nd0).2.1 v) else (false, ns, xs)
/-- behind the name: how far, whether well formed -/
def p1 (g : List Int32) : Nat := rp g 1 (rnk g 1)
def w1 (g : List Int32) : Bool := rnw g 1 true
def whl (g : List Int32) (p : Nat) (w : Bool) : Bool := w && decide (p = g.length)
/-- the code against a name: 3, 4, or 0 and the variable -/
def vcode (ns : List sNode) (n : Int32) : Int32 := match ndx ns n with
  | none => nI 3
  | some k => if isv ns k = true then nI 0 else nI 4
def sp_read (t : sNIS) (g : List Int32) : Int32 × List Int32 × sNIS := if whl g (p1 g) (w1 g) = true then (vcode t.1 (rnm g 1), (match vdx t.1 (rnm g 1) with
    | none => []
    | some k => (t.1.getD k nd0).2.2), t) else (nI 1, [], t)
def wval (g : List Int32) : Option (List Int32 × Nat) := if w1 g = true then pv g 3 (p1 g) else none
def sp_write (t : sNIS) (g : List Int32) : Int32 × List Int32 × sNIS := match wval g with
  | none => (nI 1, [], t)
  | some a => if a.2 = g.length then (match vdx t.1 (rnm g 1) with
      | none => (vcode t.1 (rnm g 1), [], t)
      | some k => if ¬ (t.1.getD k nd0).2.1 = nI 0 ∧ ¬ (t.1.getD k nd0).2.1 = a.1.getD 0 0 then (nI 5, [], t) else (nI 0, [], (chg t.1 t.2.1 k a.1).2.1, (chg t.1 t.2.1 k a.1).2.2, t.2.2)) else (nI 1, [], t)
def kids (ns : List sNode) (k : Nat) : List Nat := (List.range ns.length).filter (fun i => decide ((ns.getD i nd0).1 = nI k))
def brw (ns : List sNode) (k : Nat) (up : Int32) : List Int32 := if up = nI 1 then (if (ns.getD k nd0).1 = -1 then [nI 0] else [nI 1, nI 0, (ns.getD k nd0).1 &&& 255]) else nI (kids ns k).length :: (kids ns k).flatMap (fun i => [nI 0, nI i])
def sp_browse (t : sNIS) (g : List Int32) : Int32 × List Int32 × sNIS := if whl g (rp g (p1 g) 1) (rw_ g (p1 g) 1 (w1 g)) = true ∧ ¬ nI 1 < g.getD (p1 g) 0 then (match ndx t.1 (rnm g 1) with
    | none => (nI 3, [], t)
    | some k => (nI 0, brw t.1 k (g.getD (p1 g) 0), t)) else (nI 1, [], t)
/-- a capacity as it is asked for -/
def capo (x : Int32) : Nat := if x < nI 1 then 1 else if nI 4 < x then 4 else x.toNatClampNeg
def sp_watch (t : sNIS) (g : List Int32) : Int32 × List Int32 × sNIS := if whl g (rp g (p1 g) 2) (rw_ g (p1 g) 2 (w1 g)) = true then (match vdx t.1 (rnm g 1) with
    | none => (vcode t.1 (rnm g 1), [], t)
    | some k => if t.2.1.length = 6 then (nI 6, [], t) else (nI 0, [nI t.2.1.length], t.1, t.2.1 ++ [(k, capo (g.getD (p1 g) 0), decide (¬ g.getD (p1 g + 1) 0 = 0), [((t.1.getD k nd0).2.2, nI 0)])], t.2.2)) else (nI 1, [], t)
def nums (g : List Int32) (p n : Nat) : List Int32 := (List.range n).map (fun i => rn4 g (p + 4 * i))
def ntot (xs : List sItem) : Nat := (xs.map (fun x => x.2.2.2.length)).sum
def ntb (i : Nat) (q : List sNt) : List Int32 := q.flatMap (fun t => nI i :: (t.1 ++ [t.2 &&& 255]))
/-- so many notices, from item i on: their bytes, and the items without them -/
def tkx : Nat → Nat → List sItem → List Int32 × List sItem
  | _, _, [] => ([], [])
  | i, n, x :: t => (ntb i (x.2.2.2.take n) ++ (tkx (i + 1) (n - x.2.2.2.length) t).1, (x.1, x.2.1, x.2.2.1, x.2.2.2.drop n) :: (tkx (i + 1) (n - x.2.2.2.length) t).2)
def sp_publish (t : sNIS) (g : List Int32) : Int32 × List Int32 × sNIS :=
  if nI 4 < g.getD 1 0 then (nI 1, [], t) else if whl g (rp g 1 (1 + 4 * (g.getD 1 0).toNatClampNeg)) (rw_ g 1 (1 + 4 * (g.getD 1 0).toNatClampNeg) true) = true then
    (let ps := (nums g 2 (g.getD 1 0).toNatClampNeg).foldl pdrop t.2.2.1
     if min (ntot t.2.1) 3 = 0 then (nI 7, [], t.1, t.2.1, (ps, t.2.2.2)) else
     (let n := min (ntot t.2.1) 3
      let k := t.2.2.2 + nI 1
      let c := lbs k.toInt64 4 ++ (nI n :: (tkx 0 n t.2.1).1)
      (nI 0, c, t.1, (tkx 0 n t.2.1).2, ((if ps.length = 3 then ps.eraseIdx 0 else ps) ++ [(k, c)], k)))) else (nI 1, [], t)
def sp_again (t : sNIS) (g : List Int32) : Int32 × List Int32 × sNIS := if whl g (rp g 1 4) (rw_ g 1 4 true) = true then (match t.2.2.1.find? (fun p => decide (p.1 = rn4 g 1)) with
    | none => (nI 8, [], t)
    | some p => (nI 0, p.2, t)) else (nI 1, [], t)
def sp_serve (t : sNIS) (g : List Int32) : Int32 × List Int32 × sNIS :=
  if g.length = 0 then (nI 1, [], t)
  else if g.getD 0 0 = nI 1 then sp_read t g else if g.getD 0 0 = nI 2 then sp_write t g else if g.getD 0 0 = nI 3 then sp_browse t g
  else if g.getD 0 0 = nI 4 then sp_watch t g else if g.getD 0 0 = nI 5 then sp_publish t g else if g.getD 0 0 = nI 6 then sp_again t g else (nI 2, [], t)
def sp_bad (c : sCh) (kind seq req cnt : Int32) : Bool := !c.1 || decide (kind < 0) || decide (nI 2 < kind) || decide (seq < 0) || decide (req < 0) || decide (cnt < 0) || decide (nI 8 < cnt)
def sp_chunk (s : sSt) (kind seq req : Int32) (x : Int64) (cnt : Int32) : Int32 × sSt :=
  if sp_bad s.2.2.2.1 kind seq req cnt = true then (-1, s)
  else if sp_close s.2.2.2.1 kind.toNatClampNeg seq req cnt.toNatClampNeg = true then (nI 2, s.1, s.2.1, s.2.2.1, (false, s.2.2.2.1.2.1, s.2.2.2.1.2.2.1, none, s.2.2.2.1.2.2.2.2), s.2.2.2.2)
  else (let c := sp_take s.2.2.2.1 kind.toNatClampNeg seq req x cnt.toNatClampNeg
    if ¬ kind = nI 1 then (nI 0, s.1, s.2.1, s.2.2.1, c, s.2.2.2.2)
    else (let r := sp_serve (s.1, s.2.1, s.2.2.1) c.2.2.2.2
      (nI 1, r.2.2.1, r.2.2.2.1, r.2.2.2.2, c, (req, r.1 :: r.2.1))))
def sp_open (s : sSt) : sSt := (s.1, [], ([], nI 0), (true, false, s.2.2.2.1.2.2.1, none, s.2.2.2.1.2.2.2.2), (-1, []))
-- ===== how the class keeps it =====
def wX (S : cn_S) (P : cn_P) : Prop := cn_ob S 0 8 ∧ (P 0 0 = some 1 ∧ P 0 2 = some 2 ∧ P 0 4 = some 3 ∧ P 0 5 = some 14 ∧ P 0 6 = some 18 ∧ P 0 8 = some 20 ∧ P 0 9 = some 22) ∧
  (cn_ar S 1 3 16 ∧ ∀ i, i < 16 → P 1 i = some (23 + 3 * i) ∧ yn S P (23 + 3 * i)) ∧ (cn_ar S 2 4 6 ∧ ∀ i, i < 6 → P 2 i = some (71 + 14 * i) ∧ yi S P (71 + 14 * i)) ∧
  yh S P 3 ∧ yc S P 14 ∧ yb S P 18 195 ∧ yb S P 20 61 ∧ cn_ar S 22 0 4
def rX (I : cn_I) (nn ni : Nat) (req : Int32) : Prop := I 0 1 = nI nn ∧ I 0 3 = nI ni ∧ I 0 7 = req
def rN (I : cn_I) (ns : List sNode) : Prop := ns.length ≤ 16 ∧ (∀ i, i < ns.length → I (23 + 3 * i) 0 = (ns.getD i nd0).1 ∧ I (23 + 3 * i) 1 = (ns.getD i nd0).2.1 ∧ ys I (24 + 3 * i) (ns.getD i nd0).2.2 ∧ (ns.getD i nd0).2.2.length ≤ 61) ∧ ∀ i, ns.length ≤ i → i < 16 → ys I (24 + 3 * i) []
def rIt (I : cn_I) (P : cn_P) (it : Nat) (x : sItem) : Prop := I it 1 = nI x.1 ∧ x.1 < 16 ∧ I it 2 = nI x.2.1 ∧ I it 3 = nI x.2.2.1.toNat ∧ 1 ≤ x.2.1 ∧ x.2.1 ≤ 4 ∧ x.2.2.2.length ≤ x.2.1 ∧ ∃ π, yq I P it x.2.2.2 π
def rI (I : cn_I) (P : cn_P) (xs : List sItem) : Prop := xs.length ≤ 6 ∧ (∀ i, i < 6 → ∃ π, ypm P (72 + 14 * i) (73 + 14 * i) 4 π) ∧ ∀ i, i < xs.length → rIt I P (71 + 14 * i) (xs.getD i it0)
def rS (I : cn_I) (P : cn_P) (ps : List sPar) (n : Int32) : Prop := (∃ π, yk I P 3 ps π) ∧ I 3 2 = n
def rR (I : cn_I) (u : List Int32) : Prop := ys I 18 u ∧ u.length ≤ 195
def rV (I : cn_I) : Prop := ∃ u, ys I 20 u ∧ u.length ≤ 61
def RC (S : cn_S) (I : cn_I) (P : cn_P) (s : sSt) : Prop := wX S P ∧ rX I s.1.length s.2.1.length s.2.2.2.2.1 ∧ rN I s.1 ∧ rI I P s.2.1 ∧ rS I P s.2.2.1.1 s.2.2.1.2 ∧ chs I 14 s.2.2.2.1 ∧ rR I s.2.2.2.2.2 ∧ rV I
/-- what a call of the class leaves alone: all that isn't the class's -/
def frX (I I' : cn_I) (P P' : cn_P) : Prop := ∀ a, 155 ≤ a → I' a = I a ∧ P' a = P a
theorem frX.rf {I : cn_I} {P : cn_P} : frX I I P P := fun _ _ => ⟨rfl, rfl⟩
theorem frX.tr {I I1 I2 : cn_I} {P P1 P2 : cn_P} (h1 : frX I I1 P P1) (h2 : frX I1 I2 P1 P2) : frX I I2 P P2 := fun a h => ⟨(h2 a h).1.trans (h1 a h).1, (h2 a h).2.trans (h1 a h).2⟩
theorem yb.keepP {S : cn_S} {P P' : cn_P} {b cap : Nat} (h : yb S P b cap) (hf : P' b = P b) : yb S P' b cap := ⟨h.1, by rw [hf]; exact h.2.1, h.2.2⟩
theorem wX.keepP {S : cn_S} {P P' : cn_P} (h : wX S P) (hf : ∀ a, a ≠ 4 → (∀ i, i < 6 → a ≠ 72 + 14 * i) → P' a = P a) : wX S P' := by
  obtain ⟨h1, ⟨a1, a2, a3, a4, a5, a6, a7⟩, ⟨h3, h3'⟩, ⟨h4, h4'⟩, h5, h6, h7, h8, h9⟩ := h
  have e0 : P' 0 = P 0 := hf 0 (by omega) (by omega)
  have e1 : P' 1 = P 1 := hf 1 (by omega) (by omega)
  have e2 : P' 2 = P 2 := hf 2 (by omega) (by omega)
  refine ⟨h1, ⟨by rw [e0]; exact a1, by rw [e0]; exact a2, by rw [e0]; exact a3, by rw [e0]; exact a4, by rw [e0]; exact a5, by rw [e0]; exact a6, by rw [e0]; exact a7⟩, ⟨h3, fun i hi => ?_⟩, ⟨h4, fun i hi => ?_⟩, ?_, ?_, h7.keepP (hf 18 (by omega) (by omega)), h8.keepP (hf 20 (by omega) (by omega)), h9⟩
  · obtain ⟨b1, b2, b3, b4⟩ := h3' i hi
    exact ⟨by rw [e1]; exact b1, b2, by rw [hf _ (by omega) (by omega)]; exact b3, b4.keepP (hf _ (by omega) (by omega))⟩
  · obtain ⟨b1, b2⟩ := h4' i hi
    refine ⟨by rw [e2]; exact b1, b2.1, by rw [hf _ (by omega) (by omega)]; exact b2.2.1, b2.2.2.1, fun q hq => ?_⟩
    obtain ⟨c1, c2, c3⟩ := b2.2.2.2 q hq
    exact ⟨c1, by rw [hf _ (by omega) (by omega)]; exact c2, c3.keepP (hf _ (by omega) (by omega))⟩
  · refine ⟨h5.1, by rw [hf 3 (by omega) (by omega)]; exact h5.2.1, h5.2.2.1, fun q hq => ?_⟩
    obtain ⟨c1, c2, c3⟩ := h5.2.2.2 q hq
    exact ⟨c1, by rw [hf _ (by omega) (by omega)]; exact c2, c3.keepP (hf _ (by omega) (by omega))⟩
  · exact ⟨h6.1, by rw [hf _ (by omega) (by omega)]; exact h6.2.1, h6.2.2.1, by rw [hf _ (by omega) (by omega)]; exact h6.2.2.2.1, h6.2.2.2.2.keepP (hf _ (by omega) (by omega))⟩
theorem rN.congr {I I' : cn_I} {ns : List sNode} (h : rN I ns) (hf : ∀ a, 23 ≤ a → a < 71 → I' a = I a) : rN I' ns := by
  have hl := h.1
  refine ⟨hl, fun i hi => ?_, fun i h1 h2 => (h.2.2 i h1 h2).congr (hf _ (by omega) (by omega)) (hf _ (by omega) (by omega))⟩
  obtain ⟨a1, a2, a3, a4⟩ := h.2.1 i hi
  exact ⟨by rw [hf _ (by omega) (by omega)]; exact a1, by rw [hf _ (by omega) (by omega)]; exact a2, a3.congr (hf _ (by omega) (by omega)) (hf _ (by omega) (by omega)), a4⟩
theorem yq.congr {I I' : cn_I} {P P' : cn_P} {it : Nat} {q : List sNt} {π : Nat → Nat} (h : yq I P it q π) (hf : ∀ a, it ≤ a → a < it + 14 → I' a = I a) (hP : P' (it + 1) = P (it + 1)) : yq I' P' it q π := by
  have hl := h.2.1
  refine ⟨by rw [hf it (by omega) (by omega)]; exact h.1, hl, ⟨h.2.2.1.1, h.2.2.1.2.1, fun j hj => by rw [hP]; exact h.2.2.1.2.2 j hj⟩, fun j hj => ?_⟩
  obtain ⟨a1, a2, a3⟩ := h.2.2.2 j hj
  have hπ := h.2.2.1.1 j (by omega)
  exact ⟨a1.congr (hf _ (by omega) (by omega)) (hf _ (by omega) (by omega)), a2, by rw [hf _ (by omega) (by omega)]; exact a3⟩
theorem rIt.congr {I I' : cn_I} {P P' : cn_P} {it : Nat} {x : sItem} (h : rIt I P it x) (hf : ∀ a, it ≤ a → a < it + 14 → I' a = I a) (hP : P' (it + 1) = P (it + 1)) : rIt I' P' it x := by
  obtain ⟨a1, a2, a3, a4, a5, a6, a7, π, a8⟩ := h
  have e := hf it (by omega) (by omega)
  exact ⟨by rw [e]; exact a1, a2, by rw [e]; exact a3, by rw [e]; exact a4, a5, a6, a7, π, a8.congr hf hP⟩
theorem rI.congr {I I' : cn_I} {P P' : cn_P} {xs : List sItem} (h : rI I P xs) (hf : ∀ a, 71 ≤ a → a < 155 → I' a = I a) (hP : ∀ i, i < 6 → P' (72 + 14 * i) = P (72 + 14 * i)) : rI I' P' xs := by
  have hl := h.1
  refine ⟨hl, fun i hi => ?_, fun i hi => (h.2.2 i hi).congr (fun a h1 h2 => hf a (by omega) (by omega)) (by rw [show 71 + 14 * i + 1 = 72 + 14 * i by omega]; exact hP i (by omega))⟩
  obtain ⟨π, a1, a2, a3⟩ := h.2.1 i hi
  exact ⟨π, a1, a2, fun j hj => by rw [hP i hi]; exact a3 j hj⟩
theorem yk.congr {I I' : cn_I} {P P' : cn_P} {sf : Nat} {ps : List sPar} {π : Nat → Nat} (h : yk I P sf ps π) (hf : ∀ a, sf ≤ a → a < sf + 11 → I' a = I a) (hP : P' (sf + 1) = P (sf + 1)) : yk I' P' sf ps π := by
  have hl := h.2.1
  refine ⟨by rw [hf sf (by omega) (by omega)]; exact h.1, hl, ⟨h.2.2.1.1, h.2.2.1.2.1, fun j hj => by rw [hP]; exact h.2.2.1.2.2 j hj⟩, fun j hj => ?_⟩
  obtain ⟨a1, a2, a3⟩ := h.2.2.2 j hj
  have hπ := h.2.2.1.1 j (by omega)
  exact ⟨by rw [hf _ (by omega) (by omega)]; exact a1, a2.congr (hf _ (by omega) (by omega)) (hf _ (by omega) (by omega)), a3⟩
theorem rS.congr {I I' : cn_I} {P P' : cn_P} {ps : List sPar} {n : Int32} (h : rS I P ps n) (hf : ∀ a, 3 ≤ a → a < 14 → I' a = I a) (hP : P' 4 = P 4) : rS I' P' ps n := by
  obtain ⟨⟨π, h1⟩, h2⟩ := h
  exact ⟨⟨π, h1.congr (fun a x y => hf a x (by omega)) hP⟩, by rw [hf 3 (by omega) (by omega)]; exact h2⟩
theorem chs.congr {I I' : cn_I} {h : Nat} {c : sCh} (hs : chs I h c) (e0 : I' h = I h) (e2 : I' (h + 2) = I (h + 2)) (e3 : I' (h + 3) = I (h + 3)) : chs I' h c := by
  obtain ⟨a1, a2, a3, a4, a5, a6, a7⟩ := hs
  exact ⟨by rw [e0]; exact a1, by rw [e0]; exact a2, by rw [e0]; exact a3, by rw [e0]; exact a4, fun q hq => by rw [e0]; exact a5 q hq, a6.congr e2 e3, a7⟩
theorem rR.congr {I I' : cn_I} {u : List Int32} (h : rR I u) (e0 : I' 18 = I 18) (e1 : I' 19 = I 19) : rR I' u := ⟨h.1.congr e0 e1, h.2⟩
theorem rV.congr {I I' : cn_I} (h : rV I) (e0 : I' 20 = I 20) (e1 : I' 21 = I 21) : rV I' := by
  obtain ⟨u, h1, h2⟩ := h
  exact ⟨u, h1.congr e0 e1, h2⟩
theorem rX.congr {I I' : cn_I} {a b : Nat} {r : Int32} (h : rX I a b r) (e : I' 0 = I 0) : rX I' a b r := ⟨by rw [e]; exact h.1, by rw [e]; exact h.2.1, by rw [e]; exact h.2.2⟩
