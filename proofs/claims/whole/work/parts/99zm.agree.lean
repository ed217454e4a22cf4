/-! ===== rows that agree where a row is ===== -/
def ag (a a' : Nat → Int32) : Prop := ∀ j, (j < 42 ∨ (183 ≤ j ∧ j < 1084)) → a' j = a j
theorem ag.sy {a a' : Nat → Int32} (h : ag a a') : ag a' a := fun j hj => (h j hj).symm
theorem ag.tr {a b d : Nat → Int32} (h : ag a b) (g : ag b d) : ag a d := fun j hj => (g j hj).trans (h j hj)
section CODES
variable {cd cd' wd : Nat → Int32} {n : Nat}
theorem lvE_c3 (h : ∀ j, j < n → cd' j = cd j) : ∀ k, k ≤ n → lvE wd cd' k = lvE wd cd k
  | 0, _ => rfl
  | k + 1, hk => by
    show lvS wd (cd' k) (lvE wd cd' k) = lvS wd (cd k) (lvE wd cd k)
    rw [h k (by omega), lvE_c3 h k (by omega)]
theorem lvH_c3 (h : ∀ j, j < n → cd' j = cd j) : ∀ k, k ≤ n → lvH cd' k = lvH cd k
  | 0, _ => rfl
  | k + 1, hk => by
    unfold lvH
    rw [h k (by omega), lvH_c3 h k (by omega)]
theorem lvV_c3 (h : ∀ j, j < n → cd' j = cd j) : lvV wd cd' n = lvV wd cd n := by
  unfold lvV
  rw [lvE_c3 h n (Nat.le_refl _), lvH_c3 h n (Nat.le_refl _)]
theorem lwE_c3 {q : Nat × (Nat → Int32)} (h : ∀ j, j < n → cd' j = cd j) : ∀ k, k ≤ n → lwE wd cd' k q = lwE wd cd k q
  | 0, _ => rfl
  | k + 1, hk => by
    unfold lwE
    rw [h k (by omega), lwE_c3 h k (by omega)]
theorem lwW_c3 {u : Int32} (h : ∀ j, j < n → cd' j = cd j) (g : lwW u cd n) : lwW u cd' n := by
  refine ⟨fun j hj => ?_, by rw [lvH_c3 h n (Nat.le_refl _)]; exact g.2⟩
  rw [h j hj, lvH_c3 h j (by omega)]
  exact g.1 j hj
theorem lawOk_c3 {u : Int32} (h : ∀ j, j < n → cd' j = cd j) (g : lawOk u cd n) : lawOk u cd' n := by
  obtain ⟨g1, g2, g3, g4⟩ := g
  refine ⟨lwW_c3 h g1, fun j hj => by rw [h j hj]; exact g2 j hj, fun j hj wd f => ?_, g4⟩
  rw [h j hj, lwE_c3 h j (by omega)]
  exact g3 j hj wd f
end CODES
/-- laws alike: both none, or the same codes -/
def oE (x y : Option (Nat × (Nat → Int32))) : Prop := match x, y with
  | none, none => True
  | some (n, cd), some (m, cd') => m = n ∧ ∀ j, j < n → cd' j = cd j
  | _, _ => False
section AGREE
variable {a a' : Nat → Int32}
theorem ag.cd (h : ag a a') (ha : aOk a) {l : Nat} (hl : l < 2) : mCn (rwS a') l = mCn (rwS a) l ∧ ∀ j, j < mCn (rwS a) l → mCd (rwS a') l j = mCd (rwS a) l j := by
  have hb : cN (a (4 + l)) + mCn (rwS a) l ≤ 900 := by
    rcases (show l = 0 ∨ l = 1 by omega) with z | z <;> rw [z]
    · exact ha.2.1.1.2.2
    · exact ha.2.1.2.1.2.2
  have e4 : a' (4 + l) = a (4 + l) := h _ (by omega)
  have e6 : a' (6 + l) = a (6 + l) := h _ (by omega)
  refine ⟨?_, fun j hj => ?_⟩
  · show cN (a' (6 + l)) = cN (a (6 + l)); rw [e6]
  · show a' (184 + cN (a' (4 + l)) + j) = a (184 + cN (a (4 + l)) + j)
    rw [e4]
    exact h _ (by omega)
theorem ag.eR1 (h : ag a a') : aR a' = aR a := by unfold aR; rw [h 1 (by decide)]
theorem ag.wl (h : ag a a') (ha : aOk a) : oE (mWl (rwS a)) (mWl (rwS a')) := by
  obtain ⟨e1, e2⟩ := h.cd ha (l := 0) (by decide)
  unfold mWl
  show oE (if a 2 = 1 then _ else _) (if a' 2 = 1 then _ else _)
  rw [h 2 (by decide)]
  by_cases z : a 2 = 1
  · rw [if_pos z, if_pos z]; exact ⟨e1, e2⟩
  · rw [if_neg z, if_neg z]; trivial
theorem ag.ml (h : ag a a') (ha : aOk a) : oE (mMl (rwS a)) (mMl (rwS a')) := by
  obtain ⟨e1, e2⟩ := h.cd ha (l := 1) (by decide)
  unfold mMl
  show oE (if a 3 = 0 then _ else _) (if a' 3 = 0 then _ else _)
  rw [h 3 (by decide)]
  by_cases z : a 3 = 0
  · rw [if_pos z, if_pos z]; trivial
  · rw [if_neg z, if_neg z]; exact ⟨e1, e2⟩
theorem ag.sea (h : ag a a') : mSea (rwS a') = mSea (rwS a) ∧ mCls (rwS a') = mCls (rwS a) := by
  constructor
  · funext r
    show (if r < 4 then a' (28 + r) else 0) = (if r < 4 then a (28 + r) else 0)
    by_cases z : r < 4
    · rw [if_pos z, if_pos z, h _ (by omega)]
    · rw [if_neg z, if_neg z]
  · funext r
    show (if r < 4 then a' (8 + r) else 0) = (if r < 4 then a (8 + r) else 0)
    by_cases z : r < 4
    · rw [if_pos z, if_pos z, h _ (by omega)]
    · rw [if_neg z, if_neg z]
theorem spT_oE {x y : Option (Nat × (Nat → Int32))} (h : oE x y) (sea cls : Nat → Int32) (n : Nat) (mo : Int32) (c r : Nat) : spT y sea cls n mo c r = spT x sea cls n mo c r := by
  unfold spT
  rcases x with _ | ⟨n1, cd⟩ <;> rcases y with _ | ⟨n2, cd'⟩
  · rfl
  · exact h.elim
  · exact h.elim
  · obtain ⟨e, g⟩ := h
    show cl4 (lvV _ cd' n2) = cl4 (lvV _ cd n1)
    rw [e, lvV_c3 g]
theorem spM_oE {x y : Option (Nat × (Nat → Int32))} (h : oE x y) (sea cls : Nat → Int32) (mo : Int32) (c r : Nat) (s : Int32) : spM y sea cls mo c r s = spM x sea cls mo c r s := by
  unfold spM
  rcases x with _ | ⟨n1, cd⟩ <;> rcases y with _ | ⟨n2, cd'⟩
  · rfl
  · exact h.elim
  · exact h.elim
  · obtain ⟨e, g⟩ := h
    show decide (lvV _ cd' n2 = 1) = decide (lvV _ cd n1 = 1)
    rw [e, lvV_c3 g]
theorem ag.eS1 (h : ag a a') (ha : aOk a) : aS a' = aS a := by
  funext mo c q
  unfold aS spS
  rw [h.eR1, h.sea.1, h.sea.2]
  congr 1
  funext r
  exact spT_oE (h.wl ha) _ _ _ _ _ _
theorem ag.eY1 (h : ag a a') (ha : aOk a) : aY a' = aY a := by
  funext mo c q
  unfold aY spY
  rw [h.eR1, h.sea.1, h.sea.2, spM_oE (h.ml ha), spM_oE (h.ml ha)]
theorem ag.eE1 (h : ag a a') (ha : aOk a) : aE a' = aE a := aE_cg (h 1 (by decide)) (fun i h1 h2 => h i (by omega)) ha.R.2
theorem ag.WQ (h : ag a a') (ha : aOk a) : aW a' = aW a ∧ aQ a' = aQ a := row_of h.eR1 (h.eE1 ha)
theorem ag.sc (h : ag a a') : seaC a' = seaC a := c4_cg (fun i hi => by rw [h _ (by omega)])
theorem ag.row (h : ag a a') (ha : aOk a) : rowT a' = rowT a := by
  unfold rowT
  rw [h.sc, (h.WQ ha).1, (h.WQ ha).2, h 40 (by decide), h 41 (by decide)]
theorem ag.eB1 (h : ag a a') (ha : aOk a) : cB a' = cB a := by
  funext w q
  unfold cB
  rw [h.eS1 ha, h.eR1, h 40 (by decide)]
theorem ag.eK1 (h : ag a a') (ha : aOk a) : bK a' = bK a := by
  funext i
  unfold bK
  rw [h.eB1 ha, h.eR1]
theorem ag.eV1 (h : ag a a') (ha : aOk a) : mV1 a' = mV1 a := by
  funext r wa seat
  have g := h.ml ha
  unfold mV1
  rcases hx : mMl (rwS a) with _ | ⟨n1, cd⟩ <;> rcases hy : mMl (rwS a') with _ | ⟨n2, cd'⟩ <;> rw [hx, hy] at g
  · exact g.elim
  · exact g.elim
  · obtain ⟨e, g⟩ := g
    dsimp only
    rw [e, lvV_c3 g, h.sea.1, h.sea.2, h 40 (by decide)]
theorem ag.eM1 (h : ag a a') (ha : aOk a) : mK a' = mK a := by
  funext i
  unfold mK
  rw [h.eV1 ha]
theorem ag.eW1 (h : ag a a') (ha : aOk a) : wK a' = wK a := by
  funext i
  have g := h.wl ha
  unfold wK wV
  rcases hx : mWl (rwS a) with _ | ⟨n1, cd⟩ <;> rcases hy : mWl (rwS a') with _ | ⟨n2, cd'⟩ <;> rw [hx, hy] at g
  · exact g.elim
  · exact g.elim
  · obtain ⟨e, g⟩ := g
    dsimp only
    rw [e, lvV_c3 g, h.sea.1, h.sea.2, h 40 (by decide), h.eR1]
theorem ag.eN1 (h : ag a a') (ha : aOk a) : nxC a' = nxC a := by
  funext v d
  unfold nxC fiC
  rw [h.eB1 ha, h.eY1 ha, h.eR1, h 40 (by decide)]
theorem ag.eL1 (h : ag a a') (ha : aOk a) : cL a' = cL a := by
  funext k
  unfold cL
  rw [h.eN1 ha, (h.WQ ha).1, (h.WQ ha).2, h.eR1]
theorem ag.eA1 (h : ag a a') (ha : aOk a) : aN a' = aN a := by
  funext v d
  unfold aN
  rw [h.eS1 ha, h.eY1 ha, h 40 (by decide)]
theorem ag.eA2 (h : ag a a') (ha : aOk a) : aL a' = aL a := by
  funext k
  unfold aL
  rw [h.eA1 ha, h.eE1 ha]
theorem ag.eI1 (h : ag a a') (ha : aOk a) : gI a' = gI a := by
  funext N i d
  unfold gI
  rw [h.eA1 ha, h.eA2 ha]
theorem ag.eG1 (h : ag a a') (ha : aOk a) : gV a' = gV a := by
  funext N r k i
  unfold gV gC
  rw [h.eA2 ha]
theorem ag.ok (h : ag a a') (ha : aOk a) : aOk a' := by
  have hR := h.eR1
  have hs : ∀ r, r < 4 → mSt (rwS a') r = mSt (rwS a) r := fun r hr => by show cN (a' (36 + r)) = cN (a (36 + r)); rw [h _ (by omega)]
  have hl : ∀ l, l < 2 → mLo (rwS a) l → mLo (rwS a') l := fun l hl g => by
    obtain ⟨g1, g2, g3⟩ := g
    have e4 : a' (4 + l) = a (4 + l) := h _ (by omega)
    have e6 : a' (6 + l) = a (6 + l) := h _ (by omega)
    refine ⟨?_, ?_, ?_⟩
    · show a' (4 + l) = nI (cN (a' (4 + l))); rw [e4]; exact g1
    · show a' (6 + l) = nI (cN (a' (6 + l))); rw [e6]; exact g2
    · show cN (a' (4 + l)) + cN (a' (6 + l)) ≤ 900; rw [e4, e6]; exact g3
  obtain ⟨⟨⟨v1, v2⟩, v3, v4, v5⟩, ⟨l1, l2, l3, l4⟩, p1, p2⟩ := ha
  have ha : aOk a := ⟨⟨⟨v1, v2⟩, v3, v4, v5⟩, ⟨l1, l2, l3, l4⟩, p1, p2⟩
  refine ⟨⟨⟨?_, ?_⟩, fun r hr => ⟨⟨?_, ?_⟩, ⟨?_, ?_⟩, ?_, ?_⟩, ?_, ?_⟩, ⟨hl 0 (by decide) l1, hl 1 (by decide) l2, fun z => ?_, ?_⟩, fun s hs1 => ?_, fun r hr => ?_⟩
  · show a' 1 = nI (aR a'); rw [hR, h 1 (by decide)]; exact v1
  · show aR a' ≤ 4; rw [hR]; exact v2
  · show a' (36 + r) = nI (mSt (rwS a') r); rw [hs r hr, h _ (by omega)]; exact (v3 r hr).1.1
  · rw [hs r hr]; exact (v3 r hr).1.2
  · show a' (32 + r) = nI (cN (a' (32 + r))); rw [h _ (by omega)]; exact (v3 r hr).2.1.1
  · show cN (a' (32 + r)) < 5; rw [h _ (by omega)]; exact (v3 r hr).2.1.2
  · show a' (28 + r) = nI (cN (a' (28 + r))); rw [h _ (by omega)]; exact (v3 r hr).2.2.1
  · show cN (a' (28 + r)) < 4; rw [h _ (by omega)]; exact (v3 r hr).2.2.2
  · show a' 40 = nI (cN (a' 40)); rw [h 40 (by decide)]; exact v4
  · show cN (a' 40) < 10; rw [h 40 (by decide)]; exact v5
  · have z2 : a 2 = 1 := (h 2 (by decide)).symm.trans z
    obtain ⟨e1, e2⟩ := h.cd ha (l := 0) (by decide)
    rw [e1]
    exact lwW_c3 e2 (l3 z2)
  · rcases l4 with z | z
    · exact Or.inl ((h 3 (by decide)).trans z)
    · obtain ⟨e1, e2⟩ := h.cd ha (l := 1) (by decide)
      rw [e1]
      exact Or.inr (lwW_c3 e2 z)
  · have hs2 : s < aR a := by rw [← hR]; exact hs1
    obtain ⟨r, r1, r2⟩ := p1 s hs2
    have r4 : r < 4 := Nat.lt_of_lt_of_le r1 v2
    exact ⟨r, by show r < aR a'; rw [hR]; exact r1, by rw [hs r r4]; exact r2⟩
  · have hr2 : r < aR a := by rw [← hR]; exact hr
    have r4 : r < 4 := Nat.lt_of_lt_of_le hr2 v2
    rw [hs r r4]
    show mSt (rwS a) r < aR a'
    rw [hR]
    exact p2 r hr2
theorem ag.good (h : ag a a') (ha : aGood a) : aGood a' := by
  refine ⟨h.ok ha.1, fun n cd e => ?_, fun n cd e => ?_⟩
  · have g := h.wl ha.1
    rcases hx : mWl (rwS a) with _ | ⟨n1, cd1⟩ <;> rw [hx, e] at g
    · exact g.elim
    · obtain ⟨g1, g2⟩ := g
      rw [g1]
      exact lawOk_c3 g2 (ha.2.1 _ _ hx)
  · have g := h.ml ha.1
    rcases hx : mMl (rwS a) with _ | ⟨n1, cd1⟩ <;> rw [hx, e] at g
    · exact g.elim
    · obtain ⟨g1, g2⟩ := g
      rw [g1]
      obtain ⟨k1, k2⟩ := ha.2.2 _ _ hx
      exact ⟨lawOk_c3 g2 k1, fun wd => by rw [lvV_c3 g2]; exact k2 wd⟩
end AGREE
theorem lwA.agr {S : ab_S} {im : Nat → Prop} {l : Option Nat} {x y : Option (Nat × (Nat → Int32))} (h : lwA S im l x) (g : oE x y) : lwA S im l y := by
  rcases x with _ | ⟨n1, cd⟩ <;> rcases y with _ | ⟨n2, cd'⟩
  · exact h
  · exact g.elim
  · exact g.elim
  · obtain ⟨e, g⟩ := g
    obtain ⟨b, h1, h2, h3, h4, h5, h6, h7⟩ := h
    exact ⟨b, h1, h2, h3, by rw [e]; exact h4, by rw [e]; exact h5, h6, fun j hj => by rw [g j (by omega)]; exact h7 j (by omega)⟩
theorem caI.agr {S : ab_S} {im : Nat → Prop} {c : Nat} {a a' : Nat → Int32} (h : caI S im c a) (g : ag a a') (ha : aOk a) : caI S im c a' := by
  obtain ⟨h1, h2, h3, h4, h5, h6, h7, h8⟩ := h
  exact ⟨h1, by rw [g.eR1]; exact h2, by rw [g 0 (by decide)]; exact h3, fun r hr => by rw [g _ (by omega)]; exact h4 r hr, fun j hj => by rw [g _ (by omega)]; exact h5 j hj, h6.agr (g.wl ha), h7.agr (g.ml ha), h8⟩
theorem clI.agr {S : ab_S} {im : Nat → Prop} {x c bh nb st : Nat} {b b' : Nat → Int32} (h : clI S im x c b bh nb st) (g : ag b b') (hb : aOk b) : clI S im x c b' bh nb st := by
  obtain ⟨a1, a2, a3, a4, a5, a6, a7, a8, a9, a10, a11, a12, b1, b2, b3⟩ := h
  exact ⟨a1.agr g hb, a2, by rw [g.sc]; exact a3, by rw [g 40 (by decide)]; exact a4, a5, a6, a7, a8, a9, a10, a11, a12, by rw [g.eK1 hb]; exact b1, by rw [g.eW1 hb]; exact b2, by rw [g.eM1 hb]; exact b3⟩
theorem roI.agr {S : ab_S} {r N x k : Nat} {a a' : Nat → Int32} (hI : roI S r N x a k) (g : ag a a') (ha : aOk a) : roI S r N x a' k := by
  unfold roI roF roN at hI ⊢
  rw [g.eL1 ha, g.eN1 ha, g.eR1]
  exact hI
theorem foN.agr {S : ab_S} {im : Nat → Prop} {bh r N kn rs : Nat} {b b' : Nat → Int32} (h : foN S im bh r N kn rs b) (g : 0 < kn → ag b b' ∧ aOk b) : foN S im bh r N kn rs b' := by
  rcases h with h | ⟨F, M, p, hi, hb, hr, hK, hz, hM, hs⟩
  · exact Or.inl h
  · refine Or.inr ⟨F, M, p, hi, hb, hr, hK, hz, hM, fun z => ⟨(hs z).1, fun y => ?_⟩⟩
    obtain ⟨y1, y2⟩ := (hs z).2 y
    obtain ⟨g1, g2⟩ := g y1
    refine ⟨y1, fun p h T a1 a2 a3 a4 a5 => ?_⟩
    rw [g1.eL1 g2] at a5
    rw [g1.eI1 g2, g1.eG1 g2]
    exact y2 p h T a1 a2 a3 a4 a5
/-- with the rest of another row -/
def tl (b e : Nat → Int32) : Nat → Int32 := fun j => if j < 1084 then b j else e j
theorem tl_ag (b e : Nat → Int32) : ag b (tl b e) := fun j hj => if_pos (by omega)
theorem tl_sta {b b1 e : Nat → Int32} (h : sta b b1) : sta (tl b e) (tl b1 e) := fun i hi => by
  unfold tl
  by_cases z : i < 1084
  · rw [if_pos z, if_pos z]; exact h i hi
  · rw [if_neg z, if_neg z]
theorem tl_sta2 {a a' b : Nat → Int32} (h : sta a b) (g : ag a a') : sta a' (tl b a') := fun i hi => by
  unfold tl
  by_cases z : i < 1084
  · rw [if_pos z, h i hi]; exact (g i (by omega)).symm
  · rw [if_neg z]
theorem rfK.agr {S : ab_S} {im : Nat → Prop} {bh st u : Nat} {b0 e : Nat → Int32} (h : rfK S im bh st b0 u) : rfK S im bh st (tl b0 e) u := by
  rcases h with h | ⟨r, N, kn, rs, b, p, hi, hb, hK, hz, hs, k1, k2, r1, r2, h9, hI, hF⟩
  · exact Or.inl h
  · refine Or.inr ⟨r, N, kn, rs, tl b e, p, hi, hb, hK, hz, hs, k1, k2, r1, r2, h9, fun z => ?_, hF.agr (fun z => ⟨tl_ag b e, (hI z).choose_spec.1⟩)⟩
    obtain ⟨k, q1, q2, q3⟩ := hI z
    refine ⟨k, (tl_ag b e).ok q1, q2.agr (tl_ag b e) q1, fun y => ?_⟩
    obtain ⟨w1, w2, w3⟩ := q3 y
    exact ⟨tl_sta w1, fun r hr => by rw [tl_ag b0 e _ (by omega), tl_ag b e _ (by omega)]; exact w2 r hr, by rw [tl_ag b0 e 40 (by decide), tl_ag b e 40 (by decide)]; exact w3⟩
theorem kBd.agr {S : ab_S} {im : Nat → Prop} {a a' b : Nat → Int32} {c bh nb st st2 u : Nat} (h : kBd S im a c b bh nb st st2 u) (g : ag a a') : kBd S im a' c (tl b a') bh nb st st2 u := by
  obtain ⟨x1, x2, x3, x4, x7, x8, ⟨x9, x10, x11, x12⟩, ⟨b2, y1, y2, y3⟩, x14, x16, x17, x18, x19⟩ := h
  have s1 : sta a' (tl b a') := tl_sta2 x10 g
  have s2 : sta a' (tl b2 a') := tl_sta2 y2 g
  exact ⟨x1, x2, x3, x4, g.good x7, x8, ⟨(tl_ag b a').ok x9, s1, x11.agr (tl_ag b a') x9, x12⟩, ⟨tl b2 a', (tl_ag b2 a').ok y1, s2, y3.agr (tl_ag b2 a') y1⟩, x14, x16, x17.agr, x18, x19⟩
