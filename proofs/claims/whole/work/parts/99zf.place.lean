/-! ===== in which seats all are warmest ===== -/
def ordL (R : Nat) : List Nat := if R = 4 then [0, 6, 2, 7, 8, 9, 1, 10, 3, 11, 12, 13, 4, 14, 5, 15, 16, 17, 18, 19, 20, 21, 22, 23] else if R = 3 then [0, 2, 1, 3, 4, 5] else if R = 2 then [0, 1] else [0]
theorem ord_all : (List.range 5).all (fun R => decide ((plX R R 0 0 (fun _ => 0)).map (fun p => (List.range R).map p) = (ordL R).map (fun q => (List.range R).map (qSe q))) && (List.range (kFc R)).all (fun q => (ordL R).contains q) && (ordL R).all (fun q => decide (q < kFc R)) && decide ((ordL R).Pairwise (fun x y => qO x < qO y))) = true := by decide +kernel
theorem ord_ok {R : Nat} (hR : R ≤ 4) : (plX R R 0 0 (fun _ => 0)).map (fun p => (List.range R).map p) = (ordL R).map (fun q => (List.range R).map (qSe q)) ∧ (∀ q, q < kFc R → q ∈ ordL R) ∧ (∀ q, q ∈ ordL R → q < kFc R) ∧ (ordL R).Pairwise (fun x y => qO x < qO y) := by
  have h0 := ord_all
  rw [List.all_eq_true] at h0
  have h1 := h0 R (List.mem_range.mpr (by omega))
  rw [Bool.and_eq_true, Bool.and_eq_true, Bool.and_eq_true, List.all_eq_true, List.all_eq_true] at h1
  obtain ⟨⟨⟨a1, a2⟩, a3⟩, a4⟩ := h1
  exact ⟨of_decide_eq_true a1, fun q hq => List.contains_iff_mem.mp (a2 q (List.mem_range.mpr hq)), fun q hq => of_decide_eq_true (a3 q hq), of_decide_eq_true a4⟩
theorem seat1 : (List.range 5).all (fun R => (List.range 24).all (fun q => (List.range 24).all (fun q2 => !(decide (q < kFc R)) || !(decide (q2 < kFc R)) || !((List.range R).all (fun r => decide (qSe q r = qSe q2 r))) || decide (q = q2)))) = true := by decide +kernel
theorem seat_1 {R q q2 : Nat} (hR : R ≤ 4) (hq : q < kFc R) (hq2 : q2 < kFc R) (h : ∀ r, r < R → qSe q r = qSe q2 r) : q = q2 := by
  have h0 := seat1
  rw [List.all_eq_true] at h0
  have h1 := h0 R (List.mem_range.mpr (by omega))
  rw [List.all_eq_true] at h1
  have h2 := h1 q (List.mem_range.mpr (Nat.lt_of_lt_of_le hq (kFc_le R)))
  rw [List.all_eq_true] at h2
  have h2' := h2 q2 (List.mem_range.mpr (Nat.lt_of_lt_of_le hq2 (kFc_le R)))
  have h3 : (List.range R).all (fun r => decide (qSe q r = qSe q2 r)) = true := by
    rw [List.all_eq_true]
    intro r hr
    exact decide_eq_true (h r (List.mem_range.mp hr))
  rw [h3, decide_eq_true hq, decide_eq_true hq2] at h2'
  simpa using h2'
theorem qO_256 : ∀ q, q < 24 → qO q < 256 := by decide
theorem qO_in2 : ∀ q, q < 24 → ∀ q2, q2 < 24 → qO q = qO q2 → q = q2 := by decide +kernel
theorem wa_0 {R x i : Nat} (hx : x < 5 ^ R) (hR : R ≤ 4) (hi : R ≤ i) : mWa x i = 0 := by
  unfold mWa
  have h6 : x < 625 := Nat.lt_of_lt_of_le hx (show 5 ^ R ≤ 5 ^ 4 from Nat.pow_le_pow_right (by decide) hR)
  rw [Nat.mod_eq_of_lt h6, Nat.div_eq_of_lt (Nat.lt_of_lt_of_le hx (Nat.pow_le_pow_right (by decide) hi))]
theorem wa_inj {R x y : Nat} (hR : R ≤ 4) (hx : x < 5 ^ R) (hy : y < 5 ^ R) (h : ∀ i, i < R → mWa x i = mWa y i) : x = y := by
  have e1 := wa_one (R := R) (x := x) (g := fun i => mWa x i) hR hx (fun _ _ => rfl) (fun i hi _ => wa_0 hx hR hi)
  have e2 := wa_one (R := R) (x := y) (g := fun i => mWa x i) hR hy (fun i hi => h i hi) (fun i hi _ => wa_0 hx hR hi)
  exact e1.symm.trans e2
/-- the stand with all in the seats of q -/
theorem aPl_E {a : Nat → Int32} (ha : aOk a) {p : Nat → Nat} {q : Nat} (hq : q < kFc (aR a)) (hp : ∀ k, k < aR a → p k = qSe q k) : aOk (aPl a p) ∧ aE (aPl a p) = cSt (aR a) (aW a) q := by
  have hR := ha.R.2
  have hB := qB1_ok hR hq
  have ho : aOk (aPl a p) := by
    refine aPl_ok ha (fun r hr => by rw [hp r hr]; exact (hB.2.2.2.2.1 r hr).2.2) (fun s hs => ⟨qRi q s, (hB.2.2.2.2.1 s hs).2.1, ?_⟩)
    have z := hB.2.2.2.2.1 s hs
    rw [hp _ z.2.1]
    exact (qB2_ok hR hq s hs).1
  refine ⟨ho, ?_⟩
  obtain ⟨h1, h2, h3⟩ := rowT_in ho
  obtain ⟨g1, g2, g3⟩ := rowT_in ha
  rw [aPl_R hR] at h1 h2 h3
  have e1 : aW (aPl a p) = aW a := by
    refine wa_inj hR h2 g2 (fun i hi => ?_)
    have z1 := row_wa ho (r := i) (by rw [aPl_R hR]; exact hi)
    rw [aPl_o hR (by omega), row_wa ha hi] at z1
    have l1 : mWa (aW a) i < 5 := Nat.mod_lt _ (by decide)
    have l2 : mWa (aW (aPl a p)) i < 5 := Nat.mod_lt _ (by decide)
    exact ((nI_eq (by omega) (by omega)).mp z1).symm
  have e2 : aQ (aPl a p) = q := by
    refine seat_1 hR h1 hq (fun i hi => ?_)
    have z1 := row_se ho (r := i) (by rw [aPl_R hR]; exact hi)
    rw [aPl_s hi, hp i hi] at z1
    have l1 := (hB.2.2.2.2.1 i hi).2.2
    have l2 := ((qB1_ok hR h1).2.2.2.2.1 i hi).2.2
    exact ((nI_eq (by omega) (by omega)).mp z1).symm
  rw [h3, e1, e2]
theorem plN_c {a : Nat → Int32} (ha : aOk a) {p : Nat → Nat} {q : Nat} (hq : q < kFc (aR a)) (hp : ∀ k, k < aR a → p k = qSe q k) : ∀ n, plN a n p = cSt (aR a) (cI a (aW a) q n) q
  | 0 => (aPl_E ha hq hp).2
  | n + 1 => by
    have hR := ha.R.2
    have i := plN_c ha hq hp n
    have hw := cI_lt hR hq (rowT_in ha).2.1 n
    show aI (aPl a p) (a 40) (n + 1) = _
    rw [aI_s]
    show aS (aPl a p) (a 40) (plN a n p) 0 = _
    rw [aPl_S ha, i, cB_st hR hq hw]
    rfl
def leP (a : Nat → Int32) (n q : Nat) : Nat := mLe (cI a (aW a) q n) (aR a)
def suP (a : Nat → Int32) (n q : Nat) : Nat := mSu (cI a (aW a) q n) (aR a)
def kyP (a : Nat → Int32) (n q : Nat) : Nat := (leP a n q * 100 + suP a n q) * 256 + (255 - qO q)
/-- q is as the best so far says -/
def plR (a : Nat → Int32) (n q : Nat) (b : plB) : Prop := b.1 = nI (leP a n q) ∧ b.2.1 = nI (suP a n q) ∧ ∀ k, k < aR a → b.2.2 k = nI (qSe q k)
theorem plU_c {a : Nat → Int32} (ha : aOk a) {n q : Nat} {p : Nat → Nat} (hq : q < kFc (aR a)) (hp : ∀ k, k < aR a → p k = qSe q k) {b : plB} {q0 : Nat} (hb : plR a n q0 b) (ho : qO q0 < qO q) : (kyP a n q ≤ kyP a n q0 ∧ plR a n q0 (plU a n b p)) ∨ (kyP a n q0 < kyP a n q ∧ plR a n q (plU a n b p)) := by
  have hR := ha.R.2
  have hw : cI a (aW a) q n < 625 := by have := cI_lt hR hq (rowT_in ha).2.1 n; have := p5_6 hR; omega
  have eL : mLe (plN a n p) (aR a) = leP a n q := by rw [plN_c ha hq hp, cSt_le hw]; rfl
  have eS : mSu (plN a n p) (aR a) = suP a n q := by rw [plN_c ha hq hp, cSt_su hw]; rfl
  have l1 : leP a n q ≤ 4 := mLe_le _ _
  have l2 : leP a n q0 ≤ 4 := mLe_le _ _
  have s1 : suP a n q ≤ 4 * aR a := mSu_le _ _
  have s2 : suP a n q0 ≤ 4 * aR a := mSu_le _ _
  have o1 : qO q < 256 := qO_256 q (Nat.lt_of_lt_of_le hq (kFc_le _))
  obtain ⟨b1, b2, b3⟩ := hb
  unfold plU
  rw [eL, eS, b1, b2]
  have w1 : nI (leP a n q) < nI (leP a n q0) ↔ leP a n q < leP a n q0 := nI_ltI (by omega) (by omega)
  have w2 : nI (leP a n q) = nI (leP a n q0) ↔ leP a n q = leP a n q0 := nI_eq (by omega) (by omega)
  have w3 : nI (suP a n q) ≤ nI (suP a n q0) ↔ suP a n q ≤ suP a n q0 := nI_leI (by omega) (by omega)
  by_cases z : leP a n q < leP a n q0 ∨ leP a n q = leP a n q0 ∧ suP a n q ≤ suP a n q0
  · rw [if_pos (by rw [w1, w2, w3]; exact z)]
    refine Or.inl ⟨?_, b1, b2, b3⟩
    unfold kyP
    omega
  · rw [if_neg (by rw [w1, w2, w3]; exact z)]
    refine Or.inr ⟨?_, rfl, rfl, fun k hk => by show nI (p k) = _; rw [hp k hk]⟩
    unfold kyP
    omega
theorem plF_c {a : Nat → Int32} (ha : aOk a) {n : Nat} : ∀ (L : List (Nat → Nat)) (Q : List Nat) (b : plB) (q0 : Nat), L.map (fun p => (List.range (aR a)).map p) = Q.map (fun q => (List.range (aR a)).map (qSe q)) → (∀ q, q ∈ Q → q < kFc (aR a)) → (q0 :: Q).Pairwise (fun x y => qO x < qO y) → plR a n q0 b → ∃ q, q ∈ q0 :: Q ∧ (∀ q', q' ∈ q0 :: Q → kyP a n q' ≤ kyP a n q) ∧ plR a n q (L.foldl (plU a n) b)
  | [], [], b, q0, _, _, _, hb => ⟨q0, List.Mem.head _, fun q' h => by rw [List.mem_singleton.mp h]; exact Nat.le_refl _, hb⟩
  | [], _ :: _, _, _, h, _, _, _ => by cases h
  | _ :: _, [], _, _, h, _, _, _ => by cases h
  | p :: L, q :: Q, b, q0, h, hQ, hP, hb => by
    rw [List.map_cons, List.map_cons] at h
    obtain ⟨h1, h2⟩ := List.cons.inj h
    have hp : ∀ k, k < aR a → p k = qSe q k := fun k hk => by
      have z := congrArg (fun l => l.getD k 0) h1
      simpa [hk] using z
    have hq := hQ q (List.Mem.head _)
    have hP0 := List.pairwise_cons.mp hP
    have hP1 := List.pairwise_cons.mp hP0.2
    rcases plU_c ha hq hp hb (hP0.1 q (List.Mem.head _)) with ⟨k1, k2⟩ | ⟨k1, k2⟩
    · obtain ⟨q2, m1, m2, m3⟩ := plF_c ha L Q (plU a n b p) q0 h2 (fun q' z => hQ q' (List.Mem.tail _ z)) (List.pairwise_cons.mpr ⟨fun y hy => hP0.1 y (List.Mem.tail _ hy), hP1.2⟩) k2
      refine ⟨q2, ?_, fun q' z => ?_, m3⟩
      · rcases List.mem_cons.mp m1 with y | y
        · rw [y]; exact List.Mem.head _
        · exact List.Mem.tail _ (List.Mem.tail _ y)
      · rcases List.mem_cons.mp z with y | y
        · rw [y]; exact m2 q0 (List.Mem.head _)
        · rcases List.mem_cons.mp y with x | x
          · rw [x]; exact Nat.le_trans k1 (m2 q0 (List.Mem.head _))
          · exact m2 q' (List.Mem.tail _ x)
    · obtain ⟨q2, m1, m2, m3⟩ := plF_c ha L Q (plU a n b p) q h2 (fun q' z => hQ q' (List.Mem.tail _ z)) hP0.2 k2
      refine ⟨q2, List.Mem.tail _ m1, fun q' z => ?_, m3⟩
      rcases List.mem_cons.mp z with y | y
      · rw [y]; exact Nat.le_trans (Nat.le_of_lt k1) (m2 q (List.Mem.head _))
      · exact m2 q' y
/-- what the class finds is what the fold finds -/
theorem place_c {a : Nat → Int32} (ha : aOk a) {n q : Nat} (hq : q < kFc (aR a)) (hb : ∀ q', q' < kFc (aR a) → kyP a n q' ≤ kyP a n q) (q0 : Nat → Int32) : plR a n q ((plX (aR a) (aR a) 0 0 (fun _ => 0)).foldl (plU a n) (-1, -1, q0)) := by
  have hR := ha.R.2
  obtain ⟨e1, e2, e3, e4⟩ := ord_ok hR
  rcases hL : plX (aR a) (aR a) 0 0 (fun _ => 0) with _ | ⟨p, L⟩
  · rw [hL] at e1
    have z := e2 q hq
    rcases hQ : ordL (aR a) with _ | ⟨x, Q⟩
    · rw [hQ] at z; cases z
    · rw [hQ] at e1; cases e1
  · rw [hL] at e1
    rcases hQ : ordL (aR a) with _ | ⟨x, Q⟩
    · rw [hQ] at e1; cases e1
    · rw [hQ] at e1 e2 e3 e4
      rw [List.map_cons, List.map_cons] at e1
      obtain ⟨h1, h2⟩ := List.cons.inj e1
      have hp : ∀ k, k < aR a → p k = qSe x k := fun k hk => by
        have z := congrArg (fun l => l.getD k 0) h1
        simpa [hk] using z
      have hx := e3 x (List.Mem.head _)
      have hw : cI a (aW a) x n < 625 := by have := cI_lt hR hx (rowT_in ha).2.1 n; have := p5_6 hR; omega
      have eL : mLe (plN a n p) (aR a) = leP a n x := by rw [plN_c ha hx hp, cSt_le hw]; rfl
      have eS : mSu (plN a n p) (aR a) = suP a n x := by rw [plN_c ha hx hp, cSt_su hw]; rfl
      have l1 : leP a n x ≤ 4 := mLe_le _ _
      have h0 : plR a n x (plU a n (-1, -1, q0) p) := by
        have y1 : ¬ nI (leP a n x) < -1 := fun z => nI_nn _ (by omega) (Int32.lt_trans z (by decide))
        have y2 : ¬ nI (leP a n x) = -1 := nI_m1 (by omega)
        unfold plU
        rw [eL, eS, if_neg (fun z => by rcases z with z | z; exact y1 z; exact y2 z.1)]
        exact ⟨rfl, rfl, fun k hk => by show nI (p k) = _; rw [hp k hk]⟩
      rw [List.foldl_cons]
      obtain ⟨q2, m1, m2, m3⟩ := plF_c ha L Q _ x h2 (fun q' z => e3 q' (List.Mem.tail _ z)) e4 h0
      have hq2 := e3 q2 m1
      have i1 := m2 q (e2 q hq)
      have i2 := hb q2 hq2
      have o1 : qO q < 256 := qO_256 q (Nat.lt_of_lt_of_le hq (kFc_le _))
      have o2 : qO q2 < 256 := qO_256 q2 (Nat.lt_of_lt_of_le hq2 (kFc_le _))
      have eo : qO q = qO q2 := by
        unfold kyP at i1 i2
        omega
      rw [qO_in2 q (Nat.lt_of_lt_of_le hq (kFc_le _)) q2 (Nat.lt_of_lt_of_le hq2 (kFc_le _)) eo]
      exact m3
