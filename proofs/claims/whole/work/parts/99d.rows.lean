/-! ===== the rows that are begun for now ===== -/
theorem xSh.r50 {S : ab_S} {k : Nat} {v : Option Nat} (hx : xSh S) (hk : k = 15 ∨ k = 16) : xSh (pP S 50 k v) := by
  obtain ⟨x1, x2, x3⟩ := hx
  refine ⟨x1, x2, fun t ht => ?_⟩
  have hn : ∀ t ∈ xPl, t.1 = 50 → t.2.1 ≠ 15 ∧ t.2.1 ≠ 16 := by decide
  by_cases z : t.1 = 50
  · rw [gP_k (by have := hn t ht z; omega)]; exact x3 t ht
  · rw [gP_o z]; exact x3 t ht
/-- rows r of size N hold those of a, k of them opened; rs starts so far -/
def rfB (S : ab_S) (im : Nat → Prop) (bh st : Nat) (a : Nat → Int32) (u r N k rs : Nat) : Prop := sP S 50 15 = some r ∧ (∀ y, r ≤ y → y ≤ r + 7 → ¬ im y) ∧ (bh < r ∨ r + 7 < bh) ∧ roK S r N ∧ szN N ∧ sI S r 14 = nI rs ∧ rs ≤ u ∧ sI S r 9 = nI st ∧ roI S r N 84 a k ∧ foN S im bh r N 1 rs a
theorem foN.kn {S : ab_S} {im : Nat → Prop} {bh r N kn kn' rs : Nat} {b : Nat → Int32} (h : foN S im bh r N kn rs b) (hk : 0 < kn') : foN S im bh r N kn' rs b := by
  rcases h with h | ⟨F, M, p, hi, hb, hr, hK, hz, hM, hs⟩
  · exact Or.inl h
  · exact Or.inr ⟨F, M, p, hi, hb, hr, hK, hz, hM, fun z => ⟨(hs z).1, fun y => ⟨hk, ((hs z).2 y).2⟩⟩⟩
theorem foN.gr {S S' : ab_S} {l im : Nat → Prop} {bh r N kn rs : Nat} {b : Nat → Int32} (h : foN S im bh r N kn rs b) (g : gF l S S') (h145 : 145 ≤ sn S) (hb84 : 84 ≤ bh) (hl : ∀ y, l y → (y < 145 ∧ y ≠ 50) ∨ y = bh ∨ (r ≤ y ∧ y ≤ r + 7)) (h50 : ∀ y, l y → y = 50 → False) : foN S' im bh r N kn rs b := by
  have e50 := (g.2.2.2 50 (by omega) (fun z => h50 50 z rfl)).2.2
  rcases h with h | ⟨F, M, p, hi, hb, hr, hK, hz, hM, hs⟩
  · exact Or.inl (by rw [e50]; exact h)
  · have hF := hK.1
    have hF2 := hK.2.1
    have nl : ∀ y, F ≤ y → y ≤ F + 5 → ¬ l y := fun y h1 h2 z => by have := hl y z; omega
    have e0 := (g.2.2.2 F (by omega) (nl F (by omega) (by omega))).1
    have e1 := (g.2.2.2 (F + 1) (by omega) (nl (F + 1) (by omega) (by omega))).1
    refine Or.inr ⟨F, M, by rw [e50]; exact p, hi, hb, hr, hK.gf g (nl F (by omega) (by omega)), hz, hM, fun z => ?_⟩
    obtain ⟨s1, s2⟩ := hs z
    rw [e0]
    exact ⟨s1, fun y => ⟨(s2 y).1, fun p h T a1 a2 a3 a4 a5 => ((s2 y).2 p h T a1 a2 a3 a4 a5).ge e1⟩⟩
theorem rfB.K {S : ab_S} {im : Nat → Prop} {bh st u r N k rs : Nat} {a : Nat → Int32} (h : rfB S im bh st a u r N k rs) (ha : aOk a) (hst : st < 2 ^ 20) : rfK S im bh st a u := by
  obtain ⟨h1, h2, h3, h4, h5, h6, h7, h8, h9, h10⟩ := h
  have p := (bfB_pos (nx := nxC a) (c0 := aQ a * 5 ^ aR a + aW a) k).1
  refine Or.inr ⟨r, N, (cL a k).length, rs, a, h1, h2, h3, h4, h5, h9.1.2.2.2, h9.1.1, by have := cL_15 ha k; omega, h6, h7, fun s s1 s2 z => ?_, fun _ => ⟨k, ha, h9, fun _ => alk.rf⟩, h10.kn p⟩
  rw [h8] at z
  have := (nI_eq (by omega) (by omega)).mp z
  omega
theorem roK.rE {S S' : ab_S} {r N : Nat} {l : List Nat} (h : roK S r N) (g : rEq r l S S') : roK S' r N := by
  obtain ⟨h1, h2, h3, h4, h5, h6, h7, h8, h9, h10, p0, p1, p2, p3, p4, p5, p6, p7, hN⟩ := h
  obtain ⟨g1, g2, g3, g4, g5, g6, g7, g8⟩ := g
  unfold roK
  rw [g2, g7, g6 0 (by decide), g6 1 (by decide), g6 2 (by decide), g6 3 (by decide), g6 4 (by decide), g6 5 (by decide), g6 6 (by decide), g6 7 (by decide)]
  exact ⟨h1, h2, h3, h4, h5, h6, h7, h8, h9, h10, p0, p1, p2, p3, p4, p5, p6, p7, hN⟩
/-- behind begin -/
theorem rfB.beg {S S' : ab_S} {im : Nat → Prop} {bh st u r N k kn rs : Nat} {a b : Nat → Int32} (hu : u + 1 < 2 ^ 20) (h145 : 145 ≤ sn S) (hb84 : 84 ≤ bh) (ha : aOk a) (p : sP S 50 15 = some r) (hi : ∀ y, r ≤ y → y ≤ r + 7 → ¬ im y) (hb : bh < r ∨ r + 7 < bh) (hK : roK S r N) (hz : szN N) (r1 : sI S r 14 = nI rs) (r2 : rs ≤ u) (hold : 0 < kn → aOk b) (hF : foN S im bh r N kn rs b) (hE : rEq r [r, r + 1, r + 2, r + 3] S S') (hI : roI S' r N 84 a k) (h9 : sI S' r 9 = nI st) (hQ : rsQ S S' r kn a b) : ∃ rs', rfB S' im bh st a (u + 1) r N k rs' := by
  have hr := hK.1
  have p' : sP S' 50 15 = some r := by rw [hE.2.2.2.2.1 50 (by omega)]; exact p
  have hl : ∀ y, (y ∈ [r, r + 1, r + 2, r + 3] ∨ y = r) → (y < 145 ∧ y ≠ 50) ∨ y = bh ∨ (r ≤ y ∧ y ≤ r + 7) := fun y z => by
    simp only [List.mem_cons, List.not_mem_nil, or_false] at z
    omega
  have h50 : ∀ y, (y ∈ [r, r + 1, r + 2, r + 3] ∨ y = r) → y = 50 → False := fun y z w => by
    simp only [List.mem_cons, List.not_mem_nil, or_false] at z
    omega
  have hF' := hF.gr (gF.rE hE) h145 hb84 hl h50
  rcases hQ with ⟨e1, e2, e3, e4, e5⟩ | e
  · refine ⟨rs, p', hi, hb, hK.rE hE, hz, by rw [e1]; exact r1, by omega, h9, hI, ?_⟩
    have hb2 := hold e3
    have es := start_one hb2 ha e4.1.R e5.symm
    obtain ⟨q1, q2, -⟩ := e4.gr es
    have q3 := e4.cl e5
    rcases hF' with hF' | ⟨F, M, p, hi, hb, hr, hK, hz, hM, hs⟩
    · exact Or.inl hF'
    · refine Or.inr ⟨F, M, p, hi, hb, hr, hK, hz, hM, fun z => ⟨(hs z).1, fun y => ⟨by decide, ?_⟩⟩⟩
      rw [q1, q2]
      intro p h T a1 a2 a3 a4 a5
      rw [q3] at a5
      exact ((hs z).2 y).2 p h T a1 a2 a3 a4 a5
  · refine ⟨rs + 1, p', hi, hb, hK.rE hE, hz, by rw [e, r1]; exact nI_add _ _, by omega, h9, hI, ?_⟩
    rcases hF' with hF' | ⟨F, M, p, hi, hb, hr, hK, hz, hM, hs⟩
    · exact Or.inl hF'
    · refine Or.inr ⟨F, M, p, hi, hb, hr, hK, hz, hM, fun z => ⟨?_, fun y => ?_⟩⟩
      · rcases (hs z).1 with w | ⟨s5, w1, w2⟩
        · exact Or.inl w
        · exact Or.inr ⟨s5, by omega, w2⟩
      · exfalso
        rcases (hs z).1 with w | ⟨s5, w1, w2⟩
        · rw [w] at y
          exact nI_m1 (by omega) y.symm
        · rw [w2] at y
          have := (nI_eq (by omega) (by omega)).mp y
          omega
/-- the bundle over steps that also touch the rows -/
theorem kBd.ro {S S' : ab_S} {l im : Nat → Prop} {a b0 : Nat → Int32} {c bh nb st st2 u u' : Nat} (h : kBd S im a c b0 bh nb st st2 u) (g : gF l S S') (hx : xSh S') (hl : ∀ y, l y → (84 ≤ y ∧ y ≤ 93) ∨ y = bh ∨ (145 ≤ y ∧ ¬ im y)) (h84 : clI S' im 84 c a bh nb st) (h841 : sI S' 84 1 = sI S 84 1) (hB : rfK S' im bh st a u') (hu : u ≤ u') : kBd S' im a c a bh nb st st2 u' := by
  obtain ⟨q1, q2⟩ := h.bh
  obtain ⟨x1, x2, x3, ⟨x4, x5, x6⟩, x7, x8, ⟨x9, x10, x11, x12⟩, x13, ⟨x14, x15⟩, x16, x17, x18, x19⟩ := h
  have him : ∀ y, im y → ¬ l y := fun y z w => by
    rcases hl y w with v | v | v
    · have := x4 y z; omega
    · rw [v] at z; exact q2 z
    · exact v.2 z
  have n : ∀ y, y < 84 ∨ (94 ≤ y ∧ y ≤ 118) → ¬ l y := fun y y1 w => by have := hl y w; omega
  have e50 := (g.2.2.2 50 (by omega) (n _ (by omega))).2.2
  have e94 := (g.2.2.2 94 (by omega) (n _ (by omega))).1
  have e104 := (g.2.2.2 104 (by omega) (n _ (by omega))).2.2
  exact ⟨hx, x2.gf g (by omega) (fun y y1 y2 => n _ (by omega)), by rw [g.1]; exact x3, ⟨x4, fun y z => Nat.lt_of_lt_of_le (x5 y z) g.2.1, Nat.le_trans x6 g.2.1⟩, x7, by rw [e50]; exact x8, ⟨x7.1, sta.rf, h84, x12⟩, x13.gf g (by omega) him (n _ (by omega)) (n _ (by omega)) (n _ (by omega)) (n _ (by omega)), ⟨h841.trans x14, by rw [e94]; exact x15⟩, by unfold idR; rw [e104]; exact x16, hB, by omega, by omega⟩
/-- rows looked at further -/
theorem rfB.go {S S' : ab_S} {im : Nat → Prop} {l : List Nat} {bh st u r N k k' rs : Nat} {a : Nat → Int32} (h : rfB S im bh st a u r N k rs) (hE : sEq l S S') (h145 : 145 ≤ sn S) (hb84 : 84 ≤ bh) (hl : ∀ y, y ∈ l → (84 ≤ y ∧ y ≤ 93) ∨ y = bh ∨ (r ≤ y ∧ y ≤ r + 7)) (hI : roI S' r N 84 a k') (h9 : sI S' r 9 = sI S r 9) (h14 : sI S' r 14 = sI S r 14) : rfB S' im bh st a u r N k' rs := by
  obtain ⟨h1, h2, h3, h4, h5, h6, h7, h8, -, h10⟩ := h
  have hr := h4.1
  exact ⟨by rw [hE.2.2.2.2.1]; exact h1, h2, h3, h4.eq hE, h5, h14.trans h6, h7, h9.trans h8, hI, h10.gr (gF.sE hE) h145 hb84 (fun y z => by have := hl y z; omega) (fun y z w => by have := hl y z; omega)⟩
