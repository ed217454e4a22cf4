/-! ===== steps over the class's scratch cells ===== -/
/-- the row behind a deed -/
def aft (a : Nat → Int32) (v0 : Int64) : Nat → Int32 := if aWy a v0 = 0 then aDo a (jW v0) else a
theorem aft_ok {a : Nat → Int32} (h : aGood a) (v0 : Int64) : aGood (aft a v0) ∧ sta a (aft a v0) := by
  unfold aft
  by_cases z : aWy a v0 = 0
  · rw [if_pos z]
    obtain ⟨u, e1, e2, e3⟩ := aWy_0 z
    rw [e3]
    have s := aDo_sta h.1 e2
    exact ⟨h.sta (aDo_ok h.1 e2).1 s, s⟩
  · rw [if_neg z]
    exact ⟨h, sta.rf⟩
theorem kBd.bh {S : ab_S} {im : Nat → Prop} {a b : Nat → Int32} {c bh nb st st2 u : Nat} (h : kBd S im a c b bh nb st st2 u) : (bh = 88 ∨ bh = 119 ∨ 145 ≤ bh) ∧ ¬ im bh := by
  obtain ⟨-, -, -, -, -, -, ⟨-, -, x11, -⟩, -⟩ := h
  obtain ⟨-, -, -, -, -, -, -, -, -, -, y2, y, -⟩ := x11
  exact ⟨y, y2⟩
theorem kBd.se84 {S S' : ab_S} {l : List Nat} {im : Nat → Prop} {a a' b b' : Nat → Int32} {c bh nb st st2 u st' u' : Nat} (h : kBd S im a c b bh nb st st2 u) (hE : sEq l S S') (hl : ∀ y, y ∈ l → (y = 55 ∨ y = 56 ∨ (84 ≤ y ∧ y ≤ 93) ∨ (104 ≤ y ∧ y ≤ 108)) ∨ y = bh) (ha' : aGood a') (hs : sta a a') (hb' : aOk b') (hsb : sta a' b') (h84 : clI S' im 84 c b' bh nb st') (hkp : kpX S S' 84 st st') (hle : st ≤ st') (hu : u ≤ u') (hu1 : st' ≤ u') : kBd S' im a' c b' bh nb st' st2 u' := by
  obtain ⟨q1, q2⟩ := h.bh
  have h0 := h
  obtain ⟨x1, x2, x3, ⟨x4, x5, x6⟩, x7, x8, -, x13, -, x16, -, x18, x19⟩ := h0
  have him : ∀ y ∈ l, ¬ im y := fun y hy z => by
    rcases hl y hy with w | w
    · have := x4 y z; omega
    · rw [w] at z; exact q2 z
  have n : ∀ y, 94 ≤ y → y ≤ 103 → y ∉ l := fun y y1 y2 z => by have := hl y z; omega
  exact h.step (gF.sE hE) (x1.eq hE) (fun y z => by have := hl y z; omega) ha' hs hb' hsb h84 hkp hle ((x13.eq hE (n _ (by omega) (by omega)) him (n _ (by omega) (by omega)) (n _ (by omega) (by omega)) (n _ (by omega) (by omega))).sta hs) (congrFun (hE.2.2.1 94 (n _ (by omega) (by omega))) 1) (by unfold idR; rw [hE.2.2.2.2.1]; exact x16) hu hu1 (by omega)
theorem kBd.se94 {S S' : ab_S} {l : List Nat} {im : Nat → Prop} {a b : Nat → Int32} {c bh nb st st2 u st2' u' : Nat} (h : kBd S im a c b bh nb st st2 u) (hE : sEq l S S') (hl : ∀ y, y ∈ l → y = 55 ∨ y = 56 ∨ (94 ≤ y ∧ y ≤ 108)) (h94 : clX S' im 94 c a 98 0 st2') (h941 : sI S' 94 1 = sI S 94 1) (hu : u ≤ u') (hu2 : st2' ≤ u') : kBd S' im a c b bh nb st st2' u' := by
  obtain ⟨q1, q2⟩ := h.bh
  have h0 := h
  obtain ⟨x1, x2, x3, ⟨x4, x5, x6⟩, x7, x8, ⟨x9, x10, x11, x12⟩, x13, -, x16, -, x18, x19⟩ := h0
  have him : ∀ y ∈ l, ¬ im y := fun y hy z => by have := hl y hy; have := x4 y z; omega
  have n : ∀ y, 84 ≤ y → y ≤ 93 → y ∉ l := fun y y1 y2 z => by have := hl y z; omega
  have nb2 : bh ∉ l := fun z => by have := hl bh z; omega
  exact h.step (gF.sE hE) (x1.eq hE) (fun y z => by have := hl y z; omega) x7 sta.rf x9 x10 (x11.eq hE (n _ (by omega) (by omega)) him nb2 (n _ (by omega) (by omega)) (n _ (by omega) (by omega))) (kpX.of (hE.2.2.1 84 (n _ (by omega) (by omega)))) (Nat.le_refl _) h94 h941 (by unfold idR; rw [hE.2.2.2.2.1]; exact x16) hu (by omega) hu2
/-- a step of neither climate -/
theorem kBd.se {S S' : ab_S} {l : List Nat} {im : Nat → Prop} {a b : Nat → Int32} {c bh nb st st2 u : Nat} (h : kBd S im a c b bh nb st st2 u) (hE : sEq l S S') (hl : ∀ y, y ∈ l → y = 51 ∨ (55 ≤ y ∧ y ≤ 68) ∨ (104 ≤ y ∧ y ≤ 118)) : kBd S' im a c b bh nb st st2 u := by
  obtain ⟨q1, q2⟩ := h.bh
  have h0 := h
  obtain ⟨x1, x2, x3, ⟨x4, x5, x6⟩, x7, x8, ⟨x9, x10, x11, x12⟩, x13, -, x16, -, x18, x19⟩ := h0
  have him : ∀ y ∈ l, ¬ im y := fun y hy z => by have := hl y hy; have := x4 y z; omega
  have n : ∀ y, 84 ≤ y → y ≤ 103 → y ∉ l := fun y y1 y2 z => by have := hl y z; omega
  have nb2 : bh ∉ l := fun z => by have := hl bh z; omega
  exact h.step (gF.sE hE) (x1.eq hE) (fun y z => by have := hl y z; omega) x7 sta.rf x9 x10 (x11.eq hE (n _ (by omega) (by omega)) him nb2 (n _ (by omega) (by omega)) (n _ (by omega) (by omega))) (kpX.of (hE.2.2.1 84 (n _ (by omega) (by omega)))) (Nat.le_refl _) (x13.eq hE (n _ (by omega) (by omega)) him (n _ (by omega) (by omega)) (n _ (by omega) (by omega)) (n _ (by omega) (by omega))) (congrFun (hE.2.2.1 94 (n _ (by omega) (by omega))) 1) (by unfold idR; rw [hE.2.2.2.2.1]; exact x16) (Nat.le_refl _) x18 x19
/-- a deed done now -/
theorem b_s_act {G : ab_G} {S : ab_S} {im : Nat → Prop} {a b : Nat → Int32} {c bh nb st st2 u : Nat} (h : kBd S im a c b bh nb st st2 u) (ht : sdE S 55 (rowT a)) (hu : u + 1 < 2 ^ 20) (v0 : Int64) : ab_C G 5 M_s_act [.ref 50, .ref 84, .ref 55, .long v0] (sw S) (fun v w' => v = some (.int (nI (aWy a v0))) ∧ ∃ S' b' st', w' = sw S' ∧ sEq [84, 89, 90, 91, 92, 93, bh, 55] S S' ∧ kBd S' im (aft a v0) c b' bh nb st' st2 (u + 1) ∧ sdE S' 55 (rowT (aft a v0))) := by
  have h0 := h
  obtain ⟨x1, x2, x3, ⟨x4, x5, x6⟩, x7, x8, ⟨x9, x10, x11, x12⟩, x13, -, x16, -, x18, x19⟩ := h0
  refine (c_s_act2 x1 x2 x3 x4 (Or.inl rfl) ⟨b, x9, x10, x11⟩ x7 (by omega) (Or.inl rfl) ht x8 v0).mono (fun v w' q => ?_)
  obtain ⟨e1, S', st', e2, e3, ⟨b', y1, y2, y3⟩, e5, e6, e7, e8⟩ := q
  obtain ⟨g1, g2⟩ := aft_ok x7 v0
  exact ⟨e1, S', b', st', e2, e3, h.se84 e3 (fun y hy => by simp only [List.mem_cons, List.not_mem_nil, or_false] at hy; omega) g1 g2 y1 (g2.sy.tr y2) y3 e5 e6 (by omega) (by omega), e8⟩
/-- a deed done in the trial stand, under the laws supposed -/
theorem b_s_actT {G : ab_G} {S : ab_S} {im : Nat → Prop} {a b a1 : Nat → Int32} {c bh nb st st2 u : Nat} (h : kBd S im a c b bh nb st st2 u) (h1 : aGood a1) (hs1 : sta a a1) (ht : sdE S 56 (rowT a1)) (hu : u + 1 < 2 ^ 20) (v0 : Int64) : ab_C G 5 M_s_act [.ref 50, .ref 94, .ref 56, .long v0] (sw S) (fun v w' => v = some (.int (nI (aWy a1 v0))) ∧ ∃ S' st2', w' = sw S' ∧ sEq [94, 99, 100, 101, 102, 103, 98, 56] S S' ∧ kBd S' im a c b bh nb st st2' (u + 1) ∧ sdE S' 56 (rowT (aft a1 v0))) := by
  have h0 := h
  obtain ⟨x1, x2, x3, ⟨x4, x5, x6⟩, x7, x8, ⟨x9, x10, x11, x12⟩, x13, -, x16, -, x18, x19⟩ := h0
  refine (c_s_act2 x1 x2 x3 x4 (Or.inr rfl) (x13.sta hs1) h1 (by omega) (Or.inr rfl) ht x8 v0).mono (fun v w' q => ?_)
  obtain ⟨e1, S', st', e2, e3, e4, e5, e6, e7, e8⟩ := q
  exact ⟨e1, S', st', e2, e3, h.se94 e3 (fun y hy => by simp only [List.mem_cons, List.not_mem_nil, or_false] at hy; omega) (e4.sta hs1.sy) e5.1 (by omega) (by omega), e8⟩
