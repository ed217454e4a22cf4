/-! ===== what a text reads as ===== -/
abbrev pR : Type := (Nat × Nat) ⊕ (Nat × List Nat)
def pE (tp : Nat → Nat) (n p k : Nat) : Nat × Nat := (if tK tp n p = 25 then 1 else k, tS tp n p)
def pF (tp : Nat → Nat) (n p k : Nat) : pR := .inl (pE tp n p k)
def pB (r : pR) (f : Nat → List Nat → pR) : pR := match r with
  | .inl e => .inl e
  | .inr x => f x.1 x.2
theorem pB_ok {r : pR} {f : Nat → List Nat → pR} {x : Nat × List Nat} (h : pB r f = .inr x) : ∃ q c, r = .inr (q, c) ∧ f q c = .inr x := by
  unfold pB at h
  split at h
  · cases h
  · rename_i y
    exact ⟨y.1, y.2, rfl, h⟩
def pW (la k : Nat) : Option Nat := if k = 2 then some 0 else if k = 3 then some 1 else if k = 4 then some 2 else if k = 13 then some 3 else if k = 14 then some 4 else if k = 1 then some 5 else if la = 0 ∧ 15 ≤ k ∧ k ≤ 17 then some (k - 9) else none
def qX (tp : Nat → Nat) (n K p : Nat) (f : Nat → pR) : pR := if tK tp n p = K then f (tE tp n p) else pF tp n p 2
def qIf (tp : Nat → Nat) (n : Nat) (P : Nat → Nat → Nat → pR) (deep p : Nat) : pR := if deep = 6 then pF tp n p 4 else pB (P 5 (deep + 1) (tE tp n p)) (fun q1 c1 => qX tp n 10 q1 (fun r1 => pB (P 2 (deep + 1) r1) (fun q2 c2 => qX tp n 11 q2 (fun r2 => pB (P 2 (deep + 1) r2) (fun q3 c3 => qX tp n 12 q3 (fun r3 => .inr (r3, c1 ++ c2 ++ c3 ++ [3009])))))))
def qAt (tp : Nat → Nat) (n la : Nat) (P : Nat → Nat → Nat → pR) (deep p : Nat) : pR :=
  if tK tp n p = 23 then .inr (tE tp n p, [tN tp n p]) else match pW la (tK tp n p) with
    | some w => .inr (tE tp n p, [1000 + w])
    | none => if tK tp n p = 35 then (if deep = 6 then pF tp n p 4 else pB (P 2 (deep + 1) (tE tp n p)) (fun q c => qX tp n 36 q (fun r => .inr (r, c)))) else if tK tp n p = 9 then qIf tp n P deep p else pF tp n p 2
def qUn (tp : Nat → Nat) (n : Nat) (P : Nat → Nat → Nat → pR) (deep p : Nat) : pR :=
  if tK tp n p = 20 then (if deep = 6 then pF tp n p 4 else pB (P 3 (deep + 1) (tE tp n p)) (fun q c => .inr (q, c ++ [3006])))
  else if tK tp n p = 37 then (if deep = 6 then pF tp n p 4 else pB (P 5 (deep + 1) (tE tp n p)) (fun q c => qX tp n 38 q (fun r => .inr (r, c))))
  else pB (P 2 deep p) (fun q c => if 39 ≤ tK tp n q ∧ tK tp n q ≤ 41 then pB (P 2 deep (tE tp n q)) (fun q2 c2 => .inr (q2, c ++ c2 ++ [2964 + tK tp n q])) else pF tp n q 2)
def qSq (P : Nat → Nat → Nat → pR) (ma ml deep p : Nat) : pR := pB (P ma deep p) (fun q c => pB (P ml deep q) (fun r d => .inr (r, c ++ d)))
def qLp (tp : Nat → Nat) (n : Nat) (P : Nat → Nat → Nat → pR) (ma ml lo hi cd deep p : Nat) : pR := if lo ≤ tK tp n p ∧ tK tp n p ≤ hi then pB (P ma deep (tE tp n p)) (fun q c => pB (P ml deep q) (fun r d => .inr (r, c ++ (cd + (tK tp n p - lo)) :: d))) else .inr (p, [])
/-- 0 atom, 1 term, 2 sum, 3 unit, 4 both, 5 truth; 6 to 9 what goes on behind an atom, a term, a unit, a both -/
def pS (tp : Nat → Nat) (n la : Nat) : Nat → Nat → Nat → Nat → pR
  | 0, _, _, _ => .inl (0, 0)
  | f + 1, m, deep, p => if m = 0 then qAt tp n la (pS tp n la f) deep p else if m = 1 then qSq (pS tp n la f) 0 6 deep p else if m = 2 then qSq (pS tp n la f) 1 7 deep p else if m = 3 then qUn tp n (pS tp n la f) deep p else if m = 4 then qSq (pS tp n la f) 3 8 deep p else if m = 5 then qSq (pS tp n la f) 4 9 deep p else if m = 6 then qLp tp n (pS tp n la f) 0 6 34 34 3002 deep p else if m = 7 then qLp tp n (pS tp n la f) 1 7 32 33 3000 deep p else if m = 8 then qLp tp n (pS tp n la f) 3 8 18 18 3007 deep p else qLp tp n (pS tp n la f) 4 9 19 19 3008 deep p
theorem tE_g {tp : Nat → Nat} {n p : Nat} (hp : p ≤ n) (h : tK tp n p ≠ 24) : p < tE tp n p ∧ tE tp n p ≤ n := by
  have h1 := tS_b tp hp
  have h2 := tE_b tp hp
  have h3 : tS tp n p < n := by
    apply Nat.lt_of_not_le
    intro z
    exact h (tK_e z)
  have := h2.2.2 h3
  omega
theorem pW_24 {la k w : Nat} (h : pW la k = some w) : k ≠ 24 ∧ k ≠ 23 ∧ k ≠ 35 ∧ k ≠ 9 ∧ k ≠ 25 := by
  refine ⟨?_, ?_, ?_, ?_, ?_⟩ <;> (intro z; subst z; unfold pW at h; simp at h)
def pG (n m p q : Nat) (c : List Nat) : Prop := p ≤ q ∧ q ≤ n ∧ p + c.length ≤ q ∧ (m < 6 → p < q)
theorem qX_ok {tp : Nat → Nat} {n K p : Nat} {f : Nat → pR} {x : Nat × List Nat} (h : qX tp n K p f = .inr x) : tK tp n p = K ∧ f (tE tp n p) = .inr x := by
  unfold qX at h
  split at h
  · exact ⟨‹_›, h⟩
  · cases h
theorem qSq_len {n : Nat} {P : Nat → Nat → Nat → pR} (ih : ∀ m deep p q c, p ≤ n → P m deep p = .inr (q, c) → pG n m p q c) {ma ml deep p q : Nat} {c : List Nat} (hma : ma < 6) (hp : p ≤ n) (h : qSq P ma ml deep p = .inr (q, c)) (m : Nat) : pG n m p q c := by
  obtain ⟨q1, c1, e1, h⟩ := pB_ok h
  obtain ⟨q2, c2, e2, h⟩ := pB_ok h
  obtain ⟨rfl, rfl⟩ := Prod.mk.inj (Sum.inr.inj h)
  have g1 := ih _ _ _ _ _ hp e1
  have g2 := ih _ _ _ _ _ g1.2.1 e2
  have g3 := g1.2.2.2 hma
  refine ⟨by have := g1.1; have := g2.1; omega, g2.2.1, ?_, fun _ => by have := g2.1; omega⟩
  rw [List.length_append]
  have := g1.2.2.1
  have := g2.2.2.1
  omega
theorem qLp_len {tp : Nat → Nat} {n : Nat} {P : Nat → Nat → Nat → pR} (ih : ∀ m deep p q c, p ≤ n → P m deep p = .inr (q, c) → pG n m p q c) {ma ml lo hi cd deep p q : Nat} {c : List Nat} (hh : hi < 24 ∨ 24 < lo) (hp : p ≤ n) (h : qLp tp n P ma ml lo hi cd deep p = .inr (q, c)) {m : Nat} (hm : 6 ≤ m) : pG n m p q c := by
  unfold qLp at h
  split at h
  · rename_i hk
    obtain ⟨q1, c1, e1, h⟩ := pB_ok h
    obtain ⟨q2, c2, e2, h⟩ := pB_ok h
    obtain ⟨rfl, rfl⟩ := Prod.mk.inj (Sum.inr.inj h)
    have g0 := tE_g (tp := tp) hp (show tK tp n p ≠ 24 by omega)
    have g1 := ih _ _ _ _ _ g0.2 e1
    have g2 := ih _ _ _ _ _ g1.2.1 e2
    refine ⟨by have := g1.1; have := g2.1; omega, g2.2.1, ?_, fun z => absurd z (by omega)⟩
    rw [List.length_append, List.length_cons]
    have := g1.2.2.1
    have := g2.2.2.1
    omega
  · obtain ⟨rfl, rfl⟩ := Prod.mk.inj (Sum.inr.inj h)
    exact ⟨Nat.le_refl _, hp, Nat.le_refl _, fun z => absurd z (by omega)⟩
theorem pS_len {tp : Nat → Nat} {n la : Nat} : ∀ f m deep p q c, p ≤ n → pS tp n la f m deep p = .inr (q, c) → pG n m p q c
  | 0, m, deep, p, q, c, hp, h => by cases h
  | f + 1, m, deep, p, q, c, hp, h => by
    have ih := pS_len (tp := tp) (n := n) (la := la) f
    unfold pS at h
    split at h
    · unfold qAt at h
      split at h
      · obtain ⟨rfl, rfl⟩ := Prod.mk.inj (Sum.inr.inj h)
        have g0 := tE_g (tp := tp) hp (show tK tp n p ≠ 24 by omega)
        exact ⟨by omega, g0.2, by simp only [List.length_cons, List.length_nil]; omega, fun _ => g0.1⟩
      · split at h
        · rename_i hw
          obtain ⟨rfl, rfl⟩ := Prod.mk.inj (Sum.inr.inj h)
          have g0 := tE_g (tp := tp) hp (pW_24 hw).1
          exact ⟨by omega, g0.2, by simp only [List.length_cons, List.length_nil]; omega, fun _ => g0.1⟩
        · split at h
          · have g0 := tE_g (tp := tp) hp (show tK tp n p ≠ 24 by omega)
            split at h
            · cases h
            · obtain ⟨q1, c1, e1, h⟩ := pB_ok h
              obtain ⟨k1, h⟩ := qX_ok h
              obtain ⟨rfl, rfl⟩ := Prod.mk.inj (Sum.inr.inj h)
              have g1 := ih _ _ _ _ _ g0.2 e1
              have g2 := tE_g (tp := tp) g1.2.1 (show tK tp n q1 ≠ 24 by omega)
              have := g1.1
              have := g1.2.2.1
              exact ⟨by omega, g2.2, by omega, fun _ => by omega⟩
          · split at h
            · have g0 := tE_g (tp := tp) hp (show tK tp n p ≠ 24 by omega)
              unfold qIf at h
              split at h
              · cases h
              · obtain ⟨q1, c1, e1, h⟩ := pB_ok h
                obtain ⟨k1, h⟩ := qX_ok h
                obtain ⟨q2, c2, e2, h⟩ := pB_ok h
                obtain ⟨k2, h⟩ := qX_ok h
                obtain ⟨q3, c3, e3, h⟩ := pB_ok h
                obtain ⟨k3, h⟩ := qX_ok h
                obtain ⟨rfl, rfl⟩ := Prod.mk.inj (Sum.inr.inj h)
                have g1 := ih _ _ _ _ _ g0.2 e1
                have f1 := tE_g (tp := tp) g1.2.1 (show tK tp n q1 ≠ 24 by omega)
                have g2 := ih _ _ _ _ _ f1.2 e2
                have f2 := tE_g (tp := tp) g2.2.1 (show tK tp n q2 ≠ 24 by omega)
                have g3 := ih _ _ _ _ _ f2.2 e3
                have f3 := tE_g (tp := tp) g3.2.1 (show tK tp n q3 ≠ 24 by omega)
                have := g1.2.2.1
                have := g2.2.2.1
                have := g3.2.2.1
                exact ⟨by omega, f3.2, by simp only [List.length_append, List.length_cons, List.length_nil]; omega, fun _ => by omega⟩
            · cases h
    · split at h
      · exact qSq_len ih (by decide) hp h m
      · split at h
        · exact qSq_len ih (by decide) hp h m
        · split at h
          · unfold qUn at h
            split at h
            · have g0 := tE_g (tp := tp) hp (show tK tp n p ≠ 24 by omega)
              split at h
              · cases h
              · obtain ⟨q1, c1, e1, h⟩ := pB_ok h
                obtain ⟨rfl, rfl⟩ := Prod.mk.inj (Sum.inr.inj h)
                have g1 := ih _ _ _ _ _ g0.2 e1
                have := g1.1
                have := g1.2.2.1
                exact ⟨by omega, g1.2.1, by simp only [List.length_append, List.length_cons, List.length_nil]; omega, fun _ => by omega⟩
            · split at h
              · have g0 := tE_g (tp := tp) hp (show tK tp n p ≠ 24 by omega)
                split at h
                · cases h
                · obtain ⟨q1, c1, e1, h⟩ := pB_ok h
                  obtain ⟨k1, h⟩ := qX_ok h
                  obtain ⟨rfl, rfl⟩ := Prod.mk.inj (Sum.inr.inj h)
                  have g1 := ih _ _ _ _ _ g0.2 e1
                  have g2 := tE_g (tp := tp) g1.2.1 (show tK tp n q1 ≠ 24 by omega)
                  have := g1.1
                  have := g1.2.2.1
                  exact ⟨by omega, g2.2, by omega, fun _ => by omega⟩
              · obtain ⟨q1, c1, e1, h⟩ := pB_ok h
                split at h
                · obtain ⟨q2, c2, e2, h⟩ := pB_ok h
                  obtain ⟨rfl, rfl⟩ := Prod.mk.inj (Sum.inr.inj h)
                  have g1 := ih _ _ _ _ _ hp e1
                  have f1 := tE_g (tp := tp) g1.2.1 (show tK tp n q1 ≠ 24 by omega)
                  have g2 := ih _ _ _ _ _ f1.2 e2
                  have := g1.1
                  have := g1.2.2.1
                  have := g2.1
                  have := g2.2.2.1
                  exact ⟨by omega, g2.2.1, by simp only [List.length_append, List.length_cons, List.length_nil]; omega, fun _ => by omega⟩
                · cases h
          · split at h
            · exact qSq_len ih (by decide) hp h m
            · split at h
              · exact qSq_len ih (by decide) hp h m
              · have hm : 6 ≤ m := by omega
                split at h
                · exact qLp_len ih (by decide) hp h hm
                · split at h
                  · exact qLp_len ih (by decide) hp h hm
                  · split at h
                    · exact qLp_len ih (by decide) hp h hm
                    · exact qLp_len ih (by decide) hp h hm
/-! ===== the reference's reader ===== -/
/-- at a token, no fault yet -/
def rL (S : ab_S) (tp : Nat → Nat) (n p : Nat) : Prop := mSh S ∧ kSh S.1 ∧ rT S tp ∧ n ≤ 900 ∧ sI S 120 8 = nI n ∧ p ≤ n ∧ tok S tp n p ∧ sI S 120 11 = nI 0
/-- behind a fault -/
def rD (S : ab_S) (e : Nat × Nat) : Prop := mSh S ∧ sI S 120 11 = nI e.1 ∧ sI S 120 12 = nI e.2 ∧ 0 < e.1 ∧ e.1 < 5
def rF (S S' : ab_S) : Prop := sEq [120, 124] S S' ∧ ∀ j, (j < 6 ∨ j = 8 ∨ 12 < j) → sI S' 120 j = sI S 120 j
theorem rF.rf {S : ab_S} : rF S S := ⟨sEq.rf, fun _ _ => rfl⟩
theorem rF.tr {S S1 S2 : ab_S} (h : rF S S1) (g : rF S1 S2) : rF S S2 := ⟨h.1.tr g.1, fun j hj => (g.2 j hj).trans (h.2 j hj)⟩
theorem rL.eq {S S' : ab_S} {tp : Nat → Nat} {n p : Nat} {l : List Nat} (h : rL S tp n p) (hE : sEq l S S') (h1 : 123 ∉ l) (h2 : 120 ∉ l) : rL S' tp n p := by
  obtain ⟨a1, a2, a3, a4, a5, a6, a7, a8⟩ := h
  refine ⟨a1.eq hE, by rw [hE.1]; exact a2, a3.eq hE h1, a4, ?_, a6, ?_, ?_⟩
  · rw [hE.2.2.1 120 h2]; exact a5
  · unfold tok; rw [hE.2.2.1 120 h2]; exact a7
  · rw [hE.2.2.1 120 h2]; exact a8
def appC (N : Nat) (F : Nat → Int32) (c : List Nat) : Nat → Int32 := fun j => if j = 183 then nI (N + c.length) else if 184 + N ≤ j ∧ j < 184 + N + c.length then nI (c.getD (j - 184 - N) 0) else F j
theorem appC_nil {N : Nat} {F : Nat → Int32} (h : F 183 = nI N) : appC N F [] = F := by
  funext j
  unfold appC
  split
  · rename_i z; rw [z, h]; rfl
  · rw [if_neg (by simp only [List.length_nil]; omega)]
theorem appC_app (N : Nat) (F : Nat → Int32) (c d : List Nat) : appC (N + c.length) (appC N F c) d = appC N F (c ++ d) := by
  funext j
  unfold appC
  rw [List.length_append]
  by_cases h : j = 183
  · rw [if_pos h, if_pos h, Nat.add_assoc]
  · simp only [if_neg h]
    by_cases h1 : 184 + (N + c.length) ≤ j ∧ j < 184 + (N + c.length) + d.length
    · rw [if_pos h1, if_pos (by omega), List.getD_eq_getElem?_getD, List.getD_eq_getElem?_getD, List.getElem?_append_right (by omega), show j - 184 - N - c.length = j - 184 - (N + c.length) by omega]
    · rw [if_neg h1]
      by_cases h2 : 184 + N ≤ j ∧ j < 184 + N + c.length
      · rw [if_pos h2, if_pos (by omega), List.getD_eq_getElem?_getD, List.getD_eq_getElem?_getD, List.getElem?_append_left (by omega)]
      · rw [if_neg h2, if_neg (by omega)]
theorem appC_N (N : Nat) (F : Nat → Int32) (c : List Nat) : appC N F c 183 = nI (N + c.length) := if_pos rfl
def rO (S S' : ab_S) (tp : Nat → Nat) (n N : Nat) (r : pR) : Prop := match r with
  | .inl e => rD S' e
  | .inr x => rL S' tp n x.1 ∧ sI S' 124 = appC N (sI S 124) x.2
def rOut (S : ab_S) (tp : Nat → Nat) (n N : Nat) (r : pR) (v : Option Value) (w' : ab_H) : Prop := v = none ∧ ∃ S', w' = sw S' ∧ rF S S' ∧ rO S S' tp n N r
theorem kIx_lt0 {t c : Nat} : ∀ m i k, kIx t c m i = some k → k < i + m
  | 0, i, k, h => by cases h
  | m + 1, i, k, h => by
    unfold kIx at h
    split at h
    · cases h
      omega
    · have := kIx_lt0 m (i + 1) k h
      omega
theorem kIx_lt {c k : Nat} (h : kIx 0 c 12 0 = some k) : k < 12 := by
  have := kIx_lt0 12 0 k h
  omega
theorem tK_lt (tp : Nat → Nat) (n p : Nat) : tK tp n p < 42 := by
  unfold tK
  split
  · decide
  · split
    · have := kyF_le tp (tS tp n p) (tE tp n p) 21 0 rfl
      unfold keyO
      omega
    · split
      · split <;> decide
      · split
        · decide
        · rename_i h
          have := kIx_lt h
          omega
theorem tN_lt {tp : Nat → Nat} {n p : Nat} (hp : p ≤ n) (h : tK tp n p = 23) : tN tp n p < 1000 := by
  have hb := tE_b tp hp
  have hs : tS tp n p < n := by
    apply Nat.lt_of_not_le
    intro z
    rw [tK_e z] at h
    cases h
  by_cases h1 : isSm (tp (tS tp n p)) = true
  · rw [tK_w hs h1] at h
    exact absurd h (keyO_ne _ _ _)
  · by_cases h2 : isDg (tp (tS tp n p)) = true
    · rw [tK_d hs h1 h2] at h
      have h3 : ¬ 3 < tE tp n p - tS tp n p := by
        intro z
        rw [if_pos z] at h
        cases h
      have h4 := dgV_lt (tp := tp) (q := tS tp n p) (tE tp n p - tS tp n p) (fun i hi => by
        have h5 := tE_d hs h1 h2
        exact scn_in (n - tS tp n p) (tS tp n p) (tS tp n p + i) (by omega) (by rw [← h5]; omega))
      have h6 : 10 ^ (tE tp n p - tS tp n p) ≤ 1000 := Nat.le_trans (Nat.pow_le_pow_right (by decide) (show tE tp n p - tS tp n p ≤ 3 by omega)) (by decide)
      exact Nat.lt_of_lt_of_le h4 h6
    · exact absurd h (tK_sne hs h1 h2)

def tb_m_is : List (Nat × Instr × Nat) := [(0, .aload_n 0, 1), (1, .getfield 143, 3), (4, .ifCond .ne 15, 3), (7, .aload_n 0, 1), (8, .getfield 125, 3), (11, .iload_n 1, 1), (12, .if_icmp .ne 7, 3), (15, .iconst 1, 1), (16, .goto 4, 3), (19, .iconst 0, 1), (20, .ireturn, 1)]
theorem tk_m_is : ∀ q ∈ tb_m_is, decode M_m_is.2.1 q.1 = .ok q.2 := by decide +kernel
theorem L_is {G : ab_G} {S : ab_S} {tp : Nat → Nat} {n p : Nat} (hL : rL S tp n p) (K : Nat) (hK : K < 100) : ab_C G 0 M_m_is [.ref 120, .int (nI K)] (sw S) (fun v w' => v = some (.int (if tK tp n p = K then 1 else 0)) ∧ w' = sw S) := by
  refine x_enter [some (.ref 120), some (.int (nI K))] (by decide) (Nat.le_of_ble_eq_true rfl) rfl (fun v w' h => by obtain ⟨rfl, rfl⟩ := h; split <;> rfl) ?_
  have hk42 := tK_lt tp n p
  have hp := hL.2.2.2.2.2.1
  have hn9 := hL.2.2.2.1
  have hSb := tS_b tp hp
  have hEb := tE_b tp hp
  refine x_aload_n 1 0 (ab_dd tk_m_is 0 rfl) rfl rfl rfl ?_
  refine t_getI 4 (ab_dd tk_m_is 1 rfl) rfl F_m_143 (by decide) (Nat.lt_of_lt_of_le (by decide) hL.1.1) (hL.1.2.1 0 (by decide)) rfl (x_topn 0 hL.2.2.2.2.2.2.2 ?_)
  refine x_if_ne_f 7 (ab_dd tk_m_is 2 rfl) rfl 19 (by decide) ((nI_eq (a := 0) (b := 0) (by omega) (by omega)).mpr (show 0 = 0 by omega)) ?_
  refine x_aload_n 8 0 (ab_dd tk_m_is 3 rfl) rfl rfl rfl ?_
  refine t_getI 11 (ab_dd tk_m_is 4 rfl) rfl F_m_125 (by decide) (Nat.lt_of_lt_of_le (by decide) hL.1.1) (hL.1.2.1 0 (by decide)) rfl (x_topn (tK tp n p) hL.2.2.2.2.2.2.1.2.2.1 ?_)
  refine x_iload_n 12 1 (ab_dd tk_m_is 5 rfl) rfl rfl rfl ?_
  refine xn_icmp_ne 15 19 (ab_dd tk_m_is 6 rfl) rfl (by decide) (by omega) (by omega) (fun h12 => ?_) (fun h12 => ?_)
  · refine x_iconst 20 0 (ab_dd tk_m_is 9 rfl) rfl (by decide) (x_topn 0 rfl ?_)
    exact x_iret (ab_dd tk_m_is 10 rfl) ⟨rI (if_neg h12).symm, rfl⟩
  · refine x_iconst 16 1 (ab_dd tk_m_is 7 rfl) rfl (by decide) (x_topn 1 rfl ?_)
    refine x_goto 20 (ab_dd tk_m_is 8 rfl) (by decide) ?_
    exact x_iret (ab_dd tk_m_is 10 rfl) ⟨rI (if_pos h12).symm, rfl⟩
theorem D_is {G : ab_G} {S : ab_S} {e : Nat × Nat} (hD : rD S e) (x : Int32) : ab_C G 0 M_m_is [.ref 120, .int x] (sw S) (fun v w' => v = some (.int 0) ∧ w' = sw S) := by
  refine x_enter [some (.ref 120), some (.int x)] (by decide) (Nat.le_of_ble_eq_true rfl) rfl (fun v w' h => by obtain ⟨rfl, rfl⟩ := h; rfl) ?_
  have he0 := hD.2.2.2.1
  have he5 := hD.2.2.2.2
  refine x_aload_n 1 0 (ab_dd tk_m_is 0 rfl) rfl rfl rfl ?_
  refine t_getI 4 (ab_dd tk_m_is 1 rfl) rfl F_m_143 (by decide) (Nat.lt_of_lt_of_le (by decide) hD.1.1) (hD.1.2.1 0 (by decide)) rfl (x_topn e.1 hD.2.1 ?_)
  refine x_if_ne_t 19 (ab_dd tk_m_is 2 rfl) (by decide) (fun z => absurd ((nI_eq (a := e.1) (b := 0) (by omega) (by omega)).mp z) (show ¬ (e.1 = 0) by omega)) ?_
  refine x_iconst 20 0 (ab_dd tk_m_is 9 rfl) rfl (by decide) (x_topn 0 rfl ?_)
  exact x_iret (ab_dd tk_m_is 10 rfl) ⟨rfl, rfl⟩
def tb_m_fails : List (Nat × Instr × Nat) := [(0, .aload_n 0, 1), (1, .getfield 143, 3), (4, .ifCond .eq 4, 3), (7, .return_, 1), (8, .aload_n 0, 1), (9, .aload_n 0, 1), (10, .getfield 125, 3), (13, .bipush 25, 2), (15, .if_icmp .ne 7, 3), (18, .iconst 1, 1), (19, .goto 4, 3), (22, .iload_n 1, 1), (23, .putfield 143, 3), (26, .aload_n 0, 1), (27, .aload_n 0, 1), (28, .getfield 115, 3), (31, .putfield 146, 3), (34, .return_, 1)]
theorem tk_m_fails : ∀ q ∈ tb_m_fails, decode M_m_fails.2.1 q.1 = .ok q.2 := by decide +kernel
theorem L_fails {G : ab_G} {S : ab_S} {tp : Nat → Nat} {n p : Nat} (hL : rL S tp n p) (k : Nat) (hk0 : 0 < k) (hk5 : k < 5) : ab_C G 0 M_m_fails [.ref 120, .int (nI k)] (sw S) (fun v w' => v = none ∧ ∃ S', w' = sw S' ∧ rF S S' ∧ sEq [120] S S' ∧ rD S' (pE tp n p k)) := by
  refine x_enter [some (.ref 120), some (.int (nI k))] (by decide) (Nat.le_of_ble_eq_true rfl) rfl (fun v w' h => by obtain ⟨rfl, -⟩ := h; trivial) ?_
  have hk42 := tK_lt tp n p
  have hp := hL.2.2.2.2.2.1
  have hn9 := hL.2.2.2.1
  have hSb := tS_b tp hp
  have hEb := tE_b tp hp
  refine x_aload_n 1 0 (ab_dd tk_m_fails 0 rfl) rfl rfl rfl ?_
  refine t_getI 4 (ab_dd tk_m_fails 1 rfl) rfl F_m_143 (by decide) (Nat.lt_of_lt_of_le (by decide) hL.1.1) (hL.1.2.1 0 (by decide)) rfl (x_topn 0 hL.2.2.2.2.2.2.2 ?_)
  refine x_if_eq_t 8 (ab_dd tk_m_fails 2 rfl) (by decide) ((nI_eq (a := 0) (b := 0) (by omega) (by omega)).mpr (show 0 = 0 by omega)) ?_
  refine x_aload_n 9 0 (ab_dd tk_m_fails 4 rfl) rfl rfl rfl ?_
  refine x_aload_n 10 0 (ab_dd tk_m_fails 5 rfl) rfl rfl rfl ?_
  refine t_getI 13 (ab_dd tk_m_fails 6 rfl) rfl F_m_125 (by decide) (Nat.lt_of_lt_of_le (by decide) hL.1.1) (hL.1.2.1 0 (by decide)) rfl (x_topn (tK tp n p) hL.2.2.2.2.2.2.1.2.2.1 ?_)
  refine x_bipush 15 25 (ab_dd tk_m_fails 7 rfl) rfl (by decide) (x_topn 25 rfl ?_)
  refine xn_icmp_ne 18 22 (ab_dd tk_m_fails 8 rfl) rfl (by decide) (by omega) (by omega) (fun h15 => ?_) (fun h15 => ?_)
  · refine x_iload_n 23 1 (ab_dd tk_m_fails 11 rfl) rfl rfl rfl ?_
    refine t_putI 26 (ab_dd tk_m_fails 12 rfl) rfl F_m_143 (by decide) (Nat.lt_of_lt_of_le (by decide) hL.1.1) (hL.1.2.1 0 (by decide)) rfl rfl rfl ?_
    refine x_aload_n 27 0 (ab_dd tk_m_fails 13 rfl) rfl rfl rfl ?_
    refine x_aload_n 28 0 (ab_dd tk_m_fails 14 rfl) rfl rfl rfl ?_
    refine t_getI 31 (ab_dd tk_m_fails 15 rfl) rfl F_m_115 (by decide) (Nat.lt_of_lt_of_le (by decide) hL.1.1) (hL.1.2.1 0 (by decide)) rfl (x_topn (tS tp n p) ((gI_k (by decide)).trans hL.2.2.2.2.2.2.1.1) ?_)
    refine t_putI 34 (ab_dd tk_m_fails 16 rfl) rfl F_m_146 (by decide) (Nat.lt_of_lt_of_le (by decide) hL.1.1) (hL.1.2.1 0 (by decide)) rfl rfl rfl ?_
    exact x_vret (ab_dd tk_m_fails 17 rfl) ⟨rfl, _, rfl, ⟨(((sEq.rf (l := [120, 124])).pI (by decide)).pI (by decide)), fun j hj => (gI_k (by omega)).trans ((gI_k (by omega)).trans rfl)⟩, (((sEq.rf (l := [120])).pI (by decide)).pI (by decide)), hL.1, (((gI_k (by decide)).trans gI_s)).trans (congrArg nI (if_neg h15).symm), gI_s, (by show 0 < if _ then _ else _; rw [if_neg h15]; exact hk0), (by show (if _ then _ else _) < 5; rw [if_neg h15]; exact hk5)⟩
  · refine x_iconst 19 1 (ab_dd tk_m_fails 9 rfl) rfl (by decide) (x_topn 1 rfl ?_)
    refine x_goto 23 (ab_dd tk_m_fails 10 rfl) (by decide) ?_
    refine t_putI 26 (ab_dd tk_m_fails 12 rfl) rfl F_m_143 (by decide) (Nat.lt_of_lt_of_le (by decide) hL.1.1) (hL.1.2.1 0 (by decide)) rfl rfl rfl ?_
    refine x_aload_n 27 0 (ab_dd tk_m_fails 13 rfl) rfl rfl rfl ?_
    refine x_aload_n 28 0 (ab_dd tk_m_fails 14 rfl) rfl rfl rfl ?_
    refine t_getI 31 (ab_dd tk_m_fails 15 rfl) rfl F_m_115 (by decide) (Nat.lt_of_lt_of_le (by decide) hL.1.1) (hL.1.2.1 0 (by decide)) rfl (x_topn (tS tp n p) ((gI_k (by decide)).trans hL.2.2.2.2.2.2.1.1) ?_)
    refine t_putI 34 (ab_dd tk_m_fails 16 rfl) rfl F_m_146 (by decide) (Nat.lt_of_lt_of_le (by decide) hL.1.1) (hL.1.2.1 0 (by decide)) rfl rfl rfl ?_
    exact x_vret (ab_dd tk_m_fails 17 rfl) ⟨rfl, _, rfl, ⟨(((sEq.rf (l := [120, 124])).pI (by decide)).pI (by decide)), fun j hj => (gI_k (by omega)).trans ((gI_k (by omega)).trans rfl)⟩, (((sEq.rf (l := [120])).pI (by decide)).pI (by decide)), hL.1, (((gI_k (by decide)).trans gI_s)).trans (congrArg nI (if_pos h15).symm), gI_s, (by show 0 < if _ then _ else _; rw [if_pos h15]; decide), (by show (if _ then _ else _) < 5; rw [if_pos h15]; decide)⟩
theorem D_fails {G : ab_G} {S : ab_S} {e : Nat × Nat} (hD : rD S e) (x : Int32) : ab_C G 0 M_m_fails [.ref 120, .int x] (sw S) (fun v w' => v = none ∧ w' = sw S) := by
  refine x_enter [some (.ref 120), some (.int x)] (by decide) (Nat.le_of_ble_eq_true rfl) rfl (fun v w' h => by obtain ⟨rfl, rfl⟩ := h; trivial) ?_
  have he0 := hD.2.2.2.1
  have he5 := hD.2.2.2.2
  refine x_aload_n 1 0 (ab_dd tk_m_fails 0 rfl) rfl rfl rfl ?_
  refine t_getI 4 (ab_dd tk_m_fails 1 rfl) rfl F_m_143 (by decide) (Nat.lt_of_lt_of_le (by decide) hD.1.1) (hD.1.2.1 0 (by decide)) rfl (x_topn e.1 hD.2.1 ?_)
  refine x_if_eq_f 7 (ab_dd tk_m_fails 2 rfl) rfl 8 (by decide) (fun z => absurd ((nI_eq (a := e.1) (b := 0) (by omega) (by omega)).mp z) (show ¬ (e.1 = 0) by omega)) ?_
  exact x_vret (ab_dd tk_m_fails 3 rfl) ⟨rfl, rfl⟩
theorem L_next {G : ab_G} {S : ab_S} {tp : Nat → Nat} {n p : Nat} (hL : rL S tp n p) (h24 : tK tp n p ≠ 24) : ab_C G 5 M_m_next [.ref 120] (sw S) (fun v w' => v = none ∧ ∃ S', w' = sw S' ∧ rF S S' ∧ sI S' 124 = sI S 124 ∧ rL S' tp n (tE tp n p)) := by
  obtain ⟨a1, a2, a3, a4, a5, a6, a7, a8⟩ := hL
  refine (c_m_next a1 a2 a3 a4 a5 (tE tp n p) (tE_g a6 h24).2 a7.2.1).mono (fun v w' h => ?_)
  obtain ⟨h1, S', h2, hE, ht, hF⟩ := h
  refine ⟨h1, S', h2, ⟨hE.mono (by decide), fun j hj => hF j (by omega)⟩, hE.2.2.1 124 (by decide), a1.eq hE, by rw [hE.1]; exact a2, a3.eq hE (by decide), a4, ?_, (tE_g a6 h24).2, ht, ?_⟩
  · rw [hF 8 (by omega)]; exact a5
  · rw [hF 11 (by omega)]; exact a8
def tb_m_eats : List (Nat × Instr × Nat) := [(0, .aload_n 0, 1), (1, .iload_n 1, 1), (2, .invokevirtual 149, 3), (5, .ifCond .ne 5, 3), (8, .iconst 0, 1), (9, .ireturn, 1), (10, .aload_n 0, 1), (11, .invokevirtual 152, 3), (14, .iconst 1, 1), (15, .ireturn, 1)]
theorem tk_m_eats : ∀ q ∈ tb_m_eats, decode M_m_eats.2.1 q.1 = .ok q.2 := by decide +kernel
theorem L_eats {G : ab_G} {S : ab_S} {tp : Nat → Nat} {n p : Nat} (hL : rL S tp n p) (K : Nat) (hK : K < 100) (hK4 : K ≠ 24) : ab_C G 6 M_m_eats [.ref 120, .int (nI K)] (sw S) (fun v w' => (tK tp n p = K ∧ v = some (.int 1) ∧ ∃ S', w' = sw S' ∧ rF S S' ∧ sI S' 124 = sI S 124 ∧ rL S' tp n (tE tp n p)) ∨ (tK tp n p ≠ K ∧ v = some (.int 0) ∧ w' = sw S)) := by
  refine x_enter [some (.ref 120), some (.int (nI K))] (by decide) (Nat.le_of_ble_eq_true rfl) rfl (fun v w' h => by rcases h with ⟨-, rfl, -⟩ | ⟨-, rfl, -⟩ <;> rfl) ?_
  have hk42 := tK_lt tp n p
  have hp := hL.2.2.2.2.2.1
  have hn9 := hL.2.2.2.1
  have hSb := tS_b tp hp
  have hEb := tE_b tp hp
  refine x_aload_n 1 0 (ab_dd tk_m_eats 0 rfl) rfl rfl rfl ?_
  refine x_iload_n 2 1 (ab_dd tk_m_eats 1 rfl) rfl rfl rfl ?_
  refine t_callV 5 M_m_is 0 1 [_] (ab_dd tk_m_eats 2 rfl) rfl (by decide) K_m_is V_m_is.1 V_m_is.2 L_m_149 rfl (Nat.le_of_ble_eq_true rfl) (by decide) (Nat.lt_of_lt_of_le (by decide) hL.1.1) (hL.1.2.1 0 (by decide)) rfl (L_is hL K (by omega)) (fun v1 w1 h1 => ?_)
  obtain ⟨rfl, rfl⟩ := h1
  refine xb_if_ne 8 10 (ab_dd tk_m_eats 3 rfl) rfl (by decide) (fun h5 => ?_) (fun h5 => ?_)
  · refine x_aload_n 11 0 (ab_dd tk_m_eats 6 rfl) rfl rfl rfl ?_
    refine t_callV 14 M_m_next 5 0 [] (ab_dd tk_m_eats 7 rfl) rfl (by decide) K_m_next V_m_next.1 V_m_next.2 L_m_152 rfl (Nat.le_of_ble_eq_true rfl) (by decide) (Nat.lt_of_lt_of_le (by decide) hL.1.1) (hL.1.2.1 0 (by decide)) rfl (L_next hL (by omega)) (fun v1 w1 h1 => ?_)
    obtain ⟨rfl, S1, rfl, uF, uC, uL⟩ := h1
    refine x_iconst 15 1 (ab_dd tk_m_eats 8 rfl) rfl (by decide) (x_topn 1 rfl ?_)
    exact x_iret (ab_dd tk_m_eats 9 rfl) (Or.inl ⟨h5, rfl, _, rfl, uF, uC, uL⟩)
  · refine x_iconst 9 0 (ab_dd tk_m_eats 4 rfl) rfl (by decide) (x_topn 0 rfl ?_)
    exact x_iret (ab_dd tk_m_eats 5 rfl) (Or.inr ⟨h5, rfl, rfl⟩)
theorem D_eats {G : ab_G} {S : ab_S} {e : Nat × Nat} (hD : rD S e) (x : Int32) : ab_C G 6 M_m_eats [.ref 120, .int x] (sw S) (fun v w' => v = some (.int 0) ∧ w' = sw S) := by
  refine x_enter [some (.ref 120), some (.int x)] (by decide) (Nat.le_of_ble_eq_true rfl) rfl (fun v w' h => by obtain ⟨rfl, rfl⟩ := h; rfl) ?_
  refine x_aload_n 1 0 (ab_dd tk_m_eats 0 rfl) rfl rfl rfl ?_
  refine x_iload_n 2 1 (ab_dd tk_m_eats 1 rfl) rfl rfl rfl ?_
  refine t_callV 5 M_m_is 0 1 [_] (ab_dd tk_m_eats 2 rfl) rfl (by decide) K_m_is V_m_is.1 V_m_is.2 L_m_149 rfl (Nat.le_of_ble_eq_true rfl) (by decide) (Nat.lt_of_lt_of_le (by decide) hD.1.1) (hD.1.2.1 0 (by decide)) rfl (D_is hD _) (fun v1 w1 h1 => ?_)
  obtain ⟨rfl, rfl⟩ := h1
  refine x_if_ne_f 8 (ab_dd tk_m_eats 3 rfl) rfl 10 (by decide) (by decide) ?_
  refine x_iconst 9 0 (ab_dd tk_m_eats 4 rfl) rfl (by decide) (x_topn 0 rfl ?_)
  exact x_iret (ab_dd tk_m_eats 5 rfl) ⟨rfl, rfl⟩
def tb_m_codes : List (Nat × Instr × Nat) := [(0, .aload_n 0, 1), (1, .getfield 143, 3), (4, .ifCond .eq 4, 3), (7, .return_, 1), (8, .aload_n 0, 1), (9, .getfield 24, 3), (12, .sipush 184, 3), (15, .aload_n 0, 1), (16, .getfield 24, 3), (19, .sipush 183, 3), (22, .iaload, 1), (23, .iadd, 1), (24, .iload_n 1, 1), (25, .iastore, 1), (26, .aload_n 0, 1), (27, .getfield 24, 3), (30, .sipush 183, 3), (33, .dup2, 1), (34, .iaload, 1), (35, .iconst 1, 1), (36, .iadd, 1), (37, .iastore, 1), (38, .return_, 1)]
theorem tk_m_codes : ∀ q ∈ tb_m_codes, decode M_m_codes.2.1 q.1 = .ok q.2 := by decide +kernel
theorem L_codes {G : ab_G} {S : ab_S} {tp : Nat → Nat} {n p : Nat} (hL : rL S tp n p) {N : Nat} (hN : sI S 124 183 = nI N) (hN9 : N < 900) (x : Nat) : ab_C G 0 M_m_codes [.ref 120, .int (nI x)] (sw S) (fun v w' => v = none ∧ ∃ S', w' = sw S' ∧ rF S S' ∧ sI S' 124 = appC N (sI S 124) [x] ∧ rL S' tp n p) := by
  refine x_enter [some (.ref 120), some (.int (nI x))] (by decide) (Nat.le_of_ble_eq_true rfl) rfl (fun v w' h => by obtain ⟨rfl, -⟩ := h; trivial) ?_
  have hk42 := tK_lt tp n p
  have hp := hL.2.2.2.2.2.1
  have hn9 := hL.2.2.2.1
  have hSb := tS_b tp hp
  have hEb := tE_b tp hp
  refine x_aload_n 1 0 (ab_dd tk_m_codes 0 rfl) rfl rfl rfl ?_
  refine t_getI 4 (ab_dd tk_m_codes 1 rfl) rfl F_m_143 (by decide) (Nat.lt_of_lt_of_le (by decide) hL.1.1) (hL.1.2.1 0 (by decide)) rfl (x_topn 0 hL.2.2.2.2.2.2.2 ?_)
  refine x_if_eq_t 8 (ab_dd tk_m_codes 2 rfl) (by decide) ((nI_eq (a := 0) (b := 0) (by omega) (by omega)).mpr (show 0 = 0 by omega)) ?_
  refine x_aload_n 9 0 (ab_dd tk_m_codes 4 rfl) rfl rfl rfl ?_
  refine t_getP 12 124 (ab_dd tk_m_codes 5 rfl) rfl F_m_24 (by decide) (Nat.lt_of_lt_of_le (by decide) hL.1.1) (hL.1.2.1 0 (by decide)) rfl (hL.1.2.2 4 (by decide)) ?_
  refine x_sipush 15 184 (ab_dd tk_m_codes 6 rfl) rfl (by decide) (x_topn 184 rfl ?_)
  refine x_aload_n 16 0 (ab_dd tk_m_codes 7 rfl) rfl rfl rfl ?_
  refine t_getP 19 124 (ab_dd tk_m_codes 8 rfl) rfl F_m_24 (by decide) (Nat.lt_of_lt_of_le (by decide) hL.1.1) (hL.1.2.1 0 (by decide)) rfl (hL.1.2.2 4 (by decide)) ?_
  refine x_sipush 22 183 (ab_dd tk_m_codes 9 rfl) rfl (by decide) (x_topn 183 rfl ?_)
  refine t_iald 23 183 (ab_dd tk_m_codes 10 rfl) rfl (by decide) (Nat.lt_of_lt_of_le (by decide) hL.1.1) (hL.1.2.1 4 (by decide)) rfl (by decide) (by decide) (x_topn N hN ?_)
  refine x_iadd 24 (ab_dd tk_m_codes 11 rfl) rfl (x_topn (184 + N) (nI_add _ _) ?_)
  refine x_iload_n 25 1 (ab_dd tk_m_codes 12 rfl) rfl rfl rfl ?_
  refine t_iast 26 (184 + N) (ab_dd tk_m_codes 13 rfl) rfl (by decide) (Nat.lt_of_lt_of_le (by decide) hL.1.1) (hL.1.2.1 4 (by decide)) rfl (by omega) (by decide) ?_
  refine x_aload_n 27 0 (ab_dd tk_m_codes 14 rfl) rfl rfl rfl ?_
  refine t_getP 30 124 (ab_dd tk_m_codes 15 rfl) rfl F_m_24 (by decide) (Nat.lt_of_lt_of_le (by decide) hL.1.1) (hL.1.2.1 0 (by decide)) rfl (hL.1.2.2 4 (by decide)) ?_
  refine x_sipush 33 183 (ab_dd tk_m_codes 16 rfl) rfl (by decide) (x_topn 183 rfl ?_)
  refine x_dup2 34 (ab_dd tk_m_codes 17 rfl) rfl rfl rfl ?_
  refine t_iald 35 183 (ab_dd tk_m_codes 18 rfl) rfl (by decide) (Nat.lt_of_lt_of_le (by decide) hL.1.1) (hL.1.2.1 4 (by decide)) rfl (by decide) (by decide) (x_topn N ((gI_k (by omega)).trans hN) ?_)
  refine x_iconst 36 1 (ab_dd tk_m_codes 19 rfl) rfl (by decide) (x_topn 1 rfl ?_)
  refine x_iadd 37 (ab_dd tk_m_codes 20 rfl) rfl (x_topn (N + 1) (nI_add _ _) ?_)
  refine t_iast 38 183 (ab_dd tk_m_codes 21 rfl) rfl (by decide) (Nat.lt_of_lt_of_le (by decide) hL.1.1) (hL.1.2.1 4 (by decide)) rfl (by decide) (by decide) ?_
  refine x_vret (ab_dd tk_m_codes 22 rfl) ⟨rfl, _, rfl, ⟨(((sEq.rf (l := [120, 124])).pI (by decide)).pI (by decide)), fun j hj => rfl⟩, ?_, hL.eq (((sEq.rf (l := [124])).pI (by decide)).pI (by decide)) (by decide) (by decide)⟩
  funext j
  show up2 (up2 (sI S) 124 (184 + N) (nI x)) 124 183 (nI (N + 1)) 124 j = _
  unfold appC
  by_cases h1 : j = 183
  · rw [h1, up2_s, if_pos rfl]; rfl
  · rw [up2_k h1, if_neg h1]
    by_cases h2 : j = 184 + N
    · rw [h2, up2_s, if_pos (by simp only [List.length_cons, List.length_nil]; omega), show 184 + N - 184 - N = 0 by omega]; rfl
    · rw [up2_k h2, if_neg (by simp only [List.length_cons, List.length_nil]; omega)]
theorem D_codes {G : ab_G} {S : ab_S} {e : Nat × Nat} (hD : rD S e) (x : Int32) : ab_C G 0 M_m_codes [.ref 120, .int x] (sw S) (fun v w' => v = none ∧ w' = sw S) := by
  refine x_enter [some (.ref 120), some (.int x)] (by decide) (Nat.le_of_ble_eq_true rfl) rfl (fun v w' h => by obtain ⟨rfl, rfl⟩ := h; trivial) ?_
  have he0 := hD.2.2.2.1
  have he5 := hD.2.2.2.2
  refine x_aload_n 1 0 (ab_dd tk_m_codes 0 rfl) rfl rfl rfl ?_
  refine t_getI 4 (ab_dd tk_m_codes 1 rfl) rfl F_m_143 (by decide) (Nat.lt_of_lt_of_le (by decide) hD.1.1) (hD.1.2.1 0 (by decide)) rfl (x_topn e.1 hD.2.1 ?_)
  refine x_if_eq_f 7 (ab_dd tk_m_codes 2 rfl) rfl 8 (by decide) (fun z => absurd ((nI_eq (a := e.1) (b := 0) (by omega) (by omega)).mp z) (show ¬ (e.1 = 0) by omega)) ?_
  exact x_vret (ab_dd tk_m_codes 3 rfl) ⟨rfl, rfl⟩
def tb_m_goesIn : List (Nat × Instr × Nat) := [(0, .iload_n 1, 1), (1, .bipush 6, 2), (3, .if_icmp .ne 8, 3), (6, .aload_n 0, 1), (7, .iconst 4, 1), (8, .invokevirtual 155, 3), (11, .aload_n 0, 1), (12, .getfield 143, 3), (15, .ifCond .ne 7, 3), (18, .aload_n 0, 1), (19, .invokevirtual 152, 3), (22, .aload_n 0, 1), (23, .getfield 143, 3), (26, .ifCond .ne 7, 3), (29, .iconst 1, 1), (30, .goto 4, 3), (33, .iconst 0, 1), (34, .ireturn, 1)]
theorem tk_m_goesIn : ∀ q ∈ tb_m_goesIn, decode M_m_goesIn.2.1 q.1 = .ok q.2 := by decide +kernel
theorem L_goesIn {G : ab_G} {S : ab_S} {tp : Nat → Nat} {n p : Nat} (hL : rL S tp n p) (deep : Nat) (hd : deep ≤ 6) (h24 : tK tp n p ≠ 24) (h25 : tK tp n p ≠ 25) : ab_C G 6 M_m_goesIn [.ref 120, .int (nI deep)] (sw S) (fun v w' => (deep = 6 ∧ v = some (.int 0) ∧ ∃ S', w' = sw S' ∧ rF S S' ∧ rD S' (pE tp n p 4)) ∨ (deep ≠ 6 ∧ v = some (.int 1) ∧ ∃ S', w' = sw S' ∧ rF S S' ∧ sI S' 124 = sI S 124 ∧ rL S' tp n (tE tp n p))) := by
  refine x_enter [some (.ref 120), some (.int (nI deep))] (by decide) (Nat.le_of_ble_eq_true rfl) rfl (fun v w' h => by rcases h with ⟨-, rfl, -⟩ | ⟨-, rfl, -⟩ <;> rfl) ?_
  have hk42 := tK_lt tp n p
  have hp := hL.2.2.2.2.2.1
  have hn9 := hL.2.2.2.1
  have hSb := tS_b tp hp
  have hEb := tE_b tp hp
  by_cases h3 : deep = 6
  · refine x_iload_n 1 1 (ab_dd tk_m_goesIn 0 rfl) rfl rfl rfl ?_
    refine x_bipush 3 6 (ab_dd tk_m_goesIn 1 rfl) rfl (by decide) (x_topn 6 rfl ?_)
    refine x_icmp_ne_f 6 (ab_dd tk_m_goesIn 2 rfl) rfl 11 (by decide) ((nI_eq (a := deep) (b := 6) (by omega) (by omega)).mpr (show deep = 6 by omega)) ?_
    refine x_aload_n 7 0 (ab_dd tk_m_goesIn 3 rfl) rfl rfl rfl ?_
    refine x_iconst 8 4 (ab_dd tk_m_goesIn 4 rfl) rfl (by decide) (x_topn 4 rfl ?_)
    refine t_callV 11 M_m_fails 0 1 [_] (ab_dd tk_m_goesIn 5 rfl) rfl (by decide) K_m_fails V_m_fails.1 V_m_fails.2 L_m_155 rfl (Nat.le_of_ble_eq_true rfl) (by decide) (Nat.lt_of_lt_of_le (by decide) hL.1.1) (hL.1.2.1 0 (by decide)) rfl (L_fails hL 4 (by decide) (by decide)) (fun v1 w1 h1 => ?_)
    obtain ⟨rfl, S1, rfl, uF, -, uD⟩ := h1
    have he0 := uD.2.2.2.1
    have he5 := uD.2.2.2.2
    refine x_aload_n 12 0 (ab_dd tk_m_goesIn 6 rfl) rfl rfl rfl ?_
    refine t_getI 15 (ab_dd tk_m_goesIn 7 rfl) rfl F_m_143 (by decide) (Nat.lt_of_lt_of_le (by decide) uD.1.1) (uD.1.2.1 0 (by decide)) rfl (x_topn ((pE tp n p 4).1) uD.2.1 ?_)
    refine x_if_ne_t 22 (ab_dd tk_m_goesIn 8 rfl) (by decide) (fun z => absurd ((nI_eq (a := ((pE tp n p 4).1)) (b := 0) (by omega) (by omega)).mp z) (show ¬ (((pE tp n p 4).1) = 0) by omega)) ?_
    refine x_aload_n 23 0 (ab_dd tk_m_goesIn 11 rfl) rfl rfl rfl ?_
    refine t_getI 26 (ab_dd tk_m_goesIn 12 rfl) rfl F_m_143 (by decide) (Nat.lt_of_lt_of_le (by decide) uD.1.1) (uD.1.2.1 0 (by decide)) rfl (x_topn ((pE tp n p 4).1) uD.2.1 ?_)
    refine x_if_ne_t 33 (ab_dd tk_m_goesIn 13 rfl) (by decide) (fun z => absurd ((nI_eq (a := ((pE tp n p 4).1)) (b := 0) (by omega) (by omega)).mp z) (show ¬ (((pE tp n p 4).1) = 0) by omega)) ?_
    refine x_iconst 34 0 (ab_dd tk_m_goesIn 16 rfl) rfl (by decide) (x_topn 0 rfl ?_)
    exact x_iret (ab_dd tk_m_goesIn 17 rfl) (Or.inl ⟨h3, rfl, _, rfl, uF, uD⟩)
  · refine x_iload_n 1 1 (ab_dd tk_m_goesIn 0 rfl) rfl rfl rfl ?_
    refine x_bipush 3 6 (ab_dd tk_m_goesIn 1 rfl) rfl (by decide) (x_topn 6 rfl ?_)
    refine x_icmp_ne_t 11 (ab_dd tk_m_goesIn 2 rfl) (by decide) (fun z => absurd ((nI_eq (a := deep) (b := 6) (by omega) (by omega)).mp z) (show ¬ (deep = 6) by omega)) ?_
    refine x_aload_n 12 0 (ab_dd tk_m_goesIn 6 rfl) rfl rfl rfl ?_
    refine t_getI 15 (ab_dd tk_m_goesIn 7 rfl) rfl F_m_143 (by decide) (Nat.lt_of_lt_of_le (by decide) hL.1.1) (hL.1.2.1 0 (by decide)) rfl (x_topn 0 hL.2.2.2.2.2.2.2 ?_)
    refine x_if_ne_f 18 (ab_dd tk_m_goesIn 8 rfl) rfl 22 (by decide) ((nI_eq (a := 0) (b := 0) (by omega) (by omega)).mpr (show 0 = 0 by omega)) ?_
    refine x_aload_n 19 0 (ab_dd tk_m_goesIn 9 rfl) rfl rfl rfl ?_
    refine t_callV 22 M_m_next 5 0 [] (ab_dd tk_m_goesIn 10 rfl) rfl (by decide) K_m_next V_m_next.1 V_m_next.2 L_m_152 rfl (Nat.le_of_ble_eq_true rfl) (by decide) (Nat.lt_of_lt_of_le (by decide) hL.1.1) (hL.1.2.1 0 (by decide)) rfl (L_next hL h24) (fun v1 w1 h1 => ?_)
    obtain ⟨rfl, S1, rfl, uF, uC, uL⟩ := h1
    refine x_aload_n 23 0 (ab_dd tk_m_goesIn 11 rfl) rfl rfl rfl ?_
    refine t_getI 26 (ab_dd tk_m_goesIn 12 rfl) rfl F_m_143 (by decide) (Nat.lt_of_lt_of_le (by decide) uL.1.1) (uL.1.2.1 0 (by decide)) rfl (x_topn 0 uL.2.2.2.2.2.2.2 ?_)
    refine x_if_ne_f 29 (ab_dd tk_m_goesIn 13 rfl) rfl 33 (by decide) ((nI_eq (a := 0) (b := 0) (by omega) (by omega)).mpr (show 0 = 0 by omega)) ?_
    refine x_iconst 30 1 (ab_dd tk_m_goesIn 14 rfl) rfl (by decide) (x_topn 1 rfl ?_)
    refine x_goto 34 (ab_dd tk_m_goesIn 15 rfl) (by decide) ?_
    exact x_iret (ab_dd tk_m_goesIn 17 rfl) (Or.inr ⟨h3, rfl, _, rfl, uF, uC, uL⟩)
def tb_m_wordOf : List (Nat × Instr × Nat) := [(0, .iload_n 1, 1), (1, .tableswitch 83 1 14 #[81, 71, 73, 75, 83, 83, 83, 83, 83, 83, 83, 83, 77, 79], 71), (72, .iconst 0, 1), (73, .ireturn, 1), (74, .iconst 1, 1), (75, .ireturn, 1), (76, .iconst 2, 1), (77, .ireturn, 1), (78, .iconst 3, 1), (79, .ireturn, 1), (80, .iconst 4, 1), (81, .ireturn, 1), (82, .iconst 5, 1), (83, .ireturn, 1), (84, .aload_n 0, 1), (85, .getfield 163, 3), (88, .ifCond .ne 25, 3), (91, .iload_n 1, 1), (92, .bipush 15, 2), (94, .if_icmp .lt 19, 3), (97, .iload_n 1, 1), (98, .bipush 17, 2), (100, .if_icmp .gt 13, 3), (103, .bipush 6, 2), (105, .iload_n 1, 1), (106, .iadd, 1), (107, .bipush 15, 2), (109, .isub, 1), (110, .goto 4, 3), (113, .iconst (-1), 1), (114, .ireturn, 1)]
theorem tk_m_wordOf : ∀ q ∈ tb_m_wordOf, decode M_m_wordOf.2.1 q.1 = .ok q.2 := by decide +kernel
theorem L_wordOf {G : ab_G} {S : ab_S} (hm : mSh S) (la : Nat) (hla : la < 2) (hr : sI S 120 15 = nI la) (K : Nat) (hK : K < 42) : ab_C G 0 M_m_wordOf [.ref 120, .int (nI K)] (sw S) (fun v w' => v = some (.int (encN (pW la K))) ∧ w' = sw S) := by
  refine x_enter [some (.ref 120), some (.int (nI K))] (by decide) (Nat.le_of_ble_eq_true rfl) rfl (fun v w' h => by obtain ⟨rfl, rfl⟩ := h; cases (pW la K) <;> rfl) ?_
  have hKi := nI_toInt (show K < 2 ^ 31 by omega)
  refine x_iload_n 1 1 (ab_dd tk_m_wordOf 0 rfl) rfl rfl rfl ?_
  by_cases hT1 : (1 : Int) ≤ Int32.toInt (nI K) ∧ Int32.toInt (nI K) ≤ (14 : Int)
  · have hc1 : Int32.toInt (nI K) = (1 : Int) ∨ Int32.toInt (nI K) = (2 : Int) ∨ Int32.toInt (nI K) = (3 : Int) ∨ Int32.toInt (nI K) = (4 : Int) ∨ Int32.toInt (nI K) = (5 : Int) ∨ Int32.toInt (nI K) = (6 : Int) ∨ Int32.toInt (nI K) = (7 : Int) ∨ Int32.toInt (nI K) = (8 : Int) ∨ Int32.toInt (nI K) = (9 : Int) ∨ Int32.toInt (nI K) = (10 : Int) ∨ Int32.toInt (nI K) = (11 : Int) ∨ Int32.toInt (nI K) = (12 : Int) ∨ Int32.toInt (nI K) = (13 : Int) ∨ Int32.toInt (nI K) = (14 : Int) := by omega
    rcases hc1 with hc1 | hc1 | hc1 | hc1 | hc1 | hc1 | hc1 | hc1 | hc1 | hc1 | hc1 | hc1 | hc1 | hc1
    · refine x_tableIn 82 (ab_dd tk_m_wordOf 1 rfl) (by omega) (by omega) (by rw [hc1]; rfl) (by decide) ?_
      refine x_iconst 83 5 (ab_dd tk_m_wordOf 12 rfl) rfl (by decide) (x_topn 5 rfl ?_)
      exact x_iret (ab_dd tk_m_wordOf 13 rfl) ⟨by rw [show K = 1 by omega]; rfl, rfl⟩
    · refine x_tableIn 72 (ab_dd tk_m_wordOf 1 rfl) (by omega) (by omega) (by rw [hc1]; rfl) (by decide) ?_
      refine x_iconst 73 0 (ab_dd tk_m_wordOf 2 rfl) rfl (by decide) (x_topn 0 rfl ?_)
      exact x_iret (ab_dd tk_m_wordOf 3 rfl) ⟨by rw [show K = 2 by omega]; rfl, rfl⟩
    · refine x_tableIn 74 (ab_dd tk_m_wordOf 1 rfl) (by omega) (by omega) (by rw [hc1]; rfl) (by decide) ?_
      refine x_iconst 75 1 (ab_dd tk_m_wordOf 4 rfl) rfl (by decide) (x_topn 1 rfl ?_)
      exact x_iret (ab_dd tk_m_wordOf 5 rfl) ⟨by rw [show K = 3 by omega]; rfl, rfl⟩
    · refine x_tableIn 76 (ab_dd tk_m_wordOf 1 rfl) (by omega) (by omega) (by rw [hc1]; rfl) (by decide) ?_
      refine x_iconst 77 2 (ab_dd tk_m_wordOf 6 rfl) rfl (by decide) (x_topn 2 rfl ?_)
      exact x_iret (ab_dd tk_m_wordOf 7 rfl) ⟨by rw [show K = 4 by omega]; rfl, rfl⟩
    · refine x_tableIn 84 (ab_dd tk_m_wordOf 1 rfl) (by omega) (by omega) (by rw [hc1]; rfl) (by decide) ?_
      refine x_aload_n 85 0 (ab_dd tk_m_wordOf 14 rfl) rfl rfl rfl ?_
      refine t_getI 88 (ab_dd tk_m_wordOf 15 rfl) rfl F_m_163 (by decide) (Nat.lt_of_lt_of_le (by decide) hm.1) (hm.2.1 0 (by decide)) rfl (x_topn la hr ?_)
      refine xn_if_ne 91 113 (ab_dd tk_m_wordOf 16 rfl) rfl (by decide) (by omega) (fun h88 => ?_) (fun h88 => ?_)
      · refine x_iconst 114 (-1) (ab_dd tk_m_wordOf 29 rfl) rfl (by decide) ?_
        exact x_iret (ab_dd tk_m_wordOf 30 rfl) ⟨by unfold pW; rw [if_neg (by omega), if_neg (by omega), if_neg (by omega), if_neg (by omega), if_neg (by omega), if_neg (by omega)]; rw [if_neg (by omega)]; rfl, rfl⟩
      · refine x_iload_n 92 1 (ab_dd tk_m_wordOf 17 rfl) rfl rfl rfl ?_
        refine x_bipush 94 15 (ab_dd tk_m_wordOf 18 rfl) rfl (by decide) (x_topn 15 rfl ?_)
        refine xn_icmp_lt 97 113 (ab_dd tk_m_wordOf 19 rfl) rfl (by decide) (by omega) (by omega) (fun h94 => ?_) (fun h94 => ?_)
        · refine x_iconst 114 (-1) (ab_dd tk_m_wordOf 29 rfl) rfl (by decide) ?_
          exact x_iret (ab_dd tk_m_wordOf 30 rfl) ⟨by unfold pW; rw [if_neg (by omega), if_neg (by omega), if_neg (by omega), if_neg (by omega), if_neg (by omega), if_neg (by omega)]; rw [if_neg (by omega)]; rfl, rfl⟩
        · refine x_iload_n 98 1 (ab_dd tk_m_wordOf 20 rfl) rfl rfl rfl ?_
          refine x_bipush 100 17 (ab_dd tk_m_wordOf 21 rfl) rfl (by decide) (x_topn 17 rfl ?_)
          refine xn_icmp_gt 103 113 (ab_dd tk_m_wordOf 22 rfl) rfl (by decide) (by omega) (by omega) (fun h100 => ?_) (fun h100 => ?_)
          · refine x_iconst 114 (-1) (ab_dd tk_m_wordOf 29 rfl) rfl (by decide) ?_
            exact x_iret (ab_dd tk_m_wordOf 30 rfl) ⟨by unfold pW; rw [if_neg (by omega), if_neg (by omega), if_neg (by omega), if_neg (by omega), if_neg (by omega), if_neg (by omega)]; rw [if_neg (by omega)]; rfl, rfl⟩
          · refine x_bipush 105 6 (ab_dd tk_m_wordOf 23 rfl) rfl (by decide) (x_topn 6 rfl ?_)
            refine x_iload_n 106 1 (ab_dd tk_m_wordOf 24 rfl) rfl rfl rfl ?_
            refine x_iadd 107 (ab_dd tk_m_wordOf 25 rfl) rfl (x_topn (6 + K) (nI_add _ _) ?_)
            refine x_bipush 109 15 (ab_dd tk_m_wordOf 26 rfl) rfl (by decide) (x_topn 15 rfl ?_)
            refine x_isub 110 (ab_dd tk_m_wordOf 27 rfl) rfl (x_topn ((6 + K) - 15) (pk_sub (by omega)) ?_)
            refine x_goto 114 (ab_dd tk_m_wordOf 28 rfl) (by decide) ?_
            exact x_iret (ab_dd tk_m_wordOf 30 rfl) ⟨by unfold pW; rw [if_neg (by omega), if_neg (by omega), if_neg (by omega), if_neg (by omega), if_neg (by omega), if_neg (by omega)]; rw [if_pos (by omega)]; show _ = some (Value.int (nI (K - 9))); rw [show 6 + K - 15 = K - 9 by omega], rfl⟩
    · refine x_tableIn 84 (ab_dd tk_m_wordOf 1 rfl) (by omega) (by omega) (by rw [hc1]; rfl) (by decide) ?_
      refine x_aload_n 85 0 (ab_dd tk_m_wordOf 14 rfl) rfl rfl rfl ?_
      refine t_getI 88 (ab_dd tk_m_wordOf 15 rfl) rfl F_m_163 (by decide) (Nat.lt_of_lt_of_le (by decide) hm.1) (hm.2.1 0 (by decide)) rfl (x_topn la hr ?_)
      refine xn_if_ne 91 113 (ab_dd tk_m_wordOf 16 rfl) rfl (by decide) (by omega) (fun h88 => ?_) (fun h88 => ?_)
      · refine x_iconst 114 (-1) (ab_dd tk_m_wordOf 29 rfl) rfl (by decide) ?_
        exact x_iret (ab_dd tk_m_wordOf 30 rfl) ⟨by unfold pW; rw [if_neg (by omega), if_neg (by omega), if_neg (by omega), if_neg (by omega), if_neg (by omega), if_neg (by omega)]; rw [if_neg (by omega)]; rfl, rfl⟩
      · refine x_iload_n 92 1 (ab_dd tk_m_wordOf 17 rfl) rfl rfl rfl ?_
        refine x_bipush 94 15 (ab_dd tk_m_wordOf 18 rfl) rfl (by decide) (x_topn 15 rfl ?_)
        refine xn_icmp_lt 97 113 (ab_dd tk_m_wordOf 19 rfl) rfl (by decide) (by omega) (by omega) (fun h94 => ?_) (fun h94 => ?_)
        · refine x_iconst 114 (-1) (ab_dd tk_m_wordOf 29 rfl) rfl (by decide) ?_
          exact x_iret (ab_dd tk_m_wordOf 30 rfl) ⟨by unfold pW; rw [if_neg (by omega), if_neg (by omega), if_neg (by omega), if_neg (by omega), if_neg (by omega), if_neg (by omega)]; rw [if_neg (by omega)]; rfl, rfl⟩
        · refine x_iload_n 98 1 (ab_dd tk_m_wordOf 20 rfl) rfl rfl rfl ?_
          refine x_bipush 100 17 (ab_dd tk_m_wordOf 21 rfl) rfl (by decide) (x_topn 17 rfl ?_)
          refine xn_icmp_gt 103 113 (ab_dd tk_m_wordOf 22 rfl) rfl (by decide) (by omega) (by omega) (fun h100 => ?_) (fun h100 => ?_)
          · refine x_iconst 114 (-1) (ab_dd tk_m_wordOf 29 rfl) rfl (by decide) ?_
            exact x_iret (ab_dd tk_m_wordOf 30 rfl) ⟨by unfold pW; rw [if_neg (by omega), if_neg (by omega), if_neg (by omega), if_neg (by omega), if_neg (by omega), if_neg (by omega)]; rw [if_neg (by omega)]; rfl, rfl⟩
          · refine x_bipush 105 6 (ab_dd tk_m_wordOf 23 rfl) rfl (by decide) (x_topn 6 rfl ?_)
            refine x_iload_n 106 1 (ab_dd tk_m_wordOf 24 rfl) rfl rfl rfl ?_
            refine x_iadd 107 (ab_dd tk_m_wordOf 25 rfl) rfl (x_topn (6 + K) (nI_add _ _) ?_)
            refine x_bipush 109 15 (ab_dd tk_m_wordOf 26 rfl) rfl (by decide) (x_topn 15 rfl ?_)
            refine x_isub 110 (ab_dd tk_m_wordOf 27 rfl) rfl (x_topn ((6 + K) - 15) (pk_sub (by omega)) ?_)
            refine x_goto 114 (ab_dd tk_m_wordOf 28 rfl) (by decide) ?_
            exact x_iret (ab_dd tk_m_wordOf 30 rfl) ⟨by unfold pW; rw [if_neg (by omega), if_neg (by omega), if_neg (by omega), if_neg (by omega), if_neg (by omega), if_neg (by omega)]; rw [if_pos (by omega)]; show _ = some (Value.int (nI (K - 9))); rw [show 6 + K - 15 = K - 9 by omega], rfl⟩
    · refine x_tableIn 84 (ab_dd tk_m_wordOf 1 rfl) (by omega) (by omega) (by rw [hc1]; rfl) (by decide) ?_
      refine x_aload_n 85 0 (ab_dd tk_m_wordOf 14 rfl) rfl rfl rfl ?_
      refine t_getI 88 (ab_dd tk_m_wordOf 15 rfl) rfl F_m_163 (by decide) (Nat.lt_of_lt_of_le (by decide) hm.1) (hm.2.1 0 (by decide)) rfl (x_topn la hr ?_)
      refine xn_if_ne 91 113 (ab_dd tk_m_wordOf 16 rfl) rfl (by decide) (by omega) (fun h88 => ?_) (fun h88 => ?_)
      · refine x_iconst 114 (-1) (ab_dd tk_m_wordOf 29 rfl) rfl (by decide) ?_
        exact x_iret (ab_dd tk_m_wordOf 30 rfl) ⟨by unfold pW; rw [if_neg (by omega), if_neg (by omega), if_neg (by omega), if_neg (by omega), if_neg (by omega), if_neg (by omega)]; rw [if_neg (by omega)]; rfl, rfl⟩
      · refine x_iload_n 92 1 (ab_dd tk_m_wordOf 17 rfl) rfl rfl rfl ?_
        refine x_bipush 94 15 (ab_dd tk_m_wordOf 18 rfl) rfl (by decide) (x_topn 15 rfl ?_)
        refine xn_icmp_lt 97 113 (ab_dd tk_m_wordOf 19 rfl) rfl (by decide) (by omega) (by omega) (fun h94 => ?_) (fun h94 => ?_)
        · refine x_iconst 114 (-1) (ab_dd tk_m_wordOf 29 rfl) rfl (by decide) ?_
          exact x_iret (ab_dd tk_m_wordOf 30 rfl) ⟨by unfold pW; rw [if_neg (by omega), if_neg (by omega), if_neg (by omega), if_neg (by omega), if_neg (by omega), if_neg (by omega)]; rw [if_neg (by omega)]; rfl, rfl⟩
        · refine x_iload_n 98 1 (ab_dd tk_m_wordOf 20 rfl) rfl rfl rfl ?_
          refine x_bipush 100 17 (ab_dd tk_m_wordOf 21 rfl) rfl (by decide) (x_topn 17 rfl ?_)
          refine xn_icmp_gt 103 113 (ab_dd tk_m_wordOf 22 rfl) rfl (by decide) (by omega) (by omega) (fun h100 => ?_) (fun h100 => ?_)
          · refine x_iconst 114 (-1) (ab_dd tk_m_wordOf 29 rfl) rfl (by decide) ?_
            exact x_iret (ab_dd tk_m_wordOf 30 rfl) ⟨by unfold pW; rw [if_neg (by omega), if_neg (by omega), if_neg (by omega), if_neg (by omega), if_neg (by omega), if_neg (by omega)]; rw [if_neg (by omega)]; rfl, rfl⟩
          · refine x_bipush 105 6 (ab_dd tk_m_wordOf 23 rfl) rfl (by decide) (x_topn 6 rfl ?_)
            refine x_iload_n 106 1 (ab_dd tk_m_wordOf 24 rfl) rfl rfl rfl ?_
            refine x_iadd 107 (ab_dd tk_m_wordOf 25 rfl) rfl (x_topn (6 + K) (nI_add _ _) ?_)
            refine x_bipush 109 15 (ab_dd tk_m_wordOf 26 rfl) rfl (by decide) (x_topn 15 rfl ?_)
            refine x_isub 110 (ab_dd tk_m_wordOf 27 rfl) rfl (x_topn ((6 + K) - 15) (pk_sub (by omega)) ?_)
            refine x_goto 114 (ab_dd tk_m_wordOf 28 rfl) (by decide) ?_
            exact x_iret (ab_dd tk_m_wordOf 30 rfl) ⟨by unfold pW; rw [if_neg (by omega), if_neg (by omega), if_neg (by omega), if_neg (by omega), if_neg (by omega), if_neg (by omega)]; rw [if_pos (by omega)]; show _ = some (Value.int (nI (K - 9))); rw [show 6 + K - 15 = K - 9 by omega], rfl⟩
    · refine x_tableIn 84 (ab_dd tk_m_wordOf 1 rfl) (by omega) (by omega) (by rw [hc1]; rfl) (by decide) ?_
      refine x_aload_n 85 0 (ab_dd tk_m_wordOf 14 rfl) rfl rfl rfl ?_
      refine t_getI 88 (ab_dd tk_m_wordOf 15 rfl) rfl F_m_163 (by decide) (Nat.lt_of_lt_of_le (by decide) hm.1) (hm.2.1 0 (by decide)) rfl (x_topn la hr ?_)
      refine xn_if_ne 91 113 (ab_dd tk_m_wordOf 16 rfl) rfl (by decide) (by omega) (fun h88 => ?_) (fun h88 => ?_)
      · refine x_iconst 114 (-1) (ab_dd tk_m_wordOf 29 rfl) rfl (by decide) ?_
        exact x_iret (ab_dd tk_m_wordOf 30 rfl) ⟨by unfold pW; rw [if_neg (by omega), if_neg (by omega), if_neg (by omega), if_neg (by omega), if_neg (by omega), if_neg (by omega)]; rw [if_neg (by omega)]; rfl, rfl⟩
      · refine x_iload_n 92 1 (ab_dd tk_m_wordOf 17 rfl) rfl rfl rfl ?_
        refine x_bipush 94 15 (ab_dd tk_m_wordOf 18 rfl) rfl (by decide) (x_topn 15 rfl ?_)
        refine xn_icmp_lt 97 113 (ab_dd tk_m_wordOf 19 rfl) rfl (by decide) (by omega) (by omega) (fun h94 => ?_) (fun h94 => ?_)
        · refine x_iconst 114 (-1) (ab_dd tk_m_wordOf 29 rfl) rfl (by decide) ?_
          exact x_iret (ab_dd tk_m_wordOf 30 rfl) ⟨by unfold pW; rw [if_neg (by omega), if_neg (by omega), if_neg (by omega), if_neg (by omega), if_neg (by omega), if_neg (by omega)]; rw [if_neg (by omega)]; rfl, rfl⟩
        · refine x_iload_n 98 1 (ab_dd tk_m_wordOf 20 rfl) rfl rfl rfl ?_
          refine x_bipush 100 17 (ab_dd tk_m_wordOf 21 rfl) rfl (by decide) (x_topn 17 rfl ?_)
          refine xn_icmp_gt 103 113 (ab_dd tk_m_wordOf 22 rfl) rfl (by decide) (by omega) (by omega) (fun h100 => ?_) (fun h100 => ?_)
          · refine x_iconst 114 (-1) (ab_dd tk_m_wordOf 29 rfl) rfl (by decide) ?_
            exact x_iret (ab_dd tk_m_wordOf 30 rfl) ⟨by unfold pW; rw [if_neg (by omega), if_neg (by omega), if_neg (by omega), if_neg (by omega), if_neg (by omega), if_neg (by omega)]; rw [if_neg (by omega)]; rfl, rfl⟩
          · refine x_bipush 105 6 (ab_dd tk_m_wordOf 23 rfl) rfl (by decide) (x_topn 6 rfl ?_)
            refine x_iload_n 106 1 (ab_dd tk_m_wordOf 24 rfl) rfl rfl rfl ?_
            refine x_iadd 107 (ab_dd tk_m_wordOf 25 rfl) rfl (x_topn (6 + K) (nI_add _ _) ?_)
            refine x_bipush 109 15 (ab_dd tk_m_wordOf 26 rfl) rfl (by decide) (x_topn 15 rfl ?_)
            refine x_isub 110 (ab_dd tk_m_wordOf 27 rfl) rfl (x_topn ((6 + K) - 15) (pk_sub (by omega)) ?_)
            refine x_goto 114 (ab_dd tk_m_wordOf 28 rfl) (by decide) ?_
            exact x_iret (ab_dd tk_m_wordOf 30 rfl) ⟨by unfold pW; rw [if_neg (by omega), if_neg (by omega), if_neg (by omega), if_neg (by omega), if_neg (by omega), if_neg (by omega)]; rw [if_pos (by omega)]; show _ = some (Value.int (nI (K - 9))); rw [show 6 + K - 15 = K - 9 by omega], rfl⟩
    · refine x_tableIn 84 (ab_dd tk_m_wordOf 1 rfl) (by omega) (by omega) (by rw [hc1]; rfl) (by decide) ?_
      refine x_aload_n 85 0 (ab_dd tk_m_wordOf 14 rfl) rfl rfl rfl ?_
      refine t_getI 88 (ab_dd tk_m_wordOf 15 rfl) rfl F_m_163 (by decide) (Nat.lt_of_lt_of_le (by decide) hm.1) (hm.2.1 0 (by decide)) rfl (x_topn la hr ?_)
      refine xn_if_ne 91 113 (ab_dd tk_m_wordOf 16 rfl) rfl (by decide) (by omega) (fun h88 => ?_) (fun h88 => ?_)
      · refine x_iconst 114 (-1) (ab_dd tk_m_wordOf 29 rfl) rfl (by decide) ?_
        exact x_iret (ab_dd tk_m_wordOf 30 rfl) ⟨by unfold pW; rw [if_neg (by omega), if_neg (by omega), if_neg (by omega), if_neg (by omega), if_neg (by omega), if_neg (by omega)]; rw [if_neg (by omega)]; rfl, rfl⟩
      · refine x_iload_n 92 1 (ab_dd tk_m_wordOf 17 rfl) rfl rfl rfl ?_
        refine x_bipush 94 15 (ab_dd tk_m_wordOf 18 rfl) rfl (by decide) (x_topn 15 rfl ?_)
        refine xn_icmp_lt 97 113 (ab_dd tk_m_wordOf 19 rfl) rfl (by decide) (by omega) (by omega) (fun h94 => ?_) (fun h94 => ?_)
        · refine x_iconst 114 (-1) (ab_dd tk_m_wordOf 29 rfl) rfl (by decide) ?_
          exact x_iret (ab_dd tk_m_wordOf 30 rfl) ⟨by unfold pW; rw [if_neg (by omega), if_neg (by omega), if_neg (by omega), if_neg (by omega), if_neg (by omega), if_neg (by omega)]; rw [if_neg (by omega)]; rfl, rfl⟩
        · refine x_iload_n 98 1 (ab_dd tk_m_wordOf 20 rfl) rfl rfl rfl ?_
          refine x_bipush 100 17 (ab_dd tk_m_wordOf 21 rfl) rfl (by decide) (x_topn 17 rfl ?_)
          refine xn_icmp_gt 103 113 (ab_dd tk_m_wordOf 22 rfl) rfl (by decide) (by omega) (by omega) (fun h100 => ?_) (fun h100 => ?_)
          · refine x_iconst 114 (-1) (ab_dd tk_m_wordOf 29 rfl) rfl (by decide) ?_
            exact x_iret (ab_dd tk_m_wordOf 30 rfl) ⟨by unfold pW; rw [if_neg (by omega), if_neg (by omega), if_neg (by omega), if_neg (by omega), if_neg (by omega), if_neg (by omega)]; rw [if_neg (by omega)]; rfl, rfl⟩
          · refine x_bipush 105 6 (ab_dd tk_m_wordOf 23 rfl) rfl (by decide) (x_topn 6 rfl ?_)
            refine x_iload_n 106 1 (ab_dd tk_m_wordOf 24 rfl) rfl rfl rfl ?_
            refine x_iadd 107 (ab_dd tk_m_wordOf 25 rfl) rfl (x_topn (6 + K) (nI_add _ _) ?_)
            refine x_bipush 109 15 (ab_dd tk_m_wordOf 26 rfl) rfl (by decide) (x_topn 15 rfl ?_)
            refine x_isub 110 (ab_dd tk_m_wordOf 27 rfl) rfl (x_topn ((6 + K) - 15) (pk_sub (by omega)) ?_)
            refine x_goto 114 (ab_dd tk_m_wordOf 28 rfl) (by decide) ?_
            exact x_iret (ab_dd tk_m_wordOf 30 rfl) ⟨by unfold pW; rw [if_neg (by omega), if_neg (by omega), if_neg (by omega), if_neg (by omega), if_neg (by omega), if_neg (by omega)]; rw [if_pos (by omega)]; show _ = some (Value.int (nI (K - 9))); rw [show 6 + K - 15 = K - 9 by omega], rfl⟩
    · refine x_tableIn 84 (ab_dd tk_m_wordOf 1 rfl) (by omega) (by omega) (by rw [hc1]; rfl) (by decide) ?_
      refine x_aload_n 85 0 (ab_dd tk_m_wordOf 14 rfl) rfl rfl rfl ?_
      refine t_getI 88 (ab_dd tk_m_wordOf 15 rfl) rfl F_m_163 (by decide) (Nat.lt_of_lt_of_le (by decide) hm.1) (hm.2.1 0 (by decide)) rfl (x_topn la hr ?_)
      refine xn_if_ne 91 113 (ab_dd tk_m_wordOf 16 rfl) rfl (by decide) (by omega) (fun h88 => ?_) (fun h88 => ?_)
      · refine x_iconst 114 (-1) (ab_dd tk_m_wordOf 29 rfl) rfl (by decide) ?_
        exact x_iret (ab_dd tk_m_wordOf 30 rfl) ⟨by unfold pW; rw [if_neg (by omega), if_neg (by omega), if_neg (by omega), if_neg (by omega), if_neg (by omega), if_neg (by omega)]; rw [if_neg (by omega)]; rfl, rfl⟩
      · refine x_iload_n 92 1 (ab_dd tk_m_wordOf 17 rfl) rfl rfl rfl ?_
        refine x_bipush 94 15 (ab_dd tk_m_wordOf 18 rfl) rfl (by decide) (x_topn 15 rfl ?_)
        refine xn_icmp_lt 97 113 (ab_dd tk_m_wordOf 19 rfl) rfl (by decide) (by omega) (by omega) (fun h94 => ?_) (fun h94 => ?_)
        · refine x_iconst 114 (-1) (ab_dd tk_m_wordOf 29 rfl) rfl (by decide) ?_
          exact x_iret (ab_dd tk_m_wordOf 30 rfl) ⟨by unfold pW; rw [if_neg (by omega), if_neg (by omega), if_neg (by omega), if_neg (by omega), if_neg (by omega), if_neg (by omega)]; rw [if_neg (by omega)]; rfl, rfl⟩
        · refine x_iload_n 98 1 (ab_dd tk_m_wordOf 20 rfl) rfl rfl rfl ?_
          refine x_bipush 100 17 (ab_dd tk_m_wordOf 21 rfl) rfl (by decide) (x_topn 17 rfl ?_)
          refine xn_icmp_gt 103 113 (ab_dd tk_m_wordOf 22 rfl) rfl (by decide) (by omega) (by omega) (fun h100 => ?_) (fun h100 => ?_)
          · refine x_iconst 114 (-1) (ab_dd tk_m_wordOf 29 rfl) rfl (by decide) ?_
            exact x_iret (ab_dd tk_m_wordOf 30 rfl) ⟨by unfold pW; rw [if_neg (by omega), if_neg (by omega), if_neg (by omega), if_neg (by omega), if_neg (by omega), if_neg (by omega)]; rw [if_neg (by omega)]; rfl, rfl⟩
          · refine x_bipush 105 6 (ab_dd tk_m_wordOf 23 rfl) rfl (by decide) (x_topn 6 rfl ?_)
            refine x_iload_n 106 1 (ab_dd tk_m_wordOf 24 rfl) rfl rfl rfl ?_
            refine x_iadd 107 (ab_dd tk_m_wordOf 25 rfl) rfl (x_topn (6 + K) (nI_add _ _) ?_)
            refine x_bipush 109 15 (ab_dd tk_m_wordOf 26 rfl) rfl (by decide) (x_topn 15 rfl ?_)
            refine x_isub 110 (ab_dd tk_m_wordOf 27 rfl) rfl (x_topn ((6 + K) - 15) (pk_sub (by omega)) ?_)
            refine x_goto 114 (ab_dd tk_m_wordOf 28 rfl) (by decide) ?_
            exact x_iret (ab_dd tk_m_wordOf 30 rfl) ⟨by unfold pW; rw [if_neg (by omega), if_neg (by omega), if_neg (by omega), if_neg (by omega), if_neg (by omega), if_neg (by omega)]; rw [if_pos (by omega)]; show _ = some (Value.int (nI (K - 9))); rw [show 6 + K - 15 = K - 9 by omega], rfl⟩
    · refine x_tableIn 84 (ab_dd tk_m_wordOf 1 rfl) (by omega) (by omega) (by rw [hc1]; rfl) (by decide) ?_
      refine x_aload_n 85 0 (ab_dd tk_m_wordOf 14 rfl) rfl rfl rfl ?_
      refine t_getI 88 (ab_dd tk_m_wordOf 15 rfl) rfl F_m_163 (by decide) (Nat.lt_of_lt_of_le (by decide) hm.1) (hm.2.1 0 (by decide)) rfl (x_topn la hr ?_)
      refine xn_if_ne 91 113 (ab_dd tk_m_wordOf 16 rfl) rfl (by decide) (by omega) (fun h88 => ?_) (fun h88 => ?_)
      · refine x_iconst 114 (-1) (ab_dd tk_m_wordOf 29 rfl) rfl (by decide) ?_
        exact x_iret (ab_dd tk_m_wordOf 30 rfl) ⟨by unfold pW; rw [if_neg (by omega), if_neg (by omega), if_neg (by omega), if_neg (by omega), if_neg (by omega), if_neg (by omega)]; rw [if_neg (by omega)]; rfl, rfl⟩
      · refine x_iload_n 92 1 (ab_dd tk_m_wordOf 17 rfl) rfl rfl rfl ?_
        refine x_bipush 94 15 (ab_dd tk_m_wordOf 18 rfl) rfl (by decide) (x_topn 15 rfl ?_)
        refine xn_icmp_lt 97 113 (ab_dd tk_m_wordOf 19 rfl) rfl (by decide) (by omega) (by omega) (fun h94 => ?_) (fun h94 => ?_)
        · refine x_iconst 114 (-1) (ab_dd tk_m_wordOf 29 rfl) rfl (by decide) ?_
          exact x_iret (ab_dd tk_m_wordOf 30 rfl) ⟨by unfold pW; rw [if_neg (by omega), if_neg (by omega), if_neg (by omega), if_neg (by omega), if_neg (by omega), if_neg (by omega)]; rw [if_neg (by omega)]; rfl, rfl⟩
        · refine x_iload_n 98 1 (ab_dd tk_m_wordOf 20 rfl) rfl rfl rfl ?_
          refine x_bipush 100 17 (ab_dd tk_m_wordOf 21 rfl) rfl (by decide) (x_topn 17 rfl ?_)
          refine xn_icmp_gt 103 113 (ab_dd tk_m_wordOf 22 rfl) rfl (by decide) (by omega) (by omega) (fun h100 => ?_) (fun h100 => ?_)
          · refine x_iconst 114 (-1) (ab_dd tk_m_wordOf 29 rfl) rfl (by decide) ?_
            exact x_iret (ab_dd tk_m_wordOf 30 rfl) ⟨by unfold pW; rw [if_neg (by omega), if_neg (by omega), if_neg (by omega), if_neg (by omega), if_neg (by omega), if_neg (by omega)]; rw [if_neg (by omega)]; rfl, rfl⟩
          · refine x_bipush 105 6 (ab_dd tk_m_wordOf 23 rfl) rfl (by decide) (x_topn 6 rfl ?_)
            refine x_iload_n 106 1 (ab_dd tk_m_wordOf 24 rfl) rfl rfl rfl ?_
            refine x_iadd 107 (ab_dd tk_m_wordOf 25 rfl) rfl (x_topn (6 + K) (nI_add _ _) ?_)
            refine x_bipush 109 15 (ab_dd tk_m_wordOf 26 rfl) rfl (by decide) (x_topn 15 rfl ?_)
            refine x_isub 110 (ab_dd tk_m_wordOf 27 rfl) rfl (x_topn ((6 + K) - 15) (pk_sub (by omega)) ?_)
            refine x_goto 114 (ab_dd tk_m_wordOf 28 rfl) (by decide) ?_
            exact x_iret (ab_dd tk_m_wordOf 30 rfl) ⟨by unfold pW; rw [if_neg (by omega), if_neg (by omega), if_neg (by omega), if_neg (by omega), if_neg (by omega), if_neg (by omega)]; rw [if_pos (by omega)]; show _ = some (Value.int (nI (K - 9))); rw [show 6 + K - 15 = K - 9 by omega], rfl⟩
    · refine x_tableIn 84 (ab_dd tk_m_wordOf 1 rfl) (by omega) (by omega) (by rw [hc1]; rfl) (by decide) ?_
      refine x_aload_n 85 0 (ab_dd tk_m_wordOf 14 rfl) rfl rfl rfl ?_
      refine t_getI 88 (ab_dd tk_m_wordOf 15 rfl) rfl F_m_163 (by decide) (Nat.lt_of_lt_of_le (by decide) hm.1) (hm.2.1 0 (by decide)) rfl (x_topn la hr ?_)
      refine xn_if_ne 91 113 (ab_dd tk_m_wordOf 16 rfl) rfl (by decide) (by omega) (fun h88 => ?_) (fun h88 => ?_)
      · refine x_iconst 114 (-1) (ab_dd tk_m_wordOf 29 rfl) rfl (by decide) ?_
        exact x_iret (ab_dd tk_m_wordOf 30 rfl) ⟨by unfold pW; rw [if_neg (by omega), if_neg (by omega), if_neg (by omega), if_neg (by omega), if_neg (by omega), if_neg (by omega)]; rw [if_neg (by omega)]; rfl, rfl⟩
      · refine x_iload_n 92 1 (ab_dd tk_m_wordOf 17 rfl) rfl rfl rfl ?_
        refine x_bipush 94 15 (ab_dd tk_m_wordOf 18 rfl) rfl (by decide) (x_topn 15 rfl ?_)
        refine xn_icmp_lt 97 113 (ab_dd tk_m_wordOf 19 rfl) rfl (by decide) (by omega) (by omega) (fun h94 => ?_) (fun h94 => ?_)
        · refine x_iconst 114 (-1) (ab_dd tk_m_wordOf 29 rfl) rfl (by decide) ?_
          exact x_iret (ab_dd tk_m_wordOf 30 rfl) ⟨by unfold pW; rw [if_neg (by omega), if_neg (by omega), if_neg (by omega), if_neg (by omega), if_neg (by omega), if_neg (by omega)]; rw [if_neg (by omega)]; rfl, rfl⟩
        · refine x_iload_n 98 1 (ab_dd tk_m_wordOf 20 rfl) rfl rfl rfl ?_
          refine x_bipush 100 17 (ab_dd tk_m_wordOf 21 rfl) rfl (by decide) (x_topn 17 rfl ?_)
          refine xn_icmp_gt 103 113 (ab_dd tk_m_wordOf 22 rfl) rfl (by decide) (by omega) (by omega) (fun h100 => ?_) (fun h100 => ?_)
          · refine x_iconst 114 (-1) (ab_dd tk_m_wordOf 29 rfl) rfl (by decide) ?_
            exact x_iret (ab_dd tk_m_wordOf 30 rfl) ⟨by unfold pW; rw [if_neg (by omega), if_neg (by omega), if_neg (by omega), if_neg (by omega), if_neg (by omega), if_neg (by omega)]; rw [if_neg (by omega)]; rfl, rfl⟩
          · refine x_bipush 105 6 (ab_dd tk_m_wordOf 23 rfl) rfl (by decide) (x_topn 6 rfl ?_)
            refine x_iload_n 106 1 (ab_dd tk_m_wordOf 24 rfl) rfl rfl rfl ?_
            refine x_iadd 107 (ab_dd tk_m_wordOf 25 rfl) rfl (x_topn (6 + K) (nI_add _ _) ?_)
            refine x_bipush 109 15 (ab_dd tk_m_wordOf 26 rfl) rfl (by decide) (x_topn 15 rfl ?_)
            refine x_isub 110 (ab_dd tk_m_wordOf 27 rfl) rfl (x_topn ((6 + K) - 15) (pk_sub (by omega)) ?_)
            refine x_goto 114 (ab_dd tk_m_wordOf 28 rfl) (by decide) ?_
            exact x_iret (ab_dd tk_m_wordOf 30 rfl) ⟨by unfold pW; rw [if_neg (by omega), if_neg (by omega), if_neg (by omega), if_neg (by omega), if_neg (by omega), if_neg (by omega)]; rw [if_pos (by omega)]; show _ = some (Value.int (nI (K - 9))); rw [show 6 + K - 15 = K - 9 by omega], rfl⟩
    · refine x_tableIn 78 (ab_dd tk_m_wordOf 1 rfl) (by omega) (by omega) (by rw [hc1]; rfl) (by decide) ?_
      refine x_iconst 79 3 (ab_dd tk_m_wordOf 8 rfl) rfl (by decide) (x_topn 3 rfl ?_)
      exact x_iret (ab_dd tk_m_wordOf 9 rfl) ⟨by rw [show K = 13 by omega]; rfl, rfl⟩
    · refine x_tableIn 80 (ab_dd tk_m_wordOf 1 rfl) (by omega) (by omega) (by rw [hc1]; rfl) (by decide) ?_
      refine x_iconst 81 4 (ab_dd tk_m_wordOf 10 rfl) rfl (by decide) (x_topn 4 rfl ?_)
      exact x_iret (ab_dd tk_m_wordOf 11 rfl) ⟨by rw [show K = 14 by omega]; rfl, rfl⟩
  · refine x_tableOut 84 (ab_dd tk_m_wordOf 1 rfl) (by omega) (by decide) ?_
    refine x_aload_n 85 0 (ab_dd tk_m_wordOf 14 rfl) rfl rfl rfl ?_
    refine t_getI 88 (ab_dd tk_m_wordOf 15 rfl) rfl F_m_163 (by decide) (Nat.lt_of_lt_of_le (by decide) hm.1) (hm.2.1 0 (by decide)) rfl (x_topn la hr ?_)
    refine xn_if_ne 91 113 (ab_dd tk_m_wordOf 16 rfl) rfl (by decide) (by omega) (fun h88 => ?_) (fun h88 => ?_)
    · refine x_iconst 114 (-1) (ab_dd tk_m_wordOf 29 rfl) rfl (by decide) ?_
      exact x_iret (ab_dd tk_m_wordOf 30 rfl) ⟨by unfold pW; rw [if_neg (by omega), if_neg (by omega), if_neg (by omega), if_neg (by omega), if_neg (by omega), if_neg (by omega)]; rw [if_neg (by omega)]; rfl, rfl⟩
    · refine x_iload_n 92 1 (ab_dd tk_m_wordOf 17 rfl) rfl rfl rfl ?_
      refine x_bipush 94 15 (ab_dd tk_m_wordOf 18 rfl) rfl (by decide) (x_topn 15 rfl ?_)
      refine xn_icmp_lt 97 113 (ab_dd tk_m_wordOf 19 rfl) rfl (by decide) (by omega) (by omega) (fun h94 => ?_) (fun h94 => ?_)
      · refine x_iconst 114 (-1) (ab_dd tk_m_wordOf 29 rfl) rfl (by decide) ?_
        exact x_iret (ab_dd tk_m_wordOf 30 rfl) ⟨by unfold pW; rw [if_neg (by omega), if_neg (by omega), if_neg (by omega), if_neg (by omega), if_neg (by omega), if_neg (by omega)]; rw [if_neg (by omega)]; rfl, rfl⟩
      · refine x_iload_n 98 1 (ab_dd tk_m_wordOf 20 rfl) rfl rfl rfl ?_
        refine x_bipush 100 17 (ab_dd tk_m_wordOf 21 rfl) rfl (by decide) (x_topn 17 rfl ?_)
        refine xn_icmp_gt 103 113 (ab_dd tk_m_wordOf 22 rfl) rfl (by decide) (by omega) (by omega) (fun h100 => ?_) (fun h100 => ?_)
        · refine x_iconst 114 (-1) (ab_dd tk_m_wordOf 29 rfl) rfl (by decide) ?_
          exact x_iret (ab_dd tk_m_wordOf 30 rfl) ⟨by unfold pW; rw [if_neg (by omega), if_neg (by omega), if_neg (by omega), if_neg (by omega), if_neg (by omega), if_neg (by omega)]; rw [if_neg (by omega)]; rfl, rfl⟩
        · refine x_bipush 105 6 (ab_dd tk_m_wordOf 23 rfl) rfl (by decide) (x_topn 6 rfl ?_)
          refine x_iload_n 106 1 (ab_dd tk_m_wordOf 24 rfl) rfl rfl rfl ?_
          refine x_iadd 107 (ab_dd tk_m_wordOf 25 rfl) rfl (x_topn (6 + K) (nI_add _ _) ?_)
          refine x_bipush 109 15 (ab_dd tk_m_wordOf 26 rfl) rfl (by decide) (x_topn 15 rfl ?_)
          refine x_isub 110 (ab_dd tk_m_wordOf 27 rfl) rfl (x_topn ((6 + K) - 15) (pk_sub (by omega)) ?_)
          refine x_goto 114 (ab_dd tk_m_wordOf 28 rfl) (by decide) ?_
          exact x_iret (ab_dd tk_m_wordOf 30 rfl) ⟨by unfold pW; rw [if_neg (by omega), if_neg (by omega), if_neg (by omega), if_neg (by omega), if_neg (by omega), if_neg (by omega)]; rw [if_pos (by omega)]; show _ = some (Value.int (nI (K - 9))); rw [show 6 + K - 15 = K - 9 by omega], rfl⟩
