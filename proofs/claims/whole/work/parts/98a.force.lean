/-! ===== what can be forced, found backwards ===== -/
section
variable {g : Nat → Nat → Option Nat} {W : Nat → Prop} {T : Nat}
def rk (R : Nat → Option Nat) (x : Nat) : Nat := (R x).getD 0
/-- whose turn it is at a place: the first one's at the even ones -/
def tn (x : Nat) : Bool := x % 2 == 0
def fx (g : Nat → Nat → Option Nat) (W : Nat → Prop) (n x : Nat) : Prop := fw g W n (tn x) (x / 2) ∧ ∀ m, m < n → ¬ fw g W m (tn x) (x / 2)
/-- Q: the queue of q places, of which i are done (pd); R: ranks -/
def fcI (g : Nat → Nat → Option Nat) (W : Nat → Prop) (T : Nat) (Q : Nat → Nat) (q i : Nat) (R : Nat → Option Nat) (pd : Nat → Bool) : Prop :=
  (∀ k, k < q → Q k < 2 * T ∧ ∃ n, R (Q k) = some n ∧ n ≤ k) ∧ (∀ x n, x < 2 * T → R x = some n → ∃ k, k < q ∧ Q k = x) ∧ (∀ k l, k < l → l < q → Q k ≠ Q l) ∧ (∀ k l, k < l → l < q → rk R (Q k) ≤ rk R (Q l)) ∧ (i < q → ∀ k, k < q → rk R (Q k) ≤ rk R (Q i) + 1) ∧
  (∀ x n, x < 2 * T → R x = some n → fx g W n x) ∧ (∀ x, pd x = true ↔ ∃ k, k < i ∧ Q k = x) ∧ i ≤ q ∧
  (∀ s, s < T → W s → R (2 * s) ≠ none ∧ R (2 * s + 1) ≠ none) ∧
  (∀ s d j, s < T → d < 4 → g s d = some j → pd (2 * j + 1) = true → ∃ n n', R (2 * s) = some n ∧ R (2 * j + 1) = some n' ∧ n ≤ n' + 1) ∧
  (∀ s, s < T → (∀ d j, d < 4 → g s d = some j → pd (2 * j) = true) → ∃ n d j n', d < 4 ∧ g s d = some j ∧ R (2 * s + 1) = some n ∧ R (2 * j) = some n' ∧ n ≤ n' + 1)
theorem tn_e (s : Nat) : tn (2 * s) = true ∧ 2 * s / 2 = s := by
  refine ⟨?_, by omega⟩
  unfold tn
  rw [show 2 * s % 2 = 0 by omega]; rfl
theorem tn_o (s : Nat) : tn (2 * s + 1) = false ∧ (2 * s + 1) / 2 = s := by
  refine ⟨?_, by omega⟩
  unfold tn
  rw [show (2 * s + 1) % 2 = 1 by omega]; rfl
theorem rk_s {R : Nat → Option Nat} {x n : Nat} (h : R x = some n) : rk R x = n := by unfold rk; rw [h]; rfl
/-- all with a rank below n are done: what is forced within n stops has its rank -/
theorem fcI.all {Q : Nat → Nat} {q i : Nat} {R : Nat → Option Nat} {pd : Nat → Bool} (hg : ∀ i d j, i < T → d < 4 → g i d = some j → j < T) (h : fcI g W T Q q i R pd) {n : Nat} (hn : ∀ k, k < q → rk R (Q k) < n → k < i) : ∀ m b s, m ≤ n → s < T → fw g W m b s → ∃ n', R (if b = true then 2 * s else 2 * s + 1) = some n' ∧ n' ≤ m
  | 0, b, s, _, hs, hw => by
    obtain ⟨h1, h2, h3, h4, h5, h6, h7, h8, h9, h10, h11⟩ := h
    have hw0 : W s := by cases b <;> exact hw
    obtain ⟨a1, a2⟩ := h9 s hs hw0
    cases b with
    | true =>
      rw [if_pos rfl]
      rcases e : R (2 * s) with _ | n'
      · exact absurd e a1
      · refine ⟨n', rfl, ?_⟩
        have z := (h6 (2 * s) n' (by omega) e).2
        rw [(tn_e s).1, (tn_e s).2] at z
        refine Nat.le_of_not_lt (fun y => z 0 y hw)
    | false =>
      rw [if_neg (by decide)]
      rcases e : R (2 * s + 1) with _ | n'
      · exact absurd e a2
      · refine ⟨n', rfl, ?_⟩
        have z := (h6 (2 * s + 1) n' (by omega) e).2
        rw [(tn_o s).1, (tn_o s).2] at z
        refine Nat.le_of_not_lt (fun y => z 0 y hw)
  | m + 1, b, s, hm, hs, hw => by
    have hpd : ∀ x n', x < 2 * T → R x = some n' → n' ≤ m → pd x = true := fun x n' hx e hl => by
      obtain ⟨k, k1, k2⟩ := h.2.1 x n' hx e
      refine (h.2.2.2.2.2.2.1 x).mpr ⟨k, hn k k1 ?_, k2⟩
      rw [k2, rk_s e]; omega
    have hmin : ∀ x n', x < 2 * T → R x = some n' → fw g W (m + 1) (tn x) (x / 2) → n' ≤ m + 1 := fun x n' hx e z => by
      have y := (h.2.2.2.2.2.1 x n' hx e).2
      exact Nat.le_of_not_lt (fun u => y (m + 1) u z)
    cases b with
    | true =>
      rw [if_pos rfl]
      rcases hw with hw0 | ⟨d, j, hd, e, hw1⟩
      · rcases e : R (2 * s) with _ | n'
        · exact absurd e (h.2.2.2.2.2.2.2.2.1 s hs hw0).1
        · exact ⟨n', rfl, hmin _ n' (by omega) e (by rw [(tn_e s).1, (tn_e s).2]; exact fw_W _ _ _ hw0)⟩
      · have hj := hg s d j hs hd e
        obtain ⟨n', a1, a2⟩ := fcI.all hg h hn m false j (by omega) hj hw1
        rw [if_neg (by decide)] at a1
        obtain ⟨n1, n2, b1, b2, b3⟩ := h.2.2.2.2.2.2.2.2.2.1 s d j hs hd e (hpd _ n' (by omega) a1 a2)
        rw [a1] at b2
        have := Option.some.inj b2
        exact ⟨n1, b1, by omega⟩
    | false =>
      rw [if_neg (by decide)]
      rcases hw with hw0 | hw1
      · rcases e : R (2 * s + 1) with _ | n'
        · exact absurd e (h.2.2.2.2.2.2.2.2.1 s hs hw0).2
        · exact ⟨n', rfl, hmin _ n' (by omega) e (by rw [(tn_o s).1, (tn_o s).2]; exact fw_W _ _ _ hw0)⟩
      · have hall : ∀ d j, d < 4 → g s d = some j → ∃ n', R (2 * j) = some n' ∧ n' ≤ m := fun d j hd e => by
          obtain ⟨n', a1, a2⟩ := fcI.all hg h hn m true j (by omega) (hg s d j hs hd e) (hw1 d j hd e)
          rw [if_pos rfl] at a1
          exact ⟨n', a1, a2⟩
        obtain ⟨n1, d, j, n2, b1, b2, b3, b4, b5⟩ := h.2.2.2.2.2.2.2.2.2.2 s hs (fun d j hd e => by
          obtain ⟨n', a1, a2⟩ := hall d j hd e
          have := hg s d j hs hd e
          exact hpd _ n' (by omega) a1 a2)
        obtain ⟨n', a1, a2⟩ := hall d j b1 b2
        rw [a1] at b4
        have := Option.some.inj b4
        exact ⟨n1, b3, by omega⟩
/-- at the place that is done now all with a lesser rank are done -/
theorem fcI.low {Q : Nat → Nat} {q i : Nat} {R : Nat → Option Nat} {pd : Nat → Bool} (h : fcI g W T Q q i R pd) (hi : i < q) : ∀ k, k < q → rk R (Q k) < rk R (Q i) → k < i := fun k hk hl => by
  rcases Nat.lt_or_ge k i with z | z
  · exact z
  · rcases Nat.eq_or_lt_of_le z with y | y
    · rw [← y] at hl; omega
    · have := h.2.2.2.1 i k y hk; omega
theorem fcI.le {Q : Nat → Nat} {q i : Nat} {R : Nat → Option Nat} {pd : Nat → Bool} (h : fcI g W T Q q i R pd) : q ≤ 2 * T := inj_le (fun k hk => (h.1 k hk).1) h.2.2.1
/-- a place comes into the queue -/
theorem fcI.add {Q : Nat → Nat} {q i : Nat} {R : Nat → Option Nat} {pd : Nat → Bool} (hg : ∀ i d j, i < T → d < 4 → g i d = some j → j < T) (h : fcI g W T Q q i R pd) (hi : i < q) {n y : Nat} (hn : R (Q i) = some n) (hy : y < 2 * T) (hR : R y = none) (hf : fw g W (n + 1) (tn y) (y / 2)) : fcI g W T (up1 Q q y) (q + 1) i (up1 R y (some (n + 1))) pd := by
  have hlow := h.low hi
  have hmin : ∀ m, m < n + 1 → ¬ fw g W m (tn y) (y / 2) := fun m hm z => by
    have e := fcI.all hg h (n := n) (fun k hk hl => hlow k hk (by rw [rk_s hn]; exact hl)) m (tn y) (y / 2) (by omega) (by omega) z
    obtain ⟨n', a1, -⟩ := e
    have : (if tn y = true then 2 * (y / 2) else 2 * (y / 2) + 1) = y := by
      unfold tn
      by_cases z : y % 2 = 0
      · rw [if_pos (by rw [z]; rfl)]; omega
      · rw [if_neg (by rw [show y % 2 = 1 by omega]; decide)]; omega
    rw [this, hR] at a1
    cases a1
  obtain ⟨h1, h2, h3, h4, h5, h6, h7, h8, h9, h10, h11⟩ := h
  have hro : ∀ x v, R x = some v → up1 R y (some (n + 1)) x = some v := fun x v e => by
    rw [up1_o (fun z => by rw [z, hR] at e; cases e)]; exact e
  have hrn : ∀ x, R x ≠ none → up1 R y (some (n + 1)) x ≠ none := fun x e => by
    rcases z : R x with _ | v
    · exact absurd z e
    · rw [hro x v z]; intro u; cases u
  have hqo : ∀ k, k < q → up1 Q q y k = Q k := fun k hk => up1_o (by omega)
  have hrk : ∀ k, k < q → rk (up1 R y (some (n + 1))) (up1 Q q y k) = rk R (Q k) := fun k hk => by
    obtain ⟨-, v, e, -⟩ := h1 k hk
    rw [hqo k hk, rk_s e, rk_s (hro _ v e)]
  have hrq : rk (up1 R y (some (n + 1))) (up1 Q q y q) = n + 1 := by rw [up1_s]; exact rk_s up1_s
  have hni := (h1 i hi).2
  refine ⟨fun k hk => ?_, fun x v hx e => ?_, fun k l a b => ?_, fun k l a b => ?_, fun _ k hk => ?_, fun x v hx e => ?_, fun x => ?_, by omega, fun s hs w => ⟨hrn _ (h9 s hs w).1, hrn _ (h9 s hs w).2⟩, fun s d j hs hd e hp => ?_, fun s hs hp => ?_⟩
  · by_cases z : k = q
    · rw [z, up1_s, up1_s]
      refine ⟨hy, n + 1, rfl, ?_⟩
      obtain ⟨v, e1, e2⟩ := hni
      rw [hn] at e1
      have := Option.some.inj e1
      omega
    · rw [hqo k (by omega)]
      obtain ⟨a1, v, e1, e2⟩ := h1 k (by omega)
      exact ⟨a1, v, hro _ v e1, e2⟩
  · by_cases z : x = y
    · exact ⟨q, by omega, by rw [up1_s, z]⟩
    · rw [up1_o z] at e
      obtain ⟨k, k1, k2⟩ := h2 x v hx e
      exact ⟨k, by omega, by rw [hqo k k1, k2]⟩
  · by_cases z : l = q
    · rw [z, up1_s, hqo k (by omega)]
      intro u
      obtain ⟨-, v, e, -⟩ := h1 k (by omega)
      rw [u, hR] at e
      cases e
    · rw [hqo k (by omega), hqo l (by omega)]; exact h3 k l a (by omega)
  · by_cases z : l = q
    · rw [z, hrq, hrk k (by omega)]
      have := h5 hi k (by omega)
      rw [rk_s hn] at this
      exact this
    · rw [hrk k (by omega), hrk l (by omega)]; exact h4 k l a (by omega)
  · rw [hrk i hi, rk_s hn]
    by_cases z : k = q
    · rw [z, hrq]; exact Nat.le_refl _
    · rw [hrk k (by omega)]
      have := h5 hi k (by omega)
      rw [rk_s hn] at this
      exact this
  · by_cases z : x = y
    · rw [z, up1_s] at e
      rw [← Option.some.inj e, z]
      exact ⟨hf, hmin⟩
    · rw [up1_o z] at e
      exact h6 x v hx e
  · rw [h7 x]
    constructor
    · intro ⟨k, k1, k2⟩
      exact ⟨k, k1, by rw [hqo k (by omega)]; exact k2⟩
    · intro ⟨k, k1, k2⟩
      exact ⟨k, k1, by rw [hqo k (by omega)] at k2; exact k2⟩
  · obtain ⟨a, b, a1, a2, a3⟩ := h10 s d j hs hd e hp
    exact ⟨a, b, hro _ a a1, hro _ b a2, a3⟩
  · obtain ⟨a, d, j, b, b1, b2, b3, b4, b5⟩ := h11 s hs hp
    exact ⟨a, d, j, b, b1, b2, hro _ a b3, hro _ b b4, b5⟩
end
