/-! ===== forcing: the places from which it goes out; the class's cells ===== -/
section
variable {g : Nat → Nat → Option Nat} {W : Nat → Prop} {T : Nat}
def fcP (W : Nat → Prop) (k : Nat) (Q : Nat → Nat) (q : Nat) (R : Nat → Option Nat) : Prop := (∀ l, l < q → Q l < 2 * k ∧ W (Q l / 2) ∧ R (Q l) = some 0) ∧ (∀ x n, R x = some n → n = 0 ∧ ∃ l, l < q ∧ Q l = x) ∧ (∀ l l', l < l' → l' < q → Q l ≠ Q l') ∧ ∀ s, s < k → W s → R (2 * s) ≠ none ∧ R (2 * s + 1) ≠ none
theorem fcP.start (W : Nat → Prop) (Q : Nat → Nat) : fcP W 0 Q 0 (fun _ => none) := ⟨fun l hl => absurd hl (by omega), fun x n e => (by cases e), fun l l' _ h => absurd h (by omega), fun s hs => absurd hs (by omega)⟩
theorem fcP.no {k : Nat} {Q : Nat → Nat} {q : Nat} {R : Nat → Option Nat} (h : fcP W k Q q R) (hw : ¬ W k) : fcP W (k + 1) Q q R := by
  obtain ⟨h1, h2, h3, h4⟩ := h
  refine ⟨fun l hl => ?_, h2, h3, fun s hs w => ?_⟩
  · obtain ⟨a, b, c⟩ := h1 l hl
    exact ⟨by omega, b, c⟩
  · by_cases z : s = k
    · rw [z] at w; exact absurd w hw
    · exact h4 s (by omega) w
theorem fcP.le {k : Nat} {Q : Nat → Nat} {q : Nat} {R : Nat → Option Nat} (h : fcP W k Q q R) : q ≤ 2 * k := inj_le (fun l hl => (h.1 l hl).1) h.2.2.1
theorem fcP.new {k : Nat} {Q : Nat → Nat} {q : Nat} {R : Nat → Option Nat} (h : fcP W k Q q R) {x : Nat} (hx : 2 * k ≤ x) : R x = none := by
  rcases e : R x with _ | n
  · rfl
  · obtain ⟨_, l, l1, l2⟩ := h.2.1 x n e
    have := (h.1 l l1).1
    omega
theorem fcP.yes {k : Nat} {Q : Nat → Nat} {q : Nat} {R : Nat → Option Nat} (h : fcP W k Q q R) (hw : W k) : fcP W (k + 1) (up1 (up1 Q q (2 * k)) (q + 1) (2 * k + 1)) (q + 2) (up1 (up1 R (2 * k) (some 0)) (2 * k + 1) (some 0)) := by
  have n1 := h.new (x := 2 * k) (by omega)
  have n2 := h.new (x := 2 * k + 1) (by omega)
  obtain ⟨h1, h2, h3, h4⟩ := h
  have hqo : ∀ l, l < q → up1 (up1 Q q (2 * k)) (q + 1) (2 * k + 1) l = Q l := fun l hl => by rw [up1_o (by omega), up1_o (by omega)]
  have hq0 : up1 (up1 Q q (2 * k)) (q + 1) (2 * k + 1) q = 2 * k := by rw [up1_o (by omega), up1_s]
  have hq1 : up1 (up1 Q q (2 * k)) (q + 1) (2 * k + 1) (q + 1) = 2 * k + 1 := up1_s
  have hr0 : up1 (up1 R (2 * k) (some 0)) (2 * k + 1) (some 0) (2 * k) = some 0 := by rw [up1_o (by omega), up1_s]
  have hr1 : up1 (up1 R (2 * k) (some 0)) (2 * k + 1) (some 0) (2 * k + 1) = some 0 := up1_s
  have hro : ∀ x, x < 2 * k → up1 (up1 R (2 * k) (some 0)) (2 * k + 1) (some 0) x = R x := fun x hx => by rw [up1_o (by omega), up1_o (by omega)]
  refine ⟨fun l hl => ?_, fun x n e => ?_, fun l l' a b => ?_, fun s hs w => ?_⟩
  · by_cases z : l = q + 1
    · rw [z, hq1, hr1]; exact ⟨by omega, by rw [show (2 * k + 1) / 2 = k by omega]; exact hw, rfl⟩
    · by_cases y : l = q
      · rw [y, hq0, hr0]; exact ⟨by omega, by rw [show 2 * k / 2 = k by omega]; exact hw, rfl⟩
      · obtain ⟨a1, a2, a3⟩ := h1 l (by omega)
        rw [hqo l (by omega), hro _ a1]; exact ⟨by omega, a2, a3⟩
  · by_cases z : x = 2 * k + 1
    · rw [z, hr1] at e
      exact ⟨(Option.some.inj e).symm, q + 1, by omega, by rw [hq1, z]⟩
    · by_cases y : x = 2 * k
      · rw [y, hr0] at e
        exact ⟨(Option.some.inj e).symm, q, by omega, by rw [hq0, y]⟩
      · rw [up1_o z, up1_o y] at e
        obtain ⟨b1, l, l1, l2⟩ := h2 x n e
        exact ⟨b1, l, by omega, by rw [hqo l l1, l2]⟩
  · by_cases z : l' = q + 1
    · rw [z, hq1]
      by_cases y : l = q
      · rw [y, hq0]; omega
      · rw [hqo l (by omega)]; have := (h1 l (by omega)).1; omega
    · by_cases y : l' = q
      · rw [y, hq0, hqo l (by omega)]; have := (h1 l (by omega)).1; omega
      · rw [hqo l (by omega), hqo l' (by omega)]; exact h3 l l' a (by omega)
  · by_cases z : s = k
    · rw [z, hr0, hr1]; exact ⟨fun u => (by cases u), fun u => (by cases u)⟩
    · rw [hro _ (by omega), hro _ (by omega)]; exact h4 s (by omega) w
theorem fcP.fin {Q : Nat → Nat} {q : Nat} {R : Nat → Option Nat} (h : fcP W T Q q R) (hg0 : ∀ s, ∃ j, g s 0 = some j) : fcI g W T Q q 0 R (fun _ => false) := by
  obtain ⟨h1, h2, h3, h4⟩ := h
  have hrk : ∀ l, l < q → rk R (Q l) = 0 := fun l hl => rk_s (h1 l hl).2.2
  refine ⟨fun l hl => ⟨(h1 l hl).1, 0, (h1 l hl).2.2, Nat.zero_le _⟩, fun x n _ e => (h2 x n e).2, h3, fun l l' a b => ?_, fun _ l hl => ?_, fun x n hx e => ?_, fun x => ⟨fun z => (by cases z), fun ⟨k, hk, _⟩ => absurd hk (by omega)⟩, Nat.zero_le _, h4, fun s d j hs hd e z => (by cases z), fun s hs hp => ?_⟩
  · rw [hrk l (by omega), hrk l' b]; exact Nat.le_refl _
  · rw [hrk l hl]; exact Nat.zero_le _
  · obtain ⟨b1, l, l1, l2⟩ := h2 x n e
    have w := (h1 l l1).2.1
    rw [l2] at w
    rw [b1]
    exact ⟨fw_W _ _ _ w, fun m hm => absurd hm (by omega)⟩
  · obtain ⟨j, e⟩ := hg0 s
    have := hp 0 j (by omega) e
    cases this
end
def foK (S : ab_S) (F N : Nat) : Prop := 145 ≤ F ∧ F + 5 < sn S ∧ sK S F = .inr 2 ∧ sK S (F + 1) = .inl (.int, 2 * N) ∧ sK S (F + 2) = .inl (.int, 2 * N) ∧ sK S (F + 3) = .inl (.int, N) ∧ sK S (F + 4) = .inl (.int, N) ∧ sK S (F + 5) = .inl (.int, N * 4) ∧ sP S F 0 = some (F + 1) ∧ sP S F 1 = some (F + 2) ∧ sP S F 2 = some (F + 3) ∧ sP S F 3 = some (F + 4) ∧ sP S F 4 = some (F + 5) ∧ N ≤ 15000
theorem foK.eq {S S' : ab_S} {F N : Nat} {l : List Nat} (h : foK S F N) (hE : sEq l S S') : foK S' F N := by
  unfold foK
  rw [hE.2.1, hE.2.2.2.2.1, hE.2.2.2.2.2.1]
  exact h
/-- the queue and the ranks -/
def foQ (S : ab_S) (F T : Nat) (Q : Nat → Nat) (q : Nat) (R : Nat → Option Nat) : Prop := sI S F 8 = nI q ∧ (∀ k, k < q → sI S (F + 2) k = nI (Q k)) ∧ ∀ x, x < 2 * T → sI S (F + 1) x = encN (R x)
theorem foQ.eq {S S' : ab_S} {F T q : Nat} {Q : Nat → Nat} {R : Nat → Option Nat} {l : List Nat} (h : foQ S F T Q q R) (hE : sEq l S S') (h0 : F ∉ l) (h1 : F + 1 ∉ l) (h2 : F + 2 ∉ l) : foQ S' F T Q q R := by
  unfold foQ
  rw [hE.2.2.1 F h0, hE.2.2.1 (F + 1) h1, hE.2.2.1 (F + 2) h2]
  exact h
/-- the edges -/
def foE (S : ab_S) (F T : Nat) (g : Nat → Nat → Option Nat) (m : Nat) : Prop := (∀ j, j < T → sI S (F + 4) j = encN (pv g j m)) ∧ ∀ e, e < m → ∀ j, g (e / 4) (e % 4) = some j → sI S (F + 5) e = encN (pv g j e)
theorem foE.eq {S S' : ab_S} {F T m : Nat} {g : Nat → Nat → Option Nat} {l : List Nat} (h : foE S F T g m) (hE : sEq l S S') (h0 : F + 4 ∉ l) (h1 : F + 5 ∉ l) : foE S' F T g m := by
  unfold foE
  rw [hE.2.2.1 (F + 4) h0, hE.2.2.1 (F + 5) h1]
  exact h
