/-! ===== what spreading keeps ===== -/
theorem spA_in {g : Nat → Option Nat} {f : Nat → Nat} {v : Nat} : ∀ d j, spA g f v d j ≠ 0 → f j ≠ 0 ∨ ∃ e, e < d ∧ g e = some j
  | 0, _, h => Or.inl h
  | d + 1, j, h => by
    by_cases z : g d = some j
    · exact Or.inr ⟨d, by omega, z⟩
    · have e : spA g f v (d + 1) j = spA g f v d j := by
        show spA g f v d j + (if g d = some j then v else 0) = _
        rw [if_neg z]; rfl
      rw [e] at h
      rcases spA_in d j h with q | ⟨e, e1, e2⟩
      · exact Or.inl q
      · exact Or.inr ⟨e, by omega, e2⟩
theorem spA_sum {g : Nat → Nat → Option Nat} {f t : Nat → Nat} {v i N : Nat} : ∀ d, (∀ e j, e < d → g i e = some j → j < N) → sumW (spA (g i) f v d) t N = sumW f t N + v * gDs g t i d
  | 0, _ => by show sumW f t N = _ + v * 0; rw [Nat.mul_zero]; rfl
  | d + 1, h => by
    have ih := spA_sum (g := g) (f := f) (t := t) (v := v) (i := i) (N := N) d (fun e j he z => h e j (by omega) z)
    show _ = _ + v * (gDs g t i d + gD g t i d)
    cases z : g i d with
    | none =>
      have e1 : sumW (spA (g i) f v (d + 1)) t N = sumW (spA (g i) f v d) t N := sumW_cg N (fun j _ => ⟨by
        show spA (g i) f v d j + (if g i d = some j then v else 0) = _
        rw [z, if_neg (by intro q; cases q)]; rfl, rfl⟩)
      have e2 : gD g t i d = 0 := by unfold gD; rw [z]
      rw [e1, e2, ih]; rfl
    | some u =>
      have hu := h d u (by omega) z
      have e1 : sumW (spA (g i) f v (d + 1)) t N = sumW (up1 (spA (g i) f v d) u (spA (g i) f v d u + v)) t N := sumW_cg N (fun j _ => ⟨by
        show spA (g i) f v d j + (if g i d = some j then v else 0) = _
        by_cases q : j = u
        · rw [q, up1_s, z, if_pos rfl]
        · rw [up1_o q, z, if_neg (fun y => q (Option.some.inj y).symm)]; rfl, rfl⟩)
      have e2 : gD g t i d = t u := by unfold gD; rw [z]
      rw [e1, e2, sumW_up N hu, ih, Nat.mul_add]
      omega
theorem sumW_z {f t : Nat → Nat} {k : Nat} : ∀ n, k < n → sumW (up1 f k 0) t n + f k * t k = sumW f t n
  | 0, h => absurd h (by omega)
  | n + 1, h => by
    show sumW (up1 f k 0) t n + up1 f k 0 n * t n + f k * t k = sumW f t n + f n * t n
    by_cases e : n = k
    · subst e
      rw [up1_s, sumW_cg (f' := f) (t' := t) n (fun i hi => ⟨up1_o (by omega), rfl⟩), Nat.zero_mul]; omega
    · have := sumW_z (f := f) (t := t) (k := k) n (by omega)
      rw [up1_o e]; omega
theorem gDs_4 (g : Nat → Nat → Option Nat) (i : Nat) : ∀ d, gDs g (fun _ => 1) i d ≤ d
  | 0 => Nat.le_refl _
  | d + 1 => by
    have h := gDs_4 g i d
    have h2 : gD g (fun _ => 1) i d ≤ 1 := by
      unfold gD
      split
      · exact Nat.zero_le _
      · exact Nat.le_refl _
    show gDs g (fun _ => 1) i d + gD g (fun _ => 1) i d ≤ d + 1
    omega
/-- one stand's rows led on: the weight is kept, and there are at most four times as many -/
theorem spread_w {g : Nat → Nat → Option Nat} {w : Nat → Bool} {f f' : Nat → Nat} {m i N : Nat} (hi : i < N) (hg : ∀ e j, e < 4 → g i e = some j → j < N) : sumW (up1 f i 0) (gT g w (m + 1)) N + sumW (spA (g i) f' (f i) 4) (gT g w m) N = sumW f (gT g w (m + 1)) N + sumW f' (gT g w m) N ∧ 4 * sumF (up1 f i 0) N + sumF (spA (g i) f' (f i) 4) N ≤ 4 * sumF f N + sumF f' N := by
  constructor
  · rw [spA_sum 4 hg, ← gT_s, ← sumW_z (f := f) (t := gT g w (m + 1)) N hi]
    omega
  · have h1 := spA_sum (g := g) (f := f') (t := fun _ => 1) (v := f i) (i := i) (N := N) 4 hg
    have h2 := sumW_z (f := f) (t := fun _ => 1) N hi
    rw [sumW_1, sumW_1] at h1
    rw [sumW_1, sumW_1, Nat.mul_one] at h2
    have h3 := Nat.mul_le_mul_left (f i) (gDs_4 g i 4)
    omega
