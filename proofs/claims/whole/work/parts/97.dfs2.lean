/-! ===== the steps of the search ===== -/
section
variable {g : Nat → Nat → Option Nat} {W : Nat → Prop} {T : Nat} {p : Nat → Nat} {dp : Nat} {t f : Nat → Nat} {i : Nat}
theorem up6 {t : Nat → Nat} {v x : Nat} (hv : t v ≠ 6) : ∀ j, t j = 6 → up1 t v x j = 6 := fun j h => by
  have z : j ≠ v := fun e => hv (by rw [← e]; exact h)
  rw [up1_o z]; exact h
theorem upv {f : Nat → Nat} {v x j : Nat} (h : j ≠ v) : up1 f v x j = f j := up1_o h
/-- the top is left: nothing lies below it -/
theorem dfI.pop0 (hg : ∀ i d j, i < T → d < 4 → g i d = some j → j < T) (h : dfI g W T p dp t f i) (hd : dp = 1) (h5 : t (p 0) = 5) : dfI g W T p 0 (up1 t (p 0) 6) f (i + 1) := by
  obtain ⟨h1, h2, h3, h4, h5', h6, h7, h8, h9, h10⟩ := h
  have ht := h2 0 (by omega)
  have hs := sumF_up (f := t) (k := p 0) (x := 6) T ht.1
  refine ⟨fun v hv => ?_, fun k hk => absurd hk (by omega), fun v hv a1 a2 => ?_, fun k l _ a => absurd a (by omega), fun k a => absurd a (by omega), fun a => absurd a (by omega), fun v hv a => ?_, fun v hv a => ?_, fun v hv => ?_, by omega⟩
  · by_cases z : v = p 0
    · rw [z, up1_s]; exact Nat.le_refl _
    · rw [up1_o z]; exact h1 v hv
  · by_cases z : v = p 0
    · rw [z, up1_s] at a2; omega
    · rw [up1_o z] at a1 a2
      obtain ⟨k, b1, b2⟩ := h3 v hv a1 a2
      exact absurd (by rw [← b2, show k = 0 by omega]) z
  · by_cases z : v = p 0
    · rw [z]
      have e := h6 (by omega)
      rw [show dp - 1 = 0 by omega, h5] at e
      exact dfE_left hg ht.1 e h7
    · rw [up1_o z] at a
      exact h7 v hv a
  · by_cases z : v = p 0
    · rw [z, up1_s] at a; omega
    · rw [up1_o z] at a; exact h8 v hv a
  · have := h9 v hv; omega
/-- the top is left: the one below it is lengthened -/
theorem dfI.pop (hg : ∀ i d j, i < T → d < 4 → g i d = some j → j < T) (h : dfI g W T p (dp + 2) t f i) (h5 : t (p (dp + 1)) = 5) : dfI g W T p (dp + 1) (up1 t (p (dp + 1)) 6) (up1 f (p dp) (mx1 (f (p dp)) (f (p (dp + 1))))) (i + 1) := by
  obtain ⟨h1, h2, h3, h4, h5', h6, h7, h8, h9, h10⟩ := h
  have ht := h2 (dp + 1) (by omega)
  have hq := h2 dp (by omega)
  have hs := sumF_up (f := t) (k := p (dp + 1)) (x := 6) T ht.1
  have hne : p dp ≠ p (dp + 1) := h4 dp (dp + 1) (by omega) (by omega)
  have hE : dfE g W t f (p (dp + 1)) 4 := by
    have e := h6 (by omega)
    rw [show dp + 2 - 1 = dp + 1 by omega, h5] at e
    exact e
  have hL := dfE_left hg ht.1 hE h7
  have ho : ∀ j, t j = 6 → up1 t (p (dp + 1)) 6 j = 6 ∧ up1 f (p dp) (mx1 (f (p dp)) (f (p (dp + 1)))) j = f j := fun j hj => ⟨up6 (by omega) j hj, upv (fun z => by rw [z] at hj; omega)⟩
  refine ⟨fun v hv => ?_, fun k hk => ?_, fun v hv a1 a2 => ?_, fun k l a b => h4 k l a (by omega), fun k hk => ?_, fun _ => ?_, fun v hv a => ?_, fun v hv a => ?_, fun v hv => ?_, by omega⟩
  · by_cases z : v = p (dp + 1)
    · rw [z, up1_s]; exact Nat.le_refl _
    · rw [up1_o z]; exact h1 v hv
  · rw [up1_o (h4 k (dp + 1) (by omega) (by omega))]
    exact h2 k (by omega)
  · by_cases z : v = p (dp + 1)
    · rw [z, up1_s] at a2; omega
    · rw [up1_o z] at a1 a2
      obtain ⟨k, b1, b2⟩ := h3 v hv a1 a2
      refine ⟨k, ?_, b2⟩
      by_cases y : k = dp + 1
      · exact absurd (by rw [← b2, y]) z
      · omega
  · rw [up1_o (h4 k (dp + 1) (by omega) (by omega))]
    obtain ⟨a1, a2, a3, a4⟩ := h5' k (by omega)
    exact ⟨a1, a2, a3, a4.cg (upv (h4 k dp (by omega) (by omega))) ho⟩
  · rw [show dp + 1 - 1 = dp by omega, up1_o hne]
    obtain ⟨a1, a2, a3, a4⟩ := h5' dp (by omega)
    have e := a4.add (t' := up1 t (p (dp + 1)) 6) (f' := up1 f (p dp) (mx1 (f (p dp)) (f (p (dp + 1))))) (by omega) a2 a3 up1_s hne.symm (upv hne.symm) up1_s (by omega) ho
    rw [show t (p dp) - 2 + 1 = t (p dp) - 1 by omega] at e
    exact e
  · by_cases z : v = p (dp + 1)
    · rw [z, upv hne.symm]
      exact hL
    · rw [up1_o z] at a
      rw [(ho v a).2]
      exact h7 v hv a
  · by_cases z : v = p (dp + 1)
    · rw [z, up1_s] at a; omega
    · rw [up1_o z] at a
      by_cases y : v = p dp
      · rw [y] at a; omega
      · rw [up1_o y]; exact h8 v hv a
  · by_cases y : v = p dp
    · rw [y, up1_s]
      unfold mx1
      have b1 := h9 _ hq.1
      have b2 := h9 _ ht.1
      by_cases z : f (p (dp + 1)) + 1 ≤ f (p dp)
      · rw [if_pos z]; omega
      · rw [if_neg z]; omega
    · rw [up1_o y]
      have := h9 v hv; omega
/-- the top tries a stop that can't be, or leads where it isn't warm -/
theorem dfI.skip (h : dfI g W T p (dp + 1) t f i) (h4' : t (p dp) ≤ 4) (hn : ∀ u, g (p dp) (t (p dp) - 1) = some u → ¬ W u) : dfI g W T p (dp + 1) (up1 t (p dp) (t (p dp) + 1)) f (i + 1) := by
  obtain ⟨h1, h2, h3, h4, h5', h6, h7, h8, h9, h10⟩ := h
  have ht := h2 dp (by omega)
  have hs := sumF_up (f := t) (k := p dp) (x := t (p dp) + 1) T ht.1
  have ho : ∀ j, t j = 6 → up1 t (p dp) (t (p dp) + 1) j = 6 := up6 (by omega)
  refine ⟨fun v hv => ?_, fun k hk => ?_, fun v hv a1 a2 => ?_, h4, fun k hk => ?_, fun _ => ?_, fun v hv a => ?_, fun v hv a => ?_, fun v hv => ?_, by omega⟩
  · by_cases z : v = p dp
    · rw [z, up1_s]; omega
    · rw [up1_o z]; exact h1 v hv
  · have hk2 := h2 k hk
    by_cases z : p k = p dp
    · rw [z, up1_s]; omega
    · rw [up1_o z]; exact hk2
  · by_cases z : v = p dp
    · exact ⟨dp, by omega, z.symm⟩
    · rw [up1_o z] at a1 a2
      exact h3 v hv a1 a2
  · rw [up1_o (h4 k dp (by omega) (by omega))]
    obtain ⟨a1, a2, a3, a4⟩ := h5' k (by omega)
    exact ⟨a1, a2, a3, a4.cg rfl (fun j hj => ⟨ho j hj, rfl⟩)⟩
  · rw [show dp + 1 - 1 = dp by omega, up1_s]
    have e := h6 (by omega)
    rw [show dp + 1 - 1 = dp by omega] at e
    have e2 := e.skip hn ho
    rw [show t (p dp) - 1 + 1 = t (p dp) + 1 - 1 by omega] at e2
    exact e2
  · by_cases z : v = p dp
    · rw [z, up1_s] at a; omega
    · rw [up1_o z] at a; exact h7 v hv a
  · by_cases z : v = p dp
    · rw [z, up1_s] at a; omega
    · rw [up1_o z] at a; exact h8 v hv a
  · have := h9 v hv; omega
/-- the top tries a stop that leads to one that is left -/
theorem dfI.left (hg : ∀ i d j, i < T → d < 4 → g i d = some j → j < T) (h : dfI g W T p (dp + 1) t f i) (h4' : t (p dp) ≤ 4) {u : Nat} (hu : g (p dp) (t (p dp) - 1) = some u) (hw : W u) (h6' : t u = 6) : dfI g W T p (dp + 1) (up1 t (p dp) (t (p dp) + 1)) (up1 f (p dp) (mx1 (f (p dp)) (f u))) (i + 1) := by
  obtain ⟨h1, h2, h3, h4, h5', h6, h7, h8, h9, h10⟩ := h
  have ht := h2 dp (by omega)
  have hs := sumF_up (f := t) (k := p dp) (x := t (p dp) + 1) T ht.1
  have hup : u ≠ p dp := fun z => by rw [z] at h6'; omega
  have huT : u < T := hg _ _ u ht.1 (by omega) hu
  have ho : ∀ j, t j = 6 → up1 t (p dp) (t (p dp) + 1) j = 6 ∧ up1 f (p dp) (mx1 (f (p dp)) (f u)) j = f j := fun j hj => ⟨up6 (by omega) j hj, upv (fun z => by rw [z] at hj; omega)⟩
  refine ⟨fun v hv => ?_, fun k hk => ?_, fun v hv a1 a2 => ?_, h4, fun k hk => ?_, fun _ => ?_, fun v hv a => ?_, fun v hv a => ?_, fun v hv => ?_, by omega⟩
  · by_cases z : v = p dp
    · rw [z, up1_s]; omega
    · rw [up1_o z]; exact h1 v hv
  · have hk2 := h2 k hk
    by_cases z : p k = p dp
    · rw [z, up1_s]; omega
    · rw [up1_o z]; exact hk2
  · by_cases z : v = p dp
    · exact ⟨dp, by omega, z.symm⟩
    · rw [up1_o z] at a1 a2
      exact h3 v hv a1 a2
  · rw [up1_o (h4 k dp (by omega) (by omega))]
    obtain ⟨a1, a2, a3, a4⟩ := h5' k (by omega)
    exact ⟨a1, a2, a3, a4.cg (upv (h4 k dp (by omega) (by omega))) ho⟩
  · rw [show dp + 1 - 1 = dp by omega, up1_s]
    have e := h6 (by omega)
    rw [show dp + 1 - 1 = dp by omega] at e
    have e2 := e.add (t' := up1 t (p dp) (t (p dp) + 1)) (f' := up1 f (p dp) (mx1 (f (p dp)) (f u))) (by omega) hu hw (ho u h6').1 hup (ho u h6').2 up1_s (by omega) ho
    rw [show t (p dp) - 1 + 1 = t (p dp) + 1 - 1 by omega] at e2
    exact e2
  · by_cases z : v = p dp
    · rw [z, up1_s] at a; omega
    · rw [up1_o z] at a; rw [(ho v a).2]; exact h7 v hv a
  · by_cases z : v = p dp
    · rw [z, up1_s] at a; omega
    · rw [up1_o z] at a; rw [up1_o z]; exact h8 v hv a
  · by_cases y : v = p dp
    · rw [y, up1_s]
      unfold mx1
      have b1 := h9 _ ht.1
      have b2 := h9 _ huT
      by_cases z : f u + 1 ≤ f (p dp)
      · rw [if_pos z]; omega
      · rw [if_neg z]; omega
    · rw [up1_o y]
      have := h9 v hv; omega
/-- the top tries a stop that leads to one not come upon yet -/
theorem dfI.push (hg : ∀ i d j, i < T → d < 4 → g i d = some j → j < T) (h : dfI g W T p (dp + 1) t f i) (h4' : t (p dp) ≤ 4) {u : Nat} (hu : g (p dp) (t (p dp) - 1) = some u) (hw : W u) (h0 : t u = 0) : dfI g W T (up1 p (dp + 1) u) (dp + 2) (up1 (up1 t (p dp) (t (p dp) + 1)) u 1) f (i + 1) := by
  obtain ⟨h1, h2, h3, h4, h5', h6, h7, h8, h9, h10⟩ := h
  have ht := h2 dp (by omega)
  have hs := sumF_up (f := t) (k := p dp) (x := t (p dp) + 1) T ht.1
  have huT : u < T := hg _ _ u ht.1 (by omega) hu
  have hup : u ≠ p dp := fun z => by rw [z] at h0; omega
  have hs2 := sumF_up (f := up1 t (p dp) (t (p dp) + 1)) (k := u) (x := 1) T huT
  rw [up1_o hup, h0] at hs2
  have hpo : ∀ k, k < dp + 1 → up1 p (dp + 1) u k = p k := fun k hk => up1_o (by omega)
  have hpu : ∀ k, k < dp + 1 → p k ≠ u := fun k hk z => by have := (h2 k hk).2.1; rw [z] at this; omega
  have ho : ∀ j, t j = 6 → up1 (up1 t (p dp) (t (p dp) + 1)) u 1 j = 6 ∧ f j = f j := fun j hj => ⟨by rw [up1_o (fun z => by rw [z] at hj; omega)]; exact up6 (by omega) j hj, rfl⟩
  have htk : ∀ k, k < dp → up1 (up1 t (p dp) (t (p dp) + 1)) u 1 (p k) = t (p k) := fun k hk => by rw [up1_o (hpu k (by omega)), up1_o (h4 k dp hk (by omega))]
  have htd : up1 (up1 t (p dp) (t (p dp) + 1)) u 1 (p dp) = t (p dp) + 1 := by rw [up1_o hup.symm, up1_s]
  refine ⟨fun v hv => ?_, fun k hk => ?_, fun v hv a1 a2 => ?_, fun k l a b => ?_, fun k hk => ?_, fun _ => ?_, fun v hv a => ?_, fun v hv a => ?_, fun v hv => ?_, by omega⟩
  · by_cases y : v = u
    · rw [y, up1_s]; decide
    · rw [up1_o y]
      by_cases z : v = p dp
      · rw [z, up1_s]; omega
      · rw [up1_o z]; exact h1 v hv
  · by_cases y : k = dp + 1
    · rw [y, up1_s, up1_s]; exact ⟨huT, by decide, by decide⟩
    · rw [up1_o y]
      by_cases z : k = dp
      · rw [z, htd]; omega
      · rw [htk k (by omega)]; exact h2 k (by omega)
  · by_cases y : v = u
    · exact ⟨dp + 1, by omega, by rw [up1_s, y]⟩
    · by_cases z : v = p dp
      · exact ⟨dp, by omega, by rw [hpo dp (by omega), z]⟩
      · rw [up1_o y, up1_o z] at a1 a2
        obtain ⟨k, b1, b2⟩ := h3 v hv a1 a2
        exact ⟨k, by omega, by rw [hpo k b1, b2]⟩
  · by_cases y : l = dp + 1
    · rw [y, up1_s, hpo k (by omega)]; exact hpu k (by omega)
    · rw [hpo k (by omega), hpo l (by omega)]; exact h4 k l a (by omega)
  · by_cases z : k = dp
    · rw [z, hpo dp (by omega), htd, up1_s]
      refine ⟨by omega, ?_, hw, ?_⟩
      · rw [show t (p dp) + 1 - 2 = t (p dp) - 1 by omega]; exact hu
      · have e := h6 (by omega)
        rw [show dp + 1 - 1 = dp by omega] at e
        rw [show t (p dp) + 1 - 2 = t (p dp) - 1 by omega]
        exact e.cg rfl ho
    · rw [hpo k (by omega), hpo (k + 1) (by omega), htk k (by omega)]
      obtain ⟨a1, a2, a3, a4⟩ := h5' k (by omega)
      exact ⟨a1, a2, a3, a4.cg rfl ho⟩
  · rw [show dp + 2 - 1 = dp + 1 by omega, up1_s, up1_s]
    exact ⟨Or.inl (h8 u huT h0), fun d j hd => absurd hd (by omega)⟩
  · by_cases y : v = u
    · rw [y, up1_s] at a; omega
    · rw [up1_o y] at a
      by_cases z : v = p dp
      · rw [z, up1_s] at a; omega
      · rw [up1_o z] at a; exact h7 v hv a
  · by_cases y : v = u
    · rw [y, up1_s] at a; omega
    · rw [up1_o y] at a
      by_cases z : v = p dp
      · rw [z, up1_s] at a; omega
      · rw [up1_o z] at a; exact h8 v hv a
  · have := h9 v hv; omega
/-- the top tries a stop that leads back to the path -/
theorem dfI.round (hg : ∀ i d j, i < T → d < 4 → g i d = some j → j < T) (h : dfI g W T p (dp + 1) t f i) (h4' : t (p dp) ≤ 4) {u : Nat} (hu : g (p dp) (t (p dp) - 1) = some u) (hw : W u) (h0 : t u ≠ 0) (h6' : t u ≠ 6) : ∀ m, kp g W m (p 0) := by
  obtain ⟨h1, h2, h3, h4, h5', h6, h7, h8, h9, h10⟩ := h
  have ht := h2 dp (by omega)
  have huT : u < T := hg _ _ u ht.1 (by omega) hu
  have hu6 := h1 u huT
  obtain ⟨k0, c1, c2⟩ := h3 u huT (by omega) (by omega)
  intro m
  refine kp_path (P := fun v => ∃ k, k < dp + 1 ∧ p k = v) ?_ m (p 0) ⟨0, by omega, rfl⟩
  intro v ⟨k, hk, hv⟩
  by_cases z : k = dp
  · exact ⟨t (p dp) - 1, u, by omega, by rw [← hv, z]; exact hu, hw, k0, c1, c2⟩
  · obtain ⟨a1, a2, a3, a4⟩ := h5' k (by omega)
    have := h2 k hk
    exact ⟨t (p k) - 2, p (k + 1), by omega, by rw [← hv]; exact a2, a3, k + 1, by omega, rfl⟩
/-- nothing is on the path: all that was come upon is left -/
theorem dfI.done (h : dfI g W T p 0 t f i) (hT : 0 < T) (h0 : t 0 ≠ 0) : lgst (fun m => kp g W m 0) (nI (f 0)) := by
  obtain ⟨h1, h2, h3, h4, h5', h6, h7, h8, h9, h10⟩ := h
  have h6' : t 0 = 6 := by
    have := h1 0 hT
    refine Decidable.byContradiction (fun z => ?_)
    obtain ⟨k, a, _⟩ := h3 0 hT (by omega) (by omega)
    omega
  obtain ⟨a, b⟩ := h7 0 hT h6'
  exact Or.inl ⟨f 0, a, b, rfl⟩
end
