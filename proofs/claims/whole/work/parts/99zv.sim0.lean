/-! ===== both objects, just made ===== -/
theorem xPl_lt : xPl.all (fun t => decide (t.1 < 120)) = true := by decide +kernel
theorem row0 : rowT a0 = ((0, 0, 0, 0, 0) : sT) := by decide +kernel
theorem sim0 {S1 S2 S' : ab_S} (kc : kSh S1.1) (hx : xSh S1) (hse : seOk S1) (hn1 : sn S1 = 120) (h2 : sP S1 50 2 = some 52) (hc1 : clI S1 im0 84 52 a0 119 1 2) (hc2 : clI S1 im0 94 52 a0 98 0 2) (h8 : sI S1 84 1 = 1 ∧ sI S1 94 1 = 0) (hid : idR S1) (hro : sP S1 50 15 = none ∧ sP S1 50 16 = none) (hsd : sdE S1 55 ((0, 0, 0, 0, 0) : sT)) (hpa : paI S1 0 0 (fun _ => ((0, 0, 0, 0, 0) : sT))) (htr : ∀ t, t < 4 → sI S1 (109 + 2 * t) 2 = -1) (him : ∀ i, i < 2 → sP S1 70 i = none) (h51 : ∀ i, i < 900 → sI S1 51 i = 0) (h50 : sI S1 50 1 = nI 0) (h72 : sI S1 72 6 = nI 0 ∧ sI S1 72 7 = -1 ∧ sI S1 72 12 = nI 0)
    (e2 : S2 = pN S1 (.inr 12) 45) (hm : mSh S') (e1 : S'.1 = S2.1) (hn : sn S' = 145) (hz : sz S' = sz S2 + 316354) (ho : ∀ b, b < 120 → sK S' b = sK S2 b ∧ sI S' b = sI S2 b ∧ sJ S' b = sJ S2 b ∧ sP S' b = sP S2 b) (hA : ∀ j, mA S' j = 0) (h122 : ∀ j, sI S' 122 j = 0) (h123 : ∀ j, sI S' 123 j = 0) (hr : sI S' 120 5 = 0 ∧ sI S' 120 13 = 0 ∧ sI S' 120 14 = -1) (hrt : ∀ t, t < 4 → sI S' 142 t = -1 ∧ sI S' 143 t = 0) : Sim S' 2 ∧ S'.1 = S1.1 ∧ cA S' = 219 ∧ zA S' = sz S1 + 45 + 316354 + 1560175 := by
  have o : ∀ b, b < 120 → sK S' b = sK S1 b ∧ sI S' b = sI S1 b ∧ sJ S' b = sJ S1 b ∧ sP S' b = sP S1 b := fun b hb => by
    obtain ⟨q1, q2, q3, q4⟩ := ho b hb
    rw [q1, q2, q3, q4, e2]
    exact ⟨up1_o (by omega), up1_o (by omega), up1_o (by omega), up1_o (by omega)⟩
  have g : gF (fun _ => False) S1 S' := ⟨by rw [e1, e2]; rfl, by omega, fun b hb => (o b (by omega)).1, fun b hb _ => (o b (by omega)).2⟩
  have hA0 : mA S' = a0 := funext hA
  have no : ∀ P : Nat → Prop, ∀ y, P y → ¬ (fun _ : Nat => False) y := fun _ _ _ z => z
  have hxp : ∀ t ∈ xPl, t.1 < 120 := fun t ht => of_decide_eq_true (List.all_eq_true.mp xPl_lt t ht)
  have hc1' : clI S' im0 84 52 a0 119 1 2 := hc1.gf g (by omega) (fun _ _ z => z) (fun z => z) (fun z => z) (fun z => z) (fun z => z)
  have hro' : sP S' 50 15 = none ∧ sP S' 50 16 = none := by rw [(o 50 (by omega)).2.2.2]; exact hro
  refine ⟨⟨im0, 52, a0, 119, 1, 2, 2, 0, 0, (fun _ => ((0, 0, 0, 0, 0) : sT)), 0, (fun _ => 0), ⟨⟨by omega, fun k hk => by rw [(o _ (by omega)).1]; exact hx.2.1 k hk, fun t ht => by rw [(o _ (hxp t ht)).2.2.2]; exact hx.2.2 t ht⟩, hse.gf g (by omega) (fun _ _ _ z => z), by rw [g.1]; exact kc, ⟨im0_O, fun y hy => by rcases hy with w | w | w <;> omega, by omega⟩, by rw [hA0]; exact a0_good, by rw [(o 50 (by omega)).2.2.2]; exact h2, ⟨a0_good.1, by rw [hA0]; exact sta.rf, hc1', ⟨0, by omega, rfl⟩⟩, by rw [hA0]; exact ⟨a0, a0_good.1, sta.rf, hc2.gf g (by omega) (fun _ _ z => z) (fun z => z) (fun z => z) (fun z => z) (fun z => z)⟩, by rw [(o 84 (by omega)).2.1, (o 94 (by omega)).2.1]; exact h8, by unfold idR; rw [(o 104 (by omega)).2.2.2]; exact hid, Or.inl hro', Nat.le_refl _, Nat.le_refl _⟩, hm, ?_, ⟨hpa.gf g (by omega) (fun _ _ _ z => z), by rw [hA0]; rfl, fun i hi => absurd hi (Nat.not_lt_zero i)⟩, ⟨by omega, by rw [(o 50 (by omega)).2.1]; exact h50, hr.1, fun i hi => ⟨by rw [(o 51 (by omega)).2.1, h51 i hi]; rfl, (by decide : (0 : Nat) < 256)⟩, fun i hi => ⟨h123 i, (by decide : (0 : Nat) < 256)⟩⟩, ⟨?_, ?_, 0, by omega, ?_⟩, fun q hq => Or.inl ⟨by rw [(o _ (by omega)).2.1]; exact htr q hq, (hrt q hq).1⟩, fun q hq => ⟨0, (hrt q hq).2, by omega⟩, fun i hi => Or.inl ⟨h122 i, by rw [(o 70 (by omega)).2.2.2]; exact him i hi⟩⟩, g.1, ?_, ?_⟩
  · rw [hA0, row0]
    exact hsd.gf g (by omega) (fun z => z)
  · rw [(o 72 (by omega)).2.1, h72.1, hr.2.1]; rfl
  · rw [(o 72 (by omega)).2.1, h72.2.1, hr.2.2]
  · rw [(o 72 (by omega)).2.1]; exact h72.2.2
  · unfold cA
    rw [hn, hro'.1, hro'.2, hc1'.2.2.2.2.2.2.1]
    unfold szL
    dsimp only
    rw [hc1'.2.2.2.2.2.2.2.2.1]
    decide
  · have l0 : lvl 0 = 5 := by decide
    have l1 : lvl 1 = 4 := by decide
    have s1 : szL S' none 1 = 0 := rfl
    have s2 : szL S' none 3 = 0 := rfl
    have s3 : szL S' (some 119) 0 = 1 := by
      unfold szL
      dsimp only
      rw [hc1'.2.2.2.2.2.2.2.2.1]
    have ez : sz S2 = sz S1 + 45 := by rw [e2]; rfl
    unfold zA
    rw [hro'.1, hro'.2, hc1'.2.2.2.2.2.2.1, s1, s2, s3, l0, l1]
    omega
