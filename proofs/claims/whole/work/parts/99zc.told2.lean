/-! ===== a carriage newly told ===== -/
theorem lnr_4 {tp : Nat → Nat} {n p q j : Nat} {F F' : Nat → Int32} (hj : j = 41 ∨ j = 42) (hp : p ≤ n) (hJ : rwJ p F) (h : lnr tp n p F = .inr (q, F')) : F' j = F j := by
  unfold lnr at h
  split at h
  · exact rdr_o hp (by omega) hJ.I h j (by omega)
  · split at h
    · unfold lwr wX at h
      split at h
      · dsimp only at h
        split at h
        · cases h
        · obtain ⟨-, e2⟩ := Prod.mk.inj (Sum.inr.inj h)
          rw [← e2]
          unfold lwF
          rw [up1_o (by omega), up1_o (by omega), up1_o (by omega)]
          unfold appC
          rw [if_neg (by omega), if_neg (by omega)]
      · cases h
    · cases h
theorem lks_w {tp : Nat → Nat} {n r : Nat} (hr : r < 4) : ∀ m k p q F F' j, k + m ≤ 4 → 28 ≤ j → lks tp n r m k p F = .inr (q, F') → F' j = F j
  | 0, k, p, q, F, F', j, _, _, h => by
    obtain ⟨-, e2⟩ := Prod.mk.inj (Sum.inr.inj h)
    rw [← e2]
  | m + 1, k, p, q, F, F', j, hk, hj, h => by
    unfold lks at h
    rcases hX : xN tp n 9 p with e | ⟨q1, v1⟩
    · rw [hX] at h; cases h
    · rw [hX, bN_r] at h
      rw [lks_w hr m (k + 1) _ _ _ _ j (by omega) hj h, up1_o (by omega)]
theorem fg_w {tp : Nat → Nat} {n r p q j : Nat} {F F' : Nat → Int32} (hr : r < 4) (hj : 28 ≤ j) (hjr : j ≠ 32 + r) (h : fg tp n r p F = .inr (q, F')) : F' j = F j := by
  unfold fg at h
  split at h
  · rcases hX : xN tp n 4 (tE tp n p) with e | ⟨q1, v1⟩
    · rw [hX] at h; cases h
    · rw [hX, bN_r] at h
      obtain ⟨-, e2⟩ := Prod.mk.inj (Sum.inr.inj h)
      rw [← e2]
      exact up1_o hjr
  · exact lks_w hr 4 0 _ _ _ _ j (by decide) hj h
theorem fl_w {tp : Nat → Nat} {n r : Nat} (hr : r < 4) : ∀ g p q F F' j, 28 ≤ j → j ≠ 32 + r → fl tp n r g p F = .inr (q, F') → F' j = F j
  | 0, p, q, F, F', j, _, _, h => by
    obtain ⟨-, e2⟩ := Prod.mk.inj (Sum.inr.inj h)
    rw [← e2]
  | g + 1, p, q, F, F', j, hj, hjr, h => by
    unfold fl at h
    split at h
    · rcases hX : fg tp n r p F with e | ⟨q1, F1⟩
      · rw [hX] at h; cases h
      · rw [hX, lB_r] at h
        rw [fl_w hr g _ _ _ _ j hj hjr h, fg_w hr hj hjr hX]
    · obtain ⟨-, e2⟩ := Prod.mk.inj (Sum.inr.inj h)
      rw [← e2]
/-- riders that were not told are as nobody is -/
def rwZ (F : Nat → Int32) : Prop := ∀ i, i < 4 → cN (F 1) ≤ i → F (32 + i) = 0
theorem lnr_z {tp : Nat → Nat} {n p q : Nat} {F F' : Nat → Int32} (hp : p ≤ n) (hJ : rwJ p F) (hZ : rwZ F) (h : lnr tp n p F = .inr (q, F')) : rwZ F' := by
  unfold lnr at h
  split at h
  · obtain ⟨r, N, h1, hr, -⟩ := hJ
    have hcr : cN (F 1) = r := by rw [h1]; exact cN_nI (by omega)
    unfold rdr at h
    rw [hcr] at h
    split at h
    · cases h
    · rcases hX : xM tp n 3 3 (tE tp n p) with e | ⟨q1, v1⟩
      · rw [hX] at h; cases h
      · rw [hX, bN_r] at h
        rcases hY : xM tp n 4 9 q1 with e | ⟨q2, v2⟩
        · rw [hY] at h; cases h
        · rw [hY, bN_r] at h
          rcases hW : fl tp n r 1000 q2 (up1 (up1 (up1 (up1 F (28 + r) (nI v1)) (8 + r) (nI v2)) (32 + r) (nI 2)) (36 + r) (nI r)) with e | ⟨q3, F3⟩
          · rw [hW] at h; cases h
          · rw [hW, lB_r] at h
            obtain ⟨-, e2⟩ := Prod.mk.inj (Sum.inr.inj h)
            have e2' : up1 F3 1 (nI (r + 1)) = F' := e2
            intro i hi hle
            rw [← e2', up1_s, cN_nI (by omega)] at hle
            rw [← e2', up1_o (by omega), fl_w (by omega) _ _ _ _ _ (32 + i) (by omega) (by omega) hW, up1_o (by omega), up1_o (by omega), up1_o (by omega), up1_o (by omega)]
            exact hZ i hi (by omega)
  · split at h
    · unfold lwr wX at h
      split at h
      · dsimp only at h
        split at h
        · cases h
        · obtain ⟨-, e2⟩ := Prod.mk.inj (Sum.inr.inj h)
          have ho : ∀ j, (j = 1 ∨ (32 ≤ j ∧ j < 36)) → F' j = F j := fun j hj => by
            rw [← e2]
            unfold lwF
            rw [up1_o (by omega), up1_o (by omega), up1_o (by omega)]
            unfold appC
            rw [if_neg (by omega), if_neg (by omega)]
          intro i hi hle
          rw [ho 1 (by omega)] at hle
          rw [ho _ (by omega)]
          exact hZ i hi hle
      · cases h
    · cases h
theorem trL_z {tp : Nat → Nat} {n : Nat} (hn9 : n ≤ 900) : ∀ g p q F F', p ≤ n → rwJ p F → rwZ F → trL tp n g p F = .inr (q, F') → rwZ F' ∧ F' 41 = F 41 ∧ F' 42 = F 42
  | 0, p, q, F, F', hp, hJ, hZ, h => by
    obtain ⟨e1, e2⟩ := Prod.mk.inj (Sum.inr.inj h)
    rw [← e2]; exact ⟨hZ, rfl, rfl⟩
  | g + 1, p, q, F, F', hp, hJ, hZ, h => by
    unfold trL at h
    split at h
    · obtain ⟨e1, e2⟩ := Prod.mk.inj (Sum.inr.inj h)
      rw [← e2]; exact ⟨hZ, rfl, rfl⟩
    · rcases hX : lnr tp n p F with e | ⟨q1, F1⟩
      · rw [hX] at h; cases h
      · rw [hX, lB_r] at h
        have g1 := lnr_g hn9 hp hJ.I hX
        have j1 := rwJ_lnr hn9 hp hJ hX
        have z1 := lnr_z hp hJ hZ hX
        rcases hY : cls tp n q1 F1 with e | ⟨q2, F2⟩
        · rw [hY] at h; cases h
        · rw [hY, lB_r] at h
          have j2 := rwJ_cls g1.2.1 j1 hY
          have ho : ∀ j, j ≠ 0 → F2 j = F1 j := fun j hj => by rw [(cls_g g1.2.1 hY).2.2.2.2]; exact up1_o hj
          have z2 : rwZ F2 := fun i hi hle => by
            rw [ho 1 (by decide)] at hle
            rw [ho _ (by omega)]
            exact z1 i hi hle
          obtain ⟨k1, k2, k3⟩ := trL_z hn9 g q2 q F2 F' j2.2.1 j2.1 z2 h
          exact ⟨k1, by rw [k2, ho 41 (by decide), lnr_4 (Or.inl rfl) hp hJ hX], by rw [k3, ho 42 (by decide), lnr_4 (Or.inr rfl) hp hJ hX]⟩
theorem trn_z {tp : Nat → Nat} {n q : Nat} {F F' : Nat → Int32} (hn9 : n ≤ 900) (hF : ∀ j, j < 1084 → F j = 0) (h : trn tp n F = .inr (q, F')) : rwZ F' ∧ F' 41 = 0 ∧ F' 42 = 0 := by
  unfold trn wX at h
  split at h
  · rename_i hk
    have g0 := tE_g (Nat.zero_le n) (show tK tp n 0 ≠ 24 by omega)
    dsimp only at h
    rcases hX : xM tp n 1 9 (tE tp n 0) with e | ⟨q1, v1⟩
    · rw [hX] at h; cases h
    · rw [hX, bN_r] at h
      have g1 := xM_g (by decide) g0.2 hX
      have j1 : rwJ q1 (up1 F 40 (nI v1)) := by
        refine ⟨0, 0, by rw [up1_o (by decide), hF 1 (by decide)]; rfl, by decide, by rw [up1_o (by decide), hF 183 (by decide)]; rfl, Nat.zero_le _, fun i hi => by rw [up1_o (by omega), hF _ (by omega), if_neg (Nat.not_lt_zero i)]; rfl, ⟨v1, by omega, up1_s⟩, Or.inl ⟨?_, ?_, ?_⟩, Or.inl ⟨?_, ?_, ?_⟩⟩ <;> rw [up1_o (by decide)] <;> exact hF _ (by decide)
      rcases hY : cls tp n q1 (up1 F 40 (nI v1)) with e | ⟨q2, F2⟩
      · rw [hY] at h; cases h
      · rw [hY, lB_r] at h
        have j2 := rwJ_cls g1.2.1 j1 hY
        have ho : ∀ j, j ≠ 0 → j ≠ 40 → F2 j = F j := fun j hj h4 => by rw [(cls_g g1.2.1 hY).2.2.2.2, up1_o hj, up1_o h4]
        obtain ⟨k1, k2, k3⟩ := trL_z hn9 1000 q2 q F2 F' j2.2.1 j2.1 (fun i hi _ => by rw [ho _ (by omega) (by omega)]; exact hF _ (by omega)) h
        exact ⟨k1, by rw [k2, ho 41 (by decide) (by decide), hF 41 (by decide)], by rw [k3, ho 42 (by decide) (by decide), hF 42 (by decide)]⟩
  · cases h
theorem seat0 : (List.range 5).all (fun R => (List.range 24).all (fun q => !(decide (q < kFc R)) || !((List.range R).all (fun r => decide (qSe q r = r))) || decide (q = 0))) = true := by decide +kernel
theorem seat_0 {R q : Nat} (hR : R ≤ 4) (hq : q < kFc R) (h : ∀ r, r < R → qSe q r = r) : q = 0 := by
  have h0 := seat0
  rw [List.all_eq_true] at h0
  have h1 := h0 R (List.mem_range.mpr (by omega))
  rw [List.all_eq_true] at h1
  have h2 := h1 q (List.mem_range.mpr (Nat.lt_of_lt_of_le hq (kFc_le R)))
  have h3 : (List.range R).all (fun r => decide (qSe q r = r)) = true := by
    rw [List.all_eq_true]
    intro r hr
    exact decide_eq_true (h r (List.mem_range.mp hr))
  rw [h3, decide_eq_true hq] at h2
  simpa using h2
theorem wa_one {R x : Nat} {g : Nat → Nat} (hR : R ≤ 4) (hx : x < 5 ^ R) (hg : ∀ i, i < R → g i = mWa x i) (hz : ∀ i, R ≤ i → i < 4 → g i = 0) : g 0 + 5 * g 1 + 25 * g 2 + 125 * g 3 = x := by
  have h6 : x < 625 := Nat.lt_of_lt_of_le hx (show 5 ^ R ≤ 5 ^ 4 from Nat.pow_le_pow_right (by decide) hR)
  have e : ∀ i, i < 4 → g i = x / 5 ^ i % 5 := fun i hi => by
    by_cases z : i < R
    · rw [hg i z]
      unfold mWa
      rw [Nat.mod_eq_of_lt h6]
    · rw [hz i (by omega) hi]
      have : x / 5 ^ i = 0 := Nat.div_eq_of_lt (Nat.lt_of_lt_of_le hx (Nat.pow_le_pow_right (by decide) (by omega)))
      rw [this]
  rw [e 0 (by decide), e 1 (by decide), e 2 (by decide), e 3 (by decide)]
  simp only [Nat.reducePow]
  omega
/-- the stand that a newly told carriage begins with -/
theorem told_row {F a : Nat → Int32} {r : Nat} (ha : aOk a) (ho : ∀ j, j < 1084 → a j = F j) (h1 : F 1 = nI r) (hr : r ≤ 4) (h36 : ∀ i, i < 4 → F (36 + i) = nI (if i < r then i else 0)) (hZ : rwZ F) (h41 : F 41 = 0) : rowT a = (seaC F, wC F, 0, cN (F 40), 0) := by
  have hR : aR a = r := by
    show (a 1).toNatClampNeg = r
    rw [ho 1 (by decide), h1]
    exact nI_clamp (by omega)
  obtain ⟨hq, hw, -⟩ := rowT_in ha
  have e1 : seaC a = seaC F := c4_cg (fun i hi => by rw [ho _ (by omega)])
  have e2 : aW a = wC F := by
    refine (wa_one (R := aR a) (x := aW a) (g := fun i => cN (F (32 + i))) ha.R.2 hw (fun i hi => ?_) (fun i hi h4 => ?_)).symm
    · show cN (F (32 + i)) = _
      rw [← ho _ (by have := ha.R.2; omega), row_wa ha hi, cN_nI]
      exact Nat.lt_trans (Nat.mod_lt _ (by decide)) (by decide)
    · show cN (F (32 + i)) = 0
      rw [hZ i h4 (by rw [h1, cN_nI (by omega)]; omega)]
      rfl
  have e3 : aQ a = 0 := seat_0 ha.R.2 hq (fun i hi => by
    have hi4 : i < 4 := by have := ha.R.2; omega
    have z := row_se ha hi
    rw [ho _ (by omega), h36 i hi4, if_pos (by omega)] at z
    exact ((nI_eq (by omega) (by have := ((qB1_ok ha.R.2 hq).2.2.2.2.1 i hi).2.2; omega)).mp z).symm)
  unfold rowT
  rw [e1, e2, e3, ho 40 (by decide), ho 41 (by decide), h41]
theorem lwA.of {S : ab_S} {im : Nat → Prop} {c N la : Nat} {F a : Nat → Int32} (h : tW1 S c F N la) (hla : la < 2) (hN : N ≤ 900) (ho : ∀ j, j < 1084 → a j = F j) (hc : 50 ≤ c) (him : ∀ b, c + 2 < b → b < sn S → im b) : lwA S im (sP S c (7 + la)) (if F (2 + la) = 1 then some (mCn (rwS a) la, mCd (rwS a) la) else none) := by
  rcases h with ⟨h1, h2⟩ | ⟨h1, s, l, b, e1, e2, e3, e4, e5, e6, e7, e8, e9⟩
  · rw [h1, if_neg (by decide)]
    exact h2
  · rw [h1, if_pos rfl]
    have hn : mCn (rwS a) la = l := by
      show cN (a (6 + la)) = l
      rw [ho _ (by omega), e2, cN_nI (by omega)]
    have hs : cN (a (4 + la)) = s := by rw [ho _ (by omega), e1, cN_nI (by omega)]
    rw [hn]
    refine ⟨b, e4, by omega, e6, e7, e8, him b e5 e6, fun j hj => ?_⟩
    rw [e9 j hj]
    show cvt (F (184 + s + j)) = cvt (a (184 + cN (a (4 + la)) + j))
    rw [hs, ho _ (by omega)]
theorem caI.told {S : ab_S} {im : Nat → Prop} {tp : Nat → Nat} {n p c r N : Nat} {F a : Nat → Int32} (ha : aOk a) (ho : ∀ j, j < 1084 → a j = F j) (hL : tL S tp n p c F r r) (hW : tW S c F N) (him : ∀ b, c ≤ b → b < sn S → im b) : caI S im c a := by
  obtain ⟨-, -, ⟨k1, k2, k3, k4, k5, k6, k7⟩, ⟨v1, v2, v3, v4, v5, v6, v7, v8, v9, v10⟩, l5⟩ := hL
  obtain ⟨w1, w2, w3, w4⟩ := hW
  have hR : aR a = r := by
    show (a 1).toNatClampNeg = r
    rw [ho 1 (by decide), v7]
    exact nI_clamp (by omega)
  have i1 : ∀ b, c + 2 < b → b < sn S → im b := fun b b1 b2 => him b (by omega) b2
  have A0 := lwA.of (im := im) w3 (by decide) w2 ho (by omega) i1
  have A1 := lwA.of (im := im) w4 (by decide) w2 ho (by omega) i1
  have e0 : mWl (rwS a) = if F (2 + 0) = 1 then some (mCn (rwS a) 0, mCd (rwS a) 0) else none := by
    show (if a 2 = 1 then _ else _) = _
    rw [ho 2 (by decide)]
  have e1 : mMl (rwS a) = if F (2 + 1) = 1 then some (mCn (rwS a) 1, mCd (rwS a) 1) else none := by
    show (if a 3 = 0 then none else _) = _
    rw [ho 3 (by decide)]
    rcases w4 with ⟨z, -⟩ | ⟨z, -⟩ <;> rw [show (3 : Nat) = 2 + 1 from rfl, z]
    · rfl
    · rfl
  refine ⟨⟨by omega, k2, k3, k4, k5, k6, k7, him _ (by omega) (by omega), him _ (by omega) (by omega), him _ (by omega) (by omega)⟩, by rw [hR]; exact l5, by rw [v1, ho 0 (by decide)], fun i hi => by rw [v5 i hi, ho _ (by omega)], fun j hj => by rw [v6 j hj, ho _ (by omega)], by rw [e0]; exact A0, by rw [e1]; exact A1, seaC F, cN (F 40), v3, ?_, ?_, ?_⟩
  · have e : seaC a = seaC F := c4_cg (fun i hi => by rw [ho _ (by omega)])
    rw [← e]; exact seaC_lt ha
  · rw [v2, ← ho 40 (by decide)]; exact ha.m40.1
  · rw [← ho 40 (by decide)]; exact ha.m40.2
theorem imE.rf {im : Nat → Prop} {S : ab_S} : imE im S S := ⟨Nat.le_refl _, fun _ _ _ => ⟨rfl, rfl, rfl⟩⟩
theorem clI.imx {S : ab_S} {im im' : Nat → Prop} {x c bh nb st : Nat} {b : Nat → Int32} (h : clI S im x c b bh nb st) (h1 : ∀ y, im y → im' y) (h2 : ∀ y, y < sn S → im' y → im y) : clI S im' x c b bh nb st := by
  obtain ⟨a1, a2, a3, a4, a5, a6, a7, a8, a9, a10, a11, a12, b1, b2, b3⟩ := h
  exact ⟨a1.im imE.rf h1, a2, a3, a4, a5, a6, a7, a8, a9, a10, fun z => a11 (h2 _ a8.2 z), a12, b1, b2, b3⟩
theorem foN.imx {S : ab_S} {im im' : Nat → Prop} {bh r N kn rs : Nat} {b : Nat → Int32} (h : foN S im bh r N kn rs b) (h2 : ∀ y, y < sn S → im' y → im y) : foN S im' bh r N kn rs b := by
  rcases h with h | ⟨F, M, p, hi, hb, hr, hK, hz⟩
  · exact Or.inl h
  · have hF := hK.2.1
    exact Or.inr ⟨F, M, p, fun y y1 y2 z => hi y y1 y2 (h2 y (by omega) z), hb, hr, hK, hz⟩
theorem rfK.imx {S : ab_S} {im im' : Nat → Prop} {bh st u : Nat} {b0 : Nat → Int32} (h : rfK S im bh st b0 u) (h2 : ∀ y, y < sn S → im' y → im y) : rfK S im' bh st b0 u := by
  rcases h with h | ⟨r, N, kn, rs, b, p, hi, hb, hK, hz, hs, k1, k2, r1, r2, h9, hI, hF⟩
  · exact Or.inl h
  · have hr := hK.2.1
    exact Or.inr ⟨r, N, kn, rs, b, p, fun y y1 y2 z => hi y y1 y2 (h2 y (by omega) z), hb, hK, hz, hs, k1, k2, r1, r2, h9, hI, hF.imx h2⟩
theorem kBd.told {S S' : ab_S} {im im' : Nat → Prop} {a b : Nat → Int32} {c bh nb st st2 u : Nat} (h : kBd S im a c b bh nb st st2 u) (g : gF (fun y => y = 72 ∨ y = 77) S S') (hx : xSh S') (hO : imO im') (h1 : ∀ y, im y → im' y) (h2 : ∀ y, y < sn S → im' y → im y) (h3 : ∀ y, im' y → y < sn S') : kBd S' im' a c b bh nb st st2 u := by
  obtain ⟨q1, q2⟩ := h.bh
  obtain ⟨x1, x2, x3, ⟨x4, x5, x6⟩, x7, x8, ⟨x9, x10, x11, x12⟩, ⟨b2, y1, y2, y3⟩, ⟨x14, x15⟩, ⟨ca, la, x16⟩, x17, x18, x19⟩ := h
  have n : ∀ y, y ≠ 72 → y ≠ 77 → ¬ (y = 72 ∨ y = 77) := fun y a1 a2 => by omega
  have hi : ∀ y, im' y → ¬ (y = 72 ∨ y = 77) := fun y z => by have := hO y z; omega
  have e50 := g.2.2.2 50 (by omega) (by omega)
  have e84 := g.2.2.2 84 (by omega) (by omega)
  have e94 := g.2.2.2 94 (by omega) (by omega)
  have e104 := g.2.2.2 104 (by omega) (by omega)
  refine ⟨hx, x2.gf g (by omega) (fun y a1 a2 => by omega), by rw [g.1]; exact x3, ⟨hO, h3, Nat.le_trans x6 g.2.1⟩, x7, by rw [e50.2.2]; exact x8, ⟨x9, x10, (x11.imx h1 h2).gf g (by omega) hi (by omega) (by omega) (by omega) (by omega), x12⟩, ⟨b2, y1, y2, (y3.imx h1 h2).gf g (by omega) hi (by omega) (by omega) (by omega) (by omega)⟩, ⟨by rw [e84.1]; exact x14, by rw [e94.1]; exact x15⟩, ⟨ca, la, by rw [e104.2.2]; exact x16⟩, (x17.imx h2).gf g x6 (by omega) (fun y z => by have z : y = 72 ∨ y = 77 := z; omega) (Nat.le_refl _) x11.2.2.2.2.2.1.2 (Nat.le_refl _) (fun _ => alk.rf), x18, x19⟩
theorem gA.fr {S S' : ab_S} {im l : Nat → Prop} {a b : Nat → Int32} {c bh nb st st2 u m z : Nat} (h : kBd S im a c b bh nb st st2 u) (g : gF l S S') (e50 : sP S' 50 = sP S 50) (e84 : sP S' 84 = sP S 84) (hn : sn S' ≤ sn S + m) (hz : sz S' ≤ sz S + z) : gA S S' m z := by
  obtain ⟨x1, x2, x3, ⟨x4, x5, x6⟩, x7, x8, ⟨x9, x10, x11, x12⟩, x13, ⟨x14, x15⟩, x16, x17, x18, x19⟩ := h
  have eB : szL S' (sP S' 84 6) 0 = szL S (sP S 84 6) 0 := by
    rw [e84]
    refine szL.kp (fun q e => g.2.2.1 _ ?_)
    rw [x11.2.2.2.2.2.2.1] at e
    have := Option.some.inj e
    have := x11.2.2.2.2.2.2.2.1.2
    omega
  have eR : szL S' (sP S' 50 15) 1 = szL S (sP S 50 15) 1 := by
    rw [e50]
    refine szL.kp (fun q e => g.2.2.1 _ ?_)
    rcases x17 with ⟨y2, -⟩ | ⟨r0, N0, kn, rs, b1, p, hi, hb, hK, -⟩
    · rw [y2] at e; cases e
    · rw [p] at e
      have := Option.some.inj e
      have := hK.2.1
      omega
  have eF : szL S' (sP S' 50 16) 3 = szL S (sP S 50 16) 3 := by
    rw [e50]
    refine szL.kp (fun q e => g.2.2.1 _ ?_)
    rcases x17 with ⟨-, y2⟩ | ⟨r0, N0, kn, rs, b1, p, hi, hb, hK, hz0, hs, k1, k2, r1, r2, h90, hI, hF⟩
    · rw [y2] at e; cases e
    · rcases hF with hF | ⟨F, M, pF, hiF, hbF, hrF, hKF, -⟩
      · rw [hF] at e; cases e
      · rw [pF] at e
        have := Option.some.inj e
        have := hKF.2.1
        omega
  unfold gA cA zA
  rw [eB, eR, eF]
  omega
theorem raF.gF {S S' : ab_S} {m z : Nat} (h : raF S S' m z) : gF (fun y => y = 72 ∨ y = 77) S S' := ⟨h.1, by have := h.2.1; omega, h.2.2.2.1, fun b hb hn => ⟨(h.2.2.2.2.2.2 b hb (fun z => hn (Or.inl z)) (fun z => hn (Or.inr z))).1, (h.2.2.2.2.2.2 b hb (fun z => hn (Or.inl z)) (fun z => hn (Or.inr z))).2, h.2.2.2.2.1 b hb (fun z => hn (Or.inl z))⟩⟩
