/-! ===== a row that is read is well made ===== -/
def lwJ (F : Nat → Int32) (N la : Nat) : Prop := (F (2 + la) = 0 ∧ F (4 + la) = 0 ∧ F (6 + la) = 0) ∨ (F (2 + la) = 1 ∧ ∃ (s : Nat) (cs : List Nat), F (4 + la) = nI s ∧ F (6 + la) = nI cs.length ∧ s + cs.length ≤ N ∧ (∀ j, j < cs.length → F (184 + s + j) = nI (cs.getD j 0)) ∧ tyE (if la = 0 then 9 else 6) cs [] = some [decide (la = 1)])
def rwJ (p : Nat) (F : Nat → Int32) : Prop := ∃ r N, F 1 = nI r ∧ r ≤ 4 ∧ F 183 = nI N ∧ N ≤ p ∧ (∀ i, i < 4 → F (36 + i) = nI (if i < r then i else 0)) ∧ (∃ m, m < 10 ∧ F 40 = nI m) ∧ lwJ F N 0 ∧ lwJ F N 1
theorem lwJ.cg {F F' : Nat → Int32} {N N' la : Nat} (h : lwJ F N la) (hN : N ≤ N') (ho : ∀ j, (j = 2 + la ∨ j = 4 + la ∨ j = 6 + la) ∨ (184 ≤ j ∧ j < 184 + N) → F' j = F j) : lwJ F' N' la := by
  rcases h with ⟨h1, h2, h3⟩ | ⟨h1, s, cs, h2, h3, h4, h5, h6⟩
  · exact Or.inl ⟨by rw [ho _ (by omega)]; exact h1, by rw [ho _ (by omega)]; exact h2, by rw [ho _ (by omega)]; exact h3⟩
  · exact Or.inr ⟨by rw [ho _ (by omega)]; exact h1, s, cs, by rw [ho _ (by omega)]; exact h2, by rw [ho _ (by omega)]; exact h3, by omega, fun j hj => by rw [ho _ (by omega)]; exact h5 j hj, h6⟩
theorem rwJ.I {p : Nat} {F : Nat → Int32} (h : rwJ p F) : rwI p F := by
  obtain ⟨r, N, h1, h2, h3, h4, -⟩ := h
  exact ⟨r, N, h2, h1, h3, h4⟩
theorem rwJ.cg {p q : Nat} {F F' : Nat → Int32} (h : rwJ p F) (hpq : p ≤ q) (hp : p ≤ 900) (ho : ∀ j, j < 1084 → F' j = F j) : rwJ q F' := by
  obtain ⟨r, N, h1, h2, h3, h4, h5, ⟨m, h6, h7⟩, h8, h9⟩ := h
  exact ⟨r, N, by rw [ho 1 (by decide)]; exact h1, h2, by rw [ho 183 (by decide)]; exact h3, by omega, fun i hi => by rw [ho _ (by omega)]; exact h5 i hi, ⟨m, h6, by rw [ho 40 (by decide)]; exact h7⟩, h8.cg (Nat.le_refl _) (fun j hj => ho j (by omega)), h9.cg (Nat.le_refl _) (fun j hj => ho j (by omega))⟩
theorem rwJ_rdr {tp : Nat → Nat} {n p q : Nat} {F F' : Nat → Int32} (hp : p ≤ n) (h24 : tK tp n p ≠ 24) (hJ : rwJ p F) (h : rdr tp n p F = .inr (q, F')) : rwJ q F' := by
  have hI := hJ.I
  have ho := rdr_o hp h24 hI h
  obtain ⟨r, N, h1, hr, h3, h4, h5, ⟨m, h6, h7⟩, h8, h9⟩ := hJ
  have hcr : cN (F 1) = r := by rw [h1]; exact cN_nI (by omega)
  have g0 := tE_g hp h24
  have hpq := (rdr_g hp h24 hI h).1
  unfold rdr at h
  rw [hcr] at h
  split at h
  · cases h
  · rcases hX : xM tp n 3 3 (tE tp n p) with e | ⟨q1, v1⟩
    · rw [hX] at h; cases h
    · rw [hX, bN_r] at h
      rcases hY : xM tp n 4 9 q1 with e | ⟨q2, v2⟩
      · rw [hY] at h; cases h
      · rw [hY, bN_r] at h
        have g1 := xM_g (by decide) g0.2 hX
        have g2 := xM_g (by decide) g1.2.1 hY
        rcases hZ : fl tp n r 1000 q2 (up1 (up1 (up1 (up1 F (28 + r) (nI v1)) (8 + r) (nI v2)) (32 + r) (nI 2)) (36 + r) (nI r)) with e | ⟨q3, F3⟩
        · rw [hZ] at h; cases h
        · rw [hZ, lB_r] at h
          obtain ⟨e1, e2⟩ := Prod.mk.inj (Sum.inr.inj h)
          have g3 := fl_g (show r < 4 by omega) _ _ _ _ _ g2.2.1 hZ
          have e1' : q3 = q := e1
          have e2' : up1 F3 1 (nI (r + 1)) = F' := e2
          refine ⟨r + 1, N, by rw [← e2', up1_s], by omega, by rw [ho 183 (by omega)]; exact h3, by omega, fun i hi => ?_, ⟨m, h6, by rw [ho 40 (by omega)]; exact h7⟩, h8.cg (Nat.le_refl _) (fun j hj => ho j (by omega)), h9.cg (Nat.le_refl _) (fun j hj => ho j (by omega))⟩
          rw [← e2', up1_o (by omega), g3.2.2 (36 + i) (by omega)]
          by_cases z : i = r
          · rw [z, up1_s, if_pos (by omega)]
          · rw [up1_o (by omega), up1_o (by omega), up1_o (by omega), up1_o (by omega), h5 i hi]
            by_cases y : i < r
            · rw [if_pos y, if_pos (by omega)]
            · rw [if_neg y, if_neg (by omega)]
theorem rwJ_lwr {tp : Nat → Nat} {n la p q : Nat} {F F' : Nat → Int32} (hn9 : n ≤ 900) (hla : la < 2) (hp : p ≤ n) (h24 : tK tp n p ≠ 24) (hJ : rwJ p F) (h : lwr tp n la p F = .inr (q, F')) : rwJ q F' := by
  have hI := hJ.I
  have hg := lwr_g hn9 hla hp h24 hI h
  obtain ⟨r, N, h1, hr, h3, h4, h5, ⟨m, h6, h7⟩, h8, h9⟩ := hJ
  have hcN : cN (F 183) = N := by rw [h3]; exact cN_nI (by omega)
  have g0 := tE_g hp h24
  unfold lwr wX at h
  split at h
  · rename_i hk
    have g1 := tE_g g0.2 (show tK tp n (tE tp n p) ≠ 24 by omega)
    dsimp only at h
    rcases hX : pS tp n la 8000 (if la = 0 then 2 else 5) 0 (tE tp n (tE tp n p)) with e | ⟨q1, cs⟩
    · rw [hX] at h; cases h
    · rw [hX] at h
      obtain ⟨e1, e2⟩ := Prod.mk.inj (Sum.inr.inj h)
      have e1' : q1 = q := e1
      have e2' : lwF la N F cs = F' := by rw [← hcN]; exact e2
      have hl := pS_len _ _ _ _ _ _ g1.2 hX
      obtain ⟨l1, l2, l3, l4⟩ := hl
      have hty : tyE (if la = 0 then 9 else 6) cs [] = some [decide (la = 1)] := by
        have t := pS_ty (u := if la = 0 then 9 else 6) rfl _ _ _ _ _ _ g1.2 (by decide) hX
        rcases (show la = 0 ∨ la = 1 by omega) with z | z
        · rw [z] at t ⊢
          exact t [] (by decide)
        · rw [z] at t ⊢
          exact t [] (by decide)
      have ho : ∀ j, j ≠ 2 + la → j ≠ 4 + la → j ≠ 6 + la → (j < 183 ∨ (184 ≤ j ∧ j < 184 + N)) → F' j = F j := fun j a1 a2 a3 a4 => by rw [← e2']; exact lwF_o a1 a2 a3 a4
      have hnew : lwJ F' (N + cs.length) la := by
        rw [← e2']
        refine Or.inr ⟨?_, N, cs, ?_, ?_, Nat.le_refl _, fun j hj => ?_, hty⟩
        · unfold lwF
          rw [up1_o (by omega), up1_o (by omega), up1_s]; rfl
        · unfold lwF
          rw [up1_o (by omega), up1_s]
        · unfold lwF
          rw [up1_s]
        · unfold lwF
          rw [up1_o (by omega), up1_o (by omega), up1_o (by omega)]
          unfold appC
          rw [if_neg (by omega), if_pos (by omega), show 184 + N + j - 184 - N = j by omega]
      have hoth : ∀ lb, lb < 2 → lb ≠ la → lwJ F N lb → lwJ F' (N + cs.length) lb := fun lb hb hne hx => hx.cg (by omega) (fun j hj => ho j (by omega) (by omega) (by omega) (by omega))
      refine ⟨r, N + cs.length, by rw [ho 1 (by omega) (by omega) (by omega) (by omega)]; exact h1, hr, ?_, by omega, fun i hi => by rw [ho (36 + i) (by omega) (by omega) (by omega) (by omega)]; exact h5 i hi, ⟨m, h6, by rw [ho 40 (by omega) (by omega) (by omega) (by omega)]; exact h7⟩, ?_, ?_⟩
      · rw [← e2']
        unfold lwF
        rw [up1_o (by omega), up1_o (by omega), up1_o (by omega)]
        exact appC_N N F cs
      · by_cases y : 0 = la
        · rw [← y] at hnew; exact hnew
        · exact hoth 0 (by decide) y h8
      · by_cases y : 1 = la
        · rw [← y] at hnew; exact hnew
        · exact hoth 1 (by decide) y h9
  · cases h
theorem rwJ_lnr {tp : Nat → Nat} {n p q : Nat} {F F' : Nat → Int32} (hn9 : n ≤ 900) (hp : p ≤ n) (hJ : rwJ p F) (h : lnr tp n p F = .inr (q, F')) : rwJ q F' := by
  unfold lnr at h
  split at h
  · exact rwJ_rdr hp (by omega) hJ h
  · split at h
    · exact rwJ_lwr hn9 (by omega) hp (by omega) hJ h
    · cases h
theorem rwJ_cls {tp : Nat → Nat} {n p q : Nat} {F F' : Nat → Int32} (hp : p ≤ n) (hJ : rwJ p F) (h : cls tp n p F = .inr (q, F')) : rwJ q F' ∧ q ≤ n ∧ p < q := by
  have hg := cls_g hp h
  refine ⟨?_, hg.2.1, hg.1⟩
  obtain ⟨r, N, h1, hr, h3, h4, h5, ⟨m, h6, h7⟩, h8, h9⟩ := hJ
  have ho : ∀ j, j ≠ 0 → F' j = F j := fun j hj => by rw [hg.2.2.2.2]; exact up1_o hj
  exact ⟨r, N, by rw [ho 1 (by decide)]; exact h1, hr, by rw [ho 183 (by decide)]; exact h3, by omega, fun i hi => by rw [ho _ (by omega)]; exact h5 i hi, ⟨m, h6, by rw [ho 40 (by decide)]; exact h7⟩, h8.cg (Nat.le_refl _) (fun j hj => ho j (by omega)), h9.cg (Nat.le_refl _) (fun j hj => ho j (by omega))⟩
theorem rwJ_trL {tp : Nat → Nat} {n : Nat} (hn9 : n ≤ 900) : ∀ g p q F F', p ≤ n → rwJ p F → trL tp n g p F = .inr (q, F') → rwJ q F' ∧ q ≤ n
  | 0, p, q, F, F', hp, hJ, h => by
    obtain ⟨e1, e2⟩ := Prod.mk.inj (Sum.inr.inj h)
    rw [← e1, ← e2]; exact ⟨hJ, hp⟩
  | g + 1, p, q, F, F', hp, hJ, h => by
    unfold trL at h
    split at h
    · obtain ⟨e1, e2⟩ := Prod.mk.inj (Sum.inr.inj h)
      rw [← e1, ← e2]; exact ⟨hJ, hp⟩
    · rcases hX : lnr tp n p F with e | ⟨q1, F1⟩
      · rw [hX] at h; cases h
      · rw [hX, lB_r] at h
        have g1 := lnr_g hn9 hp hJ.I hX
        have j1 := rwJ_lnr hn9 hp hJ hX
        rcases hY : cls tp n q1 F1 with e | ⟨q2, F2⟩
        · rw [hY] at h; cases h
        · rw [hY, lB_r] at h
          have j2 := rwJ_cls g1.2.1 j1 hY
          exact rwJ_trL hn9 g q2 q F2 F' j2.2.1 j2.1 h
theorem rwJ_trn {tp : Nat → Nat} {n q : Nat} {F F' : Nat → Int32} (hn9 : n ≤ 900) (hF : ∀ j, j < 1084 → F j = 0) (h : trn tp n F = .inr (q, F')) : rwJ q F' ∧ q ≤ n := by
  unfold trn wX at h
  split at h
  · rename_i hk
    have g0 := tE_g (Nat.zero_le n) (show tK tp n 0 ≠ 24 by omega)
    dsimp only at h
    rcases hX : xM tp n 1 9 (tE tp n 0) with e | ⟨q1, v1⟩
    · rw [hX] at h; cases h
    · rw [hX, bN_r] at h
      have g1 := xM_g (by decide) g0.2 hX
      have j1 : rwJ q1 (up1 F 40 (nI v1)) := by
        refine ⟨0, 0, by rw [up1_o (by decide), hF 1 (by decide)]; rfl, by decide, by rw [up1_o (by decide), hF 183 (by decide)]; rfl, Nat.zero_le _, fun i hi => by rw [up1_o (by omega), hF _ (by omega), if_neg (Nat.not_lt_zero i)]; rfl, ⟨v1, by omega, up1_s⟩, Or.inl ⟨?_, ?_, ?_⟩, Or.inl ⟨?_, ?_, ?_⟩⟩ <;> rw [up1_o (by decide)] <;> exact hF _ (by decide)
      rcases hY : cls tp n q1 (up1 F 40 (nI v1)) with e | ⟨q2, F2⟩
      · rw [hY] at h; cases h
      · rw [hY, lB_r] at h
        have j2 := rwJ_cls g1.2.1 j1 hY
        exact rwJ_trL hn9 1000 q2 q F2 F' j2.2.1 j2.1 h
  · cases h
/-- so is a row that agrees with it -/
theorem row_ok {p : Nat} {a : Nat → Int32} (hp : p ≤ 900) (hJ : rwJ p a) (hs : ∀ i, i < 4 → ∃ s, a (28 + i) = nI s ∧ s < 4) (hw : ∀ i, i < 4 → ∃ w, a (32 + i) = nI w ∧ w < 5) : aGood a := by
  obtain ⟨r, N, h1, hr, h3, h4, h5, ⟨m, h6, h7⟩, h8, h9⟩ := hJ
  have hR : mR (rwS a) = r := by show (a 1).toNatClampNeg = r; rw [h1]; exact nI_clamp (by omega)
  have hst : ∀ i, i < 4 → mSt (rwS a) i = if i < r then i else 0 := fun i hi => by
    show cN (a (36 + i)) = _
    rw [h5 i hi, cN_nI (by split <;> omega)]
  have hlaw : ∀ la, la < 2 → lwJ a N la → mLo (rwS a) la ∧ (a (2 + la) = 0 ∨ (a (2 + la) = 1 ∧ lawOk (nI (if la = 0 then 1009 else 1006)) (mCd (rwS a) la) (mCn (rwS a) la) ∧ (la = 1 → ∀ wd, lvV wd (mCd (rwS a) la) (mCn (rwS a) la) = 0 ∨ lvV wd (mCd (rwS a) la) (mCn (rwS a) la) = 1))) := fun la hla hx => by
    rcases hx with ⟨x1, x2, x3⟩ | ⟨x1, s, cs, x2, x3, x4, x5, x6⟩
    · refine ⟨⟨?_, ?_, ?_⟩, Or.inl x1⟩
      · show a (4 + la) = nI (cN (a (4 + la))); rw [x2]; decide
      · show a (6 + la) = nI (cN (a (6 + la))); rw [x3]; decide
      · show cN (a (4 + la)) + cN (a (6 + la)) ≤ 900; rw [x2, x3]; decide
    · have c1 : cN (a (4 + la)) = s := by rw [x2]; exact cN_nI (by omega)
      have c2 : mCn (rwS a) la = cs.length := by show cN (a (6 + la)) = _; rw [x3]; exact cN_nI (by omega)
      have hcd : ∀ j, j < cs.length → mCd (rwS a) la j = nI (cs.getD j 0) := fun j hj => by
        show a (184 + cN (a (4 + la)) + j) = _
        rw [c1]; exact x5 j hj
      refine ⟨⟨?_, ?_, ?_⟩, Or.inr ⟨x1, ?_⟩⟩
      · show a (4 + la) = nI (cN (a (4 + la))); rw [c1]; exact x2
      · rw [c2]; exact x3
      · rw [c2]; show cN (a (4 + la)) + _ ≤ 900; omega
      · rw [c2]
        rcases (show la = 0 ∨ la = 1 by omega) with z | z
        · rw [z] at x6 hcd ⊢
          exact ⟨(ty_law (u := 9) (by decide) x6 (by omega) hcd).1, fun y => absurd y (by decide)⟩
        · rw [z] at x6 hcd ⊢
          have t := ty_law (u := 6) (by decide) x6 (by omega) hcd
          exact ⟨t.1, fun _ => t.2 rfl⟩
  obtain ⟨o0, l0⟩ := hlaw 0 (by decide) h8
  obtain ⟨o1, l1⟩ := hlaw 1 (by decide) h9
  refine ⟨⟨⟨⟨?_, ?_⟩, fun i hi => ⟨⟨?_, ?_⟩, ⟨?_, ?_⟩, ?_, ?_⟩, ?_, ?_⟩, ⟨o0, o1, ?_, ?_⟩, fun s hs2 => ?_, fun i hi => ?_⟩, ?_, ?_⟩
  · rw [hR]; exact h1
  · rw [hR]; exact hr
  · rw [hst i hi]; exact h5 i hi
  · rw [hst i hi]; split <;> omega
  · obtain ⟨w, e1, e2⟩ := hw i hi
    show a (32 + i) = nI (cN (a (32 + i))); rw [e1, cN_nI (by omega)]
  · obtain ⟨w, e1, e2⟩ := hw i hi
    show cN (a (32 + i)) < 5; rw [e1, cN_nI (by omega)]; exact e2
  · obtain ⟨w, e1, e2⟩ := hs i hi
    show a (28 + i) = nI (cN (a (28 + i))); rw [e1, cN_nI (by omega)]
  · obtain ⟨w, e1, e2⟩ := hs i hi
    show cN (a (28 + i)) < 4; rw [e1, cN_nI (by omega)]; exact e2
  · show a 40 = nI (cN (a 40)); rw [h7, cN_nI (by omega)]
  · show cN (a 40) < 10; rw [h7, cN_nI (by omega)]; exact h6
  · intro z
    rcases l0 with y | ⟨y, y2, -⟩
    · exact absurd (show a 2 = 1 from z) (by rw [show a 2 = 0 from y]; decide)
    · exact y2.1
  · rcases l1 with y | ⟨y, y2, -⟩
    · exact Or.inl y
    · exact Or.inr y2.1
  · rw [hR] at hs2 ⊢
    exact ⟨s, hs2, by rw [hst s (by omega), if_pos hs2]⟩
  · rw [hR] at hi ⊢
    rw [hst i (by omega), if_pos hi]; exact hi
  · intro n cd e
    unfold mWl at e
    split at e
    · rename_i z
      obtain ⟨e1, e2⟩ := Prod.mk.inj (Option.some.inj e)
      rcases l0 with y | ⟨y, y2, -⟩
      · exact absurd (show a 2 = 1 from z) (by rw [show a 2 = 0 from y]; decide)
      · rw [← e1, ← e2]; exact y2
    · cases e
  · intro n cd e
    unfold mMl at e
    split at e
    · cases e
    · rename_i z
      obtain ⟨e1, e2⟩ := Prod.mk.inj (Option.some.inj e)
      rcases l1 with y | ⟨y, y2, y3⟩
      · exact absurd (show a 3 = 0 from y) z
      · rw [← e1, ← e2]; exact ⟨y2, y3 rfl⟩
