/-! ===== judge, perform, journey of the reference ===== -/
def qL : List Nat := [120, 124, 125, 126, 127, 128, 129, 130, 131, 132, 133, 134, 135, 136, 137, 138, 139, 140, 141]
/-- what calls see of the object's own fields stays -/
def fEq (S S' : ab_S) : Prop := sI S' 120 5 = sI S 120 5 ∧ sI S' 120 13 = sI S 120 13 ∧ sI S' 120 14 = sI S 120 14
theorem fEq.rf {S : ab_S} : fEq S S := ⟨rfl, rfl, rfl⟩
theorem fEq.tt {S S1 S2 : ab_S} (h : fEq S S1) (g : fEq S1 S2) : fEq S S2 := ⟨g.1.trans h.1, g.2.1.trans h.2.1, g.2.2.trans h.2.2⟩
theorem fEq.of {l : List Nat} {S S' : ab_S} (h : sEq l S S') (hl : 120 ∉ l) : fEq S S' := ⟨congrFun (h.2.2.1 120 hl) _, congrFun (h.2.2.1 120 hl) _, congrFun (h.2.2.1 120 hl) _⟩
theorem fEq.tr {l : List Nat} {S S1 S2 : ab_S} (h : fEq S S1) (g : sEq l S1 S2) (hl : 120 ∉ l) : fEq S S2 := h.tt (fEq.of g hl)
theorem fEq.r2 {l : List Nat} {S S1 S2 : ab_S} (g : sEq l S1 S2) (hl : 120 ∉ l) (h : fEq S S1) : fEq S S2 := h.tr g hl
theorem fEq.t2 {S S1 S2 : ab_S} (g : fEq S1 S2) (h : fEq S S1) : fEq S S2 := h.tt g
theorem fEq.pI {S S1 : ab_S} {a k : Nat} {x : Int32} (h : fEq S S1) (hk : a ≠ 120 ∨ (k ≠ 5 ∧ k ≠ 13 ∧ k ≠ 14)) : fEq S (pI S1 a k x) := by
  rcases hk with hk | hk
  · have e : up2 (sI S1) a k x 120 = sI S1 120 := up2_o (Ne.symm hk)
    exact ⟨(congrFun e _).trans h.1, (congrFun e _).trans h.2.1, (congrFun e _).trans h.2.2⟩
  · exact ⟨(up2_k (Ne.symm hk.1)).trans h.1, (up2_k (Ne.symm hk.2.1)).trans h.2.1, (up2_k (Ne.symm hk.2.2)).trans h.2.2⟩
theorem fEq.pJ {S S1 : ab_S} {a k : Nat} {x : Int64} (h : fEq S S1) : fEq S (pJ S1 a k x) := h
/-- a call that asks: the answer v0, and nothing that is seen has changed -/
def pQ (S : ab_S) (v0 : Option Value) (v : Option Value) (w' : ab_H) : Prop := v = v0 ∧ ∃ S', w' = sw S' ∧ mSh S' ∧ mA S' = mA S ∧ sEq qL S S' ∧ fEq S S'
/-- a call that does: the answer v0, and the row is a' now -/
def pD (S : ab_S) (v0 : Option Value) (a' : Nat → Int32) (v : Option Value) (w' : ab_H) : Prop := v = v0 ∧ ∃ S', w' = sw S' ∧ mSh S' ∧ mA S' = a' ∧ sEq (121 :: qL) S S' ∧ fEq S S'
def aTl (f : Nat → Int64) : Nat → Nat → (Nat → Int32) → Nat × Nat × (Nat → Int32)
  | 0, k, a => (k, 0, a)
  | m + 1, k, a => if aWy a (f k) = 0 then aTl f m (k + 1) (aDo a (jW (f k))) else (k, aWy a (f k), a)
theorem aWy_0 {a : Nat → Int32} {v : Int64} (h : aWy a v = 0) : ∃ u, v = lN u ∧ aDw a u = 0 ∧ jW v = u := by
  unfold aWy at h
  by_cases hz : 0 ≤ v ∧ v ≤ 199
  · rw [if_pos hz] at h
    obtain ⟨u, hu, e, eu⟩ := jW_get (n := 199) (by decide) hz
    exact ⟨u, e, by rw [← eu]; exact h, eu⟩
  · rw [if_neg hz] at h; omega
theorem aWy_lt {a : Nat → Int32} {v : Int64} : aWy a v < 3 := by
  unfold aWy
  split
  · unfold aDw
    split
    · exact spY_lt
    · split
      · omega
      · split
        · split <;> omega
        · split
          · omega
          · split
            · omega
            · split
              · split <;> omega
              · omega
  · omega
theorem aTl_ok {f : Nat → Int64} : ∀ m k a, aOk a → aOk (aTl f m k a).2.2 ∧ aR (aTl f m k a).2.2 = aR a ∧ (∀ i, (i < 28 ∨ 42 ≤ i) → (aTl f m k a).2.2 i = a i) ∧ (aTl f m k a).1 ≤ k + m ∧ (aTl f m k a).2.1 < 3
  | 0, k, a, h => ⟨h, rfl, fun _ _ => rfl, Nat.le_refl _, by show 0 < 3; decide⟩
  | m + 1, k, a, h => by
    unfold aTl
    by_cases h0 : aWy a (f k) = 0
    · rw [if_pos h0]
      obtain ⟨u, e, hu, eu⟩ := aWy_0 h0
      rw [eu]
      obtain ⟨g1, g2, g3⟩ := aDo_ok h hu
      obtain ⟨i1, i2, i3, i4, i5⟩ := aTl_ok (f := f) m (k + 1) _ g1
      exact ⟨i1, i2.trans g2, fun i hi => (i3 i hi).trans (g3 i hi), by omega, i5⟩
    · rw [if_neg h0]
      exact ⟨h, rfl, fun _ _ => rfl, by show k ≤ _; omega, aWy_lt⟩
def tb_m_tells : List (Nat × Instr × Nat) := [(0, .aload_n 0, 1), (1, .iconst 0, 1), (2, .putfield 315, 3), (5, .iconst 0, 1), (6, .istore_n 2, 1), (7, .iload_n 2, 1), (8, .aload_n 0, 1), (9, .getfield 87, 3), (12, .iload_n 1, 1), (13, .iaload, 1), (14, .if_icmp .ge 53, 3), (17, .aload_n 0, 1), (18, .aload_n 0, 1), (19, .aload_n 0, 1), (20, .getfield 90, 3), (23, .bipush 40, 2), (25, .iload_n 1, 1), (26, .imul, 1), (27, .iload_n 2, 1), (28, .iadd, 1), (29, .laload, 1), (30, .invokevirtual 318, 3), (33, .putfield 315, 3), (36, .aload_n 0, 1), (37, .getfield 315, 3), (40, .ifCond .eq 5, 3), (43, .iload_n 2, 1), (44, .ireturn, 1), (45, .aload_n 0, 1), (46, .aload_n 0, 1), (47, .getfield 90, 3), (50, .bipush 40, 2), (52, .iload_n 1, 1), (53, .imul, 1), (54, .iload_n 2, 1), (55, .iadd, 1), (56, .laload, 1), (57, .l2i, 1), (58, .invokevirtual 322, 3), (61, .iinc 2 1, 3), (64, .goto (-57), 3), (67, .aload_n 0, 1), (68, .getfield 87, 3), (71, .iload_n 1, 1), (72, .iaload, 1), (73, .ireturn, 1)]
theorem tk_m_tells : ∀ q ∈ tb_m_tells, decode M_m_tells.2.1 q.1 = .ok q.2 := by decide +kernel
theorem c_m_tells {G : ab_G} {S : ab_S} {a : Nat → Int32} (hm : mSh S) (hA : mA S = a) (ha : aOk a) (q c : Nat) (hq : q < 4) (hc : sI S 143 q = nI c) (hc40 : c ≤ 40) : ab_C G 7 M_m_tells [.ref 120, .int (nI q)] (sw S) (fun v w' => v = some (.int (nI (aTl (fun k => sJ S 144 (40 * q + k)) c 0 a).1)) ∧ ∃ S', w' = sw S' ∧ mSh S' ∧ mA S' = (aTl (fun k => sJ S 144 (40 * q + k)) c 0 a).2.2 ∧ sEq [120, 121, 125, 126] S S' ∧ fEq S S' ∧ sI S' 120 19 = nI (aTl (fun k => sJ S 144 (40 * q + k)) c 0 a).2.1) := by
  have loop : ∀ (m k : Nat), k + m = c → ∀ (S1 : ab_S) (b : Nat → Int32), mSh S1 → mA S1 = b → aOk b → sEq [120, 121, 125, 126] S S1 → fEq S S1 → sI S1 120 19 = 0 → aTl (fun k => sJ S 144 (40 * q + k)) c 0 a = aTl (fun k => sJ S 144 (40 * q + k)) m k b → ab_Ex G 7 M_m_tells 7 [some (.ref 120), some (.int (nI q)), some (.int (nI k))] [] (sw S1) (fun v w' => v = some (.int (nI (aTl (fun k => sJ S 144 (40 * q + k)) c 0 a).1)) ∧ ∃ S', w' = sw S' ∧ mSh S' ∧ mA S' = (aTl (fun k => sJ S 144 (40 * q + k)) c 0 a).2.2 ∧ sEq [120, 121, 125, 126] S S' ∧ fEq S S' ∧ sI S' 120 19 = nI (aTl (fun k => sJ S 144 (40 * q + k)) c 0 a).2.1) := by
    intro m
    induction m with
    | zero =>
      intro k hk S1 b hm1 hA1 hb hE1 hF1 h19 hr
      refine x_iload_n 8 2 (ab_dd tk_m_tells 5 rfl) rfl rfl rfl ?_
      refine x_aload_n 9 0 (ab_dd tk_m_tells 6 rfl) rfl rfl rfl ?_
      refine t_getP 12 143 (ab_dd tk_m_tells 7 rfl) rfl F_m_87 (by decide) (Nat.lt_of_lt_of_le (by decide) hm1.1) (hm1.2.1 0 (by decide)) rfl (hm1.2.2 43 (by decide)) ?_
      refine x_iload_n 13 1 (ab_dd tk_m_tells 8 rfl) rfl rfl rfl ?_
      refine t_iald 14 q (ab_dd tk_m_tells 9 rfl) rfl (by decide) (Nat.lt_of_lt_of_le (by decide) hm1.1) (hm1.2.1 23 (by decide)) rfl (by omega) (by decide) (x_topn c ((congrFun (hE1.2.2.1 143 (by decide)) q).trans hc) ?_)
      refine x_icmp_ge_t 67 (ab_dd tk_m_tells 10 rfl) (by decide) ((nI_leI (a := c) (b := k) (by omega) (by omega)).mpr (show c ≤ k by omega)) ?_
      refine x_aload_n 68 0 (ab_dd tk_m_tells 41 rfl) rfl rfl rfl ?_
      refine t_getP 71 143 (ab_dd tk_m_tells 42 rfl) rfl F_m_87 (by decide) (Nat.lt_of_lt_of_le (by decide) hm1.1) (hm1.2.1 0 (by decide)) rfl (hm1.2.2 43 (by decide)) ?_
      refine x_iload_n 72 1 (ab_dd tk_m_tells 43 rfl) rfl rfl rfl ?_
      refine t_iald 73 q (ab_dd tk_m_tells 44 rfl) rfl (by decide) (Nat.lt_of_lt_of_le (by decide) hm1.1) (hm1.2.1 23 (by decide)) rfl (by omega) (by decide) (x_topn c ((congrFun (hE1.2.2.1 143 (by decide)) q).trans hc) ?_)
      exact x_iret (ab_dd tk_m_tells 45 rfl) ⟨rI (congrArg nI (by rw [hr]; show c = k; omega)), S1, rfl, hm1, by rw [hA1, hr]; rfl, hE1, hF1, by rw [h19, hr]; rfl⟩
    | succ m ih =>
      intro k hk S1 b hm1 hA1 hb hE1 hF1 h19 hr
      have ev : sJ S1 144 (40 * q + k) = sJ S 144 (40 * q + k) := congrFun (hE1.2.2.2.1 144 (by decide)) _
      generalize hvv : sJ S 144 (40 * q + k) = vv at ev
      have hr2 : aTl (fun k => sJ S 144 (40 * q + k)) c 0 a = if aWy b vv = 0 then aTl (fun k => sJ S 144 (40 * q + k)) m (k + 1) (aDo b (jW vv)) else (k, aWy b vv, b) := by rw [hr, ← hvv]; rfl
      have hlt : aWy b vv < 3 := aWy_lt
      refine x_iload_n 8 2 (ab_dd tk_m_tells 5 rfl) rfl rfl rfl ?_
      refine x_aload_n 9 0 (ab_dd tk_m_tells 6 rfl) rfl rfl rfl ?_
      refine t_getP 12 143 (ab_dd tk_m_tells 7 rfl) rfl F_m_87 (by decide) (Nat.lt_of_lt_of_le (by decide) hm1.1) (hm1.2.1 0 (by decide)) rfl (hm1.2.2 43 (by decide)) ?_
      refine x_iload_n 13 1 (ab_dd tk_m_tells 8 rfl) rfl rfl rfl ?_
      refine t_iald 14 q (ab_dd tk_m_tells 9 rfl) rfl (by decide) (Nat.lt_of_lt_of_le (by decide) hm1.1) (hm1.2.1 23 (by decide)) rfl (by omega) (by decide) (x_topn c ((congrFun (hE1.2.2.1 143 (by decide)) q).trans hc) ?_)
      refine x_icmp_ge_f 17 (ab_dd tk_m_tells 10 rfl) rfl 67 (by decide) (fun z => absurd ((nI_leI (a := c) (b := k) (by omega) (by omega)).mp z) (show ¬ (c ≤ k) by omega)) ?_
      refine x_aload_n 18 0 (ab_dd tk_m_tells 11 rfl) rfl rfl rfl ?_
      refine x_aload_n 19 0 (ab_dd tk_m_tells 12 rfl) rfl rfl rfl ?_
      refine x_aload_n 20 0 (ab_dd tk_m_tells 13 rfl) rfl rfl rfl ?_
      refine t_getP 23 144 (ab_dd tk_m_tells 14 rfl) rfl F_m_90 (by decide) (Nat.lt_of_lt_of_le (by decide) hm1.1) (hm1.2.1 0 (by decide)) rfl (hm1.2.2 44 (by decide)) ?_
      refine x_bipush 25 40 (ab_dd tk_m_tells 15 rfl) rfl (by decide) (x_topn 40 rfl ?_)
      refine x_iload_n 26 1 (ab_dd tk_m_tells 16 rfl) rfl rfl rfl ?_
      refine x_imul 27 (ab_dd tk_m_tells 17 rfl) rfl (x_topn (40 * q) (pk_mul _ _) ?_)
      refine x_iload_n 28 2 (ab_dd tk_m_tells 18 rfl) rfl rfl rfl ?_
      refine x_iadd 29 (ab_dd tk_m_tells 19 rfl) rfl (x_topn ((40 * q) + k) (nI_add _ _) ?_)
      refine t_lald 30 ((40 * q) + k) (ab_dd tk_m_tells 20 rfl) rfl (by decide) (Nat.lt_of_lt_of_le (by decide) hm1.1) (hm1.2.1 24 (by decide)) rfl (by omega) (by decide) (x_topL vv ev ?_)
      refine t_callV 33 M_m_whyNot 5 1 [_] (ab_dd tk_m_tells 21 rfl) rfl (by decide) K_m_whyNot V_m_whyNot.1 V_m_whyNot.2 L_m_318 rfl (Nat.le_of_ble_eq_true rfl) (by decide) (Nat.lt_of_lt_of_le (by decide) hm1.1) (hm1.2.1 0 (by decide)) rfl (c_m_whyNot (by exact hm1) (by exact hA1) hb _) (fun v1 w1 h1 => ?_)
      obtain ⟨rfl, U1, rfl, um1, uA1, uE1⟩ := h1
      refine t_putI 36 (ab_dd tk_m_tells 22 rfl) rfl F_m_315 (by decide) (Nat.lt_of_lt_of_le (by decide) um1.1) (um1.2.1 0 (by decide)) rfl rfl rfl ?_
      have hE1x := uE1
      refine x_aload_n 37 0 (ab_dd tk_m_tells 23 rfl) rfl rfl rfl ?_
      refine t_getI 40 (ab_dd tk_m_tells 24 rfl) rfl F_m_315 (by decide) (Nat.lt_of_lt_of_le (by decide) um1.1) (um1.2.1 0 (by decide)) rfl (x_topn (aWy b vv) rfl ?_)
      refine xn_if_eq 43 45 (ab_dd tk_m_tells 25 rfl) rfl (by decide) (by omega) (fun h40 => ?_) (fun h40 => ?_)
      · obtain ⟨u, evu, hu, eu⟩ := aWy_0 h40
        refine x_aload_n 46 0 (ab_dd tk_m_tells 28 rfl) rfl rfl rfl ?_
        refine x_aload_n 47 0 (ab_dd tk_m_tells 29 rfl) rfl rfl rfl ?_
        refine t_getP 50 144 (ab_dd tk_m_tells 30 rfl) rfl F_m_90 (by decide) (Nat.lt_of_lt_of_le (by decide) um1.1) (um1.2.1 0 (by decide)) rfl (um1.2.2 44 (by decide)) ?_
        refine x_bipush 52 40 (ab_dd tk_m_tells 31 rfl) rfl (by decide) (x_topn 40 rfl ?_)
        refine x_iload_n 53 1 (ab_dd tk_m_tells 32 rfl) rfl rfl rfl ?_
        refine x_imul 54 (ab_dd tk_m_tells 33 rfl) rfl (x_topn (40 * q) (pk_mul _ _) ?_)
        refine x_iload_n 55 2 (ab_dd tk_m_tells 34 rfl) rfl rfl rfl ?_
        refine x_iadd 56 (ab_dd tk_m_tells 35 rfl) rfl (x_topn ((40 * q) + k) (nI_add _ _) ?_)
        refine t_lald 57 ((40 * q) + k) (ab_dd tk_m_tells 36 rfl) rfl (by decide) (Nat.lt_of_lt_of_le (by decide) um1.1) (um1.2.1 24 (by decide)) rfl (by omega) (by decide) (x_topL vv ((congrFun (hE1x.2.2.2.1 144 (by decide)) _).trans ev) ?_)
        refine x_l2i 58 (ab_dd tk_m_tells 37 rfl) rfl (x_topn u (by rw [evu]; exact lN_i u) ?_)
        refine t_callV 61 M_m_does 6 1 [_] (ab_dd tk_m_tells 38 rfl) rfl (by decide) K_m_does V_m_does.1 V_m_does.2 L_m_322 rfl (Nat.le_of_ble_eq_true rfl) (by decide) (Nat.lt_of_lt_of_le (by decide) um1.1) (um1.2.1 0 (by decide)) rfl (c_m_does (by exact um1) (by exact uA1) hb u hu) (fun v1 w1 h1 => ?_)
        obtain ⟨rfl, U2, rfl, um2, uA2, uE2⟩ := h1
        refine xn_iinc 64 2 (fun y => [some (.ref 120), some (.int (nI q)), some (.int y)]) (k + 1) (ab_dd tk_m_tells 39 rfl) rfl (by decide) rfl (fun _ => rfl) (iinc_p 1) ?_
        refine x_goto 7 (ab_dd tk_m_tells 40 rfl) (by decide) ?_
        refine ih (k + 1) (by omega) _ _ um2 uA2 (aDo_ok hb hu).1 (((hE1.tr (uE1.mono (by decide))).pI (by decide)).tr (uE2.mono (by decide))) (fEq.r2 uE2 (by decide) (by exact (fEq.pI (fEq.r2 uE1 (by decide) (by exact hF1)) (Or.inr (by decide))))) ?_ (by rw [hr2, if_pos h40, eu])
        rw [uE2.2.2.1 120 (by decide)]
        show nI (aWy b vv) = 0
        rw [h40]; rfl
      · refine x_iload_n 44 2 (ab_dd tk_m_tells 26 rfl) rfl rfl rfl ?_
        exact x_iret (ab_dd tk_m_tells 27 rfl) ⟨rI (congrArg nI (by rw [hr2, if_neg (by omega)])), _, rfl, um1, by
          rw [hr2, if_neg (by omega)]
          exact uA1, ((hE1.tr (uE1.mono (by decide))).pI (by decide)), (fEq.pI (fEq.r2 uE1 (by decide) (by exact hF1)) (Or.inr (by decide))), by
          rw [hr2, if_neg (by omega)]; rfl⟩
  refine x_enter [some (.ref 120), some (.int (nI q)), none] (by decide) (Nat.le_of_ble_eq_true rfl) rfl (fun v w' h => by obtain ⟨rfl, -⟩ := h; rfl) ?_
  refine x_aload_n 1 0 (ab_dd tk_m_tells 0 rfl) rfl rfl rfl ?_
  refine x_iconst 2 0 (ab_dd tk_m_tells 1 rfl) rfl (by decide) (x_topn 0 rfl ?_)
  refine t_putI 5 (ab_dd tk_m_tells 2 rfl) rfl F_m_315 (by decide) (Nat.lt_of_lt_of_le (by decide) hm.1) (hm.2.1 0 (by decide)) rfl rfl rfl ?_
  refine x_iconst 6 0 (ab_dd tk_m_tells 3 rfl) rfl (by decide) (x_topn 0 rfl ?_)
  refine x_istore_n 7 [some (.ref 120), some (.int (nI q)), some (.int (nI 0))] 2 (ab_dd tk_m_tells 4 rfl) rfl rfl (by decide) rfl ?_
  exact loop c 0 (by omega) _ a hm hA ha (sEq.rf.pI (by decide)) fEq.rf rfl rfl
def aJu (a : Nat → Int32) (f : Nat → Int64) (c : Nat) (what : Int32) : Int32 := if what = 0 then (if (aTl f c 0 a).2.1 = 0 then -1 else nI (aTl f c 0 a).1) else if what = 1 then nI (aTl f c 0 a).2.1 else if what = 2 then nI (mSu (aE (aTl f c 0 a).2.2) (aR a)) else if mSit (aR a) (aE (aTl f c 0 a).2.2) 0 < aR a then nI (mSit (aR a) (aE (aTl f c 0 a).2.2) 0) else -1
abbrev mTf (S : ab_S) (q : Nat) : Nat → Int64 := fun k => sJ S 144 (40 * q + k)
abbrev mTc (S : ab_S) (q : Nat) : Nat := cN (sI S 143 q)
def tb_m_judge : List (Nat × Instr × Nat) := [(0, .aload_n 0, 1), (1, .iconst 0, 1), (2, .putfield 1, 3), (5, .iload_n 2, 1), (6, .i2l, 1), (7, .lconst 0, 1), (8, .ldc2_w 303, 3), (11, .invokestatic 159, 3), (14, .ifCond .ne 6, 3), (17, .bipush (-2), 2), (19, .ireturn, 1), (20, .aload_n 0, 1), (21, .iload_n 1, 1), (22, .invokevirtual 325, 3), (25, .istore_n 3, 1), (26, .iload_n 3, 1), (27, .ifCond .eq 5, 3), (30, .iload_n 3, 1), (31, .ireturn, 1), (32, .aload_n 0, 1), (33, .invokevirtual 279, 3), (36, .aload_n 0, 1), (37, .iload_n 1, 1), (38, .invokevirtual 328, 3), (41, .istore 4, 2), (43, .aload_n 0, 1), (44, .invokevirtual 266, 3), (47, .istore 5, 2), (49, .aload_n 0, 1), (50, .invokevirtual 331, 3), (53, .iload_n 2, 1), (54, .ifCond .ne 19, 3), (57, .aload_n 0, 1), (58, .getfield 315, 3), (61, .ifCond .ne 7, 3), (64, .iconst (-1), 1), (65, .goto 41, 3), (68, .iload 4, 2), (70, .goto 36, 3), (73, .iload_n 2, 1), (74, .iconst 1, 1), (75, .if_icmp .ne 10, 3), (78, .aload_n 0, 1), (79, .getfield 315, 3), (82, .goto 24, 3), (85, .iload_n 2, 1), (86, .iconst 2, 1), (87, .if_icmp .ne 12, 3), (90, .aload_n 0, 1), (91, .iload 5, 2), (93, .invokevirtual 334, 3), (96, .goto 10, 3), (99, .aload_n 0, 1), (100, .iload 5, 2), (102, .iconst 0, 1), (103, .invokevirtual 245, 3), (106, .ireturn, 1)]
theorem tk_m_judge : ∀ q ∈ tb_m_judge, decode M_m_judge.2.1 q.1 = .ok q.2 := by decide +kernel
theorem c_m_judge {G : ab_G} {S : ab_S} {a : Nat → Int32} (hm : mSh S) (hA : mA S = a) (ha : aOk a) (ht : mTr S) (t what : Int32) : ab_C G 8 M_m_judge [.ref 120, .int t, .int what] (sw S) (pD S (some (.int (if 0 ≤ what ∧ what ≤ 3 then (if mNt S t = 0 then aJu a (mTf S (cN t)) (mTc S (cN t)) what else mNt S t) else -2))) (mA S)) := by
  refine x_enter [some (.ref 120), some (.int t), some (.int what), none, none, none] (by decide) (Nat.le_of_ble_eq_true rfl) rfl (fun v w' h => by obtain ⟨rfl, -⟩ := h; rfl) ?_
  refine x_aload_n 1 0 (ab_dd tk_m_judge 0 rfl) rfl rfl rfl ?_
  refine x_iconst 2 0 (ab_dd tk_m_judge 1 rfl) rfl (by decide) (x_topn 0 rfl ?_)
  refine t_putI 5 (ab_dd tk_m_judge 2 rfl) rfl F_m_1 (by decide) (Nat.lt_of_lt_of_le (by decide) hm.1) (hm.2.1 0 (by decide)) rfl rfl rfl ?_
  refine x_iload_n 6 2 (ab_dd tk_m_judge 3 rfl) rfl rfl rfl ?_
  refine x_i2l 7 (ab_dd tk_m_judge 4 rfl) rfl ?_
  refine x_lconst 8 0 (ab_dd tk_m_judge 5 rfl) rfl (by decide) ?_
  refine x_ldc2 11 (ab_dd tk_m_judge 6 rfl) rfl C_m_303 ?_
  refine x_callS 14 M_m_within 0 3 [_, _, _] (ab_dd tk_m_judge 7 rfl) rfl (by decide) K_m_within T_m_within L_m_159 rfl (Nat.le_of_ble_eq_true rfl) (w_inI 0 3 rfl rfl _) (fun v1 w1 h1 => ?_)
  obtain ⟨rfl, rfl⟩ := h1
  refine xb_if_ne 17 20 (ab_dd tk_m_judge 8 rfl) rfl (by decide) (fun h14 => ?_) (fun h14 => ?_)
  · refine x_aload_n 21 0 (ab_dd tk_m_judge 11 rfl) rfl rfl rfl ?_
    refine x_iload_n 22 1 (ab_dd tk_m_judge 12 rfl) rfl rfl rfl ?_
    refine t_callV 25 M_m_noTray 1 1 [_] (ab_dd tk_m_judge 13 rfl) rfl (by decide) K_m_noTray V_m_noTray.1 V_m_noTray.2 L_m_325 rfl (Nat.le_of_ble_eq_true rfl) (by decide) (Nat.lt_of_lt_of_le (by decide) hm.1) (hm.2.1 0 (by decide)) rfl (c_m_noTray (by exact hm) t) (fun v1 w1 h1 => ?_)
    obtain ⟨rfl, rfl⟩ := h1
    refine x_topi (fun v1 ev1 => ?_)
    refine x_istore_n 26 [some (.ref 120), some (.int t), some (.int what), some (.int v1), none, none] 3 (ab_dd tk_m_judge 14 rfl) rfl rfl (by decide) rfl ?_
    refine x_iload_n 27 3 (ab_dd tk_m_judge 15 rfl) rfl rfl rfl ?_
    refine x_if_eq 30 32 (ab_dd tk_m_judge 16 rfl) rfl (by decide) (fun h27 => ?_) (fun h27 => ?_)
    · have h0 : mNt S t = 0 := ev1.symm.trans h27
      obtain ⟨q, hq, et, eq⟩ := in_get (n := 3) (by decide) (nt_0 h0).1
      obtain ⟨c, ec, hc⟩ := ht q (by omega)
      obtain ⟨hb, hbR, ho, hle, hlt⟩ := aTl_ok (f := mTf S q) c 0 a ha
      rw [show some (Value.int t) = some (Value.int (nI q)) by rw [et]]
      have fin : ∀ x, aJu a (mTf S q) c what = x → (if 0 ≤ what ∧ what ≤ 3 then (if mNt S t = 0 then aJu a (mTf S (cN t)) (mTc S (cN t)) what else mNt S t) else -2) = x := fun x hx => by
        rw [if_pos h14, if_pos h0, eq, show mTc S q = c by show cN (sI S 143 q) = c; rw [ec, cN_nI (by omega)]]
        exact hx
      refine x_aload_n 33 0 (ab_dd tk_m_judge 19 rfl) rfl rfl rfl ?_
      refine t_callV 36 M_m_stores 0 0 [] (ab_dd tk_m_judge 20 rfl) rfl (by decide) K_m_stores V_m_stores.1 V_m_stores.2 L_m_279 rfl (Nat.le_of_ble_eq_true rfl) (by decide) (Nat.lt_of_lt_of_le (by decide) hm.1) (hm.2.1 0 (by decide)) rfl (c_m_stores (by exact hm)) (fun v1 w1 h1 => ?_)
      obtain ⟨rfl, U2, rfl, uE2, uW2⟩ := h1
      have um2 := mSh.eq (by exact hm) uE2
      have uA2 : mA U2 = a := (uE2.2.2.1 121 (by decide)).trans hA
      have hWs := uW2
      refine x_aload_n 37 0 (ab_dd tk_m_judge 21 rfl) rfl rfl rfl ?_
      refine x_iload_n 38 1 (ab_dd tk_m_judge 22 rfl) rfl rfl rfl ?_
      have htl := c_m_tells (G := G) um2 uA2 ha q c (by omega) (by rw [uE2.2.2.1 143 (by decide)]; exact ec) hc
      rw [show (fun k => sJ U2 144 (40 * q + k)) = mTf S q by rw [uE2.2.2.2.1 144 (by decide)]; rfl] at htl
      refine t_callV 41 M_m_tells 7 1 [_] (ab_dd tk_m_judge 23 rfl) rfl (by decide) K_m_tells V_m_tells.1 V_m_tells.2 L_m_328 rfl (Nat.le_of_ble_eq_true rfl) (by decide) (Nat.lt_of_lt_of_le (by decide) um2.1) (um2.2.1 0 (by decide)) rfl (htl) (fun v1 w1 h1 => ?_)
      obtain ⟨rfl, U3, rfl, um3, uA3, uE3, uF3, h19⟩ := h1
      refine x_istore 43 [some (.ref 120), some (.int (nI q)), some (.int what), some (.int v1), some (.int (nI ((aTl (mTf S q) c 0 a).1))), none] 4 (ab_dd tk_m_judge 24 rfl) rfl (by decide) rfl ?_
      refine x_aload_n 44 0 (ab_dd tk_m_judge 25 rfl) rfl rfl rfl ?_
      refine t_callV 47 M_m_standNow 1 0 [] (ab_dd tk_m_judge 26 rfl) rfl (by decide) K_m_standNow V_m_standNow.1 V_m_standNow.2 L_m_266 rfl (Nat.le_of_ble_eq_true rfl) (by decide) (Nat.lt_of_lt_of_le (by decide) um3.1) (um3.2.1 0 (by decide)) rfl (w_standNow (by exact um3) (by exact uA3) hb) (fun v1 w1 h1 => ?_)
      obtain ⟨rfl, rfl⟩ := h1
      refine x_istore 49 [some (.ref 120), some (.int (nI q)), some (.int what), some (.int v1), some (.int (nI ((aTl (mTf S q) c 0 a).1))), some (.int (nI (aE (aTl (mTf S q) c 0 a).2.2)))] 5 (ab_dd tk_m_judge 27 rfl) rfl (by decide) rfl ?_
      refine x_aload_n 50 0 (ab_dd tk_m_judge 28 rfl) rfl rfl rfl ?_
      refine t_callV 53 M_m_isAgain 0 0 [] (ab_dd tk_m_judge 29 rfl) rfl (by decide) K_m_isAgain V_m_isAgain.1 V_m_isAgain.2 L_m_331 rfl (Nat.le_of_ble_eq_true rfl) (by decide) (Nat.lt_of_lt_of_le (by decide) um3.1) (um3.2.1 0 (by decide)) rfl (c_m_isAgain (by exact um3)) (fun v1 w1 h1 => ?_)
      obtain ⟨rfl, U4, rfl, uE4, uB4⟩ := h1
      have um4 := mSh.eq (by exact um3) uE4
      have uA4 : mA U4 = a := by
        funext i
        rw [uB4 i]
        by_cases hi : 28 ≤ i ∧ i < 28 + 14
        · rw [if_pos hi, uE3.2.2.1 127 (by decide), hWs (i - 28) (by omega), show 28 + (i - 28) = i by omega]
          exact congrFun hA i
        · rw [if_neg hi, uA3]
          exact ho i (by omega)
      have h19 : sI U4 120 19 = nI (aTl (mTf S q) c 0 a).2.1 := (congrFun (uE4.2.2.1 120 (by decide)) 19).trans h19
      have hlt1 := (hb.E).1
      refine x_iload_n 54 2 (ab_dd tk_m_judge 30 rfl) rfl rfl rfl ?_
      refine x_if_ne 57 73 (ab_dd tk_m_judge 31 rfl) rfl (by decide) (fun h54 => ?_) (fun h54 => ?_)
      · refine x_iload_n 74 2 (ab_dd tk_m_judge 39 rfl) rfl rfl rfl ?_
        refine x_iconst 75 1 (ab_dd tk_m_judge 40 rfl) rfl (by decide) (x_topn 1 rfl ?_)
        refine x_icmp_ne 78 85 (ab_dd tk_m_judge 41 rfl) rfl (by decide) (fun h75 => ?_) (fun h75 => ?_)
        · refine x_iload_n 86 2 (ab_dd tk_m_judge 45 rfl) rfl rfl rfl ?_
          refine x_iconst 87 2 (ab_dd tk_m_judge 46 rfl) rfl (by decide) (x_topn 2 rfl ?_)
          refine x_icmp_ne 90 99 (ab_dd tk_m_judge 47 rfl) rfl (by decide) (fun h87 => ?_) (fun h87 => ?_)
          · refine x_aload_n 100 0 (ab_dd tk_m_judge 52 rfl) rfl rfl rfl ?_
            refine x_iload 102 5 (ab_dd tk_m_judge 53 rfl) rfl rfl ?_
            refine x_iconst 103 0 (ab_dd tk_m_judge 54 rfl) rfl (by decide) (x_topn 0 rfl ?_)
            refine t_callV 106 M_m_sitting 1 2 [_, _] (ab_dd tk_m_judge 55 rfl) rfl (by decide) K_m_sitting V_m_sitting.1 V_m_sitting.2 L_m_245 rfl (Nat.le_of_ble_eq_true rfl) (by decide) (Nat.lt_of_lt_of_le (by decide) um4.1) (um4.2.1 0 (by decide)) rfl (w_sitting (by exact um4) (by exact uA4) ha (aE (aTl (mTf S q) c 0 a).2.2) 0 hlt1 (by decide)) (fun v1 w1 h1 => ?_)
            obtain ⟨rfl, rfl⟩ := h1
            exact x_iret (ab_dd tk_m_judge 56 rfl) ⟨rI (fin _ ((if_neg h54).trans ((if_neg h75).trans (if_neg h87)))).symm, U4, rfl, um4, uA4.trans hA.symm, (((((sEq.rf (l := 121 :: qL)).pI (by decide)).tr (uE2.mono (by decide))).tr (uE3.mono (by decide))).tr (uE4.mono (by decide))), (fEq.r2 uE4 (by decide) (by exact (fEq.t2 uF3 (by exact (fEq.r2 uE2 (by decide) (by exact (fEq.pI (fEq.rf (S := S)) (Or.inr (by decide)))))))))⟩
          · refine x_aload_n 91 0 (ab_dd tk_m_judge 48 rfl) rfl rfl rfl ?_
            refine x_iload 93 5 (ab_dd tk_m_judge 49 rfl) rfl rfl ?_
            refine t_callV 96 M_m_sumIn 2 1 [_] (ab_dd tk_m_judge 50 rfl) rfl (by decide) K_m_sumIn V_m_sumIn.1 V_m_sumIn.2 L_m_334 rfl (Nat.le_of_ble_eq_true rfl) (by decide) (Nat.lt_of_lt_of_le (by decide) um4.1) (um4.2.1 0 (by decide)) rfl (w_sumIn (by exact um4) (by exact uA4) ha (aE (aTl (mTf S q) c 0 a).2.2) hlt1) (fun v1 w1 h1 => ?_)
            obtain ⟨rfl, rfl⟩ := h1
            refine x_goto 106 (ab_dd tk_m_judge 51 rfl) (by decide) ?_
            exact x_iret (ab_dd tk_m_judge 56 rfl) ⟨rI (fin _ ((if_neg h54).trans ((if_neg h75).trans (if_pos h87)))).symm, U4, rfl, um4, uA4.trans hA.symm, (((((sEq.rf (l := 121 :: qL)).pI (by decide)).tr (uE2.mono (by decide))).tr (uE3.mono (by decide))).tr (uE4.mono (by decide))), (fEq.r2 uE4 (by decide) (by exact (fEq.t2 uF3 (by exact (fEq.r2 uE2 (by decide) (by exact (fEq.pI (fEq.rf (S := S)) (Or.inr (by decide)))))))))⟩
        · refine x_aload_n 79 0 (ab_dd tk_m_judge 42 rfl) rfl rfl rfl ?_
          refine t_getI 82 (ab_dd tk_m_judge 43 rfl) rfl F_m_315 (by decide) (Nat.lt_of_lt_of_le (by decide) um4.1) (um4.2.1 0 (by decide)) rfl (x_topn ((aTl (mTf S q) c 0 a).2.1) h19 ?_)
          refine x_goto 106 (ab_dd tk_m_judge 44 rfl) (by decide) ?_
          exact x_iret (ab_dd tk_m_judge 56 rfl) ⟨rI (fin _ ((if_neg h54).trans (if_pos h75))).symm, U4, rfl, um4, uA4.trans hA.symm, (((((sEq.rf (l := 121 :: qL)).pI (by decide)).tr (uE2.mono (by decide))).tr (uE3.mono (by decide))).tr (uE4.mono (by decide))), (fEq.r2 uE4 (by decide) (by exact (fEq.t2 uF3 (by exact (fEq.r2 uE2 (by decide) (by exact (fEq.pI (fEq.rf (S := S)) (Or.inr (by decide)))))))))⟩
      · refine x_aload_n 58 0 (ab_dd tk_m_judge 32 rfl) rfl rfl rfl ?_
        refine t_getI 61 (ab_dd tk_m_judge 33 rfl) rfl F_m_315 (by decide) (Nat.lt_of_lt_of_le (by decide) um4.1) (um4.2.1 0 (by decide)) rfl (x_topn ((aTl (mTf S q) c 0 a).2.1) h19 ?_)
        refine xn_if_ne 64 68 (ab_dd tk_m_judge 34 rfl) rfl (by decide) (by omega) (fun h61 => ?_) (fun h61 => ?_)
        · refine x_iload 70 4 (ab_dd tk_m_judge 37 rfl) rfl rfl ?_
          refine x_goto 106 (ab_dd tk_m_judge 38 rfl) (by decide) ?_
          exact x_iret (ab_dd tk_m_judge 56 rfl) ⟨rI (fin _ ((if_pos h54).trans (if_neg (by omega)))).symm, U4, rfl, um4, uA4.trans hA.symm, (((((sEq.rf (l := 121 :: qL)).pI (by decide)).tr (uE2.mono (by decide))).tr (uE3.mono (by decide))).tr (uE4.mono (by decide))), (fEq.r2 uE4 (by decide) (by exact (fEq.t2 uF3 (by exact (fEq.r2 uE2 (by decide) (by exact (fEq.pI (fEq.rf (S := S)) (Or.inr (by decide)))))))))⟩
        · refine x_iconst 65 (-1) (ab_dd tk_m_judge 35 rfl) rfl (by decide) ?_
          refine x_goto 106 (ab_dd tk_m_judge 36 rfl) (by decide) ?_
          exact x_iret (ab_dd tk_m_judge 56 rfl) ⟨rI (fin _ ((if_pos h54).trans (if_pos h61))).symm, U4, rfl, um4, uA4.trans hA.symm, (((((sEq.rf (l := 121 :: qL)).pI (by decide)).tr (uE2.mono (by decide))).tr (uE3.mono (by decide))).tr (uE4.mono (by decide))), (fEq.r2 uE4 (by decide) (by exact (fEq.t2 uF3 (by exact (fEq.r2 uE2 (by decide) (by exact (fEq.pI (fEq.rf (S := S)) (Or.inr (by decide)))))))))⟩
    · refine x_iload_n 31 3 (ab_dd tk_m_judge 17 rfl) rfl rfl rfl ?_
      exact x_iret (ab_dd tk_m_judge 18 rfl) ⟨rI (by rw [if_pos h14, if_neg (show ¬ mNt S t = 0 from fun z => h27 (ev1.trans z)), ev1]; rfl), _, rfl, hm, rfl, sEq.rf.pI (by decide), fEq.rf⟩
  · refine x_bipush 19 (-2) (ab_dd tk_m_judge 9 rfl) rfl (by decide) ?_
    exact x_iret (ab_dd tk_m_judge 10 rfl) ⟨rI (if_neg h14).symm, _, rfl, hm, rfl, sEq.rf.pI (by decide), fEq.rf⟩
