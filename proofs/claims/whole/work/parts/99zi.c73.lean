/-! ===== attempt ===== -/
theorem gA.le {S S' : ab_S} {m z m' z' : Nat} (h : gA S S' m z) (h1 : m ≤ m') (h2 : z ≤ z') : gA S S' m' z' := by
  obtain ⟨a, b⟩ := h
  exact ⟨by omega, by omega⟩
def grU (w : Nat → Int32) : Nat → Nat
  | 0 => 0
  | k + 1 => if ctA w k (k + 1) ≤ grU w k then grU w k else ctA w k (k + 1)
theorem ctA_s (w : Nat → Int32) (i k : Nat) : ctA w i (k + 1) = ctA w i k + (if w i ≠ -1 ∧ w k = w i then 1 else 0) := rfl
theorem ctA_mo (w : Nat → Int32) (i : Nat) : ∀ j k, ctA w i k ≤ ctA w i (k + j)
  | 0, k => Nat.le_refl _
  | j + 1, k => by
    have h := ctA_mo w i j k
    have e := ctA_s w i (k + j)
    rw [show k + (j + 1) = k + j + 1 by omega, e]
    omega
theorem ctA_cg {w : Nat → Int32} {i j : Nat} (h : w i = w j) : ∀ k, ctA w i k = ctA w j k
  | 0 => rfl
  | k + 1 => by rw [ctA_s, ctA_s, ctA_cg h k, h]
theorem grU_s (w : Nat → Int32) (k : Nat) : grU w k ≤ grU w (k + 1) ∧ ctA w k (k + 1) ≤ grU w (k + 1) := by
  have e : grU w (k + 1) = if ctA w k (k + 1) ≤ grU w k then grU w k else ctA w k (k + 1) := rfl
  rw [e]
  split <;> omega
theorem grU_ge {w : Nat → Int32} : ∀ K i, i < K → ctA w i K ≤ grU w K
  | 0, i, h => absurd h (by omega)
  | K + 1, i, h => by
    have g := grU_s w K
    by_cases z : w i ≠ -1 ∧ w K = w i
    · rw [← ctA_cg z.2]; exact g.2
    · by_cases e : i = K
      · rw [e]; exact g.2
      · rw [ctA_s, if_neg z, Nat.add_zero]
        exact Nat.le_trans (grU_ge K i (by omega)) g.1
theorem grA_s (w : Nat → Int32) (k : Nat) : grA w (k + 1) = if grA w k < ctA w k 4 then ctA w k 4 else grA w k := rfl
theorem grU_A (w : Nat → Int32) : grU w 4 = grA w 4 := by
  have h1 : ∀ k, k ≤ 4 → grU w k ≤ grA w k := by
    intro k
    induction k with
    | zero => intro _; exact Nat.le_refl _
    | succ k ih =>
      intro hk
      have i := ih (by omega)
      have e : grU w (k + 1) = if ctA w k (k + 1) ≤ grU w k then grU w k else ctA w k (k + 1) := rfl
      have m := ctA_mo w k (3 - k) (k + 1)
      rw [show k + 1 + (3 - k) = 4 by omega] at m
      rw [grA_s, e]
      split <;> split <;> omega
  have h2 : ∀ k, k ≤ 4 → grA w k ≤ grU w 4 := by
    intro k
    induction k with
    | zero => intro _; exact Nat.zero_le _
    | succ k ih =>
      intro hk
      have i := ih (by omega)
      have g := grU_ge (w := w) 4 k (by omega)
      rw [grA_s]
      split <;> omega
  exact Nat.le_antisymm (h1 4 (Nat.le_refl _)) (h2 4 (Nat.le_refl _))
theorem grU_0 {w : Nat → Int32} {k : Nat} (h : w k = -1) : grU w (k + 1) = grU w k := by
  have z : ∀ j, ctA w k j = 0 := by
    intro j
    induction j with
    | zero => rfl
    | succ j ih => rw [ctA_s, ih, if_neg (fun y => y.1 h)]
  show (if ctA w k (k + 1) ≤ grU w k then grU w k else ctA w k (k + 1)) = _
  rw [z, if_pos (Nat.zero_le _)]
def atC (m : Nat → Nat) : Nat → Int32 × Nat
  | 0 => (-1, 5)
  | k + 1 => if m k < (atC m k).2 then (nI k, m k) else atC m k
theorem atC_B {m : Nat → Nat} (h : ∀ k, m k ≤ 4) : ∀ k, atC m (k + 1) = atB m (k + 1)
  | 0 => by
    show (if m 0 < 5 then (nI 0, m 0) else (-1, 5)) = (if m 0 < 268435456 then (nI 0, m 0) else (-1, 268435456))
    have := h 0
    rw [if_pos (by omega), if_pos (by omega)]
  | k + 1 => by
    show (if m (k + 1) < (atC m (k + 1)).2 then (nI (k + 1), m (k + 1)) else atC m (k + 1)) = (if m (k + 1) < (atB m (k + 1)).2 then (nI (k + 1), m (k + 1)) else atB m (k + 1))
    rw [atC_B h k]
theorem atC_5 {m : Nat → Nat} (h : ∀ k, m k ≤ 4) : ∀ k, (atC m k).2 ≤ 5
  | 0 => Nat.le_refl _
  | k + 1 => by
    show (if m k < (atC m k).2 then (nI k, m k) else atC m k).2 ≤ 5
    have i := atC_5 h k
    have := h k
    split
    · show m k ≤ 5; omega
    · exact i
theorem aBr_lt {a : Nat → Int32} {d p s : Nat} : aBr a d p s < 625 := Nat.mod_lt _ (by decide)
theorem foN.nwc {S S' : ab_S} {im : Nat → Prop} {bh r N kn rs z : Nat} {b : Nat → Int32} (h : foN S im bh r N kn rs b) (hE : sEq [z] S S') (hF : ∀ F, sP S 50 16 = some F → F + 5 < z) : foN S' im bh r N kn rs b := by
  rcases h with h | ⟨F, M, p, hi, hb, hr, hK, hz, hM, hs⟩
  · exact Or.inl (by rw [hE.2.2.2.2.1]; exact h)
  · have hFz := hF F p
    have n : ∀ y, y < z → y ∉ [z] := fun y y1 w => by have := List.mem_singleton.mp w; omega
    have e0 := hE.2.2.1 F (n _ (by omega))
    have e1 := hE.2.2.1 (F + 1) (n _ (by omega))
    refine Or.inr ⟨F, M, by rw [hE.2.2.2.2.1]; exact p, hi, hb, hr, hK.eq hE, hz, hM, fun z => ?_⟩
    obtain ⟨s1, s2⟩ := hs z
    rw [e0]
    exact ⟨s1, fun y => ⟨(s2 y).1, fun p h T a1 a2 a3 a4 a5 => ((s2 y).2 p h T a1 a2 a3 a4 a5).ge e1⟩⟩
theorem rfK.nwc {S S' : ab_S} {im : Nat → Prop} {bh st u z : Nat} {b0 : Nat → Int32} (h : rfK S im bh st b0 u) (hE : sEq [z] S S') (hr : ∀ r, sP S 50 15 = some r → r + 7 < z) (hF : ∀ F, sP S 50 16 = some F → F + 5 < z) : rfK S' im bh st b0 u := by
  rcases h with ⟨h1, h2⟩ | ⟨r, N, kn, rs, b, p, hi, hb, hK, hz, hs, k1, k2, r1, r2, h9, hI, hFo⟩
  · exact Or.inl ⟨by rw [hE.2.2.2.2.1]; exact h1, by rw [hE.2.2.2.2.1]; exact h2⟩
  · have hrz := hr r p
    have hr2 := hK.2.1
    have n : ∀ y, y < z → y ∉ [z] := fun y y1 w => by have := List.mem_singleton.mp w; omega
    have e0 := hE.2.2.1 r (n _ (by omega))
    have e2 := hE.2.2.1 (r + 2) (n _ (by omega))
    refine Or.inr ⟨r, N, kn, rs, b, by rw [hE.2.2.2.2.1]; exact p, hi, hb, hK.eq hE, hz, by rw [e2]; exact hs, by rw [e0]; exact k1, k2, by rw [e0]; exact r1, r2, fun s y1 y2 => by rw [e0]; exact h9 s y1 y2, fun w => ?_, hFo.nwc hE hF⟩
    obtain ⟨k, q1, q2, q3⟩ := hI w
    exact ⟨k, q1, q2.gf (gF.sE hE) hr2 (fun y y1 y2 => n y (by omega)), fun y => q3 (by rw [e0] at y; exact y)⟩
/-- a step in a cell that nobody knows -/
theorem kBd.nwc {S S' : ab_S} {im : Nat → Prop} {a b : Nat → Int32} {c bh nb st st2 u z : Nat} (h : kBd S im a c b bh nb st st2 u) (hE : sEq [z] S S') (hz : 145 ≤ z) (hzi : ¬ im z) (hbz : bh < z) (hr : ∀ r, sP S 50 15 = some r → r + 7 < z) (hF : ∀ F, sP S 50 16 = some F → F + 5 < z) : kBd S' im a c b bh nb st st2 u := by
  obtain ⟨x1, x2, x3, ⟨x4, x5, x6⟩, x7, x8, ⟨x9, x10, x11, x12⟩, ⟨b2, y1, y2, y3⟩, ⟨x14, x15⟩, x16, x17, x18, x19⟩ := h
  have n : ∀ y, y < z → y ∉ [z] := fun y y1 w => by have := List.mem_singleton.mp w; omega
  have hi : ∀ y ∈ [z], ¬ im y := fun y w => by rw [List.mem_singleton.mp w]; exact hzi
  exact ⟨x1.eq hE, x2.gf (gF.sE hE) (by omega) (fun y a1 a2 => n y (by omega)), by rw [hE.1]; exact x3, ⟨x4, fun y w => by rw [hE.2.2.2.2.2.1]; exact x5 y w, by rw [hE.2.2.2.2.2.1]; exact x6⟩, x7, by rw [hE.2.2.2.2.1]; exact x8, ⟨x9, x10, x11.eq hE (n _ (by omega)) hi (n _ (by omega)) (n _ (by omega)) (n _ (by omega)), x12⟩, ⟨b2, y1, y2, y3.eq hE (n _ (by omega)) hi (n _ (by omega)) (n _ (by omega)) (n _ (by omega))⟩, ⟨by rw [hE.2.2.1 84 (n _ (by omega))]; exact x14, by rw [hE.2.2.1 94 (n _ (by omega))]; exact x15⟩, by unfold idR; rw [hE.2.2.2.2.1]; exact x16, x17.nwc hE hr hF, x18, x19⟩
def tb_s_broughtBy : List (Nat × Instr × Nat) := [(0, .aload_n 0, 1), (1, .getfield 81, 3), (4, .iload_n 1, 1), (5, .aload_n 0, 1), (6, .getfield 27, 3), (9, .getfield 180, 3), (12, .invokevirtual 183, 3), (15, .aload_n 0, 1), (16, .getfield 81, 3), (19, .iload_n 2, 1), (20, .aload_n 0, 1), (21, .getfield 27, 3), (24, .getfield 145, 3), (27, .aload_n 0, 1), (28, .getfield 27, 3), (31, .getfield 151, 3), (34, .invokevirtual 167, 3), (37, .ifCond .eq 11, 3), (40, .aload_n 0, 1), (41, .getfield 27, 3), (44, .getfield 145, 3), (47, .ireturn, 1), (48, .aload_n 0, 1), (49, .getfield 81, 3), (52, .aload_n 0, 1), (53, .getfield 27, 3), (56, .getfield 145, 3), (59, .aload_n 0, 1), (60, .getfield 68, 3), (63, .aload_n 0, 1), (64, .getfield 27, 3), (67, .getfield 151, 3), (70, .iload_n 2, 1), (71, .invokevirtual 171, 3), (74, .invokevirtual 174, 3), (77, .ireturn, 1)]
theorem tk_s_broughtBy : ∀ q ∈ tb_s_broughtBy, decode M_s_broughtBy.2.1 q.1 = .ok q.2 := by decide +kernel
theorem b_s_broughtBy {G : ab_G} {S : ab_S} {im : Nat → Prop} {a b : Nat → Int32} {c bh nb st st2 u : Nat} (h : kBd S im a c b bh nb st st2 u) (ht : sdE S 55 (rowT a)) (hu : u + 1 < 2 ^ 20) (r s d : Nat) (hr : r < 4) (hs : s < 4) (hd : d < 4) : ab_C G 4 M_s_broughtBy [.ref 50, .int (nI (seaC (aSn a r s))), .int (nI d)] (sw S) (fun v w' => v = some (.int (nI (aBr a d r s))) ∧ ∃ S' st2', w' = sw S' ∧ sEq [94, 98, 99, 100, 101, 102, 103] S S' ∧ kBd S' im a c b bh nb st st2' (u + 1) ∧ sdE S' 55 (rowT a)) := by
  refine x_enter [some (.ref 50), some (.int (nI (seaC (aSn a r s)))), some (.int (nI d))] (by decide) (Nat.le_of_ble_eq_true rfl) rfl (fun v w' h => by obtain ⟨rfl, -⟩ := h; rfl) ?_
  have hbh := h.bh.1
  have h0 := h
  obtain ⟨hx, hse, kc, ⟨him, hil, h145⟩, ha, hc, ⟨hb1, hb2, hcl, hnb⟩, hcl9, -, hid, -, hu1, hu2⟩ := h0
  have h40 : sI S 55 3 = a 40 := ht.2.2.2.1.trans ha.1.m40.1.symm
  have hca := hcl.1.sta hb2.sy
  obtain ⟨hk, c1, -⟩ := hca
  have hR := ha.1.R.2
  have h50 : 50 ≤ sn S := by omega
  obtain ⟨hq0, hw0, hE0⟩ := rowT_in ha.1
  have hw6 : aW a < 625 := by have := p5_6 hR; omega
  have hq24 := Nat.lt_of_lt_of_le hq0 (kFc_le (aR a))
  obtain ⟨k1, k2, k3, k4⟩ := aSn_ok ha.1 hr hs
  have hs1 : sta a (aSn a r s) := sta.sn hr
  have hg1 : aGood (aSn a r s) := ha.sta k1 hs1
  have h403 : sI S 55 3 = aSn a r s 40 := by rw [k4]; exact h40
  have eY : aY (aSn a r s) (aSn a r s 40) (cSt (aR (aSn a r s)) (aW a) (aQ a)) d = aY (aSn a r s) (a 40) (aE a) d := by rw [k4, k2, ← hE0]
  have hYl := aY_lt (aSn a r s) (a 40) (aE a) d
  refine x_aload_n 1 0 (ab_dd tk_s_broughtBy 0 rfl) rfl rfl rfl ?_
  refine t_getP 4 94 (ab_dd tk_s_broughtBy 1 rfl) rfl F_s_81 (by decide) (Nat.lt_of_lt_of_le (by decide) hx.1) (hx.2.1 0 (by decide)) rfl (hx.2.2 (50, 13, 94) (by decide)) ?_
  refine x_iload_n 5 1 (ab_dd tk_s_broughtBy 2 rfl) rfl rfl rfl ?_
  refine x_aload_n 6 0 (ab_dd tk_s_broughtBy 3 rfl) rfl rfl rfl ?_
  refine t_getP 9 55 (ab_dd tk_s_broughtBy 4 rfl) rfl F_s_27 (by decide) (Nat.lt_of_lt_of_le (by decide) hx.1) (hx.2.1 0 (by decide)) rfl (hx.2.2 (50, 3, 55) (by decide)) ?_
  refine t_getI 12 (ab_dd tk_s_broughtBy 5 rfl) rfl F_s_180 (by decide) (Nat.lt_of_lt_of_le (by decide) hx.1) (hx.2.1 5 (by decide)) rfl (x_topx (aSn a r s 40) h403 ?_)
  refine t_callV 15 M_cl_suppose 0 2 [_, _] (ab_dd tk_s_broughtBy 6 rfl) rfl (by first | decide | omega) K_cl_suppose V_cl_suppose.1 V_cl_suppose.2 L_s_183 rfl (Nat.le_of_ble_eq_true rfl) (by decide) (Nat.lt_of_lt_of_le (by decide) hx.1) (hx.2.1 44 (by decide)) rfl (b_supp h ht hu k1 hs1) (fun v1 w1 h1 => ?_)
  obtain ⟨rfl, S1, s1, rfl, hE1, hcl1, hB1, hn1⟩ := h1
  have hB1c := hB1
  obtain ⟨hx1, hse1, kc1, -⟩ := hB1c
  have hs1u := hB1.2.2.2.2.2.2.2.2.2.2.2.2
  refine x_aload_n 16 0 (ab_dd tk_s_broughtBy 7 rfl) rfl rfl rfl ?_
  refine t_getP 19 94 (ab_dd tk_s_broughtBy 8 rfl) rfl F_s_81 (by decide) (Nat.lt_of_lt_of_le (by decide) hx1.1) (hx1.2.1 0 (by decide)) rfl (hx1.2.2 (50, 13, 94) (by decide)) ?_
  refine x_iload_n 20 2 (ab_dd tk_s_broughtBy 9 rfl) rfl rfl rfl ?_
  refine x_aload_n 21 0 (ab_dd tk_s_broughtBy 10 rfl) rfl rfl rfl ?_
  refine t_getP 24 55 (ab_dd tk_s_broughtBy 11 rfl) rfl F_s_27 (by decide) (Nat.lt_of_lt_of_le (by decide) hx1.1) (hx1.2.1 0 (by decide)) rfl (hx1.2.2 (50, 3, 55) (by decide)) ?_
  refine t_getI 27 (ab_dd tk_s_broughtBy 12 rfl) rfl F_s_145 (by decide) (Nat.lt_of_lt_of_le (by decide) hx1.1) (hx1.2.1 5 (by decide)) rfl (x_topn (aW a) hn1.2.1 ?_)
  refine x_aload_n 28 0 (ab_dd tk_s_broughtBy 13 rfl) rfl rfl rfl ?_
  refine t_getP 31 55 (ab_dd tk_s_broughtBy 14 rfl) rfl F_s_27 (by decide) (Nat.lt_of_lt_of_le (by decide) hx1.1) (hx1.2.1 0 (by decide)) rfl (hx1.2.2 (50, 3, 55) (by decide)) ?_
  refine t_getI 34 (ab_dd tk_s_broughtBy 15 rfl) rfl F_s_151 (by decide) (Nat.lt_of_lt_of_le (by decide) hx1.1) (hx1.2.1 5 (by decide)) rfl (x_topn (aQ a) hn1.2.2.1 ?_)
  refine t_callV 37 M_cl_whyNot 3 3 [_, _, _] (ab_dd tk_s_broughtBy 16 rfl) rfl (by first | decide | omega) K_cl_whyNot V_cl_whyNot.1 V_cl_whyNot.2 L_s_167 rfl (Nat.le_of_ble_eq_true rfl) (by decide) (Nat.lt_of_lt_of_le (by decide) hx1.1) (hx1.2.1 44 (by decide)) rfl (c_cl_whyNot (hx1.cl (Or.inr rfl)) him hcl1 hx1 hse1 kc1 hg1 d (aW a) (aQ a) (by omega) hw6 (by rw [k2]; exact hq0)) (fun v1 w1 h1 => ?_)
  obtain ⟨rfl, S2, rfl, hE2, hcl2⟩ := h1
  rw [eY]
  have hB2 : kBd S2 im a c b bh nb st s1 (u + 1) := hB1.se94 hE2 (fun y hy => by simp only [List.mem_cons, List.not_mem_nil, or_false] at hy; omega) ⟨_, k1, hs1, hcl2⟩ (congrFun (hE2.2.2.1 94 (by simp only [List.mem_cons, List.not_mem_nil, or_false, not_or]; omega)) 1) (Nat.le_refl _) hs1u
  have hB2c := hB2
  obtain ⟨hx2, hse2, kc2, -⟩ := hB2c
  have hn2 : sdE S2 55 (rowT a) := hn1.eq hE2 (by simp only [List.mem_cons, List.not_mem_nil, or_false, not_or]; omega)
  have hE12 : sEq [94, 98, 99, 100, 101, 102, 103] S S2 := (hE1.mono (fun y hy => by simp only [List.mem_cons, List.not_mem_nil, or_false] at hy ⊢; omega)).tr (hE2.mono (fun y hy => by simp only [List.mem_cons, List.not_mem_nil, or_false] at hy ⊢; omega))
  refine xn_if_eq 40 48 (ab_dd tk_s_broughtBy 17 rfl) rfl (by decide) (by omega) (fun h37 => ?_) (fun h37 => ?_)
  · have hdR : d < aR (aSn a r s) ∨ d = 0 := aY_0 (mo := a 40) (c := aE a) h37
    have hsw := cB_sw0 (a := aSn a r s) (w := aW a) (q := aQ a) (by rw [k2]; exact hR) (by rw [k2]; exact hq0) (by rw [k2]; exact hw0) hdR
    have hcq := hsw.2
    refine x_aload_n 49 0 (ab_dd tk_s_broughtBy 22 rfl) rfl rfl rfl ?_
    refine t_getP 52 94 (ab_dd tk_s_broughtBy 23 rfl) rfl F_s_81 (by decide) (Nat.lt_of_lt_of_le (by decide) hx2.1) (hx2.2.1 0 (by decide)) rfl (hx2.2.2 (50, 13, 94) (by decide)) ?_
    refine x_aload_n 53 0 (ab_dd tk_s_broughtBy 24 rfl) rfl rfl rfl ?_
    refine t_getP 56 55 (ab_dd tk_s_broughtBy 25 rfl) rfl F_s_27 (by decide) (Nat.lt_of_lt_of_le (by decide) hx2.1) (hx2.2.1 0 (by decide)) rfl (hx2.2.2 (50, 3, 55) (by decide)) ?_
    refine t_getI 59 (ab_dd tk_s_broughtBy 26 rfl) rfl F_s_145 (by decide) (Nat.lt_of_lt_of_le (by decide) hx2.1) (hx2.2.1 5 (by decide)) rfl (x_topn (aW a) hn2.2.1 ?_)
    refine x_aload_n 60 0 (ab_dd tk_s_broughtBy 27 rfl) rfl rfl rfl ?_
    refine t_getP 63 78 (ab_dd tk_s_broughtBy 28 rfl) rfl F_s_68 (by decide) (Nat.lt_of_lt_of_le (by decide) hx2.1) (hx2.2.1 0 (by decide)) rfl (hx2.2.2 (50, 11, 78) (by decide)) ?_
    refine x_aload_n 64 0 (ab_dd tk_s_broughtBy 29 rfl) rfl rfl rfl ?_
    refine t_getP 67 55 (ab_dd tk_s_broughtBy 30 rfl) rfl F_s_27 (by decide) (Nat.lt_of_lt_of_le (by decide) hx2.1) (hx2.2.1 0 (by decide)) rfl (hx2.2.2 (50, 3, 55) (by decide)) ?_
    refine t_getI 70 (ab_dd tk_s_broughtBy 31 rfl) rfl F_s_151 (by decide) (Nat.lt_of_lt_of_le (by decide) hx2.1) (hx2.2.1 5 (by decide)) rfl (x_topn (aQ a) hn2.2.2.1 ?_)
    refine x_iload_n 71 2 (ab_dd tk_s_broughtBy 32 rfl) rfl rfl rfl ?_
    refine t_callV 74 M_se_changed 0 2 [_, _] (ab_dd tk_s_broughtBy 33 rfl) rfl (by first | decide | omega) K_se_changed V_se_changed.1 V_se_changed.2 L_s_171 rfl (Nat.le_of_ble_eq_true rfl) (by decide) (Nat.lt_of_lt_of_le (by decide) hx2.1) (hx2.2.1 28 (by decide)) rfl (c_se_changed hx2 hse2 (aQ a) d hq24 hd) (fun v1 w1 h1 => ?_)
    obtain ⟨rfl, rfl⟩ := h1
    refine t_callV 77 M_cl_behind 3 2 [_, _] (ab_dd tk_s_broughtBy 34 rfl) rfl (by first | decide | omega) K_cl_behind V_cl_behind.1 V_cl_behind.2 L_s_174 rfl (Nat.le_of_ble_eq_true rfl) (by decide) (Nat.lt_of_lt_of_le (by decide) hx2.1) (hx2.2.1 44 (by decide)) rfl (c_cl_behind (hx2.cl (Or.inr rfl)) him hcl2 hx2 hse2 kc2 hg1 (aW a) (qCh (aQ a) d) (by rw [k2]; exact hw0) hcq) (fun v1 w1 h1 => ?_)
    obtain ⟨rfl, S3, rfl, hE3, hcl3⟩ := h1
    have hB3 : kBd S3 im a c b bh nb st s1 (u + 1) := hB2.se94 hE3 (fun y hy => by simp only [List.mem_cons, List.not_mem_nil, or_false] at hy; omega) ⟨_, k1, hs1, hcl3⟩ (congrFun (hE3.2.2.1 94 (by simp only [List.mem_cons, List.not_mem_nil, or_false, not_or]; omega)) 1) (Nat.le_refl _) hs1u
    have hcb : cB (aSn a r s) (aW a) (qCh (aQ a) d) < 625 := Nat.mod_lt _ (by decide)
    have eA : aBr a d r s = cB (aSn a r s) (aW a) (qCh (aQ a) d) := by
      unfold aBr
      have e2 := hsw.1
      rw [k4, k2, ← hE0] at e2
      rw [if_pos h37, e2]
      unfold cSt
      omega
    rw [eA]
    exact x_iret (ab_dd tk_s_broughtBy 35 rfl) ⟨rfl, S3, s1, rfl, hE12.tr (hE3.mono (fun y hy => by simp only [List.mem_cons, List.not_mem_nil, or_false] at hy ⊢; omega)), hB3, hn2.eq hE3 (by simp only [List.mem_cons, List.not_mem_nil, or_false, not_or]; omega)⟩
  · refine x_aload_n 41 0 (ab_dd tk_s_broughtBy 18 rfl) rfl rfl rfl ?_
    refine t_getP 44 55 (ab_dd tk_s_broughtBy 19 rfl) rfl F_s_27 (by decide) (Nat.lt_of_lt_of_le (by decide) hx2.1) (hx2.2.1 0 (by decide)) rfl (hx2.2.2 (50, 3, 55) (by decide)) ?_
    refine t_getI 47 (ab_dd tk_s_broughtBy 20 rfl) rfl F_s_145 (by decide) (Nat.lt_of_lt_of_le (by decide) hx2.1) (hx2.2.1 5 (by decide)) rfl (x_topn (aW a) hn2.2.1 ?_)
    have eA : aBr a d r s = aW a := by
      unfold aBr
      rw [if_neg (by omega)]
      rfl
    rw [eA]
    exact x_iret (ab_dd tk_s_broughtBy 21 rfl) ⟨rfl, S2, s1, rfl, hE12, hB2, hn2⟩
def tb_s_mostAlike : List (Nat × Instr × Nat) := [(0, .iconst 4, 1), (1, .newarray .int, 2), (3, .astore 4, 2), (5, .iconst 0, 1), (6, .istore 5, 2), (8, .iconst 0, 1), (9, .istore 6, 2), (11, .iload 6, 2), (13, .iconst 4, 1), (14, .if_icmp .ge 98, 3), (17, .aload 4, 2), (19, .iload 6, 2), (21, .iconst (-1), 1), (22, .iastore, 1), (23, .iload_n 1, 1), (24, .iload 6, 2), (26, .ishr, 1), (27, .iconst 1, 1), (28, .iand, 1), (29, .ifCond .eq 77, 3), (32, .aload 4, 2), (34, .iload 6, 2), (36, .aload_n 0, 1), (37, .aload_n 0, 1), (38, .getfield 27, 3), (41, .getfield 134, 3), (44, .iload_n 2, 1), (45, .iload 6, 2), (47, .invokestatic 266, 3), (50, .iload_n 3, 1), (51, .invokevirtual 370, 3), (54, .iastore, 1), (55, .iconst 0, 1), (56, .istore 7, 2), (58, .iconst 0, 1), (59, .istore 8, 2), (61, .iload 8, 2), (63, .iload 6, 2), (65, .if_icmp .gt 32, 3), (68, .iload 7, 2), (70, .aload 4, 2), (72, .iload 8, 2), (74, .iaload, 1), (75, .aload 4, 2), (77, .iload 6, 2), (79, .iaload, 1), (80, .if_icmp .ne 7, 3), (83, .iconst 1, 1), (84, .goto 4, 3), (87, .iconst 0, 1), (88, .iadd, 1), (89, .istore 7, 2), (91, .iinc 8 1, 3), (94, .goto (-33), 3), (97, .iload 5, 2), (99, .iload 7, 2), (101, .invokestatic 373, 3), (104, .istore 5, 2), (106, .iinc 6 1, 3), (109, .goto (-98), 3), (112, .iload 5, 2), (114, .ireturn, 1)]
theorem tk_s_mostAlike : ∀ q ∈ tb_s_mostAlike, decode M_s_mostAlike.2.1 q.1 = .ok q.2 := by decide +kernel
theorem b_s_mostAlike {G : ab_G} {S : ab_S} {im : Nat → Prop} {a b : Nat → Int32} {c bh nb st st2 u : Nat} (h : kBd S im a c b bh nb st st2 u) (ht : sdE S 55 (rowT a)) (hu : u + 4 < 2 ^ 20) (g r d : Nat) (hg : g < 16) (hr : r < 4) (hd : d < 4) : ab_C G 5 M_s_mostAlike [.ref 50, .int (nI g), .int (nI r), .int (nI d)] (sw S) (fun v w' => v = some (.int (nI (grA (aBw a d r g) 4))) ∧ ∃ S' st2', w' = sw S' ∧ fAs im bh S S' ∧ gA S S' 1 4 ∧ kBd S' im a c b bh nb st st2' (u + 4) ∧ sdE S' 55 (rowT a)) := by
  refine x_enter [some (.ref 50), some (.int (nI g)), some (.int (nI r)), some (.int (nI d)), none, none, none, none, none] (by decide) (Nat.le_of_ble_eq_true rfl) rfl (fun v w' h => by obtain ⟨rfl, -⟩ := h; rfl) ?_
  have hbh := h.bh.1
  have h0 := h
  obtain ⟨hx, hse, kc, ⟨him, hil, h145⟩, ha, hc, ⟨hb1, hb2, hcl, hnb⟩, hcl9, -, hid, -, hu1, hu2⟩ := h0
  have h40 : sI S 55 3 = a 40 := ht.2.2.2.1.trans ha.1.m40.1.symm
  have hca := hcl.1.sta hb2.sy
  obtain ⟨hk, c1, -⟩ := hca
  have hR := ha.1.R.2
  have h50 : 50 ≤ sn S := by omega
  obtain ⟨hq0, hw0, hE0⟩ := rowT_in ha.1
  have hw6 : aW a < 625 := by have := p5_6 hR; omega
  have hq24 := Nat.lt_of_lt_of_le hq0 (kFc_le (aR a))
  have hsl := seaC_lt ha.1
  have g1 : grE S (pN S (.inl (.int, 4)) 4) 1 4 := grE.of nwE.rf
  have hB1 := h.gr g1
  have hn1 : sdE (pN S (.inl (.int, 4)) 4) 55 (rowT a) := ht.gf (gF.gr g1) (by omega) (fun z => z)
  have hzi : ¬ im (sn S) := fun w => by have := hil _ w; omega
  have hbz : bh < sn S := hcl.2.2.2.2.2.2.2.1.2
  have p50 : sP (pN S (.inl (.int, 4)) 4) 50 = sP S 50 := up1_o (by omega)
  have hrf := h.2.2.2.2.2.2.2.2.2.2.1
  have hr0 : ∀ r, sP (pN S (.inl (.int, 4)) 4) 50 15 = some r → r + 7 < sn S := fun r z => by
    rw [p50] at z
    rcases hrf with ⟨y, -⟩ | ⟨r0, N0, kn, rs, b1, p, hi, hb, hK, -⟩
    · rw [y] at z; cases z
    · rw [p] at z; cases z; exact hK.2.1
  have hF0 : ∀ r, sP (pN S (.inl (.int, 4)) 4) 50 16 = some r → r + 5 < sn S := fun r z => by
    rw [p50] at z
    rcases hrf with ⟨-, y⟩ | ⟨r0, N0, kn, rs, b1, p, hi, hb, hK, hz0, hs, k1, k2, r1, r2, h90, hI, hFo⟩
    · rw [y] at z; cases z
    · rcases hFo with y | ⟨F, M, pF, hiF, hbF, hrF, hKF, -⟩
      · rw [y] at z; cases z
      · rw [pF] at z; cases z; exact hKF.2.1
  have loop : ∀ (n k : Nat), k + n = 4 → ∀ y7 y8 : Option Value, ∀ (S2 : ab_S) (s2 : Nat), sEq [94, 98, 99, 100, 101, 102, 103, sn S] (pN S (.inl (.int, 4)) 4) S2 → kBd S2 im a c b bh nb st s2 (u + k) → sdE S2 55 (rowT a) → (∀ i, i < k → sI S2 (sn S) i = (aBw a d r g) i) → ab_Ex G 5 M_s_mostAlike 11 [some (.ref 50), some (.int (nI g)), some (.int (nI r)), some (.int (nI d)), some (.ref (sn S)), some (.int (nI (grU (aBw a d r g) k))), some (.int (nI k)), y7, y8] [] (sw S2) (fun v w' => v = some (.int (nI (grA (aBw a d r g) 4))) ∧ ∃ S' st2', w' = sw S' ∧ fAs im bh S S' ∧ gA S S' 1 4 ∧ kBd S' im a c b bh nb st st2' (u + 4) ∧ sdE S' 55 (rowT a)) := by
    intro n
    induction n with
    | zero =>
      intro k hkm y7 y8 S2 s2 hE2 hB2 hn2 hv2
      have hkq : k = 4 := by omega
      rw [hkq] at hB2 ⊢
      have eg := grU_A (aBw a d r g)
      refine x_iload 13 6 (ab_dd tk_s_mostAlike 7 rfl) rfl rfl ?_
      refine x_iconst 14 4 (ab_dd tk_s_mostAlike 8 rfl) rfl (by decide) (x_topn 4 rfl ?_)
      refine x_icmp_ge_t 112 (ab_dd tk_s_mostAlike 9 rfl) (by decide) (by decide) ?_
      refine x_iload 114 5 (ab_dd tk_s_mostAlike 60 rfl) rfl rfl ?_
      have hF2 : fAs im bh S S2 := (fAs.of (gF.gr g1) (by omega) (fun y _ z => z.elim) (by omega)).tr (fAs.of (gF.sE hE2) (by show 50 < sn S + 1; omega) (fun y _ z => by simp only [List.mem_cons, List.not_mem_nil, or_false] at z; rcases z with z | z | z | z | z | z | z | z; (omega); (omega); (omega); (omega); (omega); (omega); (omega); exact Or.inr (Or.inr (Or.inr ⟨by omega, fun w => by have := hil y w; omega⟩))) (by omega))
      rw [← eg]
      exact x_iret (ab_dd tk_s_mostAlike 61 rfl) ⟨rfl, S2, s2, rfl, hF2, (gA.gr h g1).tr (gA.sE hE2), hB2, hn2⟩
    | succ n ih =>
      intro k hkm y7 y8 S2 s2 hE2 hB2 hn2 hv2
      have hx2 : xSh S2 := hB2.1
      have hK2 : sK S2 (sn S) = .inl (.int, 4) := by rw [hE2.2.1]; exact up1_s
      have hnn2 : sn S < sn S2 := by rw [hE2.2.2.2.2.2.1]; exact Nat.lt_succ_self _
      have hgu : grU (aBw a d r g) k ≤ 4 := by
        have z : ∀ j, j ≤ 4 → grU (aBw a d r g) j ≤ 4 := by
          intro j
          induction j with
          | zero => intro _; exact Nat.zero_le _
          | succ j jh =>
            intro hj
            have e : grU (aBw a d r g) (j + 1) = if ctA (aBw a d r g) j (j + 1) ≤ grU (aBw a d r g) j then grU (aBw a d r g) j else ctA (aBw a d r g) j (j + 1) := rfl
            have := ctA_le (aBw a d r g) j (j + 1)
            have := jh (by omega)
            rw [e]; split <;> omega
        exact z k (by omega)
      refine x_iload 13 6 (ab_dd tk_s_mostAlike 7 rfl) rfl rfl ?_
      refine x_iconst 14 4 (ab_dd tk_s_mostAlike 8 rfl) rfl (by decide) (x_topn 4 rfl ?_)
      refine x_icmp_ge_f 17 (ab_dd tk_s_mostAlike 9 rfl) rfl 112 (by decide) (fun z => absurd ((nI_leI (a := 4) (b := k) (by omega) (by omega)).mp z) (show ¬ (4 ≤ k) by omega)) ?_
      refine x_aload 19 4 (ab_dd tk_s_mostAlike 10 rfl) rfl rfl ?_
      refine x_iload 21 6 (ab_dd tk_s_mostAlike 11 rfl) rfl rfl ?_
      refine x_iconst 22 (-1) (ab_dd tk_s_mostAlike 12 rfl) rfl (by decide) ?_
      refine t_iast 23 k (ab_dd tk_s_mostAlike 13 rfl) rfl (show 50 ≤ sn S by omega) hnn2 hK2 rfl (by omega) (by decide) ?_
      have hE3 : sEq [94, 98, 99, 100, 101, 102, 103, sn S] (pN S (.inl (.int, 4)) 4) (pI S2 (sn S) k (-1)) := hE2.pI (by simp only [List.mem_cons, true_or, or_true])
      have hEs : sEq [sn S] S2 (pI S2 (sn S) k (-1)) := sEq.rf.pI (List.mem_singleton.mpr rfl)
      have hB3 : kBd (pI S2 (sn S) k (-1)) im a c b bh nb st s2 (u + k) := hB2.nwc hEs h145 hzi hbz (fun r z => hr0 r (by rw [← hE2.2.2.2.2.1]; exact z)) (fun r z => hF0 r (by rw [← hE2.2.2.2.2.1]; exact z))
      have hx3 : xSh (pI S2 (sn S) k (-1)) := hB3.1
      have hn3 : sdE (pI S2 (sn S) k (-1)) 55 (rowT a) := hn2.eq hEs (fun z => by have := List.mem_singleton.mp z; omega)
      have hK3 : sK (pI S2 (sn S) k (-1)) (sn S) = .inl (.int, 4) := hK2
      have hnn3 : sn S < sn (pI S2 (sn S) k (-1)) := hnn2
      refine x_iload_n 24 1 (ab_dd tk_s_mostAlike 14 rfl) rfl rfl rfl ?_
      refine x_iload 26 6 (ab_dd tk_s_mostAlike 15 rfl) rfl rfl ?_
      refine x_ishr 27 (ab_dd tk_s_mostAlike 16 rfl) rfl ?_
      refine x_iconst 28 1 (ab_dd tk_s_mostAlike 17 rfl) rfl (by decide) (x_topn 1 rfl ?_)
      refine x_iand 29 (ab_dd tk_s_mostAlike 18 rfl) rfl (x_topn (g / 2 ^ k % 2) ((bit_N hg (by omega)).1) ?_)
      refine xn_if_eq 32 106 (ab_dd tk_s_mostAlike 19 rfl) rfl (by decide) (by omega) (fun h29 => ?_) (fun h29 => ?_)
      · refine xn_iinc 109 6 (fun y => [some (.ref 50), some (.int (nI g)), some (.int (nI r)), some (.int (nI d)), some (.ref (sn S)), some (.int (nI (grU (aBw a d r g) k))), some (.int y), y7, y8]) (k + 1) (ab_dd tk_s_mostAlike 58 rfl) rfl (by decide) rfl (fun _ => rfl) (iinc_p 1) ?_
        refine x_goto 11 (ab_dd tk_s_mostAlike 59 rfl) (by decide) ?_
        have hbt : ¬ bt g k := fun z => by have z : g / 2 ^ k % 2 = 1 := z; omega
        have ewk : (aBw a d r g) k = -1 := if_neg hbt
        have ih2 := ih (k + 1) (by omega) y7 y8 (pI S2 (sn S) k (-1)) s2 hE3 (hB3.up (by omega)) hn3 (fun i hi => by
          by_cases z : i = k
          · rw [z, ewk]; exact gI_s
          · exact (gI_k z).trans (hv2 i (by omega)))
        rw [grU_0 ewk] at ih2
        exact ih2
      · refine x_aload 34 4 (ab_dd tk_s_mostAlike 20 rfl) rfl rfl ?_
        refine x_iload 36 6 (ab_dd tk_s_mostAlike 21 rfl) rfl rfl ?_
        refine x_aload_n 37 0 (ab_dd tk_s_mostAlike 22 rfl) rfl rfl rfl ?_
        refine x_aload_n 38 0 (ab_dd tk_s_mostAlike 23 rfl) rfl rfl rfl ?_
        refine t_getP 41 55 (ab_dd tk_s_mostAlike 24 rfl) rfl F_s_27 (by decide) (Nat.lt_of_lt_of_le (by decide) hx3.1) (hx3.2.1 0 (by decide)) rfl (hx3.2.2 (50, 3, 55) (by decide)) ?_
        refine t_getI 44 (ab_dd tk_s_mostAlike 25 rfl) rfl F_s_134 (by decide) (Nat.lt_of_lt_of_le (by decide) hx3.1) (hx3.2.1 5 (by decide)) rfl (x_topn (seaC a) hn3.1 ?_)
        refine x_iload_n 45 2 (ab_dd tk_s_mostAlike 26 rfl) rfl rfl rfl ?_
        refine x_iload 47 6 (ab_dd tk_s_mostAlike 27 rfl) rfl rfl ?_
        refine x_callS 50 M_s_withSeason 0 3 [_, _, _] (ab_dd tk_s_mostAlike 28 rfl) rfl (by first | decide | omega) K_s_withSeason T_s_withSeason L_s_266 rfl (Nat.le_of_ble_eq_true rfl) (c_s_withSeason (seaC a) r k hsl hr (by omega)) (fun v1 w1 h1 => ?_)
        obtain ⟨rfl, rfl⟩ := h1
        rw [sea_sn ha.1 hr (show k < 4 by omega)]
        refine x_iload_n 51 3 (ab_dd tk_s_mostAlike 29 rfl) rfl rfl rfl ?_
        refine t_callV 54 M_s_broughtBy 4 2 [_, _] (ab_dd tk_s_mostAlike 30 rfl) rfl (by first | decide | omega) K_s_broughtBy V_s_broughtBy.1 V_s_broughtBy.2 L_s_370 rfl (Nat.le_of_ble_eq_true rfl) (by decide) (Nat.lt_of_lt_of_le (by decide) hx3.1) (hx3.2.1 0 (by decide)) rfl (b_s_broughtBy hB3 hn3 (by omega) r k d hr (by omega) hd) (fun v1 w1 h1 => ?_)
        obtain ⟨rfl, S4, s4, rfl, hE4, hB4, hn4⟩ := h1
        have hx4 : xSh S4 := hB4.1
        have hK4 : sK S4 (sn S) = .inl (.int, 4) := by rw [hE4.2.1]; exact hK3
        have hnn4 : sn S < sn S4 := by rw [hE4.2.2.2.2.2.1]; exact hnn3
        have hbr := aBr_lt (a := a) (d := d) (p := r) (s := k)
        have e4z : sI S4 (sn S) = sI (pI S2 (sn S) k (-1)) (sn S) := hE4.2.2.1 _ (fun z => by simp only [List.mem_cons, List.not_mem_nil, or_false] at z; omega)
        refine t_iast 55 k (ab_dd tk_s_mostAlike 31 rfl) rfl (show 50 ≤ sn S by omega) hnn4 hK4 rfl (by omega) (by decide) ?_
        refine x_iconst 56 0 (ab_dd tk_s_mostAlike 32 rfl) rfl (by decide) (x_topn 0 rfl ?_)
        refine x_istore 58 [some (.ref 50), some (.int (nI g)), some (.int (nI r)), some (.int (nI d)), some (.ref (sn S)), some (.int (nI (grU (aBw a d r g) k))), some (.int (nI k)), some (.int (nI 0)), y8] 7 (ab_dd tk_s_mostAlike 33 rfl) rfl (by decide) rfl ?_
        refine x_iconst 59 0 (ab_dd tk_s_mostAlike 34 rfl) rfl (by decide) (x_topn 0 rfl ?_)
        refine x_istore 61 [some (.ref 50), some (.int (nI g)), some (.int (nI r)), some (.int (nI d)), some (.ref (sn S)), some (.int (nI (grU (aBw a d r g) k))), some (.int (nI k)), some (.int (nI 0)), some (.int (nI 0))] 8 (ab_dd tk_s_mostAlike 35 rfl) rfl (by decide) rfl ?_
        have hbt : bt g k := by
          show g / 2 ^ k % 2 = 1
          have : g / 2 ^ k % 2 < 2 := Nat.mod_lt _ (by decide)
          omega
        have ewk : (aBw a d r g) k = nI (aBr a d r k) := if_pos hbt
        have hE5 : sEq [94, 98, 99, 100, 101, 102, 103, sn S] (pN S (.inl (.int, 4)) 4) (pI S4 (sn S) k (nI (aBr a d r k))) := (hE3.tr (hE4.mono (fun y hy => by simp only [List.mem_cons, List.not_mem_nil, or_false] at hy ⊢; omega))).pI (by simp only [List.mem_cons, true_or, or_true])
        have hEt : sEq [sn S] S4 (pI S4 (sn S) k (nI (aBr a d r k))) := sEq.rf.pI (List.mem_singleton.mpr rfl)
        have hB5 : kBd (pI S4 (sn S) k (nI (aBr a d r k))) im a c b bh nb st s4 (u + k + 1) := hB4.nwc hEt h145 hzi hbz (fun r z => hr0 r (by rw [← hE3.2.2.2.2.1, ← hE4.2.2.2.2.1]; exact z)) (fun r z => hF0 r (by rw [← hE3.2.2.2.2.1, ← hE4.2.2.2.2.1]; exact z))
        have hx5 : xSh (pI S4 (sn S) k (nI (aBr a d r k))) := hB5.1
        have hn5 : sdE (pI S4 (sn S) k (nI (aBr a d r k))) 55 (rowT a) := hn4.eq hEt (fun z => by have := List.mem_singleton.mp z; omega)
        have hK5 : sK (pI S4 (sn S) k (nI (aBr a d r k))) (sn S) = .inl (.int, 4) := hK4
        have hnn5 : sn S < sn (pI S4 (sn S) k (nI (aBr a d r k))) := hnn4
        have hv5 : ∀ i, i < k + 1 → sI (pI S4 (sn S) k (nI (aBr a d r k))) (sn S) i = (aBw a d r g) i := fun i hi => by
          by_cases z : i = k
          · rw [z, ewk]; exact gI_s
          · refine (gI_k z).trans ?_
            rw [e4z]
            refine (gI_k z).trans ?_
            exact hv2 i (by omega)
        have inner : ∀ (m j : Nat), j + m = k + 1 → ab_Ex G 5 M_s_mostAlike 61 [some (.ref 50), some (.int (nI g)), some (.int (nI r)), some (.int (nI d)), some (.ref (sn S)), some (.int (nI (grU (aBw a d r g) k))), some (.int (nI k)), some (.int (nI (ctA (aBw a d r g) k j))), some (.int (nI j))] [] (sw (pI S4 (sn S) k (nI (aBr a d r k)))) (fun v w' => v = some (.int (nI (grA (aBw a d r g) 4))) ∧ ∃ S' st2', w' = sw S' ∧ fAs im bh S S' ∧ gA S S' 1 4 ∧ kBd S' im a c b bh nb st st2' (u + 4) ∧ sdE S' 55 (rowT a)) := by
          intro m
          induction m with
          | zero =>
            intro j hj
            have hjk : j = k + 1 := by omega
            rw [hjk]
            have hcl := ctA_le (aBw a d r g) k (k + 1)
            refine x_iload 63 8 (ab_dd tk_s_mostAlike 36 rfl) rfl rfl ?_
            refine x_iload 65 6 (ab_dd tk_s_mostAlike 37 rfl) rfl rfl ?_
            refine x_icmp_gt_t 97 (ab_dd tk_s_mostAlike 38 rfl) (by decide) ((nI_ltI (a := k) (b := (k + 1)) (by omega) (by omega)).mpr (show k < (k + 1) by omega)) ?_
            refine x_iload 99 5 (ab_dd tk_s_mostAlike 54 rfl) rfl rfl ?_
            refine x_iload 101 7 (ab_dd tk_s_mostAlike 55 rfl) rfl rfl ?_
            refine x_callS 104 M_jM_max 0 2 [_, _] (ab_dd tk_s_mostAlike 56 rfl) rfl (by first | decide | omega) K_jM_max T_jM_max L_s_373 rfl (Nat.le_of_ble_eq_true rfl) (w_max _ (grU (aBw a d r g) k) (ctA (aBw a d r g) k (k + 1)) (by omega) (by omega)) (fun v1 w1 h1 => ?_)
            obtain ⟨rfl, rfl⟩ := h1
            refine x_istore 106 [some (.ref 50), some (.int (nI g)), some (.int (nI r)), some (.int (nI d)), some (.ref (sn S)), some (.int (nI (grU (aBw a d r g) (k + 1)))), some (.int (nI k)), some (.int (nI (ctA (aBw a d r g) k (k + 1)))), some (.int (nI (k + 1)))] 5 (ab_dd tk_s_mostAlike 57 rfl) rfl (by decide) rfl ?_
            refine xn_iinc 109 6 (fun y => [some (.ref 50), some (.int (nI g)), some (.int (nI r)), some (.int (nI d)), some (.ref (sn S)), some (.int (nI (grU (aBw a d r g) (k + 1)))), some (.int y), some (.int (nI (ctA (aBw a d r g) k (k + 1)))), some (.int (nI (k + 1)))]) (k + 1) (ab_dd tk_s_mostAlike 58 rfl) rfl (by decide) rfl (fun _ => rfl) (iinc_p 1) ?_
            refine x_goto 11 (ab_dd tk_s_mostAlike 59 rfl) (by decide) ?_
            exact ih (k + 1) (by omega) _ _ (pI S4 (sn S) k (nI (aBr a d r k))) s4 hE5 hB5 hn5 hv5
          | succ m jh =>
            intro j hj
            have hcl := ctA_le (aBw a d r g) k j
            have vj := hv5 j (by omega)
            have vk := hv5 k (by omega)
            have hne : (aBw a d r g) k ≠ -1 := by rw [ewk]; exact nI_m1 (by omega)
            refine x_iload 63 8 (ab_dd tk_s_mostAlike 36 rfl) rfl rfl ?_
            refine x_iload 65 6 (ab_dd tk_s_mostAlike 37 rfl) rfl rfl ?_
            refine x_icmp_gt_f 68 (ab_dd tk_s_mostAlike 38 rfl) rfl 97 (by decide) (fun z => absurd ((nI_ltI (a := k) (b := j) (by omega) (by omega)).mp z) (show ¬ (k < j) by omega)) ?_
            refine x_iload 70 7 (ab_dd tk_s_mostAlike 39 rfl) rfl rfl ?_
            refine x_aload 72 4 (ab_dd tk_s_mostAlike 40 rfl) rfl rfl ?_
            refine x_iload 74 8 (ab_dd tk_s_mostAlike 41 rfl) rfl rfl ?_
            refine t_iald 75 j (ab_dd tk_s_mostAlike 42 rfl) rfl (show 50 ≤ sn S by omega) hnn5 hK5 rfl (by omega) (by decide) (x_topx ((aBw a d r g) j) vj ?_)
            refine x_aload 77 4 (ab_dd tk_s_mostAlike 43 rfl) rfl rfl ?_
            refine x_iload 79 6 (ab_dd tk_s_mostAlike 44 rfl) rfl rfl ?_
            refine t_iald 80 k (ab_dd tk_s_mostAlike 45 rfl) rfl (show 50 ≤ sn S by omega) hnn5 hK5 rfl (by omega) (by decide) (x_topx ((aBw a d r g) k) vk ?_)
            refine x_icmp_ne 83 87 (ab_dd tk_s_mostAlike 46 rfl) rfl (by decide) (fun h80 => ?_) (fun h80 => ?_)
            · refine x_iconst 88 0 (ab_dd tk_s_mostAlike 49 rfl) rfl (by decide) (x_topn 0 rfl ?_)
              refine x_iadd 89 (ab_dd tk_s_mostAlike 50 rfl) rfl (x_topn ((ctA (aBw a d r g) k j) + 0) (nI_add _ _) ?_)
              refine x_istore 91 [some (.ref 50), some (.int (nI g)), some (.int (nI r)), some (.int (nI d)), some (.ref (sn S)), some (.int (nI (grU (aBw a d r g) k))), some (.int (nI k)), some (.int (nI ((ctA (aBw a d r g) k j) + 0))), some (.int (nI j))] 7 (ab_dd tk_s_mostAlike 51 rfl) rfl (by decide) rfl ?_
              refine xn_iinc 94 8 (fun y => [some (.ref 50), some (.int (nI g)), some (.int (nI r)), some (.int (nI d)), some (.ref (sn S)), some (.int (nI (grU (aBw a d r g) k))), some (.int (nI k)), some (.int (nI ((ctA (aBw a d r g) k j) + 0))), some (.int y)]) (j + 1) (ab_dd tk_s_mostAlike 52 rfl) rfl (by decide) rfl (fun _ => rfl) (iinc_p 1) ?_
              refine x_goto 61 (ab_dd tk_s_mostAlike 53 rfl) (by decide) ?_
              have e1 : ctA (aBw a d r g) k (j + 1) = ctA (aBw a d r g) k j + 0 := by rw [ctA_s, if_neg (fun z => h80 z.2)]
              have jh2 := jh (j + 1) (by omega)
              rw [e1] at jh2
              exact jh2
            · refine x_iconst 84 1 (ab_dd tk_s_mostAlike 47 rfl) rfl (by decide) (x_topn 1 rfl ?_)
              refine x_goto 88 (ab_dd tk_s_mostAlike 48 rfl) (by decide) ?_
              refine x_iadd 89 (ab_dd tk_s_mostAlike 50 rfl) rfl (x_topn ((ctA (aBw a d r g) k j) + 1) (nI_add _ _) ?_)
              refine x_istore 91 [some (.ref 50), some (.int (nI g)), some (.int (nI r)), some (.int (nI d)), some (.ref (sn S)), some (.int (nI (grU (aBw a d r g) k))), some (.int (nI k)), some (.int (nI ((ctA (aBw a d r g) k j) + 1))), some (.int (nI j))] 7 (ab_dd tk_s_mostAlike 51 rfl) rfl (by decide) rfl ?_
              refine xn_iinc 94 8 (fun y => [some (.ref 50), some (.int (nI g)), some (.int (nI r)), some (.int (nI d)), some (.ref (sn S)), some (.int (nI (grU (aBw a d r g) k))), some (.int (nI k)), some (.int (nI ((ctA (aBw a d r g) k j) + 1))), some (.int y)]) (j + 1) (ab_dd tk_s_mostAlike 52 rfl) rfl (by decide) rfl (fun _ => rfl) (iinc_p 1) ?_
              refine x_goto 61 (ab_dd tk_s_mostAlike 53 rfl) (by decide) ?_
              have e1 : ctA (aBw a d r g) k (j + 1) = ctA (aBw a d r g) k j + 1 := by rw [ctA_s, if_pos ⟨hne, h80⟩]
              have jh2 := jh (j + 1) (by omega)
              rw [e1] at jh2
              exact jh2
        exact inner (k + 1) 0 (by omega)
  refine x_iconst 1 4 (ab_dd tk_s_mostAlike 0 rfl) rfl (by decide) (x_topn 4 rfl ?_)
  refine t_newI 3 4 (ab_dd tk_s_mostAlike 1 rfl) rfl (show 50 ≤ sn S + 0 by omega) A_int rfl (by decide) ?_
  refine x_astore 5 [some (.ref 50), some (.int (nI g)), some (.int (nI r)), some (.int (nI d)), some (.ref (sn S)), none, none, none, none] 4 (ab_dd tk_s_mostAlike 2 rfl) rfl (by decide) rfl ?_
  refine x_iconst 6 0 (ab_dd tk_s_mostAlike 3 rfl) rfl (by decide) (x_topn 0 rfl ?_)
  refine x_istore 8 [some (.ref 50), some (.int (nI g)), some (.int (nI r)), some (.int (nI d)), some (.ref (sn S)), some (.int (nI 0)), none, none, none] 5 (ab_dd tk_s_mostAlike 4 rfl) rfl (by decide) rfl ?_
  refine x_iconst 9 0 (ab_dd tk_s_mostAlike 5 rfl) rfl (by decide) (x_topn 0 rfl ?_)
  refine x_istore 11 [some (.ref 50), some (.int (nI g)), some (.int (nI r)), some (.int (nI d)), some (.ref (sn S)), some (.int (nI 0)), some (.int (nI 0)), none, none] 6 (ab_dd tk_s_mostAlike 6 rfl) rfl (by decide) rfl ?_
  exact loop 4 0 (by omega) none none _ st2 sEq.rf hB1 hn1 (fun i hi => absurd hi (by omega))
def tb_s_attempt : List (Nat × Instr × Nat) := [(0, .aload_n 0, 1), (1, .iload_n 1, 1), (2, .iload_n 2, 1), (3, .invokevirtual 356, 3), (6, .istore_n 3, 1), (7, .iload_n 3, 1), (8, .ifCond .eq 5, 3), (11, .iload_n 3, 1), (12, .ireturn, 1), (13, .aload_n 0, 1), (14, .aload_n 0, 1), (15, .getfield 46, 3), (18, .iload_n 1, 1), (19, .aaload, 1), (20, .iload_n 2, 1), (21, .invokevirtual 359, 3), (24, .istore 4, 2), (26, .iconst (-1), 1), (27, .istore 5, 2), (29, .iconst 5, 1), (30, .istore 6, 2), (32, .iconst 0, 1), (33, .istore 7, 2), (35, .iload 7, 2), (37, .iconst 4, 1), (38, .if_icmp .ge 40, 3), (41, .iload 4, 2), (43, .ifCond .eq 35, 3), (46, .aload_n 0, 1), (47, .iload 4, 2), (49, .iload_n 2, 1), (50, .iload 7, 2), (52, .invokevirtual 367, 3), (55, .istore 8, 2), (57, .iload 8, 2), (59, .iload 6, 2), (61, .if_icmp .ge 11, 3), (64, .iload 8, 2), (66, .istore 6, 2), (68, .iload 7, 2), (70, .istore 5, 2), (72, .iinc 7 1, 3), (75, .goto (-40), 3), (78, .iload 5, 2), (80, .ireturn, 1)]
theorem tk_s_attempt : ∀ q ∈ tb_s_attempt, decode M_s_attempt.2.1 q.1 = .ok q.2 := by decide +kernel
theorem p_s_attempt {G : ab_G} {S : ab_S} {im : Nat → Prop} {a b : Nat → Int32} {c bh nb st st2 u : Nat} (h : kBd S im a c b bh nb st st2 u) (ht : sdE S 55 (rowT a)) (hu : u + 64 < 2 ^ 20) (hT : ∀ t, t < 4 → sI S (109 + 2 * t) 2 = -1 ∨ ∃ m, m ≤ 40 ∧ sI S (109 + 2 * t) 2 = nI m) (e p : Int32) : ab_C G 7 M_s_attempt [.ref 50, .int e, .int p] (sw S) (fun v w' => pAs S im a c bh nb u 4 16 (some (.int (if cNf S (aR a) e p = 0 then (aAt a (aSo a (sJ S (110 + 2 * cN e)) (cN (sI S (109 + 2 * cN e) 2)) (cN p)) (cN p)) else cNf S (aR a) e p))) v w') := by
  refine x_enter [some (.ref 50), some (.int e), some (.int p), none, none, none, none, none, none] (by decide) (Nat.le_of_ble_eq_true rfl) rfl (fun v w' h => by obtain ⟨rfl, -⟩ := h; rfl) ?_
  have hbh := h.bh.1
  have h0 := h
  obtain ⟨hx, hse, kc, ⟨him, hil, h145⟩, ha, hc, ⟨hb1, hb2, hcl, hnb⟩, hcl9, -, hid, -, hu1, hu2⟩ := h0
  have h40 : sI S 55 3 = a 40 := ht.2.2.2.1.trans ha.1.m40.1.symm
  have hca := hcl.1.sta hb2.sy
  obtain ⟨hk, c1, -⟩ := hca
  have hR := ha.1.R.2
  have h50 : 50 ≤ sn S := by omega
  obtain ⟨hq0, hw0, hE0⟩ := rowT_in ha.1
  have hw6 : aW a < 625 := by have := p5_6 hR; omega
  have hq24 := Nat.lt_of_lt_of_le hq0 (kFc_le (aR a))
  refine x_aload_n 1 0 (ab_dd tk_s_attempt 0 rfl) rfl rfl rfl ?_
  refine x_iload_n 2 1 (ab_dd tk_s_attempt 1 rfl) rfl rfl rfl ?_
  refine x_iload_n 3 2 (ab_dd tk_s_attempt 2 rfl) rfl rfl rfl ?_
  refine t_callV 6 M_s_refusedFelt 1 2 [_, _] (ab_dd tk_s_attempt 3 rfl) rfl (by first | decide | omega) K_s_refusedFelt V_s_refusedFelt.1 V_s_refusedFelt.2 L_s_356 rfl (Nat.le_of_ble_eq_true rfl) (by decide) (Nat.lt_of_lt_of_le (by decide) hx.1) (hx.2.1 0 (by decide)) rfl (b_s_refusedFelt h ht hT e p) (fun v1 w1 h1 => ?_)
  obtain ⟨rfl, rfl⟩ := h1
  refine x_istore_n 7 [some (.ref 50), some (.int e), some (.int p), some (.int (cNf S (aR a) e p)), none, none, none, none, none] 3 (ab_dd tk_s_attempt 4 rfl) rfl rfl (by decide) rfl ?_
  refine x_iload_n 8 3 (ab_dd tk_s_attempt 5 rfl) rfl rfl rfl ?_
  refine x_if_eq 11 13 (ab_dd tk_s_attempt 6 rfl) rfl (by decide) (fun h8 => ?_) (fun h8 => ?_)
  · have h00 := cNf_0 h8
    obtain ⟨q, hq, ekq, enq⟩ := in_get (n := 3) (by decide) h00.1.1
    obtain ⟨r, ekr, enr⟩ : ∃ r, p = nI r ∧ cN p = r := ⟨cN p, nI_cN h00.1.2.1, rfl⟩
    have hrR : r < aR a := by rw [← enr]; exact h00.1.2.2
    have hr4 : r < 4 := by omega
    obtain ⟨m, hm40, hm⟩ : ∃ m, m ≤ 40 ∧ sI S (109 + 2 * q) 2 = nI m := by
      rcases hT q (by omega) with z | z
      · exact absurd z (by rw [← enq]; exact h00.2)
      · exact z
    rw [if_pos h8, enq, enr, hm, cN_nI (by omega), show some (Value.int e) = some (Value.int (nI q)) by rw [ekq], show some (Value.int p) = some (Value.int (nI r)) by rw [ekr]]
    refine x_aload_n 14 0 (ab_dd tk_s_attempt 9 rfl) rfl rfl rfl ?_
    refine x_aload_n 15 0 (ab_dd tk_s_attempt 10 rfl) rfl rfl rfl ?_
    refine t_getP 18 69 (ab_dd tk_s_attempt 11 rfl) rfl F_s_46 (by decide) (Nat.lt_of_lt_of_le (by decide) hx.1) (hx.2.1 0 (by decide)) rfl (hx.2.2 (50, 7, 69) (by decide)) ?_
    refine x_iload_n 19 1 (ab_dd tk_s_attempt 12 rfl) rfl rfl rfl ?_
    refine t_aaldP 20 4 q (109 + 2 * q) (ab_dd tk_s_attempt 13 rfl) rfl (by decide) (Nat.lt_of_lt_of_le (by decide) hx.1) rfl (hx.2.1 19 (by decide)) rfl (by omega) (by decide) (x_69 hx (by omega)) ?_
    refine x_iload_n 21 2 (ab_dd tk_s_attempt 14 rfl) rfl rfl rfl ?_
    refine t_callV 24 M_s_seasonsFelt 5 2 [_, _] (ab_dd tk_s_attempt 15 rfl) rfl (by first | decide | omega) K_s_seasonsFelt V_s_seasonsFelt.1 V_s_seasonsFelt.2 L_s_359 rfl (Nat.le_of_ble_eq_true rfl) (by decide) (Nat.lt_of_lt_of_le (by decide) hx.1) (hx.2.1 0 (by decide)) rfl (b_s_seasonsFelt h ht (by omega) (show q < 4 by omega) hm40 hm r hr4) (fun v1 w1 h1 => ?_)
    obtain ⟨rfl, S1, s1, rfl, hE1, hB1, hn1⟩ := h1
    have hx1 : xSh S1 := hB1.1
    have hg16 : aSo a (sJ S (110 + 2 * q)) m r < 16 := mQ_lt _ 4
    generalize aSo a (sJ S (110 + 2 * q)) m r = g at hg16 ⊢
    have hF1 : fAs im bh S S1 := fAs.of (gF.sE hE1) (by omega) (fun y _ z => by simp only [List.mem_cons, List.not_mem_nil, or_false] at z; omega) (by omega)
    refine x_istore 26 [some (.ref 50), some (.int (nI q)), some (.int (nI r)), some (.int (cNf S (aR a) e p)), some (.int (nI g)), none, none, none, none] 4 (ab_dd tk_s_attempt 16 rfl) rfl (by decide) rfl ?_
    refine x_iconst 27 (-1) (ab_dd tk_s_attempt 17 rfl) rfl (by decide) ?_
    refine x_istore 29 [some (.ref 50), some (.int (nI q)), some (.int (nI r)), some (.int (cNf S (aR a) e p)), some (.int (nI g)), some (.int ((-1))), none, none, none] 5 (ab_dd tk_s_attempt 18 rfl) rfl (by decide) rfl ?_
    refine x_iconst 30 5 (ab_dd tk_s_attempt 19 rfl) rfl (by decide) (x_topn 5 rfl ?_)
    refine x_istore 32 [some (.ref 50), some (.int (nI q)), some (.int (nI r)), some (.int (cNf S (aR a) e p)), some (.int (nI g)), some (.int ((-1))), some (.int (nI 5)), none, none] 6 (ab_dd tk_s_attempt 20 rfl) rfl (by decide) rfl ?_
    refine x_iconst 33 0 (ab_dd tk_s_attempt 21 rfl) rfl (by decide) (x_topn 0 rfl ?_)
    refine x_istore 35 [some (.ref 50), some (.int (nI q)), some (.int (nI r)), some (.int (cNf S (aR a) e p)), some (.int (nI g)), some (.int ((-1))), some (.int (nI 5)), some (.int (nI 0)), none] 7 (ab_dd tk_s_attempt 22 rfl) rfl (by decide) rfl ?_
    have hm4 : ∀ d, (fun d => grA (aBw a d r g) 4) d ≤ 4 := fun d => grA_le _ 4
    have loop : g ≠ 0 → ∀ (y3 : Int32) (n k : Nat), k + n = 4 → ∀ (y8 : Option Value) (S2 : ab_S) (s2 : Nat), fAs im bh S S2 → gA S S2 k (4 * k) → kBd S2 im a c b bh nb st s2 (u + 4 + 4 * k) → sdE S2 55 (rowT a) → ab_Ex G 7 M_s_attempt 35 [some (.ref 50), some (.int (nI q)), some (.int (nI r)), some (.int y3), some (.int (nI g)), some (.int (atC (fun d => grA (aBw a d r g) 4) k).1), some (.int (nI (atC (fun d => grA (aBw a d r g) 4) k).2)), some (.int (nI k)), y8] [] (sw S2) (fun v w' => pAs S im a c bh nb u 4 16 (some (.int (aAt a g r))) v w') := by
      intro hg0 y3 n
      induction n with
      | zero =>
        intro k hkm y8 S2 s2 hF2 hG2 hB2 hn2
        have hk4 : k = 4 := by omega
        rw [hk4] at hB2 hG2 ⊢
        have eA : aAt a g r = (atC (fun d => grA (aBw a d r g) 4) 4).1 := by
          unfold aAt
          rw [if_neg hg0, atC_B hm4 3]
        refine x_iload 37 7 (ab_dd tk_s_attempt 23 rfl) rfl rfl ?_
        refine x_iconst 38 4 (ab_dd tk_s_attempt 24 rfl) rfl (by decide) (x_topn 4 rfl ?_)
        refine x_icmp_ge_t 78 (ab_dd tk_s_attempt 25 rfl) (by decide) (by decide) ?_
        refine x_iload 80 5 (ab_dd tk_s_attempt 43 rfl) rfl rfl ?_
        rw [eA]
        exact x_iret (ab_dd tk_s_attempt 44 rfl) ⟨rfl, S2, b, st, s2, rfl, hF2, hG2, hB2.up (by omega), hn2⟩
      | succ n ih =>
        intro k hkm y8 S2 s2 hF2 hG2 hB2 hn2
        have hx2 : xSh S2 := hB2.1
        have h5 := atC_5 hm4 k
        have hmk := hm4 k
        refine x_iload 37 7 (ab_dd tk_s_attempt 23 rfl) rfl rfl ?_
        refine x_iconst 38 4 (ab_dd tk_s_attempt 24 rfl) rfl (by decide) (x_topn 4 rfl ?_)
        refine x_icmp_ge_f 41 (ab_dd tk_s_attempt 25 rfl) rfl 78 (by decide) (fun z => absurd ((nI_leI (a := 4) (b := k) (by omega) (by omega)).mp z) (show ¬ (4 ≤ k) by omega)) ?_
        refine x_iload 43 4 (ab_dd tk_s_attempt 26 rfl) rfl rfl ?_
        refine x_if_eq_f 46 (ab_dd tk_s_attempt 27 rfl) rfl 78 (by decide) (fun z => absurd ((nI_eq (a := g) (b := 0) (by omega) (by omega)).mp z) (show ¬ (g = 0) by omega)) ?_
        refine x_aload_n 47 0 (ab_dd tk_s_attempt 28 rfl) rfl rfl rfl ?_
        refine x_iload 49 4 (ab_dd tk_s_attempt 29 rfl) rfl rfl ?_
        refine x_iload_n 50 2 (ab_dd tk_s_attempt 30 rfl) rfl rfl rfl ?_
        refine x_iload 52 7 (ab_dd tk_s_attempt 31 rfl) rfl rfl ?_
        refine t_callV 55 M_s_mostAlike 5 3 [_, _, _] (ab_dd tk_s_attempt 32 rfl) rfl (by first | decide | omega) K_s_mostAlike V_s_mostAlike.1 V_s_mostAlike.2 L_s_367 rfl (Nat.le_of_ble_eq_true rfl) (by decide) (Nat.lt_of_lt_of_le (by decide) hx2.1) (hx2.2.1 0 (by decide)) rfl (b_s_mostAlike hB2 hn2 (by omega) g r k hg16 hr4 (by omega)) (fun v1 w1 h1 => ?_)
        obtain ⟨rfl, S3, s3, rfl, hF3, hG3, hB3, hn3⟩ := h1
        have hx3 : xSh S3 := hB3.1
        have hF23 := hF2.tr hF3
        have hG23 : gA S S3 (k + 1) (4 * (k + 1)) := hG2.tr hG3
        have hmk2 : grA (aBw a k r g) 4 ≤ 4 := grA_le _ 4
        refine x_istore 57 [some (.ref 50), some (.int (nI q)), some (.int (nI r)), some (.int y3), some (.int (nI g)), some (.int (atC (fun d => grA (aBw a d r g) 4) k).1), some (.int (nI (atC (fun d => grA (aBw a d r g) 4) k).2)), some (.int (nI k)), some (.int (nI (grA (aBw a k r g) 4)))] 8 (ab_dd tk_s_attempt 33 rfl) rfl (by decide) rfl ?_
        refine x_iload 59 8 (ab_dd tk_s_attempt 34 rfl) rfl rfl ?_
        refine x_iload 61 6 (ab_dd tk_s_attempt 35 rfl) rfl rfl ?_
        refine xn_icmp_ge 64 72 (ab_dd tk_s_attempt 36 rfl) rfl (by decide) (by omega) (by omega) (fun h61 => ?_) (fun h61 => ?_)
        · refine xn_iinc 75 7 (fun y => [some (.ref 50), some (.int (nI q)), some (.int (nI r)), some (.int y3), some (.int (nI g)), some (.int (atC (fun d => grA (aBw a d r g) 4) k).1), some (.int (nI (atC (fun d => grA (aBw a d r g) 4) k).2)), some (.int y), some (.int (nI (grA (aBw a k r g) 4)))]) (k + 1) (ab_dd tk_s_attempt 41 rfl) rfl (by decide) rfl (fun _ => rfl) (iinc_p 1) ?_
          refine x_goto 35 (ab_dd tk_s_attempt 42 rfl) (by decide) ?_
          have e1 : atC (fun d => grA (aBw a d r g) 4) (k + 1) = atC (fun d => grA (aBw a d r g) 4) k := if_neg (by show ¬ grA (aBw a k r g) 4 < _; omega)
          have ih2 := ih (k + 1) (by omega) (some (.int (nI (grA (aBw a k r g) 4)))) S3 s3 hF23 hG23 (hB3.up (by omega)) hn3
          rw [e1] at ih2
          exact ih2
        · refine x_iload 66 8 (ab_dd tk_s_attempt 37 rfl) rfl rfl ?_
          refine x_istore 68 [some (.ref 50), some (.int (nI q)), some (.int (nI r)), some (.int y3), some (.int (nI g)), some (.int (atC (fun d => grA (aBw a d r g) 4) k).1), some (.int (nI (grA (aBw a k r g) 4))), some (.int (nI k)), some (.int (nI (grA (aBw a k r g) 4)))] 6 (ab_dd tk_s_attempt 38 rfl) rfl (by decide) rfl ?_
          refine x_iload 70 7 (ab_dd tk_s_attempt 39 rfl) rfl rfl ?_
          refine x_istore 72 [some (.ref 50), some (.int (nI q)), some (.int (nI r)), some (.int y3), some (.int (nI g)), some (.int (nI k)), some (.int (nI (grA (aBw a k r g) 4))), some (.int (nI k)), some (.int (nI (grA (aBw a k r g) 4)))] 5 (ab_dd tk_s_attempt 40 rfl) rfl (by decide) rfl ?_
          refine xn_iinc 75 7 (fun y => [some (.ref 50), some (.int (nI q)), some (.int (nI r)), some (.int y3), some (.int (nI g)), some (.int (nI k)), some (.int (nI (grA (aBw a k r g) 4))), some (.int y), some (.int (nI (grA (aBw a k r g) 4)))]) (k + 1) (ab_dd tk_s_attempt 41 rfl) rfl (by decide) rfl (fun _ => rfl) (iinc_p 1) ?_
          refine x_goto 35 (ab_dd tk_s_attempt 42 rfl) (by decide) ?_
          have e1 : atC (fun d => grA (aBw a d r g) 4) (k + 1) = (nI k, grA (aBw a k r g) 4) := if_pos h61
          have ih2 := ih (k + 1) (by omega) (some (.int (nI (grA (aBw a k r g) 4)))) S3 s3 hF23 hG23 (hB3.up (by omega)) hn3
          rw [e1] at ih2
          exact ih2
    by_cases hg0 : g = 0
    · rw [hg0]
      have eA : aAt a 0 r = -1 := if_pos rfl
      rw [eA]
      refine x_iload 37 7 (ab_dd tk_s_attempt 23 rfl) rfl rfl ?_
      refine x_iconst 38 4 (ab_dd tk_s_attempt 24 rfl) rfl (by decide) (x_topn 4 rfl ?_)
      refine x_icmp_ge_f 41 (ab_dd tk_s_attempt 25 rfl) rfl 78 (by decide) (by decide) ?_
      refine x_iload 43 4 (ab_dd tk_s_attempt 26 rfl) rfl rfl ?_
      refine x_if_eq_t 78 (ab_dd tk_s_attempt 27 rfl) (by decide) (by decide) ?_
      refine x_iload 80 5 (ab_dd tk_s_attempt 43 rfl) rfl rfl ?_
      exact x_iret (ab_dd tk_s_attempt 44 rfl) ⟨rfl, S1, b, st, s1, rfl, hF1, (gA.sE hE1).le (by omega) (by omega), hB1.up (by omega), hn1⟩
    · exact loop hg0 _ 4 0 (by omega) none S1 s1 hF1 (gA.sE hE1) hB1 hn1
  · refine x_iload_n 12 3 (ab_dd tk_s_attempt 7 rfl) rfl rfl rfl ?_
    rw [if_neg h8]
    exact x_iret (ab_dd tk_s_attempt 8 rfl) ⟨rfl, S, b, st, st2, rfl, fAs.rf, gA.rf, h.up (by omega), ht⟩
