/-! ===== settling ===== -/
/-- warmths behind k stops at which nothing is done -/
def cI (a : Nat → Int32) (w q : Nat) : Nat → Nat
  | 0 => w
  | k + 1 => cB a (cI a w q k) q
theorem cI_lt {a : Nat → Int32} {w q : Nat} (hR : aR a ≤ 4) (hq : q < kFc (aR a)) (hw : w < 5 ^ aR a) : ∀ k, cI a w q k < 5 ^ aR a
  | 0 => hw
  | k + 1 => cB_lt hR hq (cI_lt hR hq hw k)
theorem aI_cI {a : Nat → Int32} (h : aOk a) : ∀ k, aI a (a 40) k = cSt (aR a) (cI a (aW a) (aQ a) k) (aQ a)
  | 0 => (rowT_in h).2.2
  | k + 1 => by
    rw [aI_s, aI_cI h k]
    exact cB_st h.R.2 (rowT_in h).1 (cI_lt h.R.2 (rowT_in h).1 (rowT_in h).2.1 k)
theorem isLas_cI {a : Nat → Int32} (h : aOk a) {n t : Nat} (hl : isLas (cI a (aW a) (aQ a)) n t) : isLas (aI a (a 40)) n t := by
  have h6 := p5_6 h.R.2
  have e : ∀ i j, aI a (a 40) i = aI a (a 40) j ↔ cI a (aW a) (aQ a) i = cI a (aW a) (aQ a) j := fun i j => by
    rw [aI_cI h i, aI_cI h j]
    unfold cSt
    constructor <;> intro z <;> omega
  exact ⟨hl.1, (e n t).mpr hl.2.1, fun i j h1 h2 z => hl.2.2 i j h1 h2 ((e i j).mp z)⟩
def tb_id_settle : List (Nat × Instr × Nat) := [(0, .aload_n 0, 1), (1, .getfield 15, 3), (4, .iconst (-1), 1), (5, .invokestatic 34, 3), (8, .iload_n 2, 1), (9, .istore 4, 2), (11, .iconst 0, 1), (12, .istore 5, 2), (14, .iload 5, 2), (16, .aload_n 0, 1), (17, .getfield 9, 3), (20, .arraylength, 1), (21, .if_icmp .ge 85, 3), (24, .iload 4, 2), (26, .ifCond .lt 80, 3), (29, .iload 4, 2), (31, .aload_n 0, 1), (32, .getfield 15, 3), (35, .arraylength, 1), (36, .if_icmp .ge 70, 3), (39, .aload_n 0, 1), (40, .getfield 9, 3), (43, .iload 5, 2), (45, .iload 4, 2), (47, .iastore, 1), (48, .aload_n 0, 1), (49, .getfield 15, 3), (52, .iload 4, 2), (54, .iaload, 1), (55, .iconst (-1), 1), (56, .if_icmp .eq 26, 3), (59, .aload_n 0, 1), (60, .aload_n 0, 1), (61, .getfield 15, 3), (64, .iload 4, 2), (66, .iaload, 1), (67, .putfield 18, 3), (70, .aload_n 0, 1), (71, .iload 5, 2), (73, .aload_n 0, 1), (74, .getfield 18, 3), (77, .isub, 1), (78, .putfield 22, 3), (81, .return_, 1), (82, .aload_n 0, 1), (83, .getfield 15, 3), (86, .iload 4, 2), (88, .iload 5, 2), (90, .iastore, 1), (91, .aload_n 1, 1), (92, .iload 4, 2), (94, .iload_n 3, 1), (95, .invokevirtual 40, 3), (98, .istore 4, 2), (100, .iinc 5 1, 3), (103, .goto (-89), 3), (106, .return_, 1)]
theorem tk_id_settle : ∀ q ∈ tb_id_settle, decode M_id_settle.2.1 q.1 = .ok q.2 := by decide +kernel
theorem c_id_settle {G : ab_G} {S : ab_S} (hx : xSh S) (hse : seOk S) (kc : kSh S.1) {im : Nat → Prop} (him : imO im) {x c bh nb st : Nat} {a : Nat → Int32} (hX : x = 84 ∨ x = 94) (hcl : clI S im x c a bh nb st) (ha : aGood a) (w q : Nat) (hw : w < 5 ^ aR a) (hq : q < kFc (aR a)) : ab_C G 4 M_id_settle [.ref 104, .ref x, .int (nI w), .int (nI q)] (sw S) (fun v w' => v = none ∧ ∃ S' n t, w' = sw S' ∧ sEq [x + 5, x + 7, x + 8, x + 9, bh, 104, 105, 106] S S' ∧ clI S' im x c a bh nb st ∧ isLas (cI a w q) n t ∧ n ≤ 625 ∧ sI S' 104 2 = nI t ∧ sI S' 104 3 = nI (n - t) ∧ ∀ i, i ≤ n → sI S' 105 i = nI (cI a w q i)) := by
  refine x_enter [some (.ref 104), some (.ref x), some (.int (nI w)), some (.int (nI q)), none, none] (by decide) (Nat.le_of_ble_eq_true rfl) rfl (fun v w' h => by obtain ⟨rfl, -⟩ := h; trivial) ?_
  have hK : clK S x := hx.cl hX
  have hcl0 := hcl
  obtain ⟨-, -, -, -, -, -, -, -, -, -, hnb, hbh, -⟩ := hcl0
  have hR := ha.1.R.2
  have h6 := p5_6 hR
  have hf := cI_lt hR hq hw
  have hni : ∀ y, y = 104 ∨ y = 105 ∨ y = 106 → ¬ im y := fun y hy z => by have := him y z; omega
  have lp : ∀ (m i : Nat), i + m = 626 → ∀ S1 : ab_S, sEq [x + 5, x + 7, x + 8, x + 9, bh, 104, 105, 106] S S1 → clI S1 im x c a bh nb st → (∀ p r, p < r → r < i → cI a w q p ≠ cI a w q r) → (∀ j, j < i → sI S1 106 (cI a w q j) = nI j) → (∀ v, v < 625 → (∀ j, j < i → cI a w q j ≠ v) → sI S1 106 v = -1) → (∀ j, j < i → sI S1 105 j = nI (cI a w q j)) → ab_Ex G 4 M_id_settle 14 [some (.ref 104), some (.ref x), some (.int (nI w)), some (.int (nI q)), some (.int (nI (cI a w q i))), some (.int (nI i))] [] (sw S1) (fun v w' => v = none ∧ ∃ S' n t, w' = sw S' ∧ sEq [x + 5, x + 7, x + 8, x + 9, bh, 104, 105, 106] S S' ∧ clI S' im x c a bh nb st ∧ isLas (cI a w q) n t ∧ n ≤ 625 ∧ sI S' 104 2 = nI t ∧ sI S' 104 3 = nI (n - t) ∧ ∀ i, i ≤ n → sI S' 105 i = nI (cI a w q i)) := by
    intro m
    induction m with
    | zero =>
      intro i hi S1 _ _ hinj _ _ _
      have := pigeon 625 i (cI a w q) (fun j _ => Nat.lt_of_lt_of_le (hf j) h6) hinj
      omega
    | succ m ih =>
      intro i hi S1 hE1 hcl1 hinj hs1 hs2 hs3
      have hx1 : xSh S1 := hx.eq hE1
      have hK1 : clK S1 x := hK.eq hE1
      have hse1 : seOk S1 := hse.eq hE1 (by simp only [List.mem_cons, List.not_mem_nil, or_false, not_or]; omega) (by simp only [List.mem_cons, List.not_mem_nil, or_false, not_or]; omega) (by simp only [List.mem_cons, List.not_mem_nil, or_false, not_or]; omega) (by simp only [List.mem_cons, List.not_mem_nil, or_false, not_or]; omega)
      have kc1 : kSh S1.1 := by rw [hE1.1]; exact kc
      have hfi := hf i
      by_cases hrep : ∃ j, j < i ∧ cI a w q j = cI a w q i
      · obtain ⟨j, hj1, hj2⟩ := hrep
        refine x_iload 16 5 (ab_dd tk_id_settle 8 rfl) rfl rfl ?_
        refine x_aload_n 17 0 (ab_dd tk_id_settle 9 rfl) rfl rfl rfl ?_
        refine t_getP 20 105 (ab_dd tk_id_settle 10 rfl) rfl F_id_9 (by decide) (Nat.lt_of_lt_of_le (by decide) hx1.1) (hx1.2.1 54 (by decide)) rfl (hx1.2.2 (104, 0, 105) (by decide)) ?_
        refine t_alen 21 0 (ab_dd tk_id_settle 11 rfl) rfl (by decide) (Nat.lt_of_lt_of_le (by decide) hx1.1) rfl (hx1.2.1 55 (by decide)) ?_
        refine x_icmp_ge_f 24 (ab_dd tk_id_settle 12 rfl) rfl 106 (by decide) (fun z => absurd ((nI_leI (a := 626) (b := i) (by omega) (by omega)).mp z) (show ¬ (626 ≤ i) by omega)) ?_
        refine x_iload 26 4 (ab_dd tk_id_settle 13 rfl) rfl rfl ?_
        refine xn_if_lt 29 106 (ab_dd tk_id_settle 14 rfl) rfl (by decide) (by omega) ?_
        refine x_iload 31 4 (ab_dd tk_id_settle 15 rfl) rfl rfl ?_
        refine x_aload_n 32 0 (ab_dd tk_id_settle 16 rfl) rfl rfl rfl ?_
        refine t_getP 35 106 (ab_dd tk_id_settle 17 rfl) rfl F_id_15 (by decide) (Nat.lt_of_lt_of_le (by decide) hx1.1) (hx1.2.1 54 (by decide)) rfl (hx1.2.2 (104, 1, 106) (by decide)) ?_
        refine t_alen 36 0 (ab_dd tk_id_settle 18 rfl) rfl (by decide) (Nat.lt_of_lt_of_le (by decide) hx1.1) rfl (hx1.2.1 56 (by decide)) ?_
        refine x_icmp_ge_f 39 (ab_dd tk_id_settle 19 rfl) rfl 106 (by decide) (fun z => absurd ((nI_leI (a := 625) (b := (cI a w q i)) (by omega) (by omega)).mp z) (show ¬ (625 ≤ (cI a w q i)) by omega)) ?_
        refine x_aload_n 40 0 (ab_dd tk_id_settle 20 rfl) rfl rfl rfl ?_
        refine t_getP 43 105 (ab_dd tk_id_settle 21 rfl) rfl F_id_9 (by decide) (Nat.lt_of_lt_of_le (by decide) hx1.1) (hx1.2.1 54 (by decide)) rfl (hx1.2.2 (104, 0, 105) (by decide)) ?_
        refine x_iload 45 5 (ab_dd tk_id_settle 22 rfl) rfl rfl ?_
        refine x_iload 47 4 (ab_dd tk_id_settle 23 rfl) rfl rfl ?_
        refine t_iast 48 i (ab_dd tk_id_settle 24 rfl) rfl (by decide) (Nat.lt_of_lt_of_le (by decide) hx1.1) (hx1.2.1 55 (by decide)) rfl (by omega) (by decide) ?_
        refine x_aload_n 49 0 (ab_dd tk_id_settle 25 rfl) rfl rfl rfl ?_
        refine t_getP 52 106 (ab_dd tk_id_settle 26 rfl) rfl F_id_15 (by decide) (Nat.lt_of_lt_of_le (by decide) hx1.1) (hx1.2.1 54 (by decide)) rfl (hx1.2.2 (104, 1, 106) (by decide)) ?_
        refine x_iload 54 4 (ab_dd tk_id_settle 27 rfl) rfl rfl ?_
        refine t_iald 55 (cI a w q i) (ab_dd tk_id_settle 28 rfl) rfl (by decide) (Nat.lt_of_lt_of_le (by decide) hx1.1) (hx1.2.1 56 (by decide)) rfl (by omega) (by decide) (x_topn j ((gI_a (by decide)).trans (by rw [← hj2]; exact hs1 j hj1)) ?_)
        refine x_iconst 56 (-1) (ab_dd tk_id_settle 29 rfl) rfl (by decide) ?_
        refine x_icmp_eq_f 59 (ab_dd tk_id_settle 30 rfl) rfl 82 (by decide) (nI_nm1 (by omega)) ?_
        refine x_aload_n 60 0 (ab_dd tk_id_settle 31 rfl) rfl rfl rfl ?_
        refine x_aload_n 61 0 (ab_dd tk_id_settle 32 rfl) rfl rfl rfl ?_
        refine t_getP 64 106 (ab_dd tk_id_settle 33 rfl) rfl F_id_15 (by decide) (Nat.lt_of_lt_of_le (by decide) hx1.1) (hx1.2.1 54 (by decide)) rfl (hx1.2.2 (104, 1, 106) (by decide)) ?_
        refine x_iload 66 4 (ab_dd tk_id_settle 34 rfl) rfl rfl ?_
        refine t_iald 67 (cI a w q i) (ab_dd tk_id_settle 35 rfl) rfl (by decide) (Nat.lt_of_lt_of_le (by decide) hx1.1) (hx1.2.1 56 (by decide)) rfl (by omega) (by decide) (x_topn j ((gI_a (by decide)).trans (by rw [← hj2]; exact hs1 j hj1)) ?_)
        refine t_putI 70 (ab_dd tk_id_settle 36 rfl) rfl F_id_18 (by decide) (Nat.lt_of_lt_of_le (by decide) hx1.1) (hx1.2.1 54 (by decide)) rfl rfl rfl ?_
        refine x_aload_n 71 0 (ab_dd tk_id_settle 37 rfl) rfl rfl rfl ?_
        refine x_iload 73 5 (ab_dd tk_id_settle 38 rfl) rfl rfl ?_
        refine x_aload_n 74 0 (ab_dd tk_id_settle 39 rfl) rfl rfl rfl ?_
        refine t_getI 77 (ab_dd tk_id_settle 40 rfl) rfl F_id_18 (by decide) (Nat.lt_of_lt_of_le (by decide) hx1.1) (hx1.2.1 54 (by decide)) rfl (x_topn j gI_s ?_)
        refine x_isub 78 (ab_dd tk_id_settle 41 rfl) rfl (x_topn (i - j) (pk_sub (by omega)) ?_)
        refine t_putI 81 (ab_dd tk_id_settle 42 rfl) rfl F_id_22 (by decide) (Nat.lt_of_lt_of_le (by decide) hx1.1) (hx1.2.1 54 (by decide)) rfl rfl rfl ?_
        have hE9 : sEq [104, 105] S1 (pI (pI (pI S1 105 i (nI (cI a w q i))) 104 2 (nI j)) 104 3 (nI (i - j))) := ((sEq.rf.pI (by decide)).pI (by decide)).pI (by decide)
        refine x_vret (ab_dd tk_id_settle 43 rfl) ⟨rfl, _, i, j, rfl, (((hE1.pI (by simp)).pI (by simp)).pI (by simp)), hcl1.eq hE9 (by simp only [List.mem_cons, List.not_mem_nil, or_false, not_or]; omega) (fun y hy => by simp only [List.mem_cons, List.not_mem_nil, or_false] at hy; exact hni y (by omega)) (by simp only [List.mem_cons, List.not_mem_nil, or_false, not_or]; omega) (by simp only [List.mem_cons, List.not_mem_nil, or_false, not_or]; omega) (by simp only [List.mem_cons, List.not_mem_nil, or_false, not_or]; omega), ⟨hj1, hj2.symm, hinj⟩, by omega, ((gI_k (by decide)).trans gI_s), gI_s, fun k hk => ?_⟩
        rw [gI_o (by decide), gI_o (by decide)]
        by_cases hki : k = i
        · rw [hki]; exact gI_s
        · rw [gI_k hki]; exact hs3 k (by omega)
      · refine x_iload 16 5 (ab_dd tk_id_settle 8 rfl) rfl rfl ?_
        refine x_aload_n 17 0 (ab_dd tk_id_settle 9 rfl) rfl rfl rfl ?_
        refine t_getP 20 105 (ab_dd tk_id_settle 10 rfl) rfl F_id_9 (by decide) (Nat.lt_of_lt_of_le (by decide) hx1.1) (hx1.2.1 54 (by decide)) rfl (hx1.2.2 (104, 0, 105) (by decide)) ?_
        refine t_alen 21 0 (ab_dd tk_id_settle 11 rfl) rfl (by decide) (Nat.lt_of_lt_of_le (by decide) hx1.1) rfl (hx1.2.1 55 (by decide)) ?_
        refine x_icmp_ge_f 24 (ab_dd tk_id_settle 12 rfl) rfl 106 (by decide) (fun z => absurd ((nI_leI (a := 626) (b := i) (by omega) (by omega)).mp z) (show ¬ (626 ≤ i) by omega)) ?_
        refine x_iload 26 4 (ab_dd tk_id_settle 13 rfl) rfl rfl ?_
        refine xn_if_lt 29 106 (ab_dd tk_id_settle 14 rfl) rfl (by decide) (by omega) ?_
        refine x_iload 31 4 (ab_dd tk_id_settle 15 rfl) rfl rfl ?_
        refine x_aload_n 32 0 (ab_dd tk_id_settle 16 rfl) rfl rfl rfl ?_
        refine t_getP 35 106 (ab_dd tk_id_settle 17 rfl) rfl F_id_15 (by decide) (Nat.lt_of_lt_of_le (by decide) hx1.1) (hx1.2.1 54 (by decide)) rfl (hx1.2.2 (104, 1, 106) (by decide)) ?_
        refine t_alen 36 0 (ab_dd tk_id_settle 18 rfl) rfl (by decide) (Nat.lt_of_lt_of_le (by decide) hx1.1) rfl (hx1.2.1 56 (by decide)) ?_
        refine x_icmp_ge_f 39 (ab_dd tk_id_settle 19 rfl) rfl 106 (by decide) (fun z => absurd ((nI_leI (a := 625) (b := (cI a w q i)) (by omega) (by omega)).mp z) (show ¬ (625 ≤ (cI a w q i)) by omega)) ?_
        refine x_aload_n 40 0 (ab_dd tk_id_settle 20 rfl) rfl rfl rfl ?_
        refine t_getP 43 105 (ab_dd tk_id_settle 21 rfl) rfl F_id_9 (by decide) (Nat.lt_of_lt_of_le (by decide) hx1.1) (hx1.2.1 54 (by decide)) rfl (hx1.2.2 (104, 0, 105) (by decide)) ?_
        refine x_iload 45 5 (ab_dd tk_id_settle 22 rfl) rfl rfl ?_
        refine x_iload 47 4 (ab_dd tk_id_settle 23 rfl) rfl rfl ?_
        refine t_iast 48 i (ab_dd tk_id_settle 24 rfl) rfl (by decide) (Nat.lt_of_lt_of_le (by decide) hx1.1) (hx1.2.1 55 (by decide)) rfl (by omega) (by decide) ?_
        refine x_aload_n 49 0 (ab_dd tk_id_settle 25 rfl) rfl rfl rfl ?_
        refine t_getP 52 106 (ab_dd tk_id_settle 26 rfl) rfl F_id_15 (by decide) (Nat.lt_of_lt_of_le (by decide) hx1.1) (hx1.2.1 54 (by decide)) rfl (hx1.2.2 (104, 1, 106) (by decide)) ?_
        refine x_iload 54 4 (ab_dd tk_id_settle 27 rfl) rfl rfl ?_
        refine t_iald 55 (cI a w q i) (ab_dd tk_id_settle 28 rfl) rfl (by decide) (Nat.lt_of_lt_of_le (by decide) hx1.1) (hx1.2.1 56 (by decide)) rfl (by omega) (by decide) (x_topx (-1 : Int32) ((gI_a (by decide)).trans (hs2 _ (by omega) (fun j hj y => hrep ⟨j, hj, y⟩))) ?_)
        refine x_iconst 56 (-1) (ab_dd tk_id_settle 29 rfl) rfl (by decide) ?_
        refine x_icmp_eq_t 82 (ab_dd tk_id_settle 30 rfl) (by decide) rfl ?_
        refine x_aload_n 83 0 (ab_dd tk_id_settle 44 rfl) rfl rfl rfl ?_
        refine t_getP 86 106 (ab_dd tk_id_settle 45 rfl) rfl F_id_15 (by decide) (Nat.lt_of_lt_of_le (by decide) hx1.1) (hx1.2.1 54 (by decide)) rfl (hx1.2.2 (104, 1, 106) (by decide)) ?_
        refine x_iload 88 4 (ab_dd tk_id_settle 46 rfl) rfl rfl ?_
        refine x_iload 90 5 (ab_dd tk_id_settle 47 rfl) rfl rfl ?_
        refine t_iast 91 (cI a w q i) (ab_dd tk_id_settle 48 rfl) rfl (by decide) (Nat.lt_of_lt_of_le (by decide) hx1.1) (hx1.2.1 56 (by decide)) rfl (by omega) (by decide) ?_
        refine x_aload_n 92 1 (ab_dd tk_id_settle 49 rfl) rfl rfl rfl ?_
        refine x_iload 94 4 (ab_dd tk_id_settle 50 rfl) rfl rfl ?_
        refine x_iload_n 95 3 (ab_dd tk_id_settle 51 rfl) rfl rfl rfl ?_
        have hE2 : sEq [105, 106] S1 (pI (pI S1 105 i (nI (cI a w q i))) 106 (cI a w q i) (nI i)) := (sEq.rf.pI (by decide)).pI (by decide)
        have hclT : clI (pI (pI S1 105 i (nI (cI a w q i))) 106 (cI a w q i) (nI i)) im x c a bh nb st := hcl1.eq hE2 (by simp only [List.mem_cons, List.not_mem_nil, or_false, not_or]; omega) (fun y hy => by simp only [List.mem_cons, List.not_mem_nil, or_false] at hy; exact hni y (by omega)) (by simp only [List.mem_cons, List.not_mem_nil, or_false, not_or]; omega) (by simp only [List.mem_cons, List.not_mem_nil, or_false, not_or]; omega) (by simp only [List.mem_cons, List.not_mem_nil, or_false, not_or]; omega)
        have hseT : seOk (pI (pI S1 105 i (nI (cI a w q i))) 106 (cI a w q i) (nI i)) := hse1.eq hE2 (by simp only [List.mem_cons, List.not_mem_nil, or_false, not_or]; omega) (by simp only [List.mem_cons, List.not_mem_nil, or_false, not_or]; omega) (by simp only [List.mem_cons, List.not_mem_nil, or_false, not_or]; omega) (by simp only [List.mem_cons, List.not_mem_nil, or_false, not_or]; omega)
        refine t_callV 98 M_cl_behind 3 2 [_, _] (ab_dd tk_id_settle 52 rfl) rfl (by first | decide | omega) K_cl_behind V_cl_behind.1 V_cl_behind.2 L_id_40 rfl (Nat.le_of_ble_eq_true rfl) (by rcases hK1.1 with z | z <;> omega) (Nat.lt_of_le_of_lt (Nat.le_add_right x 9) hK1.2.1) hK1.2.2.1 rfl (c_cl_behind (by exact hK1) him hclT (by exact hx1) hseT (by exact kc1) ha (cI a w q i) q hfi hq) (fun v1 w1 h1 => ?_)
        obtain ⟨rfl, S3, rfl, hE3, hcl3⟩ := h1
        refine x_istore 100 [some (.ref 104), some (.ref x), some (.int (nI w)), some (.int (nI q)), some (.int (nI (cI a w q (i + 1)))), some (.int (nI i))] 4 (ab_dd tk_id_settle 53 rfl) rfl (by decide) rfl ?_
        refine xn_iinc 103 5 (fun y => [some (.ref 104), some (.ref x), some (.int (nI w)), some (.int (nI q)), some (.int (nI (cI a w q (i + 1)))), some (.int y)]) (i + 1) (ab_dd tk_id_settle 54 rfl) rfl (by decide) rfl (fun _ => rfl) (iinc_p 1) ?_
        refine x_goto 14 (ab_dd tk_id_settle 55 rfl) (by decide) ?_
        have h5 : sI S3 105 = sI (pI (pI S1 105 i (nI (cI a w q i))) 106 (cI a w q i) (nI i)) 105 := hE3.2.2.1 105 (by simp only [List.mem_cons, List.not_mem_nil, or_false, not_or]; omega)
        have h6b : sI S3 106 = sI (pI (pI S1 105 i (nI (cI a w q i))) 106 (cI a w q i) (nI i)) 106 := hE3.2.2.1 106 (by simp only [List.mem_cons, List.not_mem_nil, or_false, not_or]; omega)
        refine ih (i + 1) (by omega) S3 ((hE1.tr (hE2.mono (fun y hy => by simp only [List.mem_cons, List.not_mem_nil, or_false] at hy ⊢; omega))).tr (hE3.mono (fun y hy => by simp only [List.mem_cons, List.not_mem_nil, or_false] at hy ⊢; omega))) hcl3 (fun p r h1 h2 => ?_) (fun j hj => ?_) (fun v hv hn => ?_) (fun j hj => ?_)
        · by_cases z : r = i
          · rw [z]; exact fun y => hrep ⟨p, by omega, y⟩
          · exact hinj p r h1 (by omega)
        · rw [h6b]
          by_cases z : j = i
          · rw [z]; exact gI_s
          · rw [gI_k (fun y => hrep ⟨j, by omega, y⟩), gI_a (by decide)]
            exact hs1 j (by omega)
        · rw [h6b, gI_k (fun y => hn i (by omega) y.symm), gI_a (by decide)]
          exact hs2 v hv (fun j hj => hn j (by omega))
        · rw [h5, gI_a (by decide)]
          by_cases z : j = i
          · rw [z]; exact gI_s
          · rw [gI_k z]; exact hs3 j (by omega)
  refine x_aload_n 1 0 (ab_dd tk_id_settle 0 rfl) rfl rfl rfl ?_
  refine t_getP 4 106 (ab_dd tk_id_settle 1 rfl) rfl F_id_15 (by decide) (Nat.lt_of_lt_of_le (by decide) hx.1) (hx.2.1 54 (by decide)) rfl (hx.2.2 (104, 1, 106) (by decide)) ?_
  refine x_iconst 5 (-1) (ab_dd tk_id_settle 2 rfl) rfl (by decide) ?_
  refine x_callS 8 M_jA_fill_0 0 2 [_, _] (ab_dd tk_id_settle 3 rfl) rfl (by first | decide | omega) K_jA_fill_0 T_jA_fill_0 L_id_34 rfl (Nat.le_of_ble_eq_true rfl) (c_jA_fill_0 (a := 106) (n := 625) (by decide) (Nat.lt_of_lt_of_le (by decide) hx.1) (hx.2.1 56 (by decide)) (by decide) (-1)) (fun v1 w1 h1 => ?_)
  obtain ⟨rfl, S1, rfl, hE1, -, hV⟩ := h1
  refine x_iload_n 9 2 (ab_dd tk_id_settle 4 rfl) rfl rfl rfl ?_
  refine x_istore 11 [some (.ref 104), some (.ref x), some (.int (nI w)), some (.int (nI q)), some (.int (nI w)), none] 4 (ab_dd tk_id_settle 5 rfl) rfl (by decide) rfl ?_
  refine x_iconst 12 0 (ab_dd tk_id_settle 6 rfl) rfl (by decide) (x_topn 0 rfl ?_)
  refine x_istore 14 [some (.ref 104), some (.ref x), some (.int (nI w)), some (.int (nI q)), some (.int (nI w)), some (.int (nI 0))] 5 (ab_dd tk_id_settle 7 rfl) rfl (by decide) rfl ?_
  exact lp 626 0 (by omega) S1 (hE1.mono (fun y hy => by rw [List.mem_singleton.mp hy]; simp)) (hcl.eq hE1 (by simp only [List.mem_cons, List.not_mem_nil, or_false, not_or]; omega) (fun y hy => by rw [List.mem_singleton.mp hy]; exact hni 106 (by omega)) (by simp only [List.mem_cons, List.not_mem_nil, or_false, not_or]; omega) (by simp only [List.mem_cons, List.not_mem_nil, or_false, not_or]; omega) (by simp only [List.mem_cons, List.not_mem_nil, or_false, not_or]; omega)) (fun p r _ z => absurd z (Nat.not_lt_zero r)) (fun j z => absurd z (Nat.not_lt_zero j)) (fun v hv _ => by rw [hV v, if_pos hv]) (fun j z => absurd z (Nat.not_lt_zero j))
def tb_id_warmBehind : List (Nat × Instr × Nat) := [(0, .iload_n 1, 1), (1, .aload_n 0, 1), (2, .getfield 18, 3), (5, .if_icmp .lt 11, 3), (8, .aload_n 0, 1), (9, .getfield 22, 3), (12, .iconst 1, 1), (13, .if_icmp .ge 7, 3), (16, .iload_n 1, 1), (17, .goto 19, 3), (20, .aload_n 0, 1), (21, .getfield 18, 3), (24, .iload_n 1, 1), (25, .aload_n 0, 1), (26, .getfield 18, 3), (29, .isub, 1), (30, .aload_n 0, 1), (31, .getfield 22, 3), (34, .irem, 1), (35, .iadd, 1), (36, .istore_n 2, 1), (37, .iload_n 2, 1), (38, .ifCond .lt 12, 3), (41, .iload_n 2, 1), (42, .aload_n 0, 1), (43, .getfield 9, 3), (46, .arraylength, 1), (47, .if_icmp .lt 7, 3), (50, .iconst 0, 1), (51, .goto 9, 3), (54, .aload_n 0, 1), (55, .getfield 9, 3), (58, .iload_n 2, 1), (59, .iaload, 1), (60, .ireturn, 1)]
theorem tk_id_warmBehind : ∀ q ∈ tb_id_warmBehind, decode M_id_warmBehind.2.1 q.1 = .ok q.2 := by decide +kernel
theorem c_id_warmBehind {G : ab_G} {S : ab_S} (hx : xSh S) {f g : Nat → Nat} (hf : ∀ k, f (k + 1) = g (f k)) {n t : Nat} (hl : isLas f n t) (hn : n ≤ 625) (h2 : sI S 104 2 = nI t) (h3 : sI S 104 3 = nI (n - t)) (h5 : ∀ i, i ≤ n → sI S 105 i = nI (f i)) (k : Nat) (hk : k < 2 ^ 31) : ab_C G 0 M_id_warmBehind [.ref 104, .int (nI k)] (sw S) (fun v w' => v = some (.int (nI (f k))) ∧ w' = sw S) := by
  refine x_enter [some (.ref 104), some (.int (nI k)), none] (by decide) (Nat.le_of_ble_eq_true rfl) rfl (fun v w' h => by obtain ⟨rfl, rfl⟩ := h; rfl) ?_
  have hat := isLas_at hf hl k
  have htn := hl.1
  have hmd : (k - t) % (n - t) < n - t := Nat.mod_lt _ (by omega)
  refine x_iload_n 1 1 (ab_dd tk_id_warmBehind 0 rfl) rfl rfl rfl ?_
  refine x_aload_n 2 0 (ab_dd tk_id_warmBehind 1 rfl) rfl rfl rfl ?_
  refine t_getI 5 (ab_dd tk_id_warmBehind 2 rfl) rfl F_id_18 (by decide) (Nat.lt_of_lt_of_le (by decide) hx.1) (hx.2.1 54 (by decide)) rfl (x_topn t h2 ?_)
  refine xn_icmp_lt 8 16 (ab_dd tk_id_warmBehind 3 rfl) rfl (by decide) (by omega) (by omega) (fun h5b => ?_) (fun h5b => ?_)
  · refine x_iload_n 17 1 (ab_dd tk_id_warmBehind 8 rfl) rfl rfl rfl ?_
    refine x_goto 36 (ab_dd tk_id_warmBehind 9 rfl) (by decide) ?_
    refine x_istore_n 37 [some (.ref 104), some (.int (nI k)), some (.int (nI k))] 2 (ab_dd tk_id_warmBehind 20 rfl) rfl rfl (by decide) rfl ?_
    refine x_iload_n 38 2 (ab_dd tk_id_warmBehind 21 rfl) rfl rfl rfl ?_
    refine xn_if_lt 41 50 (ab_dd tk_id_warmBehind 22 rfl) rfl (by decide) (by omega) ?_
    refine x_iload_n 42 2 (ab_dd tk_id_warmBehind 23 rfl) rfl rfl rfl ?_
    refine x_aload_n 43 0 (ab_dd tk_id_warmBehind 24 rfl) rfl rfl rfl ?_
    refine t_getP 46 105 (ab_dd tk_id_warmBehind 25 rfl) rfl F_id_9 (by decide) (Nat.lt_of_lt_of_le (by decide) hx.1) (hx.2.1 54 (by decide)) rfl (hx.2.2 (104, 0, 105) (by decide)) ?_
    refine t_alen 47 0 (ab_dd tk_id_warmBehind 26 rfl) rfl (by decide) (Nat.lt_of_lt_of_le (by decide) hx.1) rfl (hx.2.1 55 (by decide)) ?_
    refine x_icmp_lt_t 54 (ab_dd tk_id_warmBehind 27 rfl) (by decide) ((nI_ltI (a := k) (b := 626) (by omega) (by omega)).mpr (show k < 626 by omega)) ?_
    refine x_aload_n 55 0 (ab_dd tk_id_warmBehind 30 rfl) rfl rfl rfl ?_
    refine t_getP 58 105 (ab_dd tk_id_warmBehind 31 rfl) rfl F_id_9 (by decide) (Nat.lt_of_lt_of_le (by decide) hx.1) (hx.2.1 54 (by decide)) rfl (hx.2.2 (104, 0, 105) (by decide)) ?_
    refine x_iload_n 59 2 (ab_dd tk_id_warmBehind 32 rfl) rfl rfl rfl ?_
    refine t_iald 60 k (ab_dd tk_id_warmBehind 33 rfl) rfl (by decide) (Nat.lt_of_lt_of_le (by decide) hx.1) (hx.2.1 55 (by decide)) rfl (by omega) (by decide) (x_topn (f k) (h5 k (by omega)) ?_)
    exact x_iret (ab_dd tk_id_warmBehind 34 rfl) ⟨rI (congrArg nI (by rw [hat, if_pos h5b])), rfl⟩
  · refine x_aload_n 9 0 (ab_dd tk_id_warmBehind 4 rfl) rfl rfl rfl ?_
    refine t_getI 12 (ab_dd tk_id_warmBehind 5 rfl) rfl F_id_22 (by decide) (Nat.lt_of_lt_of_le (by decide) hx.1) (hx.2.1 54 (by decide)) rfl (x_topn (n - t) h3 ?_)
    refine x_iconst 13 1 (ab_dd tk_id_warmBehind 6 rfl) rfl (by decide) (x_topn 1 rfl ?_)
    refine x_icmp_ge_t 20 (ab_dd tk_id_warmBehind 7 rfl) (by decide) ((nI_leI (a := 1) (b := (n - t)) (by omega) (by omega)).mpr (show 1 ≤ (n - t) by omega)) ?_
    refine x_aload_n 21 0 (ab_dd tk_id_warmBehind 10 rfl) rfl rfl rfl ?_
    refine t_getI 24 (ab_dd tk_id_warmBehind 11 rfl) rfl F_id_18 (by decide) (Nat.lt_of_lt_of_le (by decide) hx.1) (hx.2.1 54 (by decide)) rfl (x_topn t h2 ?_)
    refine x_iload_n 25 1 (ab_dd tk_id_warmBehind 12 rfl) rfl rfl rfl ?_
    refine x_aload_n 26 0 (ab_dd tk_id_warmBehind 13 rfl) rfl rfl rfl ?_
    refine t_getI 29 (ab_dd tk_id_warmBehind 14 rfl) rfl F_id_18 (by decide) (Nat.lt_of_lt_of_le (by decide) hx.1) (hx.2.1 54 (by decide)) rfl (x_topn t h2 ?_)
    refine x_isub 30 (ab_dd tk_id_warmBehind 15 rfl) rfl (x_topn (k - t) (pk_sub (by omega)) ?_)
    refine x_aload_n 31 0 (ab_dd tk_id_warmBehind 16 rfl) rfl rfl rfl ?_
    refine t_getI 34 (ab_dd tk_id_warmBehind 17 rfl) rfl F_id_22 (by decide) (Nat.lt_of_lt_of_le (by decide) hx.1) (hx.2.1 54 (by decide)) rfl (x_topn (n - t) h3 ?_)
    refine x_irem 35 (ab_dd tk_id_warmBehind 18 rfl) rfl (by intro z; have := (nI_eq (a := n - t) (b := 0) (by omega) (by decide)).mp z; omega) (x_topn ((k - t) % (n - t)) (pk_rem (by omega) (by omega) (by omega)) ?_)
    refine x_iadd 36 (ab_dd tk_id_warmBehind 19 rfl) rfl (x_topn (t + ((k - t) % (n - t))) (nI_add _ _) ?_)
    refine x_istore_n 37 [some (.ref 104), some (.int (nI k)), some (.int (nI (t + ((k - t) % (n - t)))))] 2 (ab_dd tk_id_warmBehind 20 rfl) rfl rfl (by decide) rfl ?_
    refine x_iload_n 38 2 (ab_dd tk_id_warmBehind 21 rfl) rfl rfl rfl ?_
    refine xn_if_lt 41 50 (ab_dd tk_id_warmBehind 22 rfl) rfl (by decide) (by omega) ?_
    refine x_iload_n 42 2 (ab_dd tk_id_warmBehind 23 rfl) rfl rfl rfl ?_
    refine x_aload_n 43 0 (ab_dd tk_id_warmBehind 24 rfl) rfl rfl rfl ?_
    refine t_getP 46 105 (ab_dd tk_id_warmBehind 25 rfl) rfl F_id_9 (by decide) (Nat.lt_of_lt_of_le (by decide) hx.1) (hx.2.1 54 (by decide)) rfl (hx.2.2 (104, 0, 105) (by decide)) ?_
    refine t_alen 47 0 (ab_dd tk_id_warmBehind 26 rfl) rfl (by decide) (Nat.lt_of_lt_of_le (by decide) hx.1) rfl (hx.2.1 55 (by decide)) ?_
    refine x_icmp_lt_t 54 (ab_dd tk_id_warmBehind 27 rfl) (by decide) ((nI_ltI (a := (t + ((k - t) % (n - t)))) (b := 626) (by omega) (by omega)).mpr (show (t + ((k - t) % (n - t))) < 626 by omega)) ?_
    refine x_aload_n 55 0 (ab_dd tk_id_warmBehind 30 rfl) rfl rfl rfl ?_
    refine t_getP 58 105 (ab_dd tk_id_warmBehind 31 rfl) rfl F_id_9 (by decide) (Nat.lt_of_lt_of_le (by decide) hx.1) (hx.2.1 54 (by decide)) rfl (hx.2.2 (104, 0, 105) (by decide)) ?_
    refine x_iload_n 59 2 (ab_dd tk_id_warmBehind 32 rfl) rfl rfl rfl ?_
    refine t_iald 60 (t + ((k - t) % (n - t))) (ab_dd tk_id_warmBehind 33 rfl) rfl (by decide) (Nat.lt_of_lt_of_le (by decide) hx.1) (hx.2.1 55 (by decide)) rfl (by omega) (by decide) (x_topn (f (t + ((k - t) % (n - t)))) (h5 (t + ((k - t) % (n - t))) (by omega)) ?_)
    exact x_iret (ab_dd tk_id_warmBehind 34 rfl) ⟨rI (congrArg nI (by rw [hat, if_neg (by omega)])), rfl⟩
def tb_id_firstWarm : List (Nat × Instr × Nat) := [(0, .iconst 0, 1), (1, .istore_n 3, 1), (2, .iload_n 3, 1), (3, .aload_n 0, 1), (4, .getfield 18, 3), (7, .aload_n 0, 1), (8, .getfield 22, 3), (11, .iadd, 1), (12, .if_icmp .ge 34, 3), (15, .iload_n 3, 1), (16, .aload_n 0, 1), (17, .getfield 9, 3), (20, .arraylength, 1), (21, .if_icmp .ge 25, 3), (24, .aload_n 0, 1), (25, .getfield 9, 3), (28, .iload_n 3, 1), (29, .iaload, 1), (30, .iload_n 2, 1), (31, .invokestatic 46, 3), (34, .iload_n 1, 1), (35, .if_icmp .lt 5, 3), (38, .iload_n 3, 1), (39, .ireturn, 1), (40, .iinc 3 1, 3), (43, .goto (-41), 3), (46, .iconst (-1), 1), (47, .ireturn, 1)]
theorem tk_id_firstWarm : ∀ q ∈ tb_id_firstWarm, decode M_id_firstWarm.2.1 q.1 = .ok q.2 := by decide +kernel
theorem c_id_firstWarm {G : ab_G} {S : ab_S} (hx : xSh S) {f g : Nat → Nat} (hf : ∀ k, f (k + 1) = g (f k)) {n t : Nat} (hl : isLas f n t) (hn : n ≤ 625) (h2 : sI S 104 2 = nI t) (h3 : sI S 104 3 = nI (n - t)) (h5 : ∀ i, i ≤ n → sI S 105 i = nI (f i)) (hf6 : ∀ i, f i < 625) (k R : Nat) (hk : k < 2 ^ 31) (hR : R ≤ 4) : ab_C G 2 M_id_firstWarm [.ref 104, .int (nI k), .int (nI R)] (sw S) (fun v w' => (∃ v0, v = some (.int v0) ∧ fstM (fun m => k ≤ mLe (f m) R) v0) ∧ w' = sw S) := by
  refine x_enter [some (.ref 104), some (.int (nI k)), some (.int (nI R)), none] (by decide) (Nat.le_of_ble_eq_true rfl) rfl (fun v w' h => by obtain ⟨⟨v0, rfl, -⟩, rfl⟩ := h; rfl) ?_
  have htn := hl.1
  have lp : ∀ (m i : Nat), i + m = n → (∀ j, j < i → ¬ k ≤ mLe (f j) R) → ab_Ex G 2 M_id_firstWarm 2 [some (.ref 104), some (.int (nI k)), some (.int (nI R)), some (.int (nI i))] [] (sw S) (fun v w' => (∃ v0, v = some (.int v0) ∧ fstM (fun m => k ≤ mLe (f m) R) v0) ∧ w' = sw S) := by
    intro m
    induction m with
    | zero =>
      intro i hi hno
      have hin : i = n := by omega
      rw [hin] at hno ⊢
      refine x_iload_n 3 3 (ab_dd tk_id_firstWarm 2 rfl) rfl rfl rfl ?_
      refine x_aload_n 4 0 (ab_dd tk_id_firstWarm 3 rfl) rfl rfl rfl ?_
      refine t_getI 7 (ab_dd tk_id_firstWarm 4 rfl) rfl F_id_18 (by decide) (Nat.lt_of_lt_of_le (by decide) hx.1) (hx.2.1 54 (by decide)) rfl (x_topn t h2 ?_)
      refine x_aload_n 8 0 (ab_dd tk_id_firstWarm 5 rfl) rfl rfl rfl ?_
      refine t_getI 11 (ab_dd tk_id_firstWarm 6 rfl) rfl F_id_22 (by decide) (Nat.lt_of_lt_of_le (by decide) hx.1) (hx.2.1 54 (by decide)) rfl (x_topn (n - t) h3 ?_)
      refine x_iadd 12 (ab_dd tk_id_firstWarm 7 rfl) rfl (x_topn (t + (n - t)) (nI_add _ _) ?_)
      refine x_icmp_ge_t 46 (ab_dd tk_id_firstWarm 8 rfl) (by decide) ((nI_leI (a := (t + (n - t))) (b := n) (by omega) (by omega)).mpr (show (t + (n - t)) ≤ n by omega)) ?_
      refine x_iconst 47 (-1) (ab_dd tk_id_firstWarm 26 rfl) rfl (by decide) ?_
      exact x_iret (ab_dd tk_id_firstWarm 27 rfl) ⟨⟨_, rfl, Or.inr ⟨fun m hm => by
        have hm : k ≤ mLe (f m) R := hm
        rw [isLas_at hf hl m] at hm
        refine hno _ ?_ hm
        split
        · omega
        · have := Nat.mod_lt (m - t) (show 0 < n - t by omega); omega, rfl⟩⟩, rfl⟩
    | succ m ih =>
      intro i hi hno
      have hfi := hf6 i
      have hle := mLe_le (f i) R
      refine x_iload_n 3 3 (ab_dd tk_id_firstWarm 2 rfl) rfl rfl rfl ?_
      refine x_aload_n 4 0 (ab_dd tk_id_firstWarm 3 rfl) rfl rfl rfl ?_
      refine t_getI 7 (ab_dd tk_id_firstWarm 4 rfl) rfl F_id_18 (by decide) (Nat.lt_of_lt_of_le (by decide) hx.1) (hx.2.1 54 (by decide)) rfl (x_topn t h2 ?_)
      refine x_aload_n 8 0 (ab_dd tk_id_firstWarm 5 rfl) rfl rfl rfl ?_
      refine t_getI 11 (ab_dd tk_id_firstWarm 6 rfl) rfl F_id_22 (by decide) (Nat.lt_of_lt_of_le (by decide) hx.1) (hx.2.1 54 (by decide)) rfl (x_topn (n - t) h3 ?_)
      refine x_iadd 12 (ab_dd tk_id_firstWarm 7 rfl) rfl (x_topn (t + (n - t)) (nI_add _ _) ?_)
      refine x_icmp_ge_f 15 (ab_dd tk_id_firstWarm 8 rfl) rfl 46 (by decide) (fun z => absurd ((nI_leI (a := (t + (n - t))) (b := i) (by omega) (by omega)).mp z) (show ¬ ((t + (n - t)) ≤ i) by omega)) ?_
      refine x_iload_n 16 3 (ab_dd tk_id_firstWarm 9 rfl) rfl rfl rfl ?_
      refine x_aload_n 17 0 (ab_dd tk_id_firstWarm 10 rfl) rfl rfl rfl ?_
      refine t_getP 20 105 (ab_dd tk_id_firstWarm 11 rfl) rfl F_id_9 (by decide) (Nat.lt_of_lt_of_le (by decide) hx.1) (hx.2.1 54 (by decide)) rfl (hx.2.2 (104, 0, 105) (by decide)) ?_
      refine t_alen 21 0 (ab_dd tk_id_firstWarm 12 rfl) rfl (by decide) (Nat.lt_of_lt_of_le (by decide) hx.1) rfl (hx.2.1 55 (by decide)) ?_
      refine x_icmp_ge_f 24 (ab_dd tk_id_firstWarm 13 rfl) rfl 46 (by decide) (fun z => absurd ((nI_leI (a := 626) (b := i) (by omega) (by omega)).mp z) (show ¬ (626 ≤ i) by omega)) ?_
      refine x_aload_n 25 0 (ab_dd tk_id_firstWarm 14 rfl) rfl rfl rfl ?_
      refine t_getP 28 105 (ab_dd tk_id_firstWarm 15 rfl) rfl F_id_9 (by decide) (Nat.lt_of_lt_of_le (by decide) hx.1) (hx.2.1 54 (by decide)) rfl (hx.2.2 (104, 0, 105) (by decide)) ?_
      refine x_iload_n 29 3 (ab_dd tk_id_firstWarm 16 rfl) rfl rfl rfl ?_
      refine t_iald 30 i (ab_dd tk_id_firstWarm 17 rfl) rfl (by decide) (Nat.lt_of_lt_of_le (by decide) hx.1) (hx.2.1 55 (by decide)) rfl (by omega) (by decide) (x_topn (f i) (h5 i (by omega)) ?_)
      refine x_iload_n 31 2 (ab_dd tk_id_firstWarm 18 rfl) rfl rfl rfl ?_
      refine x_callS 34 M_s_leastOf 1 2 [_, _] (ab_dd tk_id_firstWarm 19 rfl) rfl (by first | decide | omega) K_s_leastOf T_s_leastOf L_id_46 rfl (Nat.le_of_ble_eq_true rfl) (c_s_leastOf (f i) R (by omega) (by omega)) (fun v1 w1 h1 => ?_)
      obtain ⟨rfl, rfl⟩ := h1
      refine x_iload_n 35 1 (ab_dd tk_id_firstWarm 20 rfl) rfl rfl rfl ?_
      refine xn_icmp_lt 38 40 (ab_dd tk_id_firstWarm 21 rfl) rfl (by decide) (by omega) (by omega) (fun h35 => ?_) (fun h35 => ?_)
      · refine xn_iinc 43 3 (fun y => [some (.ref 104), some (.int (nI k)), some (.int (nI R)), some (.int y)]) (i + 1) (ab_dd tk_id_firstWarm 24 rfl) rfl (by decide) rfl (fun _ => rfl) (iinc_p 1) ?_
        refine x_goto 2 (ab_dd tk_id_firstWarm 25 rfl) (by decide) ?_
        exact ih (i + 1) (by omega) (fun j hj => by by_cases z : j = i; (· rw [z]; omega); (· exact hno j (by omega)))
      · refine x_iload_n 39 3 (ab_dd tk_id_firstWarm 22 rfl) rfl rfl rfl ?_
        exact x_iret (ab_dd tk_id_firstWarm 23 rfl) ⟨⟨_, rfl, Or.inl ⟨i, h35, hno, rfl⟩⟩, rfl⟩
  refine x_iconst 1 0 (ab_dd tk_id_firstWarm 0 rfl) rfl (by decide) (x_topn 0 rfl ?_)
  refine x_istore_n 2 [some (.ref 104), some (.int (nI k)), some (.int (nI R)), some (.int (nI 0))] 3 (ab_dd tk_id_firstWarm 1 rfl) rfl rfl (by decide) rfl ?_
  exact lp n 0 (by omega) (fun j z => absurd z (Nat.not_lt_zero j))
