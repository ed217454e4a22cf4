/-! ===== rows: how many rows lead on ===== -/
def spA (g : Nat → Option Nat) (f : Nat → Nat) (v : Nat) : Nat → Nat → Nat
  | 0, j => f j
  | d + 1, j => spA g f v d j + if g d = some j then v else 0
def tb_ro_spread : List (Nat × Instr × Nat) := [(0, .iconst 0, 1), (1, .istore 4, 2), (3, .iload 4, 2), (5, .iconst 4, 1), (6, .if_icmp .ge 38, 3), (9, .aload_n 0, 1), (10, .iload_n 1, 1), (11, .iload 4, 2), (13, .invokevirtual 107, 3), (16, .istore 5, 2), (18, .iload 5, 2), (20, .ifCond .lt 18, 3), (23, .iload 5, 2), (25, .aload_n 3, 1), (26, .arraylength, 1), (27, .if_icmp .ge 11, 3), (30, .aload_n 3, 1), (31, .iload 5, 2), (33, .dup2, 1), (34, .iaload, 1), (35, .iload_n 2, 1), (36, .iadd, 1), (37, .iastore, 1), (38, .iinc 4 1, 3), (41, .goto (-38), 3), (44, .return_, 1)]
theorem tk_ro_spread : ∀ q ∈ tb_ro_spread, decode M_ro_spread.2.1 q.1 = .ok q.2 := by decide +kernel
theorem c_ro_spread {G : ab_G} {S : ab_S} {r N : Nat} (hO : roK S r N) {b : Nat} (hb : b = r + 5 ∨ b = r + 6) (i v : Nat) (hi : i < N) {g : Nat → Option Nat} (hg : ∀ d, d < 4 → sI S (r + 4) (i * 4 + d) = encN (g d)) (hl : ∀ d j, d < 4 → g d = some j → j < N) {f : Nat → Nat} (hf : ∀ j, j < N → sI S b j = nI (f j)) : ab_C G 1 M_ro_spread [.ref r, .int (nI i), .int (nI v), .ref b] (sw S) (fun z' w' => z' = none ∧ ∃ S', w' = sw S' ∧ sEq [b] S S' ∧ ∀ j, j < N → sI S' b j = nI (spA g f v 4 j)) := by
  refine x_enter [some (.ref r), some (.int (nI i)), some (.int (nI v)), some (.ref b), none, none] (by decide) (Nat.le_of_ble_eq_true rfl) rfl (fun v w' h => by obtain ⟨rfl, -⟩ := h; trivial) ?_
  have hN15 : N ≤ 15000 := hO.2.2.2.2.2.2.2.2.2.2.2.2.2.2.2.2.2.2
  have hr145 := hO.1
  have hbn : b < sn S := by have := hO.2.1; omega
  have hbk : sK S b = .inl (.int, N) := by
    rcases hb with z | z
    · rw [z]; exact hO.2.2.2.2.2.2.2.1
    · rw [z]; exact hO.2.2.2.2.2.2.2.2.1
  have lp : ∀ (m d : Nat), d + m = 4 → ∀ (S1 : ab_S) (y5 : Option Value), sEq [b] S S1 → (∀ j, j < N → sI S1 b j = nI (spA g f v d j)) → ab_Ex G 1 M_ro_spread 3 [some (.ref r), some (.int (nI i)), some (.int (nI v)), some (.ref b), some (.int (nI d)), y5] [] (sw S1) (fun z' w' => z' = none ∧ ∃ S', w' = sw S' ∧ sEq [b] S S' ∧ ∀ j, j < N → sI S' b j = nI (spA g f v 4 j)) := by
    intro m
    induction m with
    | zero =>
      intro d hd S1 y5 hE1 hf1
      refine x_forget 5 ?_
      have hd4 : d = 4 := by omega
      rw [hd4] at hf1
      have hO1 : roK S1 r N := hO.eq hE1
      refine x_iload 5 4 (ab_dd tk_ro_spread 2 rfl) rfl rfl ?_
      refine x_iconst 6 4 (ab_dd tk_ro_spread 3 rfl) rfl (by decide) (x_topn 4 rfl ?_)
      refine x_icmp_ge_t 44 (ab_dd tk_ro_spread 4 rfl) (by decide) ((nI_leI (a := 4) (b := d) (by omega) (by omega)).mpr (show 4 ≤ d by omega)) ?_
      exact x_vret (ab_dd tk_ro_spread 25 rfl) ⟨rfl, S1, rfl, hE1, hf1⟩
    | succ m ih =>
      intro d hd S1 y5 hE1 hf1
      refine x_forget 5 ?_
      have hO1 : roK S1 r N := hO.eq hE1
      have hbn1 : b < sn S1 := by rw [hE1.2.2.2.2.2.1]; exact hbn
      have hbk1 : sK S1 b = .inl (.int, N) := by rw [hE1.2.1]; exact hbk
      have hnv : sI S1 (r + 4) (i * 4 + d) = encN (g d) := by rw [hE1.2.2.1 (r + 4) (by rw [List.mem_singleton]; omega)]; exact hg d (by omega)
      rcases hc : g d with _ | u
      · refine x_iload 5 4 (ab_dd tk_ro_spread 2 rfl) rfl rfl ?_
        refine x_iconst 6 4 (ab_dd tk_ro_spread 3 rfl) rfl (by decide) (x_topn 4 rfl ?_)
        refine x_icmp_ge_f 9 (ab_dd tk_ro_spread 4 rfl) rfl 44 (by decide) (fun z => absurd ((nI_leI (a := 4) (b := d) (by omega) (by omega)).mp z) (show ¬ (4 ≤ d) by omega)) ?_
        refine x_aload_n 10 0 (ab_dd tk_ro_spread 5 rfl) rfl rfl rfl ?_
        refine x_iload_n 11 1 (ab_dd tk_ro_spread 6 rfl) rfl rfl rfl ?_
        refine x_iload 13 4 (ab_dd tk_ro_spread 7 rfl) rfl rfl ?_
        refine t_callV 16 M_ro_nextOf 0 2 [_, _] (ab_dd tk_ro_spread 8 rfl) rfl (by first | decide | omega) K_ro_nextOf V_ro_nextOf.1 V_ro_nextOf.2 L_ro_107 rfl (Nat.le_of_ble_eq_true rfl) (by have := hO1.1; omega) (Nat.lt_of_le_of_lt (Nat.le_add_right r 7) hO1.2.1) hO1.2.2.1 rfl (c_ro_nextOf (by exact hO1) i d (by omega) (by omega)) (fun v1 w1 h1 => ?_)
        obtain ⟨rfl, rfl⟩ := h1
        rw [hnv, hc]
        show ab_Ex _ _ _ _ _ (.int (-1) :: _) _ _
        refine x_topi (fun v1 ev1 => ?_)
        refine x_istore 18 [some (.ref r), some (.int (nI i)), some (.int (nI v)), some (.ref b), some (.int (nI d)), some (.int v1)] 5 (ab_dd tk_ro_spread 9 rfl) rfl (by decide) rfl ?_
        refine x_iload 20 5 (ab_dd tk_ro_spread 10 rfl) rfl rfl ?_
        refine x_if_lt_t 38 (ab_dd tk_ro_spread 11 rfl) (by decide) (by first | (rw [ev1]; decide) | (rw [← ev1]; decide)) ?_
        refine xn_iinc 41 4 (fun y => [some (.ref r), some (.int (nI i)), some (.int (nI v)), some (.ref b), some (.int y), some (.int v1)]) (d + 1) (ab_dd tk_ro_spread 23 rfl) rfl (by decide) rfl (fun _ => rfl) (iinc_p 1) ?_
        refine x_goto 3 (ab_dd tk_ro_spread 24 rfl) (by decide) ?_
        exact ih (d + 1) (by omega) S1 _ hE1 (fun j hj => by
          rw [hf1 j hj]
          show _ = nI (spA g f v d j + if g d = some j then v else 0)
          rw [hc, if_neg (by intro q; cases q)]; rfl)
      · have hul := hl d u (by omega) hc
        refine x_iload 5 4 (ab_dd tk_ro_spread 2 rfl) rfl rfl ?_
        refine x_iconst 6 4 (ab_dd tk_ro_spread 3 rfl) rfl (by decide) (x_topn 4 rfl ?_)
        refine x_icmp_ge_f 9 (ab_dd tk_ro_spread 4 rfl) rfl 44 (by decide) (fun z => absurd ((nI_leI (a := 4) (b := d) (by omega) (by omega)).mp z) (show ¬ (4 ≤ d) by omega)) ?_
        refine x_aload_n 10 0 (ab_dd tk_ro_spread 5 rfl) rfl rfl rfl ?_
        refine x_iload_n 11 1 (ab_dd tk_ro_spread 6 rfl) rfl rfl rfl ?_
        refine x_iload 13 4 (ab_dd tk_ro_spread 7 rfl) rfl rfl ?_
        refine t_callV 16 M_ro_nextOf 0 2 [_, _] (ab_dd tk_ro_spread 8 rfl) rfl (by first | decide | omega) K_ro_nextOf V_ro_nextOf.1 V_ro_nextOf.2 L_ro_107 rfl (Nat.le_of_ble_eq_true rfl) (by have := hO1.1; omega) (Nat.lt_of_le_of_lt (Nat.le_add_right r 7) hO1.2.1) hO1.2.2.1 rfl (c_ro_nextOf (by exact hO1) i d (by omega) (by omega)) (fun v1 w1 h1 => ?_)
        obtain ⟨rfl, rfl⟩ := h1
        rw [hnv, hc]
        show ab_Ex _ _ _ _ _ (.int (nI u) :: _) _ _
        refine x_istore 18 [some (.ref r), some (.int (nI i)), some (.int (nI v)), some (.ref b), some (.int (nI d)), some (.int (nI u))] 5 (ab_dd tk_ro_spread 9 rfl) rfl (by decide) rfl ?_
        refine x_iload 20 5 (ab_dd tk_ro_spread 10 rfl) rfl rfl ?_
        refine x_if_lt_f 23 (ab_dd tk_ro_spread 11 rfl) rfl 38 (by decide) (fun z => absurd ((nI_ltI (a := u) (b := 0) (by omega) (by omega)).mp z) (show ¬ (u < 0) by omega)) ?_
        refine x_iload 25 5 (ab_dd tk_ro_spread 12 rfl) rfl rfl ?_
        refine x_aload_n 26 3 (ab_dd tk_ro_spread 13 rfl) rfl rfl rfl ?_
        refine t_alen 27 0 (ab_dd tk_ro_spread 14 rfl) rfl (by omega) hbn1 rfl hbk1 ?_
        refine x_icmp_ge_f 30 (ab_dd tk_ro_spread 15 rfl) rfl 38 (by decide) (fun z => absurd ((nI_leI (a := N) (b := u) (by omega) (by omega)).mp z) (show ¬ (N ≤ u) by omega)) ?_
        refine x_aload_n 31 3 (ab_dd tk_ro_spread 16 rfl) rfl rfl rfl ?_
        refine x_iload 33 5 (ab_dd tk_ro_spread 17 rfl) rfl rfl ?_
        refine x_dup2 34 (ab_dd tk_ro_spread 18 rfl) rfl rfl rfl ?_
        refine t_iald 35 u (ab_dd tk_ro_spread 19 rfl) rfl (by omega) hbn1 hbk1 rfl (by omega) (by omega) (x_topn (spA g f v d u) (hf1 u hul) ?_)
        refine x_iload_n 36 2 (ab_dd tk_ro_spread 20 rfl) rfl rfl rfl ?_
        refine x_iadd 37 (ab_dd tk_ro_spread 21 rfl) rfl (x_topn ((spA g f v d u) + v) (nI_add _ _) ?_)
        refine t_iast 38 u (ab_dd tk_ro_spread 22 rfl) rfl (by omega) hbn1 hbk1 rfl (by omega) (by omega) ?_
        refine xn_iinc 41 4 (fun y => [some (.ref r), some (.int (nI i)), some (.int (nI v)), some (.ref b), some (.int y), some (.int (nI u))]) (d + 1) (ab_dd tk_ro_spread 23 rfl) rfl (by decide) rfl (fun _ => rfl) (iinc_p 1) ?_
        refine x_goto 3 (ab_dd tk_ro_spread 24 rfl) (by decide) ?_
        exact ih (d + 1) (by omega) _ _ (hE1.pI (List.mem_singleton.mpr rfl)) (fun j hj => by
          show _ = nI (spA g f v d j + if g d = some j then v else 0)
          by_cases z : j = u
          · rw [z, gI_s, hc, if_pos rfl]
          · rw [gI_k z, hf1 j hj, hc, if_neg (fun q => z (Option.some.inj q).symm)]; rfl)
  refine x_iconst 1 0 (ab_dd tk_ro_spread 0 rfl) rfl (by decide) (x_topn 0 rfl ?_)
  refine x_istore 3 [some (.ref r), some (.int (nI i)), some (.int (nI v)), some (.ref b), some (.int (nI 0)), none] 4 (ab_dd tk_ro_spread 1 rfl) rfl (by decide) rfl ?_
  exact lp 4 0 (by omega) S _ sEq.rf hf
