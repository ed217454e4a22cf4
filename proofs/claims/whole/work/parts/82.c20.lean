theorem sm1_p (s : Nat) : nI s - nI 1 + 1 = nI s := Int32.sub_add_cancel (nI s) 1
theorem m1_lt {s N : Nat} (h : s ≤ N) (hN : N < 2 ^ 30) : ¬ nI N ≤ nI s - nI 1 := by
  intro z
  have h1 := (fa_le' _ _).mp z
  rw [pk_sub_toInt (by omega) (by decide), nI_toInt (by omega)] at h1
  omega
theorem D_le {len : Nat} {pf D : Nat → Nat} (hpf : ∀ i, 0 < i → i < len → pf i < i) (hD0 : D 0 = 0) (hD : ∀ i, 0 < i → i < len → D i = D (pf i) + 1) : ∀ m i, i ≤ m → i < len → D i ≤ i
  | 0, i, h, _ => by rw [show i = 0 by omega, hD0]; exact Nat.le_refl _
  | m + 1, i, h, hl => by
    by_cases z : i = 0
    · rw [z, hD0]; exact Nat.le_refl _
    · have h1 := hpf i (by omega) hl
      have h2 := D_le hpf hD0 hD m (pf i) (by omega) (by omega)
      rw [hD i (by omega) hl]
      omega
def tb_ro_stopsTo : List (Nat × Instr × Nat) := [(0, .iconst (-1), 1), (1, .istore_n 2, 1), (2, .iload_n 1, 1), (3, .istore_n 3, 1), (4, .iload_n 3, 1), (5, .ifCond .lt 34, 3), (8, .iload_n 3, 1), (9, .aload_n 0, 1), (10, .getfield 45, 3), (13, .arraylength, 1), (14, .if_icmp .ge 25, 3), (17, .iload_n 2, 1), (18, .aload_n 0, 1), (19, .getfield 45, 3), (22, .arraylength, 1), (23, .if_icmp .ge 16, 3), (26, .iinc 2 1, 3), (29, .aload_n 0, 1), (30, .getfield 45, 3), (33, .iload_n 3, 1), (34, .iaload, 1), (35, .istore_n 3, 1), (36, .goto (-32), 3), (39, .iload_n 2, 1), (40, .ireturn, 1)]
theorem tk_ro_stopsTo : ∀ q ∈ tb_ro_stopsTo, decode M_ro_stopsTo.2.1 q.1 = .ok q.2 := by decide +kernel
theorem c_ro_stopsTo {G : ab_G} {S : ab_S} {r N : Nat} (hO : roK S r N) {len : Nat} (hlen : len ≤ N) (hN0 : 0 < N) {pf D : Nat → Nat} (hf0 : sI S (r + 3) 0 = -1) (hpf : ∀ i, 0 < i → i < len → sI S (r + 3) i = nI (pf i) ∧ pf i < i) (hD0 : D 0 = 0) (hD : ∀ i, 0 < i → i < len → D i = D (pf i) + 1) (t : Nat) (ht : t < len) : ab_C G 0 M_ro_stopsTo [.ref r, .int (nI t)] (sw S) (fun v w' => v = some (.int (nI (D t))) ∧ w' = sw S) := by
  refine x_enter [some (.ref r), some (.int (nI t)), none, none] (by decide) (Nat.le_of_ble_eq_true rfl) rfl (fun v w' h => by obtain ⟨rfl, rfl⟩ := h; rfl) ?_
  have hN15 : N ≤ 15000 := hO.2.2.2.2.2.2.2.2.2.2.2.2.2.2.2.2.2.2
  have lp : ∀ (m i s : Nat), i ≤ m → i < len → s + i ≤ t → s + D i = D t → ab_Ex G 0 M_ro_stopsTo 4 [some (.ref r), some (.int (nI t)), some (.int (nI s - nI 1)), some (.int (nI i))] [] (sw S) (fun v w' => v = some (.int (nI (D t))) ∧ w' = sw S) := by
    intro m
    induction m with
    | zero =>
      intro i s hi hil hst hsd
      have hi0 : i = 0 := by omega
      rw [hi0] at hsd ⊢
      rw [hD0] at hsd
      refine x_iload_n 5 3 (ab_dd tk_ro_stopsTo 4 rfl) rfl rfl rfl ?_
      refine xn_if_lt 8 39 (ab_dd tk_ro_stopsTo 5 rfl) rfl (by decide) (by omega) ?_
      refine x_iload_n 9 3 (ab_dd tk_ro_stopsTo 6 rfl) rfl rfl rfl ?_
      refine x_aload_n 10 0 (ab_dd tk_ro_stopsTo 7 rfl) rfl rfl rfl ?_
      refine t_getP 13 (r + 3) (ab_dd tk_ro_stopsTo 8 rfl) rfl F_ro_45 (by have := hO.1; omega) (Nat.lt_of_le_of_lt (Nat.le_add_right r 7) hO.2.1) hO.2.2.1 rfl hO.2.2.2.2.2.2.2.2.2.2.2.2.2.1 ?_
      refine t_alen 14 0 (ab_dd tk_ro_stopsTo 9 rfl) rfl (by have := hO.1; omega) (Nat.lt_of_le_of_lt (Nat.add_le_add_left (by decide) r) hO.2.1) rfl hO.2.2.2.2.2.1 ?_
      refine x_icmp_ge_f 17 (ab_dd tk_ro_stopsTo 10 rfl) rfl 39 (by decide) (fun z => absurd ((nI_leI (a := N) (b := 0) (by omega) (by omega)).mp z) (show ¬ (N ≤ 0) by omega)) ?_
      refine x_iload_n 18 2 (ab_dd tk_ro_stopsTo 11 rfl) rfl rfl rfl ?_
      refine x_aload_n 19 0 (ab_dd tk_ro_stopsTo 12 rfl) rfl rfl rfl ?_
      refine t_getP 22 (r + 3) (ab_dd tk_ro_stopsTo 13 rfl) rfl F_ro_45 (by have := hO.1; omega) (Nat.lt_of_le_of_lt (Nat.le_add_right r 7) hO.2.1) hO.2.2.1 rfl hO.2.2.2.2.2.2.2.2.2.2.2.2.2.1 ?_
      refine t_alen 23 0 (ab_dd tk_ro_stopsTo 14 rfl) rfl (by have := hO.1; omega) (Nat.lt_of_le_of_lt (Nat.add_le_add_left (by decide) r) hO.2.1) rfl hO.2.2.2.2.2.1 ?_
      refine x_icmp_ge_f 26 (ab_dd tk_ro_stopsTo 15 rfl) rfl 39 (by decide) (m1_lt (by omega) (by omega)) ?_
      refine x_iincN 29 2 1 (fun y => [some (.ref r), some (.int (nI t)), some (.int y), some (.int (nI 0))]) (ab_dd tk_ro_stopsTo 16 rfl) rfl (by decide) rfl (by decide) (fun _ => rfl) (fun v1 ev1 => ?_)
      refine x_aload_n 30 0 (ab_dd tk_ro_stopsTo 17 rfl) rfl rfl rfl ?_
      refine t_getP 33 (r + 3) (ab_dd tk_ro_stopsTo 18 rfl) rfl F_ro_45 (by have := hO.1; omega) (Nat.lt_of_le_of_lt (Nat.le_add_right r 7) hO.2.1) hO.2.2.1 rfl hO.2.2.2.2.2.2.2.2.2.2.2.2.2.1 ?_
      refine x_iload_n 34 3 (ab_dd tk_ro_stopsTo 19 rfl) rfl rfl rfl ?_
      refine t_iald 35 0 (ab_dd tk_ro_stopsTo 20 rfl) rfl (by have := hO.1; omega) (Nat.lt_of_le_of_lt (Nat.add_le_add_left (by decide) r) hO.2.1) hO.2.2.2.2.2.1 rfl (by omega) (by omega) (x_topx (-1 : Int32) hf0 ?_)
      refine x_istore_n 36 [some (.ref r), some (.int (nI t)), some (.int v1), some (.int ((-1 : Int32)))] 3 (ab_dd tk_ro_stopsTo 21 rfl) rfl rfl (by decide) rfl ?_
      refine x_goto 4 (ab_dd tk_ro_stopsTo 22 rfl) (by decide) ?_
      refine x_iload_n 5 3 (ab_dd tk_ro_stopsTo 4 rfl) rfl rfl rfl ?_
      refine x_if_lt_t 39 (ab_dd tk_ro_stopsTo 5 rfl) (by decide) (by decide) ?_
      refine x_iload_n 40 2 (ab_dd tk_ro_stopsTo 23 rfl) rfl rfl rfl ?_
      exact x_iret (ab_dd tk_ro_stopsTo 24 rfl) ⟨rI (by rw [ev1, sm1_p]; congr 1), rfl⟩
    | succ m ih =>
      intro i s hi hil hst hsd
      by_cases hi0 : i = 0
      · rw [hi0] at hsd ⊢
        rw [hD0] at hsd
        refine x_iload_n 5 3 (ab_dd tk_ro_stopsTo 4 rfl) rfl rfl rfl ?_
        refine xn_if_lt 8 39 (ab_dd tk_ro_stopsTo 5 rfl) rfl (by decide) (by omega) ?_
        refine x_iload_n 9 3 (ab_dd tk_ro_stopsTo 6 rfl) rfl rfl rfl ?_
        refine x_aload_n 10 0 (ab_dd tk_ro_stopsTo 7 rfl) rfl rfl rfl ?_
        refine t_getP 13 (r + 3) (ab_dd tk_ro_stopsTo 8 rfl) rfl F_ro_45 (by have := hO.1; omega) (Nat.lt_of_le_of_lt (Nat.le_add_right r 7) hO.2.1) hO.2.2.1 rfl hO.2.2.2.2.2.2.2.2.2.2.2.2.2.1 ?_
        refine t_alen 14 0 (ab_dd tk_ro_stopsTo 9 rfl) rfl (by have := hO.1; omega) (Nat.lt_of_le_of_lt (Nat.add_le_add_left (by decide) r) hO.2.1) rfl hO.2.2.2.2.2.1 ?_
        refine x_icmp_ge_f 17 (ab_dd tk_ro_stopsTo 10 rfl) rfl 39 (by decide) (fun z => absurd ((nI_leI (a := N) (b := 0) (by omega) (by omega)).mp z) (show ¬ (N ≤ 0) by omega)) ?_
        refine x_iload_n 18 2 (ab_dd tk_ro_stopsTo 11 rfl) rfl rfl rfl ?_
        refine x_aload_n 19 0 (ab_dd tk_ro_stopsTo 12 rfl) rfl rfl rfl ?_
        refine t_getP 22 (r + 3) (ab_dd tk_ro_stopsTo 13 rfl) rfl F_ro_45 (by have := hO.1; omega) (Nat.lt_of_le_of_lt (Nat.le_add_right r 7) hO.2.1) hO.2.2.1 rfl hO.2.2.2.2.2.2.2.2.2.2.2.2.2.1 ?_
        refine t_alen 23 0 (ab_dd tk_ro_stopsTo 14 rfl) rfl (by have := hO.1; omega) (Nat.lt_of_le_of_lt (Nat.add_le_add_left (by decide) r) hO.2.1) rfl hO.2.2.2.2.2.1 ?_
        refine x_icmp_ge_f 26 (ab_dd tk_ro_stopsTo 15 rfl) rfl 39 (by decide) (m1_lt (by omega) (by omega)) ?_
        refine x_iincN 29 2 1 (fun y => [some (.ref r), some (.int (nI t)), some (.int y), some (.int (nI 0))]) (ab_dd tk_ro_stopsTo 16 rfl) rfl (by decide) rfl (by decide) (fun _ => rfl) (fun v1 ev1 => ?_)
        refine x_aload_n 30 0 (ab_dd tk_ro_stopsTo 17 rfl) rfl rfl rfl ?_
        refine t_getP 33 (r + 3) (ab_dd tk_ro_stopsTo 18 rfl) rfl F_ro_45 (by have := hO.1; omega) (Nat.lt_of_le_of_lt (Nat.le_add_right r 7) hO.2.1) hO.2.2.1 rfl hO.2.2.2.2.2.2.2.2.2.2.2.2.2.1 ?_
        refine x_iload_n 34 3 (ab_dd tk_ro_stopsTo 19 rfl) rfl rfl rfl ?_
        refine t_iald 35 0 (ab_dd tk_ro_stopsTo 20 rfl) rfl (by have := hO.1; omega) (Nat.lt_of_le_of_lt (Nat.add_le_add_left (by decide) r) hO.2.1) hO.2.2.2.2.2.1 rfl (by omega) (by omega) (x_topx (-1 : Int32) hf0 ?_)
        refine x_istore_n 36 [some (.ref r), some (.int (nI t)), some (.int v1), some (.int ((-1 : Int32)))] 3 (ab_dd tk_ro_stopsTo 21 rfl) rfl rfl (by decide) rfl ?_
        refine x_goto 4 (ab_dd tk_ro_stopsTo 22 rfl) (by decide) ?_
        refine x_iload_n 5 3 (ab_dd tk_ro_stopsTo 4 rfl) rfl rfl rfl ?_
        refine x_if_lt_t 39 (ab_dd tk_ro_stopsTo 5 rfl) (by decide) (by decide) ?_
        refine x_iload_n 40 2 (ab_dd tk_ro_stopsTo 23 rfl) rfl rfl rfl ?_
        exact x_iret (ab_dd tk_ro_stopsTo 24 rfl) ⟨rI (by rw [ev1, sm1_p]; congr 1), rfl⟩
      · have hp := hpf i (by omega) hil
        have hp2 := hp.2
        have hdi := hD i (by omega) hil
        refine x_iload_n 5 3 (ab_dd tk_ro_stopsTo 4 rfl) rfl rfl rfl ?_
        refine xn_if_lt 8 39 (ab_dd tk_ro_stopsTo 5 rfl) rfl (by decide) (by omega) ?_
        refine x_iload_n 9 3 (ab_dd tk_ro_stopsTo 6 rfl) rfl rfl rfl ?_
        refine x_aload_n 10 0 (ab_dd tk_ro_stopsTo 7 rfl) rfl rfl rfl ?_
        refine t_getP 13 (r + 3) (ab_dd tk_ro_stopsTo 8 rfl) rfl F_ro_45 (by have := hO.1; omega) (Nat.lt_of_le_of_lt (Nat.le_add_right r 7) hO.2.1) hO.2.2.1 rfl hO.2.2.2.2.2.2.2.2.2.2.2.2.2.1 ?_
        refine t_alen 14 0 (ab_dd tk_ro_stopsTo 9 rfl) rfl (by have := hO.1; omega) (Nat.lt_of_le_of_lt (Nat.add_le_add_left (by decide) r) hO.2.1) rfl hO.2.2.2.2.2.1 ?_
        refine x_icmp_ge_f 17 (ab_dd tk_ro_stopsTo 10 rfl) rfl 39 (by decide) (fun z => absurd ((nI_leI (a := N) (b := i) (by omega) (by omega)).mp z) (show ¬ (N ≤ i) by omega)) ?_
        refine x_iload_n 18 2 (ab_dd tk_ro_stopsTo 11 rfl) rfl rfl rfl ?_
        refine x_aload_n 19 0 (ab_dd tk_ro_stopsTo 12 rfl) rfl rfl rfl ?_
        refine t_getP 22 (r + 3) (ab_dd tk_ro_stopsTo 13 rfl) rfl F_ro_45 (by have := hO.1; omega) (Nat.lt_of_le_of_lt (Nat.le_add_right r 7) hO.2.1) hO.2.2.1 rfl hO.2.2.2.2.2.2.2.2.2.2.2.2.2.1 ?_
        refine t_alen 23 0 (ab_dd tk_ro_stopsTo 14 rfl) rfl (by have := hO.1; omega) (Nat.lt_of_le_of_lt (Nat.add_le_add_left (by decide) r) hO.2.1) rfl hO.2.2.2.2.2.1 ?_
        refine x_icmp_ge_f 26 (ab_dd tk_ro_stopsTo 15 rfl) rfl 39 (by decide) (m1_lt (by omega) (by omega)) ?_
        refine x_iincN 29 2 1 (fun y => [some (.ref r), some (.int (nI t)), some (.int y), some (.int (nI i))]) (ab_dd tk_ro_stopsTo 16 rfl) rfl (by decide) rfl (by decide) (fun _ => rfl) (fun v1 ev1 => ?_)
        refine x_aload_n 30 0 (ab_dd tk_ro_stopsTo 17 rfl) rfl rfl rfl ?_
        refine t_getP 33 (r + 3) (ab_dd tk_ro_stopsTo 18 rfl) rfl F_ro_45 (by have := hO.1; omega) (Nat.lt_of_le_of_lt (Nat.le_add_right r 7) hO.2.1) hO.2.2.1 rfl hO.2.2.2.2.2.2.2.2.2.2.2.2.2.1 ?_
        refine x_iload_n 34 3 (ab_dd tk_ro_stopsTo 19 rfl) rfl rfl rfl ?_
        refine t_iald 35 i (ab_dd tk_ro_stopsTo 20 rfl) rfl (by have := hO.1; omega) (Nat.lt_of_le_of_lt (Nat.add_le_add_left (by decide) r) hO.2.1) hO.2.2.2.2.2.1 rfl (by omega) (by omega) (x_topn (pf i) hp.1 ?_)
        refine x_istore_n 36 [some (.ref r), some (.int (nI t)), some (.int v1), some (.int (nI (pf i)))] 3 (ab_dd tk_ro_stopsTo 21 rfl) rfl rfl (by decide) rfl ?_
        refine x_goto 4 (ab_dd tk_ro_stopsTo 22 rfl) (by decide) ?_
        rw [show v1 = nI (s + 1) - nI 1 by rw [ev1, sm1_p]; exact (show nI (s + 1) - nI 1 = nI s from pk_sub (show 1 ≤ s + 1 by omega)).symm]
        exact ih (pf i) (s + 1) (by omega) (by omega) (by omega) (by omega)
  refine x_iconst 1 (-1) (ab_dd tk_ro_stopsTo 0 rfl) rfl (by decide) ?_
  refine x_topi (fun v1 ev1 => ?_)
  refine x_istore_n 2 [some (.ref r), some (.int (nI t)), some (.int v1), none] 2 (ab_dd tk_ro_stopsTo 1 rfl) rfl rfl (by decide) rfl ?_
  refine x_iload_n 3 1 (ab_dd tk_ro_stopsTo 2 rfl) rfl rfl rfl ?_
  refine x_istore_n 4 [some (.ref r), some (.int (nI t)), some (.int v1), some (.int (nI t))] 3 (ab_dd tk_ro_stopsTo 3 rfl) rfl rfl (by decide) rfl ?_
  rw [show v1 = nI 0 - nI 1 by rw [ev1]; decide]
  exact lp t t 0 (Nat.le_refl _) ht (by omega) (by omega)
theorem c_ro_stopsToN {G : ab_G} {S : ab_S} {r N : Nat} (hO : roK S r N) : ab_C G 0 M_ro_stopsTo [.ref r, .int (-1)] (sw S) (fun v w' => v = some (.int (-1)) ∧ w' = sw S) := by
  refine x_enter [some (.ref r), some (.int (-1)), none, none] (by decide) (Nat.le_of_ble_eq_true rfl) rfl (fun v w' h => by obtain ⟨rfl, rfl⟩ := h; rfl) ?_
  refine x_iconst 1 (-1) (ab_dd tk_ro_stopsTo 0 rfl) rfl (by decide) ?_
  refine x_topi (fun v1 ev1 => ?_)
  refine x_istore_n 2 [some (.ref r), some (.int (-1)), some (.int v1), none] 2 (ab_dd tk_ro_stopsTo 1 rfl) rfl rfl (by decide) rfl ?_
  refine x_iload_n 3 1 (ab_dd tk_ro_stopsTo 2 rfl) rfl rfl rfl ?_
  refine x_topi (fun v2 ev2 => ?_)
  refine x_istore_n 4 [some (.ref r), some (.int (-1)), some (.int v1), some (.int v2)] 3 (ab_dd tk_ro_stopsTo 3 rfl) rfl rfl (by decide) rfl ?_
  refine x_iload_n 5 3 (ab_dd tk_ro_stopsTo 4 rfl) rfl rfl rfl ?_
  refine x_if_lt_t 39 (ab_dd tk_ro_stopsTo 5 rfl) (by decide) (by rw [ev2]; decide) ?_
  refine x_iload_n 40 2 (ab_dd tk_ro_stopsTo 23 rfl) rfl rfl rfl ?_
  exact x_iret (ab_dd tk_ro_stopsTo 24 rfl) ⟨rI ev1, rfl⟩
def tb_ro_deedTo : List (Nat × Instr × Nat) := [(0, .aload_n 0, 1), (1, .iload_n 1, 1), (2, .invokevirtual 104, 3), (5, .istore_n 3, 1), (6, .iload_n 2, 1), (7, .ifCond .lt 8, 3), (10, .iload_n 2, 1), (11, .iload_n 3, 1), (12, .if_icmp .lt 5, 3), (15, .iconst (-1), 1), (16, .ireturn, 1), (17, .iload_n 1, 1), (18, .istore 4, 2), (20, .iload_n 3, 1), (21, .iconst 1, 1), (22, .isub, 1), (23, .istore 5, 2), (25, .iload 5, 2), (27, .iload_n 2, 1), (28, .if_icmp .le 23, 3), (31, .iload 4, 2), (33, .ifCond .le 18, 3), (36, .aload_n 0, 1), (37, .getfield 45, 3), (40, .iload 4, 2), (42, .iaload, 1), (43, .istore 4, 2), (45, .iinc 5 (-1), 3), (48, .goto (-23), 3), (51, .iconst 0, 1), (52, .istore 5, 2), (54, .iload 5, 2), (56, .iconst 4, 1), (57, .if_icmp .ge 35, 3), (60, .iload 4, 2), (62, .ifCond .le 30, 3), (65, .aload_n 0, 1), (66, .aload_n 0, 1), (67, .getfield 45, 3), (70, .iload 4, 2), (72, .iaload, 1), (73, .iload 5, 2), (75, .invokevirtual 107, 3), (78, .iload 4, 2), (80, .if_icmp .ne 6, 3), (83, .iload 5, 2), (85, .ireturn, 1), (86, .iinc 5 1, 3), (89, .goto (-35), 3), (92, .iconst (-1), 1), (93, .ireturn, 1)]
theorem tk_ro_deedTo : ∀ q ∈ tb_ro_deedTo, decode M_ro_deedTo.2.1 q.1 = .ok q.2 := by decide +kernel
def anc (pf : Nat → Nat) (t : Nat) : Nat → Nat
  | 0 => t
  | m + 1 => pf (anc pf t m)
theorem anc_D {len : Nat} {pf D : Nat → Nat} (hpf : ∀ i, 0 < i → i < len → pf i < i) (hD0 : D 0 = 0) (hD : ∀ i, 0 < i → i < len → D i = D (pf i) + 1) {t : Nat} (ht : t < len) : ∀ m, m ≤ D t → anc pf t m < len ∧ D (anc pf t m) + m = D t
  | 0, _ => ⟨ht, rfl⟩
  | m + 1, h => by
    obtain ⟨h1, h2⟩ := anc_D hpf hD0 hD ht m (by omega)
    have h0 : 0 < anc pf t m := Nat.pos_of_ne_zero (fun z => by rw [z, hD0] at h2; omega)
    have h3 := hpf _ h0 h1
    have h4 := hD _ h0 h1
    show pf (anc pf t m) < len ∧ D (pf (anc pf t m)) + (m + 1) = D t
    omega
theorem c_ro_deedTo {G : ab_G} {S : ab_S} {r N : Nat} (hO : roK S r N) {len : Nat} (hlen : len ≤ N) (hN0 : 0 < N) {pf D : Nat → Nat} (hf0 : sI S (r + 3) 0 = -1) (hpf : ∀ i, 0 < i → i < len → sI S (r + 3) i = nI (pf i) ∧ pf i < i) (hD0 : D 0 = 0) (hD : ∀ i, 0 < i → i < len → D i = D (pf i) + 1) (nxt : Nat → Nat → Option Nat) (hnx : ∀ i d, i < len → d < 4 → (∃ j, 0 < j ∧ j < len ∧ pf j = i) → sI S (r + 4) (i * 4 + d) = encN (nxt i d)) (hnl : ∀ i d j, nxt i d = some j → j < 2 ^ 31) (hfd : ∀ i, 0 < i → i < len → ∃ d, d < 4 ∧ nxt (pf i) d = some i) (t : Nat) (ht : t < len) (i : Nat) (hi : i < 2 ^ 31) : ab_C G 1 M_ro_deedTo [.ref r, .int (nI t), .int (nI i)] (sw S) (fun v w' => (∃ v0, v = some (.int v0) ∧ ((D t ≤ i ∧ v0 = -1) ∨ (i < D t ∧ ∃ d, d < 4 ∧ v0 = nI d ∧ nxt (pf (anc pf t (D t - 1 - i))) d = some (anc pf t (D t - 1 - i)) ∧ ∀ d', d' < d → nxt (pf (anc pf t (D t - 1 - i))) d' ≠ some (anc pf t (D t - 1 - i))))) ∧ w' = sw S) := by
  refine x_enter [some (.ref r), some (.int (nI t)), some (.int (nI i)), none, none, none] (by decide) (Nat.le_of_ble_eq_true rfl) rfl (fun v w' h => by obtain ⟨⟨v0, rfl, -⟩, rfl⟩ := h; rfl) ?_
  have hN15 : N ≤ 15000 := hO.2.2.2.2.2.2.2.2.2.2.2.2.2.2.2.2.2.2
  have hpf2 : ∀ i, 0 < i → i < len → pf i < i := fun i h1 h2 => (hpf i h1 h2).2
  have hDt := D_le hpf2 hD0 hD t t (Nat.le_refl _) ht
  have hanc := anc_D hpf2 hD0 hD ht
  have fin : i < D t → ∀ (m e : Nat), e + m = 4 → (∀ d, d < e → nxt (pf (anc pf t (D t - 1 - i))) d ≠ some (anc pf t (D t - 1 - i))) → ab_Ex G 1 M_ro_deedTo 54 [some (.ref r), some (.int (nI t)), some (.int (nI i)), some (.int (nI (D t))), some (.int (nI (anc pf t (D t - 1 - i)))), some (.int (nI e))] [] (sw S) (fun v w' => (∃ v0, v = some (.int v0) ∧ ((D t ≤ i ∧ v0 = -1) ∨ (i < D t ∧ ∃ d, d < 4 ∧ v0 = nI d ∧ nxt (pf (anc pf t (D t - 1 - i))) d = some (anc pf t (D t - 1 - i)) ∧ ∀ d', d' < d → nxt (pf (anc pf t (D t - 1 - i))) d' ≠ some (anc pf t (D t - 1 - i))))) ∧ w' = sw S) := by
    intro hiD m
    obtain ⟨ha1, ha2⟩ := hanc (D t - 1 - i) (by omega)
    have ha0 : 0 < (anc pf t (D t - 1 - i)) := Nat.pos_of_ne_zero (fun z => by rw [z, hD0] at ha2; omega)
    generalize (anc pf t (D t - 1 - i)) = u at ha1 ha2 ha0 ⊢
    have hp := hpf u ha0 ha1
    have hp2 := hp.2
    induction m with
    | zero =>
      intro e he hno
      obtain ⟨d, h1, h2⟩ := hfd u ha0 ha1
      exact absurd h2 (hno d (by omega))
    | succ m ih =>
      intro e he hno
      have hnv := hnx (pf u) e (by omega) (by omega) ⟨u, ha0, ha1, rfl⟩
      rcases hc : nxt (pf u) e with _ | j
      · refine x_iload 56 5 (ab_dd tk_ro_deedTo 31 rfl) rfl rfl ?_
        refine x_iconst 57 4 (ab_dd tk_ro_deedTo 32 rfl) rfl (by decide) (x_topn 4 rfl ?_)
        refine x_icmp_ge_f 60 (ab_dd tk_ro_deedTo 33 rfl) rfl 92 (by decide) (fun z => absurd ((nI_leI (a := 4) (b := e) (by omega) (by omega)).mp z) (show ¬ (4 ≤ e) by omega)) ?_
        refine x_iload 62 4 (ab_dd tk_ro_deedTo 34 rfl) rfl rfl ?_
        refine x_if_le_f 65 (ab_dd tk_ro_deedTo 35 rfl) rfl 92 (by decide) (fun z => absurd ((nI_leI (a := u) (b := 0) (by omega) (by omega)).mp z) (show ¬ (u ≤ 0) by omega)) ?_
        refine x_aload_n 66 0 (ab_dd tk_ro_deedTo 36 rfl) rfl rfl rfl ?_
        refine x_aload_n 67 0 (ab_dd tk_ro_deedTo 37 rfl) rfl rfl rfl ?_
        refine t_getP 70 (r + 3) (ab_dd tk_ro_deedTo 38 rfl) rfl F_ro_45 (by have := hO.1; omega) (Nat.lt_of_le_of_lt (Nat.le_add_right r 7) hO.2.1) hO.2.2.1 rfl hO.2.2.2.2.2.2.2.2.2.2.2.2.2.1 ?_
        refine x_iload 72 4 (ab_dd tk_ro_deedTo 39 rfl) rfl rfl ?_
        refine t_iald 73 u (ab_dd tk_ro_deedTo 40 rfl) rfl (by have := hO.1; omega) (Nat.lt_of_le_of_lt (Nat.add_le_add_left (by decide) r) hO.2.1) hO.2.2.2.2.2.1 rfl (by omega) (by omega) (x_topn (pf u) hp.1 ?_)
        refine x_iload 75 5 (ab_dd tk_ro_deedTo 41 rfl) rfl rfl ?_
        refine t_callV 78 M_ro_nextOf 0 2 [_, _] (ab_dd tk_ro_deedTo 42 rfl) rfl (by first | decide | omega) K_ro_nextOf V_ro_nextOf.1 V_ro_nextOf.2 L_ro_107 rfl (Nat.le_of_ble_eq_true rfl) (by have := hO.1; omega) (Nat.lt_of_le_of_lt (Nat.le_add_right r 7) hO.2.1) hO.2.2.1 rfl (c_ro_nextOf (by exact hO) (pf u) e (by omega) (by omega)) (fun v1 w1 h1 => ?_)
        obtain ⟨rfl, rfl⟩ := h1
        rw [hnv, hc]
        show ab_Ex _ _ _ _ _ (.int (-1) :: _) _ _
        refine x_iload 80 4 (ab_dd tk_ro_deedTo 43 rfl) rfl rfl ?_
        refine x_icmp_ne_t 86 (ab_dd tk_ro_deedTo 44 rfl) (by decide) (fun z => nI_nm1 (show u < 2 ^ 31 by omega) z.symm) ?_
        refine xn_iinc 89 5 (fun y => [some (.ref r), some (.int (nI t)), some (.int (nI i)), some (.int (nI (D t))), some (.int (nI u)), some (.int y)]) (e + 1) (ab_dd tk_ro_deedTo 47 rfl) rfl (by decide) rfl (fun _ => rfl) (iinc_p 1) ?_
        refine x_goto 54 (ab_dd tk_ro_deedTo 48 rfl) (by decide) ?_
        exact ih (e + 1) (by omega) (fun d hd => by by_cases z : d = e; (· rw [z, hc]; exact fun q => by cases q); (· exact hno d (by omega)))
      · have hj31 := hnl (pf u) e j hc
        refine x_iload 56 5 (ab_dd tk_ro_deedTo 31 rfl) rfl rfl ?_
        refine x_iconst 57 4 (ab_dd tk_ro_deedTo 32 rfl) rfl (by decide) (x_topn 4 rfl ?_)
        refine x_icmp_ge_f 60 (ab_dd tk_ro_deedTo 33 rfl) rfl 92 (by decide) (fun z => absurd ((nI_leI (a := 4) (b := e) (by omega) (by omega)).mp z) (show ¬ (4 ≤ e) by omega)) ?_
        refine x_iload 62 4 (ab_dd tk_ro_deedTo 34 rfl) rfl rfl ?_
        refine x_if_le_f 65 (ab_dd tk_ro_deedTo 35 rfl) rfl 92 (by decide) (fun z => absurd ((nI_leI (a := u) (b := 0) (by omega) (by omega)).mp z) (show ¬ (u ≤ 0) by omega)) ?_
        refine x_aload_n 66 0 (ab_dd tk_ro_deedTo 36 rfl) rfl rfl rfl ?_
        refine x_aload_n 67 0 (ab_dd tk_ro_deedTo 37 rfl) rfl rfl rfl ?_
        refine t_getP 70 (r + 3) (ab_dd tk_ro_deedTo 38 rfl) rfl F_ro_45 (by have := hO.1; omega) (Nat.lt_of_le_of_lt (Nat.le_add_right r 7) hO.2.1) hO.2.2.1 rfl hO.2.2.2.2.2.2.2.2.2.2.2.2.2.1 ?_
        refine x_iload 72 4 (ab_dd tk_ro_deedTo 39 rfl) rfl rfl ?_
        refine t_iald 73 u (ab_dd tk_ro_deedTo 40 rfl) rfl (by have := hO.1; omega) (Nat.lt_of_le_of_lt (Nat.add_le_add_left (by decide) r) hO.2.1) hO.2.2.2.2.2.1 rfl (by omega) (by omega) (x_topn (pf u) hp.1 ?_)
        refine x_iload 75 5 (ab_dd tk_ro_deedTo 41 rfl) rfl rfl ?_
        refine t_callV 78 M_ro_nextOf 0 2 [_, _] (ab_dd tk_ro_deedTo 42 rfl) rfl (by first | decide | omega) K_ro_nextOf V_ro_nextOf.1 V_ro_nextOf.2 L_ro_107 rfl (Nat.le_of_ble_eq_true rfl) (by have := hO.1; omega) (Nat.lt_of_le_of_lt (Nat.le_add_right r 7) hO.2.1) hO.2.2.1 rfl (c_ro_nextOf (by exact hO) (pf u) e (by omega) (by omega)) (fun v1 w1 h1 => ?_)
        obtain ⟨rfl, rfl⟩ := h1
        rw [hnv, hc]
        show ab_Ex _ _ _ _ _ (.int (nI j) :: _) _ _
        refine x_iload 80 4 (ab_dd tk_ro_deedTo 43 rfl) rfl rfl ?_
        refine xn_icmp_ne 83 86 (ab_dd tk_ro_deedTo 44 rfl) rfl (by decide) (by omega) (by omega) (fun h80 => ?_) (fun h80 => ?_)
        · refine xn_iinc 89 5 (fun y => [some (.ref r), some (.int (nI t)), some (.int (nI i)), some (.int (nI (D t))), some (.int (nI u)), some (.int y)]) (e + 1) (ab_dd tk_ro_deedTo 47 rfl) rfl (by decide) rfl (fun _ => rfl) (iinc_p 1) ?_
          refine x_goto 54 (ab_dd tk_ro_deedTo 48 rfl) (by decide) ?_
          exact ih (e + 1) (by omega) (fun d hd => by by_cases z : d = e; (· rw [z, hc]; exact fun q => h80 (Option.some.inj q)); (· exact hno d (by omega)))
        · refine x_iload 85 5 (ab_dd tk_ro_deedTo 45 rfl) rfl rfl ?_
          exact x_iret (ab_dd tk_ro_deedTo 46 rfl) ⟨⟨_, rfl, Or.inr ⟨hiD, e, by omega, rfl, by rw [hc, h80], hno⟩⟩, rfl⟩
  have back : i < D t → ∀ (q m : Nat), m + q = D t - 1 - i → ab_Ex G 1 M_ro_deedTo 25 [some (.ref r), some (.int (nI t)), some (.int (nI i)), some (.int (nI (D t))), some (.int (nI (anc pf t m))), some (.int (nI (D t - 1 - m)))] [] (sw S) (fun v w' => (∃ v0, v = some (.int v0) ∧ ((D t ≤ i ∧ v0 = -1) ∨ (i < D t ∧ ∃ d, d < 4 ∧ v0 = nI d ∧ nxt (pf (anc pf t (D t - 1 - i))) d = some (anc pf t (D t - 1 - i)) ∧ ∀ d', d' < d → nxt (pf (anc pf t (D t - 1 - i))) d' ≠ some (anc pf t (D t - 1 - i))))) ∧ w' = sw S) := by
    intro hiD q
    induction q with
    | zero =>
      intro m hm
      have hmm : m = D t - 1 - i := by omega
      rw [hmm]
      refine x_iload 27 5 (ab_dd tk_ro_deedTo 17 rfl) rfl rfl ?_
      refine x_iload_n 28 2 (ab_dd tk_ro_deedTo 18 rfl) rfl rfl rfl ?_
      refine x_icmp_le_t 51 (ab_dd tk_ro_deedTo 19 rfl) (by decide) ((nI_leI (a := (D t - 1 - (D t - 1 - i))) (b := i) (by omega) (by omega)).mpr (show (D t - 1 - (D t - 1 - i)) ≤ i by omega)) ?_
      refine x_iconst 52 0 (ab_dd tk_ro_deedTo 29 rfl) rfl (by decide) (x_topn 0 rfl ?_)
      refine x_istore 54 [some (.ref r), some (.int (nI t)), some (.int (nI i)), some (.int (nI (D t))), some (.int (nI (anc pf t (D t - 1 - i)))), some (.int (nI 0))] 5 (ab_dd tk_ro_deedTo 30 rfl) rfl (by decide) rfl ?_
      exact fin hiD 4 0 (by omega) (fun d hd => absurd hd (Nat.not_lt_zero d))
    | succ q ih =>
      intro m hm
      obtain ⟨ha1, ha2⟩ := hanc m (by omega)
      have ha0 : 0 < anc pf t m := Nat.pos_of_ne_zero (fun z => by rw [z, hD0] at ha2; omega)
      have hp := hpf _ ha0 ha1
      refine x_iload 27 5 (ab_dd tk_ro_deedTo 17 rfl) rfl rfl ?_
      refine x_iload_n 28 2 (ab_dd tk_ro_deedTo 18 rfl) rfl rfl rfl ?_
      refine x_icmp_le_f 31 (ab_dd tk_ro_deedTo 19 rfl) rfl 51 (by decide) (fun z => absurd ((nI_leI (a := (D t - 1 - m)) (b := i) (by omega) (by omega)).mp z) (show ¬ ((D t - 1 - m) ≤ i) by omega)) ?_
      refine x_iload 33 4 (ab_dd tk_ro_deedTo 20 rfl) rfl rfl ?_
      refine x_if_le_f 36 (ab_dd tk_ro_deedTo 21 rfl) rfl 51 (by decide) (fun z => absurd ((nI_leI (a := (anc pf t m)) (b := 0) (by omega) (by omega)).mp z) (show ¬ ((anc pf t m) ≤ 0) by omega)) ?_
      refine x_aload_n 37 0 (ab_dd tk_ro_deedTo 22 rfl) rfl rfl rfl ?_
      refine t_getP 40 (r + 3) (ab_dd tk_ro_deedTo 23 rfl) rfl F_ro_45 (by have := hO.1; omega) (Nat.lt_of_le_of_lt (Nat.le_add_right r 7) hO.2.1) hO.2.2.1 rfl hO.2.2.2.2.2.2.2.2.2.2.2.2.2.1 ?_
      refine x_iload 42 4 (ab_dd tk_ro_deedTo 24 rfl) rfl rfl ?_
      refine t_iald 43 (anc pf t m) (ab_dd tk_ro_deedTo 25 rfl) rfl (by have := hO.1; omega) (Nat.lt_of_le_of_lt (Nat.add_le_add_left (by decide) r) hO.2.1) hO.2.2.2.2.2.1 rfl (by omega) (by omega) (x_topn (anc pf t (m + 1)) hp.1 ?_)
      refine x_istore 45 [some (.ref r), some (.int (nI t)), some (.int (nI i)), some (.int (nI (D t))), some (.int (nI (anc pf t (m + 1)))), some (.int (nI (D t - 1 - m)))] 4 (ab_dd tk_ro_deedTo 26 rfl) rfl (by decide) rfl ?_
      refine xn_iinc 48 5 (fun y => [some (.ref r), some (.int (nI t)), some (.int (nI i)), some (.int (nI (D t))), some (.int (nI (anc pf t (m + 1)))), some (.int y)]) ((D t - 1 - m) - 1) (ab_dd tk_ro_deedTo 27 rfl) rfl (by decide) rfl (fun _ => rfl) (iinc_m (by omega)) ?_
      refine x_goto 25 (ab_dd tk_ro_deedTo 28 rfl) (by decide) ?_
      rw [show D t - 1 - m - 1 = D t - 1 - (m + 1) by omega]
      exact ih (m + 1) (by omega)
  refine x_aload_n 1 0 (ab_dd tk_ro_deedTo 0 rfl) rfl rfl rfl ?_
  refine x_iload_n 2 1 (ab_dd tk_ro_deedTo 1 rfl) rfl rfl rfl ?_
  refine t_callV 5 M_ro_stopsTo 0 1 [_] (ab_dd tk_ro_deedTo 2 rfl) rfl (by first | decide | omega) K_ro_stopsTo V_ro_stopsTo.1 V_ro_stopsTo.2 L_ro_104 rfl (Nat.le_of_ble_eq_true rfl) (by have := hO.1; omega) (Nat.lt_of_le_of_lt (Nat.le_add_right r 7) hO.2.1) hO.2.2.1 rfl (c_ro_stopsTo hO hlen hN0 hf0 hpf hD0 hD t ht) (fun v1 w1 h1 => ?_)
  obtain ⟨rfl, rfl⟩ := h1
  refine x_istore_n 6 [some (.ref r), some (.int (nI t)), some (.int (nI i)), some (.int (nI (D t))), none, none] 3 (ab_dd tk_ro_deedTo 3 rfl) rfl rfl (by decide) rfl ?_
  refine x_iload_n 7 2 (ab_dd tk_ro_deedTo 4 rfl) rfl rfl rfl ?_
  refine xn_if_lt 10 15 (ab_dd tk_ro_deedTo 5 rfl) rfl (by decide) (by omega) ?_
  refine x_iload_n 11 2 (ab_dd tk_ro_deedTo 6 rfl) rfl rfl rfl ?_
  refine x_iload_n 12 3 (ab_dd tk_ro_deedTo 7 rfl) rfl rfl rfl ?_
  refine xn_icmp_lt 15 17 (ab_dd tk_ro_deedTo 8 rfl) rfl (by decide) (by omega) (by omega) (fun h12 => ?_) (fun h12 => ?_)
  · refine x_iload_n 18 1 (ab_dd tk_ro_deedTo 11 rfl) rfl rfl rfl ?_
    refine x_istore 20 [some (.ref r), some (.int (nI t)), some (.int (nI i)), some (.int (nI (D t))), some (.int (nI t)), none] 4 (ab_dd tk_ro_deedTo 12 rfl) rfl (by decide) rfl ?_
    refine x_iload_n 21 3 (ab_dd tk_ro_deedTo 13 rfl) rfl rfl rfl ?_
    refine x_iconst 22 1 (ab_dd tk_ro_deedTo 14 rfl) rfl (by decide) (x_topn 1 rfl ?_)
    refine x_isub 23 (ab_dd tk_ro_deedTo 15 rfl) rfl (x_topn ((D t) - 1) (pk_sub (by omega)) ?_)
    refine x_istore 25 [some (.ref r), some (.int (nI t)), some (.int (nI i)), some (.int (nI (D t))), some (.int (nI t)), some (.int (nI ((D t) - 1)))] 5 (ab_dd tk_ro_deedTo 16 rfl) rfl (by decide) rfl ?_
    exact back (by omega) (D t - 1 - i) 0 (by omega)
  · refine x_iconst 16 (-1) (ab_dd tk_ro_deedTo 9 rfl) rfl (by decide) ?_
    exact x_iret (ab_dd tk_ro_deedTo 10 rfl) ⟨⟨_, rfl, Or.inl ⟨by omega, rfl⟩⟩, rfl⟩
