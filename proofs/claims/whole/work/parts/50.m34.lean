/-! ===== attempt of the reference ===== -/
/-- all warmths behind a stop, were the season of p s -/
def aBr (a : Nat → Int32) (d p s : Nat) : Nat := (if aY (aSn a p s) (a 40) (aE a) d = 0 then aS (aSn a p s) (a 40) (aE a) d else aE a) % 625
def aBw (a : Nat → Int32) (d p t s : Nat) : Int32 := if bt t s then nI (aBr a d p s) else -1
/-- how many of those below k are as one is -/
def ctA (w : Nat → Int32) (i : Nat) : Nat → Nat
  | 0 => 0
  | k + 1 => ctA w i k + (if w i ≠ -1 ∧ w k = w i then 1 else 0)
theorem ctA_le (w : Nat → Int32) (i : Nat) : ∀ k, ctA w i k ≤ k
  | 0 => Nat.le_refl _
  | k + 1 => by
    have := ctA_le w i k
    unfold ctA
    split <;> omega
def grA (w : Nat → Int32) : Nat → Nat
  | 0 => 0
  | k + 1 => if grA w k < ctA w k 4 then ctA w k 4 else grA w k
theorem grA_le (w : Nat → Int32) : ∀ k, grA w k ≤ 4
  | 0 => by show 0 ≤ 4; decide
  | k + 1 => by
    have h1 := grA_le w k
    have h2 := ctA_le w k 4
    unfold grA
    split <;> omega
def tb_m_mostAlike : List (Nat × Instr × Nat) := [(0, .aload_n 0, 1), (1, .getfield 13, 3), (4, .bipush 28, 2), (6, .iload_n 2, 1), (7, .iadd, 1), (8, .iaload, 1), (9, .istore 4, 2), (11, .iconst 0, 1), (12, .istore 5, 2), (14, .iconst 0, 1), (15, .istore 6, 2), (17, .iload 6, 2), (19, .iconst 4, 1), (20, .if_icmp .ge 92, 3), (23, .aload_n 0, 1), (24, .getfield 13, 3), (27, .bipush 28, 2), (29, .iload_n 2, 1), (30, .iadd, 1), (31, .iload 6, 2), (33, .iastore, 1), (34, .aload_n 0, 1), (35, .invokevirtual 266, 3), (38, .istore 7, 2), (40, .aload_n 0, 1), (41, .iload 7, 2), (43, .iload_n 1, 1), (44, .i2l, 1), (45, .aload_n 0, 1), (46, .getfield 13, 3), (49, .bipush 40, 2), (51, .iaload, 1), (52, .invokevirtual 269, 3), (55, .ifCond .ne 20, 3), (58, .aload_n 0, 1), (59, .iload 7, 2), (61, .iload_n 1, 1), (62, .aload_n 0, 1), (63, .getfield 13, 3), (66, .bipush 40, 2), (68, .iaload, 1), (69, .invokevirtual 273, 3), (72, .goto 5, 3), (75, .iload 7, 2), (77, .istore 8, 2), (79, .aload_n 0, 1), (80, .getfield 81, 3), (83, .iload 6, 2), (85, .iload_n 3, 1), (86, .i2l, 1), (87, .iload 6, 2), (89, .invokestatic 400, 3), (92, .ifCond .eq 12, 3), (95, .iload 8, 2), (97, .sipush 625, 3), (100, .irem, 1), (101, .goto 4, 3), (104, .iconst (-1), 1), (105, .iastore, 1), (106, .iinc 6 1, 3), (109, .goto (-92), 3), (112, .aload_n 0, 1), (113, .getfield 13, 3), (116, .bipush 28, 2), (118, .iload_n 2, 1), (119, .iadd, 1), (120, .iload 4, 2), (122, .iastore, 1), (123, .iconst 0, 1), (124, .istore 6, 2), (126, .iload 6, 2), (128, .iconst 4, 1), (129, .if_icmp .ge 81, 3), (132, .iconst 0, 1), (133, .istore 7, 2), (135, .iconst 0, 1), (136, .istore 8, 2), (138, .iload 8, 2), (140, .iconst 4, 1), (141, .if_icmp .ge 47, 3), (144, .iload 7, 2), (146, .aload_n 0, 1), (147, .getfield 81, 3), (150, .iload 6, 2), (152, .iaload, 1), (153, .iconst (-1), 1), (154, .if_icmp .eq 24, 3), (157, .aload_n 0, 1), (158, .getfield 81, 3), (161, .iload 8, 2), (163, .iaload, 1), (164, .aload_n 0, 1), (165, .getfield 81, 3), (168, .iload 6, 2), (170, .iaload, 1), (171, .if_icmp .ne 7, 3), (174, .iconst 1, 1), (175, .goto 4, 3), (178, .iconst 0, 1), (179, .iadd, 1), (180, .istore 7, 2), (182, .iinc 8 1, 3), (185, .goto (-47), 3), (188, .iload 7, 2), (190, .iload 5, 2), (192, .if_icmp .le 8, 3), (195, .iload 7, 2), (197, .goto 5, 3), (200, .iload 5, 2), (202, .istore 5, 2), (204, .iinc 6 1, 3), (207, .goto (-81), 3), (210, .iload 5, 2), (212, .ireturn, 1)]
theorem tk_m_mostAlike : ∀ q ∈ tb_m_mostAlike, decode M_m_mostAlike.2.1 q.1 = .ok q.2 := by decide +kernel
theorem c_m_mostAlike {G : ab_G} {S : ab_S} {a : Nat → Int32} (hm : mSh S) (hA : mA S = a) (ha : aOk a) (d p t : Nat) (hd : d < 4) (hp : p < 4) (ht : t < 16) : ab_C G 5 M_m_mostAlike [.ref 120, .int (nI d), .int (nI p), .int (nI t)] (sw S) (rSt [121, 125, 126, 141] S (some (.int (nI (grA (aBw a d p t) 4)))) a) := by
  have outer : ∀ S1, mSh S1 → mA S1 = a → sEq [121, 125, 126, 141] S S1 → (∀ s, s < 4 → sI S1 141 s = (aBw a d p t) s) → ∀ v1, ∀ (m k : Nat), k + m = 4 → ab_Ex G 5 M_m_mostAlike 126 [some (.ref 120), some (.int (nI d)), some (.int (nI p)), some (.int (nI t)), some (.int v1), some (.int (nI (grA (aBw a d p t) k))), some (.int (nI k)), none, none] [] (sw S1) (rSt [121, 125, 126, 141] S (some (.int (nI (grA (aBw a d p t) 4)))) a) := by
    intro S1 hm1 hA1 hE1 hW v1 m
    induction m with
    | zero =>
      intro k hk
      obtain rfl : k = 4 := by omega
      refine x_iload 128 6 (ab_dd tk_m_mostAlike 70 rfl) rfl rfl ?_
      refine x_iconst 129 4 (ab_dd tk_m_mostAlike 71 rfl) rfl (by decide) (x_topn 4 rfl ?_)
      refine x_icmp_ge_t 210 (ab_dd tk_m_mostAlike 72 rfl) (by decide) ((nI_leI (a := 4) (b := 4) (by omega) (by omega)).mpr (show 4 ≤ 4 by omega)) ?_
      refine x_iload 212 5 (ab_dd tk_m_mostAlike 112 rfl) rfl rfl ?_
      exact x_iret (ab_dd tk_m_mostAlike 113 rfl) ⟨rfl, S1, rfl, hm1, hA1, hE1⟩
    | succ m ih =>
      intro k hk
      have hI := ih (k + 1) (by omega)
      have hg4 := grA_le (aBw a d p t) k
      have inner : ∀ (n j : Nat), j + n = 4 → ab_Ex G 5 M_m_mostAlike 138 [some (.ref 120), some (.int (nI d)), some (.int (nI p)), some (.int (nI t)), some (.int v1), some (.int (nI (grA (aBw a d p t) k))), some (.int (nI k)), some (.int (nI (ctA (aBw a d p t) k j))), some (.int (nI j))] [] (sw S1) (rSt [121, 125, 126, 141] S (some (.int (nI (grA (aBw a d p t) 4)))) a) := by
        intro n
        induction n with
        | zero =>
          intro j hj
          obtain rfl : j = 4 := by omega
          have hc4 := ctA_le (aBw a d p t) k 4
          refine x_iload 140 8 (ab_dd tk_m_mostAlike 77 rfl) rfl rfl ?_
          refine x_iconst 141 4 (ab_dd tk_m_mostAlike 78 rfl) rfl (by decide) (x_topn 4 rfl ?_)
          refine x_icmp_ge_t 188 (ab_dd tk_m_mostAlike 79 rfl) (by decide) ((nI_leI (a := 4) (b := 4) (by omega) (by omega)).mpr (show 4 ≤ 4 by omega)) ?_
          refine x_iload 190 7 (ab_dd tk_m_mostAlike 103 rfl) rfl rfl ?_
          refine x_iload 192 5 (ab_dd tk_m_mostAlike 104 rfl) rfl rfl ?_
          refine xn_icmp_le 195 200 (ab_dd tk_m_mostAlike 105 rfl) rfl (by decide) (by omega) (by omega) (fun h192 => ?_) (fun h192 => ?_)
          · refine x_iload 202 5 (ab_dd tk_m_mostAlike 108 rfl) rfl rfl ?_
            refine x_istore 204 [some (.ref 120), some (.int (nI d)), some (.int (nI p)), some (.int (nI t)), some (.int v1), some (.int (nI (grA (aBw a d p t) k))), some (.int (nI k)), some (.int (nI (ctA (aBw a d p t) k 4))), some (.int (nI 4))] 5 (ab_dd tk_m_mostAlike 109 rfl) rfl (by decide) rfl ?_
            refine xn_iinc 207 6 (fun y => [some (.ref 120), some (.int (nI d)), some (.int (nI p)), some (.int (nI t)), some (.int v1), some (.int (nI (grA (aBw a d p t) k))), some (.int y), some (.int (nI (ctA (aBw a d p t) k 4))), some (.int (nI 4))]) (k + 1) (ab_dd tk_m_mostAlike 110 rfl) rfl (by decide) rfl (fun _ => rfl) (iinc_p 1) ?_
            refine x_goto 126 (ab_dd tk_m_mostAlike 111 rfl) (by decide) ?_
            rw [show grA (aBw a d p t) (k + 1) = _ from if_neg (by omega)] at hI
            exact x_forget 7 (x_forget 8 hI)
          · refine x_iload 197 7 (ab_dd tk_m_mostAlike 106 rfl) rfl rfl ?_
            refine x_goto 202 (ab_dd tk_m_mostAlike 107 rfl) (by decide) ?_
            refine x_istore 204 [some (.ref 120), some (.int (nI d)), some (.int (nI p)), some (.int (nI t)), some (.int v1), some (.int (nI (ctA (aBw a d p t) k 4))), some (.int (nI k)), some (.int (nI (ctA (aBw a d p t) k 4))), some (.int (nI 4))] 5 (ab_dd tk_m_mostAlike 109 rfl) rfl (by decide) rfl ?_
            refine xn_iinc 207 6 (fun y => [some (.ref 120), some (.int (nI d)), some (.int (nI p)), some (.int (nI t)), some (.int v1), some (.int (nI (ctA (aBw a d p t) k 4))), some (.int y), some (.int (nI (ctA (aBw a d p t) k 4))), some (.int (nI 4))]) (k + 1) (ab_dd tk_m_mostAlike 110 rfl) rfl (by decide) rfl (fun _ => rfl) (iinc_p 1) ?_
            refine x_goto 126 (ab_dd tk_m_mostAlike 111 rfl) (by decide) ?_
            rw [show grA (aBw a d p t) (k + 1) = _ from if_pos h192] at hI
            exact x_forget 7 (x_forget 8 hI)
        | succ n ihn =>
          intro j hj
          have hJ := ihn (j + 1) (by omega)
          have hwk := hW k (by omega)
          have hwj := hW j (by omega)
          have hc4 := ctA_le (aBw a d p t) k j
          refine x_iload 140 8 (ab_dd tk_m_mostAlike 77 rfl) rfl rfl ?_
          refine x_iconst 141 4 (ab_dd tk_m_mostAlike 78 rfl) rfl (by decide) (x_topn 4 rfl ?_)
          refine x_icmp_ge_f 144 (ab_dd tk_m_mostAlike 79 rfl) rfl 188 (by decide) (fun z => absurd ((nI_leI (a := 4) (b := j) (by omega) (by omega)).mp z) (show ¬ (4 ≤ j) by omega)) ?_
          refine x_iload 146 7 (ab_dd tk_m_mostAlike 80 rfl) rfl rfl ?_
          refine x_aload_n 147 0 (ab_dd tk_m_mostAlike 81 rfl) rfl rfl rfl ?_
          refine t_getP 150 141 (ab_dd tk_m_mostAlike 82 rfl) rfl F_m_81 (by decide) (Nat.lt_of_lt_of_le (by decide) hm1.1) (hm1.2.1 0 (by decide)) rfl (hm1.2.2 39 (by decide)) ?_
          refine x_iload 152 6 (ab_dd tk_m_mostAlike 83 rfl) rfl rfl ?_
          refine t_iald 153 k (ab_dd tk_m_mostAlike 84 rfl) rfl (by decide) (Nat.lt_of_lt_of_le (by decide) hm1.1) (hm1.2.1 21 (by decide)) rfl (by omega) (by decide) (x_topx ((aBw a d p t) k) hwk ?_)
          refine x_iconst 154 (-1) (ab_dd tk_m_mostAlike 85 rfl) rfl (by decide) ?_
          refine x_icmp_eq 157 178 (ab_dd tk_m_mostAlike 86 rfl) rfl (by decide) (fun h154 => ?_) (fun h154 => ?_)
          · refine x_iconst 179 0 (ab_dd tk_m_mostAlike 98 rfl) rfl (by decide) (x_topn 0 rfl ?_)
            refine x_iadd 180 (ab_dd tk_m_mostAlike 99 rfl) rfl (x_topn ((ctA (aBw a d p t) k j) + 0) (nI_add _ _) ?_)
            refine x_istore 182 [some (.ref 120), some (.int (nI d)), some (.int (nI p)), some (.int (nI t)), some (.int v1), some (.int (nI (grA (aBw a d p t) k))), some (.int (nI k)), some (.int (nI ((ctA (aBw a d p t) k j) + 0))), some (.int (nI j))] 7 (ab_dd tk_m_mostAlike 100 rfl) rfl (by decide) rfl ?_
            refine xn_iinc 185 8 (fun y => [some (.ref 120), some (.int (nI d)), some (.int (nI p)), some (.int (nI t)), some (.int v1), some (.int (nI (grA (aBw a d p t) k))), some (.int (nI k)), some (.int (nI ((ctA (aBw a d p t) k j) + 0))), some (.int y)]) (j + 1) (ab_dd tk_m_mostAlike 101 rfl) rfl (by decide) rfl (fun _ => rfl) (iinc_p 1) ?_
            refine x_goto 138 (ab_dd tk_m_mostAlike 102 rfl) (by decide) ?_
            rw [show ctA (aBw a d p t) k (j + 1) = ctA (aBw a d p t) k j + _ from rfl, if_neg (fun z => z.1 h154)] at hJ
            exact hJ
          · refine x_aload_n 158 0 (ab_dd tk_m_mostAlike 87 rfl) rfl rfl rfl ?_
            refine t_getP 161 141 (ab_dd tk_m_mostAlike 88 rfl) rfl F_m_81 (by decide) (Nat.lt_of_lt_of_le (by decide) hm1.1) (hm1.2.1 0 (by decide)) rfl (hm1.2.2 39 (by decide)) ?_
            refine x_iload 163 8 (ab_dd tk_m_mostAlike 89 rfl) rfl rfl ?_
            refine t_iald 164 j (ab_dd tk_m_mostAlike 90 rfl) rfl (by decide) (Nat.lt_of_lt_of_le (by decide) hm1.1) (hm1.2.1 21 (by decide)) rfl (by omega) (by decide) (x_topx ((aBw a d p t) j) hwj ?_)
            refine x_aload_n 165 0 (ab_dd tk_m_mostAlike 91 rfl) rfl rfl rfl ?_
            refine t_getP 168 141 (ab_dd tk_m_mostAlike 92 rfl) rfl F_m_81 (by decide) (Nat.lt_of_lt_of_le (by decide) hm1.1) (hm1.2.1 0 (by decide)) rfl (hm1.2.2 39 (by decide)) ?_
            refine x_iload 170 6 (ab_dd tk_m_mostAlike 93 rfl) rfl rfl ?_
            refine t_iald 171 k (ab_dd tk_m_mostAlike 94 rfl) rfl (by decide) (Nat.lt_of_lt_of_le (by decide) hm1.1) (hm1.2.1 21 (by decide)) rfl (by omega) (by decide) (x_topx ((aBw a d p t) k) hwk ?_)
            refine x_icmp_ne 174 178 (ab_dd tk_m_mostAlike 95 rfl) rfl (by decide) (fun h171 => ?_) (fun h171 => ?_)
            · refine x_iconst 179 0 (ab_dd tk_m_mostAlike 98 rfl) rfl (by decide) (x_topn 0 rfl ?_)
              refine x_iadd 180 (ab_dd tk_m_mostAlike 99 rfl) rfl (x_topn ((ctA (aBw a d p t) k j) + 0) (nI_add _ _) ?_)
              refine x_istore 182 [some (.ref 120), some (.int (nI d)), some (.int (nI p)), some (.int (nI t)), some (.int v1), some (.int (nI (grA (aBw a d p t) k))), some (.int (nI k)), some (.int (nI ((ctA (aBw a d p t) k j) + 0))), some (.int (nI j))] 7 (ab_dd tk_m_mostAlike 100 rfl) rfl (by decide) rfl ?_
              refine xn_iinc 185 8 (fun y => [some (.ref 120), some (.int (nI d)), some (.int (nI p)), some (.int (nI t)), some (.int v1), some (.int (nI (grA (aBw a d p t) k))), some (.int (nI k)), some (.int (nI ((ctA (aBw a d p t) k j) + 0))), some (.int y)]) (j + 1) (ab_dd tk_m_mostAlike 101 rfl) rfl (by decide) rfl (fun _ => rfl) (iinc_p 1) ?_
              refine x_goto 138 (ab_dd tk_m_mostAlike 102 rfl) (by decide) ?_
              rw [show ctA (aBw a d p t) k (j + 1) = ctA (aBw a d p t) k j + _ from rfl, if_neg (fun z => h171 z.2)] at hJ
              exact hJ
            · refine x_iconst 175 1 (ab_dd tk_m_mostAlike 96 rfl) rfl (by decide) (x_topn 1 rfl ?_)
              refine x_goto 179 (ab_dd tk_m_mostAlike 97 rfl) (by decide) ?_
              refine x_iadd 180 (ab_dd tk_m_mostAlike 99 rfl) rfl (x_topn ((ctA (aBw a d p t) k j) + 1) (nI_add _ _) ?_)
              refine x_istore 182 [some (.ref 120), some (.int (nI d)), some (.int (nI p)), some (.int (nI t)), some (.int v1), some (.int (nI (grA (aBw a d p t) k))), some (.int (nI k)), some (.int (nI ((ctA (aBw a d p t) k j) + 1))), some (.int (nI j))] 7 (ab_dd tk_m_mostAlike 100 rfl) rfl (by decide) rfl ?_
              refine xn_iinc 185 8 (fun y => [some (.ref 120), some (.int (nI d)), some (.int (nI p)), some (.int (nI t)), some (.int v1), some (.int (nI (grA (aBw a d p t) k))), some (.int (nI k)), some (.int (nI ((ctA (aBw a d p t) k j) + 1))), some (.int y)]) (j + 1) (ab_dd tk_m_mostAlike 101 rfl) rfl (by decide) rfl (fun _ => rfl) (iinc_p 1) ?_
              refine x_goto 138 (ab_dd tk_m_mostAlike 102 rfl) (by decide) ?_
              rw [show ctA (aBw a d p t) k (j + 1) = ctA (aBw a d p t) k j + _ from rfl, if_pos ⟨h154, h171⟩] at hJ
              exact hJ
      refine x_iload 128 6 (ab_dd tk_m_mostAlike 70 rfl) rfl rfl ?_
      refine x_iconst 129 4 (ab_dd tk_m_mostAlike 71 rfl) rfl (by decide) (x_topn 4 rfl ?_)
      refine x_icmp_ge_f 132 (ab_dd tk_m_mostAlike 72 rfl) rfl 210 (by decide) (fun z => absurd ((nI_leI (a := 4) (b := k) (by omega) (by omega)).mp z) (show ¬ (4 ≤ k) by omega)) ?_
      refine x_iconst 133 0 (ab_dd tk_m_mostAlike 73 rfl) rfl (by decide) (x_topn 0 rfl ?_)
      refine x_istore 135 [some (.ref 120), some (.int (nI d)), some (.int (nI p)), some (.int (nI t)), some (.int v1), some (.int (nI (grA (aBw a d p t) k))), some (.int (nI k)), some (.int (nI 0)), none] 7 (ab_dd tk_m_mostAlike 74 rfl) rfl (by decide) rfl ?_
      refine x_iconst 136 0 (ab_dd tk_m_mostAlike 75 rfl) rfl (by decide) (x_topn 0 rfl ?_)
      refine x_istore 138 [some (.ref 120), some (.int (nI d)), some (.int (nI p)), some (.int (nI t)), some (.int v1), some (.int (nI (grA (aBw a d p t) k))), some (.int (nI k)), some (.int (nI 0)), some (.int (nI 0))] 8 (ab_dd tk_m_mostAlike 76 rfl) rfl (by decide) rfl ?_
      exact inner 4 0 (by omega)
  have loop : ∀ (m k : Nat), k + m = 4 → ∀ S1, mSh S1 → (∀ i, i ≠ 28 + p → mA S1 i = a i) → sEq [121, 125, 126, 141] S S1 → (∀ s, s < k → sI S1 141 s = (aBw a d p t) s) → ab_Ex G 5 M_m_mostAlike 17 [some (.ref 120), some (.int (nI d)), some (.int (nI p)), some (.int (nI t)), some (.int (a (28 + p))), some (.int (nI 0)), some (.int (nI k)), none, none] [] (sw S1) (rSt [121, 125, 126, 141] S (some (.int (nI (grA (aBw a d p t) 4)))) a) := by
    intro m
    induction m with
    | zero =>
      intro k hk S1 hm1 hA1 hE1 hW
      obtain rfl : k = 4 := by omega
      refine x_iload 19 6 (ab_dd tk_m_mostAlike 11 rfl) rfl rfl ?_
      refine x_iconst 20 4 (ab_dd tk_m_mostAlike 12 rfl) rfl (by decide) (x_topn 4 rfl ?_)
      refine x_icmp_ge_t 112 (ab_dd tk_m_mostAlike 13 rfl) (by decide) ((nI_leI (a := 4) (b := 4) (by omega) (by omega)).mpr (show 4 ≤ 4 by omega)) ?_
      refine x_aload_n 113 0 (ab_dd tk_m_mostAlike 61 rfl) rfl rfl rfl ?_
      refine t_getP 116 121 (ab_dd tk_m_mostAlike 62 rfl) rfl F_m_13 (by decide) (Nat.lt_of_lt_of_le (by decide) hm1.1) (hm1.2.1 0 (by decide)) rfl (hm1.2.2 1 (by decide)) ?_
      refine x_bipush 118 28 (ab_dd tk_m_mostAlike 63 rfl) rfl (by decide) (x_topn 28 rfl ?_)
      refine x_iload_n 119 2 (ab_dd tk_m_mostAlike 64 rfl) rfl rfl rfl ?_
      refine x_iadd 120 (ab_dd tk_m_mostAlike 65 rfl) rfl (x_topn (28 + p) (nI_add _ _) ?_)
      refine x_iload 122 4 (ab_dd tk_m_mostAlike 66 rfl) rfl rfl ?_
      refine t_iast 123 (28 + p) (ab_dd tk_m_mostAlike 67 rfl) rfl (by decide) (Nat.lt_of_lt_of_le (by decide) hm1.1) (hm1.2.1 1 (by decide)) rfl (by omega) (by decide) ?_
      refine x_iconst 124 0 (ab_dd tk_m_mostAlike 68 rfl) rfl (by decide) (x_topn 0 rfl ?_)
      refine x_istore 126 [some (.ref 120), some (.int (nI d)), some (.int (nI p)), some (.int (nI t)), some (.int (a (28 + p))), some (.int (nI 0)), some (.int (nI 0)), none, none] 6 (ab_dd tk_m_mostAlike 69 rfl) rfl (by decide) rfl ?_
      refine outer (pI S1 121 (28 + p) (a (28 + p))) hm1 ?_ (hE1.pI (by decide)) hW _ 4 0 (by omega)
      funext i
      show up2 (sI S1) 121 (28 + p) (a (28 + p)) 121 i = a i
      by_cases e : i = 28 + p
      · rw [e, up2_s]
      · rw [up2_k e]; exact hA1 i e
    | succ m ih =>
      intro k hk S1 hm1 hA1 hE1 hW
      obtain ⟨k1, k2, k3, k4⟩ := aSn_ok ha hp (show k < 4 by omega)
      have hA2 : mA (pI S1 121 (28 + p) (nI k)) = aSn a p k := by
        funext i
        show up2 (sI S1) 121 (28 + p) (nI k) 121 i = up1 a (28 + p) (nI k) i
        by_cases e : i = 28 + p
        · rw [e, up2_s, up1_s]
        · rw [up2_k e, up1_o e]; exact hA1 i e
      have hE := k1.E
      rw [k2, k3] at hE
      have hElt := hE.1
      have hYlt : aY (aSn a p k) (a 40) (aE a) d < 3 := spY_lt
      refine x_iload 19 6 (ab_dd tk_m_mostAlike 11 rfl) rfl rfl ?_
      refine x_iconst 20 4 (ab_dd tk_m_mostAlike 12 rfl) rfl (by decide) (x_topn 4 rfl ?_)
      refine x_icmp_ge_f 23 (ab_dd tk_m_mostAlike 13 rfl) rfl 112 (by decide) (fun z => absurd ((nI_leI (a := 4) (b := k) (by omega) (by omega)).mp z) (show ¬ (4 ≤ k) by omega)) ?_
      refine x_aload_n 24 0 (ab_dd tk_m_mostAlike 14 rfl) rfl rfl rfl ?_
      refine t_getP 27 121 (ab_dd tk_m_mostAlike 15 rfl) rfl F_m_13 (by decide) (Nat.lt_of_lt_of_le (by decide) hm1.1) (hm1.2.1 0 (by decide)) rfl (hm1.2.2 1 (by decide)) ?_
      refine x_bipush 29 28 (ab_dd tk_m_mostAlike 16 rfl) rfl (by decide) (x_topn 28 rfl ?_)
      refine x_iload_n 30 2 (ab_dd tk_m_mostAlike 17 rfl) rfl rfl rfl ?_
      refine x_iadd 31 (ab_dd tk_m_mostAlike 18 rfl) rfl (x_topn (28 + p) (nI_add _ _) ?_)
      refine x_iload 33 6 (ab_dd tk_m_mostAlike 19 rfl) rfl rfl ?_
      refine t_iast 34 (28 + p) (ab_dd tk_m_mostAlike 20 rfl) rfl (by decide) (Nat.lt_of_lt_of_le (by decide) hm1.1) (hm1.2.1 1 (by decide)) rfl (by omega) (by decide) ?_
      refine x_aload_n 35 0 (ab_dd tk_m_mostAlike 21 rfl) rfl rfl rfl ?_
      refine t_callV 38 M_m_standNow 1 0 [] (ab_dd tk_m_mostAlike 22 rfl) rfl (by decide) K_m_standNow V_m_standNow.1 V_m_standNow.2 L_m_266 rfl (Nat.le_of_ble_eq_true rfl) (by decide) (Nat.lt_of_lt_of_le (by decide) hm1.1) (hm1.2.1 0 (by decide)) rfl (w_standNow (S := pI S1 121 (28 + p) (nI k)) (by exact hm1) hA2 k1) (fun v1 w1 h1 => ?_)
      obtain ⟨rfl, rfl⟩ := h1
      rw [k3]
      refine x_istore 40 [some (.ref 120), some (.int (nI d)), some (.int (nI p)), some (.int (nI t)), some (.int (a (28 + p))), some (.int (nI 0)), some (.int (nI k)), some (.int (nI (aE a))), none] 7 (ab_dd tk_m_mostAlike 23 rfl) rfl (by decide) rfl ?_
      refine x_aload_n 41 0 (ab_dd tk_m_mostAlike 24 rfl) rfl rfl rfl ?_
      refine x_iload 43 7 (ab_dd tk_m_mostAlike 25 rfl) rfl rfl ?_
      refine x_iload_n 44 1 (ab_dd tk_m_mostAlike 26 rfl) rfl rfl rfl ?_
      refine x_i2l 45 (ab_dd tk_m_mostAlike 27 rfl) rfl (x_topL (lN d) (nI_l (by omega)) ?_)
      refine x_aload_n 46 0 (ab_dd tk_m_mostAlike 28 rfl) rfl rfl rfl ?_
      refine t_getP 49 121 (ab_dd tk_m_mostAlike 29 rfl) rfl F_m_13 (by decide) (Nat.lt_of_lt_of_le (by decide) hm1.1) (hm1.2.1 0 (by decide)) rfl (hm1.2.2 1 (by decide)) ?_
      refine x_bipush 51 40 (ab_dd tk_m_mostAlike 30 rfl) rfl (by decide) (x_topn 40 rfl ?_)
      refine t_iald 52 40 (ab_dd tk_m_mostAlike 31 rfl) rfl (by decide) (Nat.lt_of_lt_of_le (by decide) hm1.1) (hm1.2.1 1 (by decide)) rfl (by decide) (by decide) (x_topx (a 40) ((congrFun hA2 40).trans k4) ?_)
      refine t_callV 55 M_m_whyStop 4 3 [_, _, _] (ab_dd tk_m_mostAlike 32 rfl) rfl (by decide) K_m_whyStop V_m_whyStop.1 V_m_whyStop.2 L_m_269 rfl (Nat.le_of_ble_eq_true rfl) (by decide) (Nat.lt_of_lt_of_le (by decide) hm1.1) (hm1.2.1 0 (by decide)) rfl (w_whyStop (S := pI S1 121 (28 + p) (nI k)) (by exact hm1) hA2 k1 (aE a) d _ (by rw [k2]; exact hE) (by omega)) (fun v1 w1 h1 => ?_)
      obtain ⟨rfl, U1, rfl, um1, uA1, uE1⟩ := h1
      refine xn_if_ne 58 75 (ab_dd tk_m_mostAlike 33 rfl) rfl (by decide) (by omega) (fun h55 => ?_) (fun h55 => ?_)
      · refine x_iload 77 7 (ab_dd tk_m_mostAlike 43 rfl) rfl rfl ?_
        refine x_istore 79 [some (.ref 120), some (.int (nI d)), some (.int (nI p)), some (.int (nI t)), some (.int (a (28 + p))), some (.int (nI 0)), some (.int (nI k)), some (.int (nI (aE a))), some (.int (nI (aE a)))] 8 (ab_dd tk_m_mostAlike 44 rfl) rfl (by decide) rfl ?_
        refine x_aload_n 80 0 (ab_dd tk_m_mostAlike 45 rfl) rfl rfl rfl ?_
        refine t_getP 83 141 (ab_dd tk_m_mostAlike 46 rfl) rfl F_m_81 (by decide) (Nat.lt_of_lt_of_le (by decide) um1.1) (um1.2.1 0 (by decide)) rfl (um1.2.2 39 (by decide)) ?_
        refine x_iload 85 6 (ab_dd tk_m_mostAlike 47 rfl) rfl rfl ?_
        refine x_iload_n 86 3 (ab_dd tk_m_mostAlike 48 rfl) rfl rfl rfl ?_
        refine x_i2l 87 (ab_dd tk_m_mostAlike 49 rfl) rfl (x_topL (lN t) (nI_l (by omega)) ?_)
        refine x_iload 89 6 (ab_dd tk_m_mostAlike 50 rfl) rfl rfl ?_
        refine x_callS 92 M_m_isIn 0 2 [_, _] (ab_dd tk_m_mostAlike 51 rfl) rfl (by decide) K_m_isIn T_m_isIn L_m_400 rfl (Nat.le_of_ble_eq_true rfl) (c_m_isIn _ k (by omega) (by omega)) (fun v1 w1 h1 => ?_)
        obtain ⟨rfl, rfl⟩ := h1
        refine xb_if_eq 95 104 (ab_dd tk_m_mostAlike 52 rfl) rfl (by decide) (fun h92 => ?_) (fun h92 => ?_)
        · refine x_iconst 105 (-1) (ab_dd tk_m_mostAlike 57 rfl) rfl (by decide) ?_
          refine t_iast 106 k (ab_dd tk_m_mostAlike 58 rfl) rfl (by decide) (Nat.lt_of_lt_of_le (by decide) um1.1) (um1.2.1 21 (by decide)) rfl (by omega) (by decide) ?_
          refine xn_iinc 109 6 (fun y => [some (.ref 120), some (.int (nI d)), some (.int (nI p)), some (.int (nI t)), some (.int (a (28 + p))), some (.int (nI 0)), some (.int y), some (.int (nI (aE a))), some (.int (nI (aE a)))]) (k + 1) (ab_dd tk_m_mostAlike 59 rfl) rfl (by decide) rfl (fun _ => rfl) (iinc_p 1) ?_
          refine x_goto 17 (ab_dd tk_m_mostAlike 60 rfl) (by decide) ?_
          refine x_forget 7 (x_forget 8 (ih (k + 1) (by omega) _ um1 (fun i hi => by show mA U1 i = _; rw [uA1]; exact aSn_o hi) (((hE1.pI (by decide)).tr (uE1.mono (by decide))).pI (by decide)) (fun s hs => ?_)))
          show up2 (sI U1) 141 k _ 141 s = _
          by_cases e : s = k
          · rw [e, up2_s]; exact (if_neg h92 : aBw a d p t k = _).symm
          · rw [up2_k e, uE1.2.2.1 141 (by decide)]; exact hW s (by omega)
        · refine x_iload 97 8 (ab_dd tk_m_mostAlike 53 rfl) rfl rfl ?_
          refine x_sipush 100 625 (ab_dd tk_m_mostAlike 54 rfl) rfl (by decide) (x_topn 625 rfl ?_)
          refine x_irem 101 (ab_dd tk_m_mostAlike 55 rfl) rfl (by decide) (x_topn ((aE a) % 625) (pk_rem (by omega) (by omega) (by omega)) ?_)
          refine x_goto 105 (ab_dd tk_m_mostAlike 56 rfl) (by decide) ?_
          refine t_iast 106 k (ab_dd tk_m_mostAlike 58 rfl) rfl (by decide) (Nat.lt_of_lt_of_le (by decide) um1.1) (um1.2.1 21 (by decide)) rfl (by omega) (by decide) ?_
          refine xn_iinc 109 6 (fun y => [some (.ref 120), some (.int (nI d)), some (.int (nI p)), some (.int (nI t)), some (.int (a (28 + p))), some (.int (nI 0)), some (.int y), some (.int (nI (aE a))), some (.int (nI (aE a)))]) (k + 1) (ab_dd tk_m_mostAlike 59 rfl) rfl (by decide) rfl (fun _ => rfl) (iinc_p 1) ?_
          refine x_goto 17 (ab_dd tk_m_mostAlike 60 rfl) (by decide) ?_
          refine x_forget 7 (x_forget 8 (ih (k + 1) (by omega) _ um1 (fun i hi => by show mA U1 i = _; rw [uA1]; exact aSn_o hi) (((hE1.pI (by decide)).tr (uE1.mono (by decide))).pI (by decide)) (fun s hs => ?_)))
          show up2 (sI U1) 141 k _ 141 s = _
          by_cases e : s = k
          · rw [e, up2_s]; exact ((if_pos h92).trans (congrArg nI (by unfold aBr; rw [if_neg (by omega)])) : aBw a d p t k = _).symm
          · rw [up2_k e, uE1.2.2.1 141 (by decide)]; exact hW s (by omega)
      · refine x_aload_n 59 0 (ab_dd tk_m_mostAlike 34 rfl) rfl rfl rfl ?_
        refine x_iload 61 7 (ab_dd tk_m_mostAlike 35 rfl) rfl rfl ?_
        refine x_iload_n 62 1 (ab_dd tk_m_mostAlike 36 rfl) rfl rfl rfl ?_
        refine x_aload_n 63 0 (ab_dd tk_m_mostAlike 37 rfl) rfl rfl rfl ?_
        refine t_getP 66 121 (ab_dd tk_m_mostAlike 38 rfl) rfl F_m_13 (by decide) (Nat.lt_of_lt_of_le (by decide) um1.1) (um1.2.1 0 (by decide)) rfl (um1.2.2 1 (by decide)) ?_
        refine x_bipush 68 40 (ab_dd tk_m_mostAlike 39 rfl) rfl (by decide) (x_topn 40 rfl ?_)
        refine t_iald 69 40 (ab_dd tk_m_mostAlike 40 rfl) rfl (by decide) (Nat.lt_of_lt_of_le (by decide) um1.1) (um1.2.1 1 (by decide)) rfl (by decide) (by decide) (x_topx (a 40) ((congrFun uA1 40).trans k4) ?_)
        refine t_callV 72 M_m_stopTo 4 3 [_, _, _] (ab_dd tk_m_mostAlike 41 rfl) rfl (by decide) K_m_stopTo V_m_stopTo.1 V_m_stopTo.2 L_m_273 rfl (Nat.le_of_ble_eq_true rfl) (by decide) (Nat.lt_of_lt_of_le (by decide) um1.1) (um1.2.1 0 (by decide)) rfl (w_stopTo (by exact um1) (by exact uA1) k1 (aE a) d _ (by rw [k2]; exact hE) (by rw [k2]; have := spY_0 h55; rw [show aR (aSn a p k) = aR a from k2] at this; exact this)) (fun v1 w1 h1 => ?_)
        obtain ⟨rfl, U2, rfl, um2, uA2, uE2⟩ := h1
        have hS2 := aS_ok k1 (mo := a 40) (c := aE a) (q := d) (by rw [k2]; exact hE) (by have := spY_0 h55; exact this)
        have hS2lt := hS2.1
        refine x_goto 77 (ab_dd tk_m_mostAlike 42 rfl) (by decide) ?_
        refine x_istore 79 [some (.ref 120), some (.int (nI d)), some (.int (nI p)), some (.int (nI t)), some (.int (a (28 + p))), some (.int (nI 0)), some (.int (nI k)), some (.int (nI (aE a))), some (.int (nI (aS (aSn a p k) (a 40) (aE a) d)))] 8 (ab_dd tk_m_mostAlike 44 rfl) rfl (by decide) rfl ?_
        refine x_aload_n 80 0 (ab_dd tk_m_mostAlike 45 rfl) rfl rfl rfl ?_
        refine t_getP 83 141 (ab_dd tk_m_mostAlike 46 rfl) rfl F_m_81 (by decide) (Nat.lt_of_lt_of_le (by decide) um2.1) (um2.2.1 0 (by decide)) rfl (um2.2.2 39 (by decide)) ?_
        refine x_iload 85 6 (ab_dd tk_m_mostAlike 47 rfl) rfl rfl ?_
        refine x_iload_n 86 3 (ab_dd tk_m_mostAlike 48 rfl) rfl rfl rfl ?_
        refine x_i2l 87 (ab_dd tk_m_mostAlike 49 rfl) rfl (x_topL (lN t) (nI_l (by omega)) ?_)
        refine x_iload 89 6 (ab_dd tk_m_mostAlike 50 rfl) rfl rfl ?_
        refine x_callS 92 M_m_isIn 0 2 [_, _] (ab_dd tk_m_mostAlike 51 rfl) rfl (by decide) K_m_isIn T_m_isIn L_m_400 rfl (Nat.le_of_ble_eq_true rfl) (c_m_isIn _ k (by omega) (by omega)) (fun v1 w1 h1 => ?_)
        obtain ⟨rfl, rfl⟩ := h1
        refine xb_if_eq 95 104 (ab_dd tk_m_mostAlike 52 rfl) rfl (by decide) (fun h92 => ?_) (fun h92 => ?_)
        · refine x_iconst 105 (-1) (ab_dd tk_m_mostAlike 57 rfl) rfl (by decide) ?_
          refine t_iast 106 k (ab_dd tk_m_mostAlike 58 rfl) rfl (by decide) (Nat.lt_of_lt_of_le (by decide) um2.1) (um2.2.1 21 (by decide)) rfl (by omega) (by decide) ?_
          refine xn_iinc 109 6 (fun y => [some (.ref 120), some (.int (nI d)), some (.int (nI p)), some (.int (nI t)), some (.int (a (28 + p))), some (.int (nI 0)), some (.int y), some (.int (nI (aE a))), some (.int (nI (aS (aSn a p k) (a 40) (aE a) d)))]) (k + 1) (ab_dd tk_m_mostAlike 59 rfl) rfl (by decide) rfl (fun _ => rfl) (iinc_p 1) ?_
          refine x_goto 17 (ab_dd tk_m_mostAlike 60 rfl) (by decide) ?_
          refine x_forget 7 (x_forget 8 (ih (k + 1) (by omega) _ um2 (fun i hi => by show mA U2 i = _; rw [uA2]; exact aSn_o hi) ((((hE1.pI (by decide)).tr (uE1.mono (by decide))).tr (uE2.mono (by decide))).pI (by decide)) (fun s hs => ?_)))
          show up2 (sI U2) 141 k _ 141 s = _
          by_cases e : s = k
          · rw [e, up2_s]; exact (if_neg h92 : aBw a d p t k = _).symm
          · rw [up2_k e, uE2.2.2.1 141 (by decide), uE1.2.2.1 141 (by decide)]; exact hW s (by omega)
        · refine x_iload 97 8 (ab_dd tk_m_mostAlike 53 rfl) rfl rfl ?_
          refine x_sipush 100 625 (ab_dd tk_m_mostAlike 54 rfl) rfl (by decide) (x_topn 625 rfl ?_)
          refine x_irem 101 (ab_dd tk_m_mostAlike 55 rfl) rfl (by decide) (x_topn ((aS (aSn a p k) (a 40) (aE a) d) % 625) (pk_rem (by omega) (by omega) (by omega)) ?_)
          refine x_goto 105 (ab_dd tk_m_mostAlike 56 rfl) (by decide) ?_
          refine t_iast 106 k (ab_dd tk_m_mostAlike 58 rfl) rfl (by decide) (Nat.lt_of_lt_of_le (by decide) um2.1) (um2.2.1 21 (by decide)) rfl (by omega) (by decide) ?_
          refine xn_iinc 109 6 (fun y => [some (.ref 120), some (.int (nI d)), some (.int (nI p)), some (.int (nI t)), some (.int (a (28 + p))), some (.int (nI 0)), some (.int y), some (.int (nI (aE a))), some (.int (nI (aS (aSn a p k) (a 40) (aE a) d)))]) (k + 1) (ab_dd tk_m_mostAlike 59 rfl) rfl (by decide) rfl (fun _ => rfl) (iinc_p 1) ?_
          refine x_goto 17 (ab_dd tk_m_mostAlike 60 rfl) (by decide) ?_
          refine x_forget 7 (x_forget 8 (ih (k + 1) (by omega) _ um2 (fun i hi => by show mA U2 i = _; rw [uA2]; exact aSn_o hi) ((((hE1.pI (by decide)).tr (uE1.mono (by decide))).tr (uE2.mono (by decide))).pI (by decide)) (fun s hs => ?_)))
          show up2 (sI U2) 141 k _ 141 s = _
          by_cases e : s = k
          · rw [e, up2_s]; exact ((if_pos h92).trans (congrArg nI (by unfold aBr; rw [if_pos h55])) : aBw a d p t k = _).symm
          · rw [up2_k e, uE2.2.2.1 141 (by decide), uE1.2.2.1 141 (by decide)]; exact hW s (by omega)
  refine x_enter [some (.ref 120), some (.int (nI d)), some (.int (nI p)), some (.int (nI t)), none, none, none, none, none] (by decide) (Nat.le_of_ble_eq_true rfl) rfl (fun v w' h => by obtain ⟨rfl, -⟩ := h; rfl) ?_
  refine x_aload_n 1 0 (ab_dd tk_m_mostAlike 0 rfl) rfl rfl rfl ?_
  refine t_getP 4 121 (ab_dd tk_m_mostAlike 1 rfl) rfl F_m_13 (by decide) (Nat.lt_of_lt_of_le (by decide) hm.1) (hm.2.1 0 (by decide)) rfl (hm.2.2 1 (by decide)) ?_
  refine x_bipush 6 28 (ab_dd tk_m_mostAlike 2 rfl) rfl (by decide) (x_topn 28 rfl ?_)
  refine x_iload_n 7 2 (ab_dd tk_m_mostAlike 3 rfl) rfl rfl rfl ?_
  refine x_iadd 8 (ab_dd tk_m_mostAlike 4 rfl) rfl (x_topn (28 + p) (nI_add _ _) ?_)
  refine t_iald 9 (28 + p) (ab_dd tk_m_mostAlike 5 rfl) rfl (by decide) (Nat.lt_of_lt_of_le (by decide) hm.1) (hm.2.1 1 (by decide)) rfl (by omega) (by decide) (x_topx (a (28 + p)) (congrFun hA _) ?_)
  refine x_istore 11 [some (.ref 120), some (.int (nI d)), some (.int (nI p)), some (.int (nI t)), some (.int ((a (28 + p)))), none, none, none, none] 4 (ab_dd tk_m_mostAlike 6 rfl) rfl (by decide) rfl ?_
  refine x_iconst 12 0 (ab_dd tk_m_mostAlike 7 rfl) rfl (by decide) (x_topn 0 rfl ?_)
  refine x_istore 14 [some (.ref 120), some (.int (nI d)), some (.int (nI p)), some (.int (nI t)), some (.int ((a (28 + p)))), some (.int (nI 0)), none, none, none] 5 (ab_dd tk_m_mostAlike 8 rfl) rfl (by decide) rfl ?_
  refine x_iconst 15 0 (ab_dd tk_m_mostAlike 9 rfl) rfl (by decide) (x_topn 0 rfl ?_)
  refine x_istore 17 [some (.ref 120), some (.int (nI d)), some (.int (nI p)), some (.int (nI t)), some (.int ((a (28 + p)))), some (.int (nI 0)), some (.int (nI 0)), none, none] 6 (ab_dd tk_m_mostAlike 10 rfl) rfl (by decide) rfl ?_
  exact loop 4 0 (by omega) S hm (fun i _ => congrFun hA i) sEq.rf (fun s hs => absurd hs (by omega))
def atB (m : Nat → Nat) : Nat → Int32 × Nat
  | 0 => (-1, 268435456)
  | k + 1 => if m k < (atB m k).2 then (nI k, m k) else atB m k
theorem atB_le (m : Nat → Nat) : ∀ k, (atB m k).2 ≤ 268435456
  | 0 => Nat.le_refl _
  | k + 1 => by
    have := atB_le m k
    unfold atB
    split
    · show m k ≤ _; omega
    · exact this
def aAt (a : Nat → Int32) (t p : Nat) : Int32 := if t = 0 then -1 else (atB (fun d => grA (aBw a d p t) 4) 4).1
def tb_m_attempt : List (Nat × Instr × Nat) := [(0, .aload_n 0, 1), (1, .iconst 0, 1), (2, .putfield 1, 3), (5, .aload_n 0, 1), (6, .iload_n 1, 1), (7, .iload_n 2, 1), (8, .invokevirtual 424, 3), (11, .istore_n 3, 1), (12, .iload_n 3, 1), (13, .ifCond .eq 5, 3), (16, .iload_n 3, 1), (17, .ireturn, 1), (18, .aload_n 0, 1), (19, .iload_n 1, 1), (20, .iload_n 2, 1), (21, .invokevirtual 427, 3), (24, .istore 4, 2), (26, .iconst (-1), 1), (27, .istore 5, 2), (29, .ldc_w 374, 3), (32, .istore 6, 2), (34, .iconst 0, 1), (35, .istore 7, 2), (37, .iload 7, 2), (39, .iconst 4, 1), (40, .if_icmp .ge 43, 3), (43, .iload 4, 2), (45, .ifCond .eq 38, 3), (48, .aload_n 0, 1), (49, .iload 7, 2), (51, .iload_n 2, 1), (52, .iload 4, 2), (54, .invokevirtual 430, 3), (57, .istore 8, 2), (59, .iload 8, 2), (61, .iload 6, 2), (63, .if_icmp .lt 6, 3), (66, .goto 11, 3), (69, .iload 7, 2), (71, .istore 5, 2), (73, .iload 8, 2), (75, .istore 6, 2), (77, .iinc 7 1, 3), (80, .goto (-43), 3), (83, .iload 5, 2), (85, .ireturn, 1)]
theorem tk_m_attempt : ∀ q ∈ tb_m_attempt, decode M_m_attempt.2.1 q.1 = .ok q.2 := by decide +kernel
theorem c_m_attempt {G : ab_G} {S : ab_S} {a : Nat → Int32} (hm : mSh S) (hA : mA S = a) (ha : aOk a) (ht : mTr S) (t r : Int32) : ab_C G 7 M_m_attempt [.ref 120, .int t, .int r] (sw S) (pD S (some (.int (if (aNf S (aR a) t r) = 0 then (aAt a (aSo a (mTf S (cN t)) (mTc S (cN t)) (cN r)) (cN r)) else (aNf S (aR a) t r)))) (mA S)) := by
  have hR4 := ha.R.2
  have loop : ∀ (q p g : Nat) (v1 : Int32), p < 4 → g < 16 → (∀ x, aAt a g p = x → x = if (aNf S (aR a) t r) = 0 then (aAt a (aSo a (mTf S (cN t)) (mTc S (cN t)) (cN r)) (cN r)) else (aNf S (aR a) t r)) → 0 < g → ∀ (m k : Nat), k + m = 4 → ∀ S1, mSh S1 → mA S1 = a → sEq (121 :: qL) S S1 → fEq S S1 → ab_Ex G 7 M_m_attempt 37 [some (.ref 120), some (.int (nI q)), some (.int (nI p)), some (.int v1), some (.int (nI g)), some (.int (atB (fun d => grA (aBw a d p g) 4) k).1), some (.int (nI (atB (fun d => grA (aBw a d p g) 4) k).2)), some (.int (nI k)), none] [] (sw S1) (pD S (some (.int (if (aNf S (aR a) t r) = 0 then (aAt a (aSo a (mTf S (cN t)) (mTc S (cN t)) (cN r)) (cN r)) else (aNf S (aR a) t r)))) (mA S)) := by
    intro q p g v1 hp hg hans hg0 m
    induction m with
    | zero =>
      intro k hk S1 hm1 hA1 hE1 hF1
      obtain rfl : k = 4 := by omega
      refine x_iload 39 7 (ab_dd tk_m_attempt 23 rfl) rfl rfl ?_
      refine x_iconst 40 4 (ab_dd tk_m_attempt 24 rfl) rfl (by decide) (x_topn 4 rfl ?_)
      refine x_icmp_ge_t 83 (ab_dd tk_m_attempt 25 rfl) (by decide) ((nI_leI (a := 4) (b := 4) (by omega) (by omega)).mpr (show 4 ≤ 4 by omega)) ?_
      refine x_iload 85 5 (ab_dd tk_m_attempt 44 rfl) rfl rfl ?_
      exact x_iret (ab_dd tk_m_attempt 45 rfl) ⟨rI (hans _ (if_neg (by omega))), _, rfl, hm1, hA1.trans hA.symm, hE1, hF1⟩
    | succ m ih =>
      intro k hk S1 hm1 hA1 hE1 hF1
      have hI := ih (k + 1) (by omega)
      have h1 := grA_le (aBw a k p g) 4
      have h2 := atB_le (fun d => grA (aBw a d p g) 4) k
      refine x_iload 39 7 (ab_dd tk_m_attempt 23 rfl) rfl rfl ?_
      refine x_iconst 40 4 (ab_dd tk_m_attempt 24 rfl) rfl (by decide) (x_topn 4 rfl ?_)
      refine x_icmp_ge_f 43 (ab_dd tk_m_attempt 25 rfl) rfl 83 (by decide) (fun z => absurd ((nI_leI (a := 4) (b := k) (by omega) (by omega)).mp z) (show ¬ (4 ≤ k) by omega)) ?_
      refine x_iload 45 4 (ab_dd tk_m_attempt 26 rfl) rfl rfl ?_
      refine x_if_eq_f 48 (ab_dd tk_m_attempt 27 rfl) rfl 83 (by decide) (fun z => absurd ((nI_eq (a := g) (b := 0) (by omega) (by omega)).mp z) (show ¬ (g = 0) by omega)) ?_
      refine x_aload_n 49 0 (ab_dd tk_m_attempt 28 rfl) rfl rfl rfl ?_
      refine x_iload 51 7 (ab_dd tk_m_attempt 29 rfl) rfl rfl ?_
      refine x_iload_n 52 2 (ab_dd tk_m_attempt 30 rfl) rfl rfl rfl ?_
      refine x_iload 54 4 (ab_dd tk_m_attempt 31 rfl) rfl rfl ?_
      refine t_callV 57 M_m_mostAlike 5 3 [_, _, _] (ab_dd tk_m_attempt 32 rfl) rfl (by decide) K_m_mostAlike V_m_mostAlike.1 V_m_mostAlike.2 L_m_430 rfl (Nat.le_of_ble_eq_true rfl) (by decide) (Nat.lt_of_lt_of_le (by decide) hm1.1) (hm1.2.1 0 (by decide)) rfl (c_m_mostAlike (by exact hm1) (by exact hA1) ha k p g (by omega) hp hg) (fun v1 w1 h1 => ?_)
      obtain ⟨rfl, U1, rfl, um1, uA1, uE1⟩ := h1
      refine x_istore 59 [some (.ref 120), some (.int (nI q)), some (.int (nI p)), some (.int v1), some (.int (nI g)), some (.int (atB (fun d => grA (aBw a d p g) 4) k).1), some (.int (nI (atB (fun d => grA (aBw a d p g) 4) k).2)), some (.int (nI k)), some (.int (nI (grA (aBw a k p g) 4)))] 8 (ab_dd tk_m_attempt 33 rfl) rfl (by decide) rfl ?_
      refine x_iload 61 8 (ab_dd tk_m_attempt 34 rfl) rfl rfl ?_
      refine x_iload 63 6 (ab_dd tk_m_attempt 35 rfl) rfl rfl ?_
      refine xn_icmp_lt 66 69 (ab_dd tk_m_attempt 36 rfl) rfl (by decide) (by omega) (by omega) (fun h63 => ?_) (fun h63 => ?_)
      · refine x_iload 71 7 (ab_dd tk_m_attempt 38 rfl) rfl rfl ?_
        refine x_istore 73 [some (.ref 120), some (.int (nI q)), some (.int (nI p)), some (.int v1), some (.int (nI g)), some (.int (nI k)), some (.int (nI (atB (fun d => grA (aBw a d p g) 4) k).2)), some (.int (nI k)), some (.int (nI (grA (aBw a k p g) 4)))] 5 (ab_dd tk_m_attempt 39 rfl) rfl (by decide) rfl ?_
        refine x_iload 75 8 (ab_dd tk_m_attempt 40 rfl) rfl rfl ?_
        refine x_istore 77 [some (.ref 120), some (.int (nI q)), some (.int (nI p)), some (.int v1), some (.int (nI g)), some (.int (nI k)), some (.int (nI (grA (aBw a k p g) 4))), some (.int (nI k)), some (.int (nI (grA (aBw a k p g) 4)))] 6 (ab_dd tk_m_attempt 41 rfl) rfl (by decide) rfl ?_
        refine xn_iinc 80 7 (fun y => [some (.ref 120), some (.int (nI q)), some (.int (nI p)), some (.int v1), some (.int (nI g)), some (.int (nI k)), some (.int (nI (grA (aBw a k p g) 4))), some (.int y), some (.int (nI (grA (aBw a k p g) 4)))]) (k + 1) (ab_dd tk_m_attempt 42 rfl) rfl (by decide) rfl (fun _ => rfl) (iinc_p 1) ?_
        refine x_goto 37 (ab_dd tk_m_attempt 43 rfl) (by decide) ?_
        rw [show atB (fun d => grA (aBw a d p g) 4) (k + 1) = _ from if_pos h63] at hI
        exact x_forget 8 (hI _ um1 uA1 (hE1.tr (uE1.mono (by decide))) (fEq.r2 uE1 (by decide) (by exact hF1)))
      · refine x_goto 77 (ab_dd tk_m_attempt 37 rfl) (by decide) ?_
        refine xn_iinc 80 7 (fun y => [some (.ref 120), some (.int (nI q)), some (.int (nI p)), some (.int v1), some (.int (nI g)), some (.int (atB (fun d => grA (aBw a d p g) 4) k).1), some (.int (nI (atB (fun d => grA (aBw a d p g) 4) k).2)), some (.int y), some (.int (nI (grA (aBw a k p g) 4)))]) (k + 1) (ab_dd tk_m_attempt 42 rfl) rfl (by decide) rfl (fun _ => rfl) (iinc_p 1) ?_
        refine x_goto 37 (ab_dd tk_m_attempt 43 rfl) (by decide) ?_
        rw [show atB (fun d => grA (aBw a d p g) 4) (k + 1) = _ from if_neg (show ¬ (grA (aBw a k p g) 4 < _) by omega)] at hI
        exact x_forget 8 (hI _ um1 uA1 (hE1.tr (uE1.mono (by decide))) (fEq.r2 uE1 (by decide) (by exact hF1)))
  refine x_enter [some (.ref 120), some (.int t), some (.int r), none, none, none, none, none, none] (by decide) (Nat.le_of_ble_eq_true rfl) rfl (fun v w' h => by obtain ⟨rfl, -⟩ := h; rfl) ?_
  refine x_aload_n 1 0 (ab_dd tk_m_attempt 0 rfl) rfl rfl rfl ?_
  refine x_iconst 2 0 (ab_dd tk_m_attempt 1 rfl) rfl (by decide) (x_topn 0 rfl ?_)
  refine t_putI 5 (ab_dd tk_m_attempt 2 rfl) rfl F_m_1 (by decide) (Nat.lt_of_lt_of_le (by decide) hm.1) (hm.2.1 0 (by decide)) rfl rfl rfl ?_
  refine x_aload_n 6 0 (ab_dd tk_m_attempt 3 rfl) rfl rfl rfl ?_
  refine x_iload_n 7 1 (ab_dd tk_m_attempt 4 rfl) rfl rfl rfl ?_
  refine x_iload_n 8 2 (ab_dd tk_m_attempt 5 rfl) rfl rfl rfl ?_
  refine t_callV 11 M_m_noFelt 2 2 [_, _] (ab_dd tk_m_attempt 6 rfl) rfl (by decide) K_m_noFelt V_m_noFelt.1 V_m_noFelt.2 L_m_424 rfl (Nat.le_of_ble_eq_true rfl) (by decide) (Nat.lt_of_lt_of_le (by decide) hm.1) (hm.2.1 0 (by decide)) rfl (c_m_noFelt (by exact hm) (by exact hA) ha (by exact ht) t r) (fun v1 w1 h1 => ?_)
  obtain ⟨rfl, rfl⟩ := h1
  refine x_topi (fun v1 ev1 => ?_)
  refine x_istore_n 12 [some (.ref 120), some (.int t), some (.int r), some (.int v1), none, none, none, none, none] 3 (ab_dd tk_m_attempt 7 rfl) rfl rfl (by decide) rfl ?_
  refine x_iload_n 13 3 (ab_dd tk_m_attempt 8 rfl) rfl rfl rfl ?_
  refine x_if_eq 16 18 (ab_dd tk_m_attempt 9 rfl) rfl (by decide) (fun h13 => ?_) (fun h13 => ?_)
  · have h0 := aNf_0 (show aNf S (aR a) t r = 0 by rw [show aNf S (aR a) t r = v1 from ev1.symm]; exact h13)
    obtain ⟨q, hq, etq, et⟩ := in_get (n := 3) (by decide) h0.1.1
    obtain ⟨p, hp, erp, er⟩ := rid_get h0.1.2 hR4
    obtain ⟨c, ec, hc⟩ := ht q (by omega)
    have hcc : mTc S q = c := by show cN (sI S 143 q) = c; rw [ec, cN_nI (by omega)]
    rw [show some (Value.int t) = some (Value.int (nI q)) by rw [etq], show some (Value.int r) = some (Value.int (nI p)) by rw [erp]]
    refine x_aload_n 19 0 (ab_dd tk_m_attempt 12 rfl) rfl rfl rfl ?_
    refine x_iload_n 20 1 (ab_dd tk_m_attempt 13 rfl) rfl rfl rfl ?_
    refine x_iload_n 21 2 (ab_dd tk_m_attempt 14 rfl) rfl rfl rfl ?_
    refine t_callV 24 M_m_seasonsOf 6 2 [_, _] (ab_dd tk_m_attempt 15 rfl) rfl (by decide) K_m_seasonsOf V_m_seasonsOf.1 V_m_seasonsOf.2 L_m_427 rfl (Nat.le_of_ble_eq_true rfl) (by decide) (Nat.lt_of_lt_of_le (by decide) hm.1) (hm.2.1 0 (by decide)) rfl (c_m_seasonsOf (S := m0 S) (by exact hm) (by exact hA) ha q c p (by omega) (by exact ec) hc (by omega)) (fun v1 w1 h1 => ?_)
    obtain ⟨rfl, U2, rfl, um2, uA2, uE2⟩ := h1
    refine x_istore 26 [some (.ref 120), some (.int (nI q)), some (.int (nI p)), some (.int v1), some (.int (nI (aSo a (mTf S q) c p))), none, none, none, none] 4 (ab_dd tk_m_attempt 16 rfl) rfl (by decide) rfl ?_
    refine x_iconst 27 (-1) (ab_dd tk_m_attempt 17 rfl) rfl (by decide) ?_
    refine x_topi (fun v3 ev3 => ?_)
    refine x_istore 29 [some (.ref 120), some (.int (nI q)), some (.int (nI p)), some (.int v1), some (.int (nI (aSo a (mTf S q) c p))), some (.int v3), none, none, none] 5 (ab_dd tk_m_attempt 18 rfl) rfl (by decide) rfl ?_
    refine x_ldcw 32 (ab_dd tk_m_attempt 19 rfl) rfl C_m_374 (x_topn 268435456 rfl ?_)
    refine x_istore 34 [some (.ref 120), some (.int (nI q)), some (.int (nI p)), some (.int v1), some (.int (nI (aSo a (mTf S q) c p))), some (.int v3), some (.int (nI 268435456)), none, none] 6 (ab_dd tk_m_attempt 20 rfl) rfl (by decide) rfl ?_
    refine x_iconst 35 0 (ab_dd tk_m_attempt 21 rfl) rfl (by decide) (x_topn 0 rfl ?_)
    refine x_istore 37 [some (.ref 120), some (.int (nI q)), some (.int (nI p)), some (.int v1), some (.int (nI (aSo a (mTf S q) c p))), some (.int v3), some (.int (nI 268435456)), some (.int (nI 0)), none] 7 (ab_dd tk_m_attempt 22 rfl) rfl (by decide) rfl ?_
    subst ev3
    by_cases hg0 : aSo a (mTf S q) c p = 0
    · refine x_iload 39 7 (ab_dd tk_m_attempt 23 rfl) rfl rfl ?_
      refine x_iconst 40 4 (ab_dd tk_m_attempt 24 rfl) rfl (by decide) (x_topn 4 rfl ?_)
      refine x_icmp_ge_f 43 (ab_dd tk_m_attempt 25 rfl) rfl 83 (by decide) (fun z => absurd ((nI_leI (a := 4) (b := 0) (by omega) (by omega)).mp z) (show ¬ (4 ≤ 0) by omega)) ?_
      refine x_iload 45 4 (ab_dd tk_m_attempt 26 rfl) rfl rfl ?_
      refine x_if_eq_t 83 (ab_dd tk_m_attempt 27 rfl) (by decide) (by rw [hg0]; rfl) ?_
      refine x_iload 85 5 (ab_dd tk_m_attempt 44 rfl) rfl rfl ?_
      exact x_iret (ab_dd tk_m_attempt 45 rfl) ⟨rI (by rw [if_pos (by rw [show aNf S (aR a) t r = v1 from ev1.symm]; exact h13), et, er, hcc]; exact (if_pos hg0).symm), _, rfl, um2, uA2.trans hA.symm, (((sEq.rf (l := 121 :: qL)).pI (by decide)).tr (uE2.mono (by decide))), (fEq.r2 uE2 (by decide) (by exact (fEq.pI (fEq.rf (S := S)) (Or.inr (by decide)))))⟩
    · exact loop q p (aSo a (mTf S q) c p) v1 (by omega) (mQ_lt _ 4) (fun x hx => by rw [if_pos (by rw [show aNf S (aR a) t r = v1 from ev1.symm]; exact h13), et, er, hcc]; exact hx.symm) (by omega) 4 0 (by omega) _ um2 uA2 (((sEq.rf (l := 121 :: qL)).pI (by decide)).tr (uE2.mono (by decide))) (fEq.r2 uE2 (by decide) (by exact (fEq.pI (fEq.rf (S := S)) (Or.inr (by decide)))))
  · refine x_iload_n 17 3 (ab_dd tk_m_attempt 10 rfl) rfl rfl rfl ?_
    exact x_iret (ab_dd tk_m_attempt 11 rfl) ⟨rI (by rw [if_neg (by rw [show aNf S (aR a) t r = v1 from ev1.symm]; exact h13)]; exact ev1), _, rfl, hm, hA.trans hA.symm, ((sEq.rf (l := 121 :: qL)).pI (by decide)), (fEq.pI (fEq.rf (S := S)) (Or.inr (by decide)))⟩
