/-! ===== forcing: the edges laid ===== -/
def cnE (g : Nat → Nat → Option Nat) (pd : Nat → Bool) (x m s : Nat) : Nat → Nat
  | 0 => 0
  | d + 1 => cnE g pd x m s d + ec g pd x m s d
theorem cnE_4 (g : Nat → Nat → Option Nat) (pd : Nat → Bool) (x m s : Nat) : cnE g pd x m s 4 = es g pd x m s := by
  show (((0 + _) + _) + _) + _ = _
  rw [Nat.zero_add]; rfl
theorem cnE_le (g : Nat → Nat → Option Nat) (pd : Nat → Bool) (x m s : Nat) : ∀ d, cnE g pd x m s d ≤ d
  | 0 => Nat.le_refl _
  | d + 1 => by
    have h1 := cnE_le g pd x m s d
    have h2 := ec_le (g := g) pd x m s d
    show cnE g pd x m s d + ec g pd x m s d ≤ _
    omega
theorem pv_s {g : Nat → Nat → Option Nat} {s d j : Nat} (hd : d < 4) : pv g j (4 * s + (d + 1)) = if g s d = some j then some (4 * s + d) else pv g j (4 * s + d) := by
  show (if g ((4 * s + d) / 4) ((4 * s + d) % 4) = some j then some (4 * s + d) else pv g j (4 * s + d)) = _
  rw [show (4 * s + d) / 4 = s by omega, show (4 * s + d) % 4 = d by omega]
theorem ec_no {g : Nat → Nat → Option Nat} {pd : Nat → Bool} {x m s d : Nat} (h : g s d = none) : ec g pd x m s d = 0 := by unfold ec; rw [h]
theorem ec_so {g : Nat → Nat → Option Nat} {x T s d j : Nat} (h : g s d = some j) (hs : s < T) (hd : d < 4) : ec g (fun _ => false) x (4 * T) s d = 1 := by
  unfold ec
  rw [h]
  exact if_neg (by rintro (z | ⟨_, z⟩); (· cases z); (· omega))
def tb_fo_prepare : List (Nat × Instr × Nat) := [(0, .aload_n 0, 1), (1, .iconst 0, 1), (2, .putfield 21, 3), (5, .aload_n 0, 1), (6, .getfield 24, 3), (9, .iconst (-1), 1), (10, .invokestatic 53, 3), (13, .aload_n 0, 1), (14, .getfield 34, 3), (17, .iconst (-1), 1), (18, .invokestatic 53, 3), (21, .aload_n 0, 1), (22, .getfield 31, 3), (25, .iconst 0, 1), (26, .invokestatic 53, 3), (29, .iconst 0, 1), (30, .istore 4, 2), (32, .iload 4, 2), (34, .aload_n 1, 1), (35, .getfield 59, 3), (38, .if_icmp .ge 136, 3), (41, .iload 4, 2), (43, .aload_n 0, 1), (44, .getfield 31, 3), (47, .arraylength, 1), (48, .if_icmp .ge 126, 3), (51, .iconst 0, 1), (52, .istore 5, 2), (54, .iload 5, 2), (56, .iconst 4, 1), (57, .if_icmp .ge 77, 3), (60, .aload_n 1, 1), (61, .iload 4, 2), (63, .iload 5, 2), (65, .invokevirtual 62, 3), (68, .istore 6, 2), (70, .iload 6, 2), (72, .ifCond .lt 56, 3), (75, .iload 6, 2), (77, .aload_n 0, 1), (78, .getfield 34, 3), (81, .arraylength, 1), (82, .if_icmp .ge 46, 3), (85, .iload 4, 2), (87, .iconst 4, 1), (88, .imul, 1), (89, .iload 5, 2), (91, .iadd, 1), (92, .istore 7, 2), (94, .aload_n 0, 1), (95, .getfield 37, 3), (98, .iload 7, 2), (100, .aload_n 0, 1), (101, .getfield 34, 3), (104, .iload 6, 2), (106, .iaload, 1), (107, .iastore, 1), (108, .aload_n 0, 1), (109, .getfield 34, 3), (112, .iload 6, 2), (114, .iload 7, 2), (116, .iastore, 1), (117, .aload_n 0, 1), (118, .getfield 31, 3), (121, .iload 4, 2), (123, .dup2, 1), (124, .iaload, 1), (125, .iconst 1, 1), (126, .iadd, 1), (127, .iastore, 1), (128, .iinc 5 1, 3), (131, .goto (-77), 3), (134, .aload_n 1, 1), (135, .iload 4, 2), (137, .invokevirtual 66, 3), (140, .iload_n 2, 1), (141, .invokestatic 70, 3), (144, .iload_n 3, 1), (145, .if_icmp .lt 23, 3), (148, .aload_n 0, 1), (149, .iconst 2, 1), (150, .iload 4, 2), (152, .imul, 1), (153, .iconst 0, 1), (154, .invokevirtual 73, 3), (157, .aload_n 0, 1), (158, .iconst 2, 1), (159, .iload 4, 2), (161, .imul, 1), (162, .iconst 1, 1), (163, .iadd, 1), (164, .iconst 0, 1), (165, .invokevirtual 73, 3), (168, .iinc 4 1, 3), (171, .goto (-139), 3), (174, .return_, 1)]
theorem tk_fo_prepare : ∀ q ∈ tb_fo_prepare, decode M_fo_prepare.2.1 q.1 = .ok q.2 := by decide +kernel
theorem c_fo_prepare {G : ab_G} {S : ab_S} (kc : kSh S.1) {F N r x T : Nat} {a : Nat → Int32} (hF : foK S F N) (hO : roK S r N) (ha : aOk a) (hI : roI S r N x a T) (hT : (cL a T).length = T) (hFr : F + 5 < r ∨ r + 7 < F) (p h : Nat) (hp4 : p < 4) (hh : h < 2 ^ 31) : ab_C G 1 M_fo_prepare [.ref F, .ref r, .int (nI p), .int (nI h)] (sw S) (fun z w' => z = none ∧ ∃ S' Q q R, w' = sw S' ∧ sEq [F, F + 1, F + 2, F + 3, F + 4, F + 5] S S' ∧ foQ S' F T Q q R ∧ fcI (gI a T) (gV a T p h) T Q q 0 R (fun _ => false) ∧ (∀ s, s < T → sI S' (F + 3) s = nI (es (gI a T) (fun _ => false) 0 (4 * T) s)) ∧ foE S' F T (gI a T) (4 * T) ∧ ∀ j, j ≠ 8 → sI S' F j = sI S F j) := by
  refine x_enter [some (.ref F), some (.ref r), some (.int (nI p)), some (.int (nI h)), none, none, none, none] (by decide) (Nat.le_of_ble_eq_true rfl) rfl (fun v w' h => by obtain ⟨rfl, -⟩ := h; trivial) ?_
  have hN15 : N ≤ 15000 := hF.2.2.2.2.2.2.2.2.2.2.2.2.2
  have hF145 := hF.1
  have hr145 := hO.1
  have h50 : 50 ≤ sn S := by have := hF.2.1; omega
  have hIb := hI
  obtain ⟨⟨q1, q2, q3, q4⟩, i2, i3, i4, i5, i6, i7, i8, i9⟩ := hIb
  have hTN : T ≤ N := by
    have z := nd_len (bfB_nd T) (fun c hc => Nat.lt_of_lt_of_le (cL_all ha T c hc) i9)
    rw [show (bfB (nxC a) (aQ a * 5 ^ aR a + aW a) T).length = T from hT] at z
    exact z
  have hgT : ∀ i d j, i < T → d < 4 → gI a T i d = some j → j < T := fun i d j hi hd e => by
    have z := gI_in ha hT (show T ≤ (cL a T).length by omega) hi hd e
    omega
  have hT0 : 0 < T := by have := (bfB_pos (nx := nxC a) (c0 := aQ a * 5 ^ aR a + aW a) T).1; rw [show (bfB (nxC a) (aQ a * 5 ^ aR a + aW a) T).length = T from hT] at this; exact this
  have outer : ∀ (m s : Nat), s + m = T → ∀ (S1 : ab_S) (Q : Nat → Nat) (q : Nat) (R : Nat → Option Nat) (y5 y6 y7 : Option Value), sEq [F, F + 1, F + 2, F + 3, F + 4, F + 5] S S1 → foQ S1 F T Q q R → fcP (gV a T p h) s Q q R → foE S1 F T (gI a T) (4 * s) → (∀ u, u < T → sI S1 (F + 3) u = nI (if u < s then es (gI a T) (fun _ => false) 0 (4 * T) u else 0)) → (∀ j, j ≠ 8 → sI S1 F j = sI S F j) → ab_Ex G 1 M_fo_prepare 32 [some (.ref F), some (.ref r), some (.int (nI p)), some (.int (nI h)), some (.int (nI s)), y5, y6, y7] [] (sw S1) (fun z w' => z = none ∧ ∃ S' Q q R, w' = sw S' ∧ sEq [F, F + 1, F + 2, F + 3, F + 4, F + 5] S S' ∧ foQ S' F T Q q R ∧ fcI (gI a T) (gV a T p h) T Q q 0 R (fun _ => false) ∧ (∀ s, s < T → sI S' (F + 3) s = nI (es (gI a T) (fun _ => false) 0 (4 * T) s)) ∧ foE S' F T (gI a T) (4 * T) ∧ ∀ j, j ≠ 8 → sI S' F j = sI S F j) := by
    intro m
    induction m with
    | zero =>
      intro s hs S1 Q q R y5 y6 y7 hE1 hQ1 hP1 hG1 hes1 hfr
      refine x_forget 5 (x_forget 6 (x_forget 7 ?_))
      have hsT : s = T := by omega
      subst hsT
      have hF1 : foK S1 F N := hF.eq hE1
      have hO1 : roK S1 r N := hO.eq hE1
      have hkn : sI S1 r 12 = nI s := by rw [hE1.2.2.1 r (by simp; omega), q1, hT]
      refine x_iload 34 4 (ab_dd tk_fo_prepare 17 rfl) rfl rfl ?_
      refine x_aload_n 35 1 (ab_dd tk_fo_prepare 18 rfl) rfl rfl rfl ?_
      refine t_getI 38 (ab_dd tk_fo_prepare 19 rfl) rfl F_fo_59 (by have := hO1.1; omega) (Nat.lt_of_le_of_lt (Nat.le_add_right r 7) hO1.2.1) hO1.2.2.1 rfl (x_topn s hkn ?_)
      refine x_icmp_ge_t 174 (ab_dd tk_fo_prepare 20 rfl) (by decide) ((nI_leI (a := s) (b := s) (by omega) (by omega)).mpr (show s ≤ s by omega)) ?_
      exact x_vret (ab_dd tk_fo_prepare 95 rfl) ⟨rfl, S1, Q, q, R, rfl, hE1, hQ1, hP1.fin (fun _ => gI_0), fun u hu => by rw [hes1 u hu, if_pos hu], hG1, hfr⟩
    | succ m ih =>
      intro s hs S1 Q q R y5 y6 y7 hE1 hQ1 hP1 hG1 hes1 hfr
      refine x_forget 5 (x_forget 6 (x_forget 7 ?_))
      have inner : ∀ (n d : Nat), d + n = 4 → ∀ (S2 : ab_S) (y6 y7 : Option Value), sEq [F, F + 1, F + 2, F + 3, F + 4, F + 5] S S2 → foQ S2 F T Q q R → foE S2 F T (gI a T) (4 * s + d) → (∀ u, u < T → sI S2 (F + 3) u = nI (if u < s then es (gI a T) (fun _ => false) 0 (4 * T) u else if u = s then cnE (gI a T) (fun _ => false) 0 (4 * T) s d else 0)) → (∀ j, j ≠ 8 → sI S2 F j = sI S F j) → ab_Ex G 1 M_fo_prepare 54 [some (.ref F), some (.ref r), some (.int (nI p)), some (.int (nI h)), some (.int (nI s)), some (.int (nI d)), y6, y7] [] (sw S2) (fun z w' => z = none ∧ ∃ S' Q q R, w' = sw S' ∧ sEq [F, F + 1, F + 2, F + 3, F + 4, F + 5] S S' ∧ foQ S' F T Q q R ∧ fcI (gI a T) (gV a T p h) T Q q 0 R (fun _ => false) ∧ (∀ s, s < T → sI S' (F + 3) s = nI (es (gI a T) (fun _ => false) 0 (4 * T) s)) ∧ foE S' F T (gI a T) (4 * T) ∧ ∀ j, j ≠ 8 → sI S' F j = sI S F j) := by
        intro n
        induction n with
        | zero =>
          intro d hd S2 y6 y7 hE2 hQ2 hG2 hes2 hfr2
          refine x_forget 6 (x_forget 7 ?_)
          have hd4 : d = 4 := by omega
          subst hd4
          have hF2 : foK S2 F N := hF.eq hE2
          have hO2 : roK S2 r N := hO.eq hE2
          have hI2 : roI S2 r N x a T := hI.keep hE2 (by simp only [List.mem_cons, List.not_mem_nil, or_false, not_or]; omega) (by simp only [List.mem_cons, List.not_mem_nil, or_false, not_or]; omega) (by simp only [List.mem_cons, List.not_mem_nil, or_false, not_or]; omega) (by simp only [List.mem_cons, List.not_mem_nil, or_false, not_or]; omega) (by simp only [List.mem_cons, List.not_mem_nil, or_false, not_or]; omega)
          have kc2 : kSh S2.1 := by rw [hE2.1]; exact kc
          have h502 : 50 ≤ sn S2 := by rw [hE2.2.2.2.2.2.1]; exact h50
          have hn8 : ∀ y, 2 * s ≤ y → R y = none := fun y hy => hP1.new hy
          have hq2 := hP1.le
          have hc6 : cWm a T s < 625 := cW_6 ha _
          have hWs : gV a T p h s ↔ h ≤ mWa (cWm a T s) p := by
            show h ≤ mWa (gC a T s) p ↔ _
            rw [gC_wa ha hT (show s < T by omega)]
          have hes3 : ∀ u, u < T → sI S2 (F + 3) u = nI (if u < s + 1 then es (gI a T) (fun _ => false) 0 (4 * T) u else 0) := fun u hu => by
            rw [hes2 u hu]
            by_cases z : u < s
            · rw [if_pos z, if_pos (by omega)]
            · rw [if_neg z]
              by_cases y : u = s
              · rw [if_pos y, if_pos (by omega), cnE_4, y]
              · rw [if_neg y, if_neg (by omega)]
          refine x_iload 56 5 (ab_dd tk_fo_prepare 28 rfl) rfl rfl ?_
          refine x_iconst 57 4 (ab_dd tk_fo_prepare 29 rfl) rfl (by decide) (x_topn 4 rfl ?_)
          refine x_icmp_ge_t 134 (ab_dd tk_fo_prepare 30 rfl) (by decide) ((nI_leI (a := 4) (b := 4) (by omega) (by omega)).mpr (show 4 ≤ 4 by omega)) ?_
          refine x_aload_n 135 1 (ab_dd tk_fo_prepare 72 rfl) rfl rfl rfl ?_
          refine x_iload 137 4 (ab_dd tk_fo_prepare 73 rfl) rfl rfl ?_
          refine t_callV 140 M_ro_warmOf 0 1 [_] (ab_dd tk_fo_prepare 74 rfl) rfl (by first | decide | omega) K_ro_warmOf V_ro_warmOf.1 V_ro_warmOf.2 L_fo_66 rfl (Nat.le_of_ble_eq_true rfl) (by have := hO2.1; omega) (Nat.lt_of_le_of_lt (Nat.le_add_right r 7) hO2.2.1) hO2.2.2.1 rfl (c_ro_warmOf hO2 ha hI2 s (by omega)) (fun v1 w1 h1 => ?_)
          obtain ⟨rfl, rfl⟩ := h1
          refine x_iload_n 141 2 (ab_dd tk_fo_prepare 75 rfl) rfl rfl rfl ?_
          refine x_callS 144 M_s_warmthOf 0 2 [_, _] (ab_dd tk_fo_prepare 76 rfl) rfl (by first | decide | omega) K_s_warmthOf T_s_warmthOf L_fo_70 rfl (Nat.le_of_ble_eq_true rfl) (c_s_warmthOf kc2 h502 (cWm a T s) p hc6 hp4) (fun v1 w1 h1 => ?_)
          obtain ⟨rfl, rfl⟩ := h1
          have hw4 := mWa_lt (cWm a T s) p
          refine x_iload_n 145 3 (ab_dd tk_fo_prepare 77 rfl) rfl rfl rfl ?_
          refine xn_icmp_lt 148 168 (ab_dd tk_fo_prepare 78 rfl) rfl (by decide) (by omega) (by omega) (fun h145 => ?_) (fun h145 => ?_)
          · refine xn_iinc 171 4 (fun y => [some (.ref F), some (.ref r), some (.int (nI p)), some (.int (nI h)), some (.int y), some (.int (nI 4)), none, none]) (s + 1) (ab_dd tk_fo_prepare 93 rfl) rfl (by decide) rfl (fun _ => rfl) (iinc_p 1) ?_
            refine x_goto 32 (ab_dd tk_fo_prepare 94 rfl) (by decide) ?_
            exact ih (s + 1) (by omega) S2 Q q R _ _ _ hE2 hQ2 (hP1.no (fun z => by have := hWs.mp z; omega)) (show foE S2 F T (gI a T) (4 * (s + 1)) from hG2) hes3 hfr2
          · refine x_aload_n 149 0 (ab_dd tk_fo_prepare 79 rfl) rfl rfl rfl ?_
            refine x_iconst 150 2 (ab_dd tk_fo_prepare 80 rfl) rfl (by decide) (x_topn 2 rfl ?_)
            refine x_iload 152 4 (ab_dd tk_fo_prepare 81 rfl) rfl rfl ?_
            refine x_imul 153 (ab_dd tk_fo_prepare 82 rfl) rfl (x_topn (2 * s) (pk_mul _ _) ?_)
            refine x_iconst 154 0 (ab_dd tk_fo_prepare 83 rfl) rfl (by decide) (x_topn 0 rfl ?_)
            refine t_callV 157 M_fo_enqueue 0 2 [_, _] (ab_dd tk_fo_prepare 84 rfl) rfl (by first | decide | omega) K_fo_enqueue V_fo_enqueue.1 V_fo_enqueue.2 L_fo_73 rfl (Nat.le_of_ble_eq_true rfl) (by have := hF2.1; omega) (Nat.lt_of_le_of_lt (Nat.le_add_right F 5) hF2.2.1) hF2.2.2.1 rfl (c_fo_enqueue hF2 hTN hQ2 (2 * s) 0 (by omega) (fun n e => by rw [hn8 _ (by omega)] at e; cases e) (fun _ => by omega)) (fun v1 w1 h1 => ?_)
            obtain ⟨rfl, S3, Q3, q3, R3, rfl, hE3, hQ3, hch3, hfr3⟩ := h1
            have hF3 : foK S3 F N := hF2.eq hE3
            have hc3 := hch3.resolve_left (fun z => z.1 (hn8 _ (by omega)))
            obtain ⟨-, hcQ, hcq, hcR⟩ := hc3
            subst hcQ; subst hcq; subst hcR
            refine x_aload_n 158 0 (ab_dd tk_fo_prepare 85 rfl) rfl rfl rfl ?_
            refine x_iconst 159 2 (ab_dd tk_fo_prepare 86 rfl) rfl (by decide) (x_topn 2 rfl ?_)
            refine x_iload 161 4 (ab_dd tk_fo_prepare 87 rfl) rfl rfl ?_
            refine x_imul 162 (ab_dd tk_fo_prepare 88 rfl) rfl (x_topn (2 * s) (pk_mul _ _) ?_)
            refine x_iconst 163 1 (ab_dd tk_fo_prepare 89 rfl) rfl (by decide) (x_topn 1 rfl ?_)
            refine x_iadd 164 (ab_dd tk_fo_prepare 90 rfl) rfl (x_topn ((2 * s) + 1) (nI_add _ _) ?_)
            refine x_iconst 165 0 (ab_dd tk_fo_prepare 91 rfl) rfl (by decide) (x_topn 0 rfl ?_)
            refine t_callV 168 M_fo_enqueue 0 2 [_, _] (ab_dd tk_fo_prepare 92 rfl) rfl (by first | decide | omega) K_fo_enqueue V_fo_enqueue.1 V_fo_enqueue.2 L_fo_73 rfl (Nat.le_of_ble_eq_true rfl) (by have := hF3.1; omega) (Nat.lt_of_le_of_lt (Nat.le_add_right F 5) hF3.2.1) hF3.2.2.1 rfl (c_fo_enqueue hF3 hTN hQ3 (2 * s + 1) 0 (by omega) (fun n e => by rw [up1_o (by omega), hn8 _ (by omega)] at e; cases e) (fun _ => by omega)) (fun v1 w1 h1 => ?_)
            obtain ⟨rfl, S4, Q4, q4b, R4, rfl, hE4, hQ4, hch4, hfr4⟩ := h1
            have hF4 : foK S4 F N := hF3.eq hE4
            have hc4 := hch4.resolve_left (fun z => z.1 (by rw [up1_o (by omega)]; exact hn8 _ (by omega)))
            obtain ⟨-, hcQ4, hcq4, hcR4⟩ := hc4
            subst hcQ4; subst hcq4; subst hcR4
            refine xn_iinc 171 4 (fun y => [some (.ref F), some (.ref r), some (.int (nI p)), some (.int (nI h)), some (.int y), some (.int (nI 4)), none, none]) (s + 1) (ab_dd tk_fo_prepare 93 rfl) rfl (by decide) rfl (fun _ => rfl) (iinc_p 1) ?_
            refine x_goto 32 (ab_dd tk_fo_prepare 94 rfl) (by decide) ?_
            have hE5 : sEq [F, F + 1, F + 2] S2 S4 := hE3.tr hE4
            exact ih (s + 1) (by omega) S4 _ _ _ _ _ _ (hE2.tr (hE5.mono (by simp))) hQ4 (hP1.yes (hWs.mpr (by omega))) (show foE S4 F T (gI a T) (4 * s + 4) from hG2.eq hE5 (by simp) (by simp)) (fun u hu => by rw [hE5.2.2.1 (F + 3) (by simp)]; exact hes3 u hu) (fun j hj => (hfr4 j hj).trans ((hfr3 j hj).trans (hfr2 j hj)))
        | succ n ihn =>
          intro d hd S2 y6 y7 hE2 hQ2 hG2 hes2 hfr2
          refine x_forget 6 (x_forget 7 ?_)
          have hF2 : foK S2 F N := hF.eq hE2
          have hO2 : roK S2 r N := hO.eq hE2
          have hI2 : roI S2 r N x a T := hI.keep hE2 (by simp only [List.mem_cons, List.not_mem_nil, or_false, not_or]; omega) (by simp only [List.mem_cons, List.not_mem_nil, or_false, not_or]; omega) (by simp only [List.mem_cons, List.not_mem_nil, or_false, not_or]; omega) (by simp only [List.mem_cons, List.not_mem_nil, or_false, not_or]; omega) (by simp only [List.mem_cons, List.not_mem_nil, or_false, not_or]; omega)
          have hgv : sI S2 (r + 4) (s * 4 + d) = encN (gI a T s d) := roN_o ha hT hI2 (by omega) (by omega)
          have hcn := cnE_le (gI a T) (fun _ => false) 0 (4 * T) s d
          have hsv : sI S2 (F + 3) s = nI (cnE (gI a T) (fun _ => false) 0 (4 * T) s d) := by rw [hes2 s (by omega), if_neg (Nat.lt_irrefl s), if_pos rfl]
          rcases hgo : gI a T s d with _ | u
          · refine x_iload 56 5 (ab_dd tk_fo_prepare 28 rfl) rfl rfl ?_
            refine x_iconst 57 4 (ab_dd tk_fo_prepare 29 rfl) rfl (by decide) (x_topn 4 rfl ?_)
            refine x_icmp_ge_f 60 (ab_dd tk_fo_prepare 30 rfl) rfl 134 (by decide) (fun z => absurd ((nI_leI (a := 4) (b := d) (by omega) (by omega)).mp z) (show ¬ (4 ≤ d) by omega)) ?_
            refine x_aload_n 61 1 (ab_dd tk_fo_prepare 31 rfl) rfl rfl rfl ?_
            refine x_iload 63 4 (ab_dd tk_fo_prepare 32 rfl) rfl rfl ?_
            refine x_iload 65 5 (ab_dd tk_fo_prepare 33 rfl) rfl rfl ?_
            refine t_callV 68 M_ro_nextOf 0 2 [_, _] (ab_dd tk_fo_prepare 34 rfl) rfl (by first | decide | omega) K_ro_nextOf V_ro_nextOf.1 V_ro_nextOf.2 L_fo_62 rfl (Nat.le_of_ble_eq_true rfl) (by have := hO2.1; omega) (Nat.lt_of_le_of_lt (Nat.le_add_right r 7) hO2.2.1) hO2.2.2.1 rfl (c_ro_nextOf hO2 s d (by omega) (by omega)) (fun v1 w1 h1 => ?_)
            obtain ⟨rfl, rfl⟩ := h1
            rw [hgv, hgo]
            show ab_Ex _ _ _ _ _ (.int (-1) :: _) _ _
            refine x_istore 70 [some (.ref F), some (.ref r), some (.int (nI p)), some (.int (nI h)), some (.int (nI s)), some (.int (nI d)), some (.int ((-1))), none] 6 (ab_dd tk_fo_prepare 35 rfl) rfl (by decide) rfl ?_
            refine x_iload 72 6 (ab_dd tk_fo_prepare 36 rfl) rfl rfl ?_
            refine x_if_lt_t 128 (ab_dd tk_fo_prepare 37 rfl) (by decide) (by decide) ?_
            refine xn_iinc 131 5 (fun y => [some (.ref F), some (.ref r), some (.int (nI p)), some (.int (nI h)), some (.int (nI s)), some (.int y), some (.int ((-1))), none]) (d + 1) (ab_dd tk_fo_prepare 70 rfl) rfl (by decide) rfl (fun _ => rfl) (iinc_p 1) ?_
            refine x_goto 54 (ab_dd tk_fo_prepare 71 rfl) (by decide) ?_
            exact ihn (d + 1) (by omega) S2 _ _ hE2 hQ2 ⟨fun j hj => by rw [hG2.1 j hj, pv_s (by omega), hgo, if_neg (by intro z; cases z)], fun e he j ej => by
              by_cases z : e = 4 * s + d
              · rw [z, show (4 * s + d) / 4 = s by omega, show (4 * s + d) % 4 = d by omega, hgo] at ej; cases ej
              · exact hG2.2 e (by omega) j ej⟩ (fun u hu => by
              rw [hes2 u hu, show cnE (gI a T) (fun _ => false) 0 (4 * T) s (d + 1) = cnE (gI a T) (fun _ => false) 0 (4 * T) s d + ec (gI a T) (fun _ => false) 0 (4 * T) s d from rfl, ec_no hgo]; rfl) hfr2
          · have huT := hgT s d u (by omega) (by omega) hgo
            refine x_iload 56 5 (ab_dd tk_fo_prepare 28 rfl) rfl rfl ?_
            refine x_iconst 57 4 (ab_dd tk_fo_prepare 29 rfl) rfl (by decide) (x_topn 4 rfl ?_)
            refine x_icmp_ge_f 60 (ab_dd tk_fo_prepare 30 rfl) rfl 134 (by decide) (fun z => absurd ((nI_leI (a := 4) (b := d) (by omega) (by omega)).mp z) (show ¬ (4 ≤ d) by omega)) ?_
            refine x_aload_n 61 1 (ab_dd tk_fo_prepare 31 rfl) rfl rfl rfl ?_
            refine x_iload 63 4 (ab_dd tk_fo_prepare 32 rfl) rfl rfl ?_
            refine x_iload 65 5 (ab_dd tk_fo_prepare 33 rfl) rfl rfl ?_
            refine t_callV 68 M_ro_nextOf 0 2 [_, _] (ab_dd tk_fo_prepare 34 rfl) rfl (by first | decide | omega) K_ro_nextOf V_ro_nextOf.1 V_ro_nextOf.2 L_fo_62 rfl (Nat.le_of_ble_eq_true rfl) (by have := hO2.1; omega) (Nat.lt_of_le_of_lt (Nat.le_add_right r 7) hO2.2.1) hO2.2.2.1 rfl (c_ro_nextOf hO2 s d (by omega) (by omega)) (fun v1 w1 h1 => ?_)
            obtain ⟨rfl, rfl⟩ := h1
            rw [hgv, hgo]
            show ab_Ex _ _ _ _ _ (.int (nI u) :: _) _ _
            refine x_istore 70 [some (.ref F), some (.ref r), some (.int (nI p)), some (.int (nI h)), some (.int (nI s)), some (.int (nI d)), some (.int (nI u)), none] 6 (ab_dd tk_fo_prepare 35 rfl) rfl (by decide) rfl ?_
            refine x_iload 72 6 (ab_dd tk_fo_prepare 36 rfl) rfl rfl ?_
            refine x_if_lt_f 75 (ab_dd tk_fo_prepare 37 rfl) rfl 128 (by decide) (fun z => absurd ((nI_ltI (a := u) (b := 0) (by omega) (by omega)).mp z) (show ¬ (u < 0) by omega)) ?_
            refine x_iload 77 6 (ab_dd tk_fo_prepare 38 rfl) rfl rfl ?_
            refine x_aload_n 78 0 (ab_dd tk_fo_prepare 39 rfl) rfl rfl rfl ?_
            refine t_getP 81 (F + 4) (ab_dd tk_fo_prepare 40 rfl) rfl F_fo_34 (by have := hF2.1; omega) (Nat.lt_of_le_of_lt (Nat.le_add_right F 5) hF2.2.1) hF2.2.2.1 rfl hF2.2.2.2.2.2.2.2.2.2.2.2.1 ?_
            refine t_alen 82 0 (ab_dd tk_fo_prepare 41 rfl) rfl (by have := hF2.1; omega) (Nat.lt_of_le_of_lt (Nat.add_le_add_left (by decide) F) hF2.2.1) rfl hF2.2.2.2.2.2.2.1 ?_
            refine x_icmp_ge_f 85 (ab_dd tk_fo_prepare 42 rfl) rfl 128 (by decide) (fun z => absurd ((nI_leI (a := N) (b := u) (by omega) (by omega)).mp z) (show ¬ (N ≤ u) by omega)) ?_
            refine x_iload 87 4 (ab_dd tk_fo_prepare 43 rfl) rfl rfl ?_
            refine x_iconst 88 4 (ab_dd tk_fo_prepare 44 rfl) rfl (by decide) (x_topn 4 rfl ?_)
            refine x_imul 89 (ab_dd tk_fo_prepare 45 rfl) rfl (x_topn (s * 4) (pk_mul _ _) ?_)
            refine x_iload 91 5 (ab_dd tk_fo_prepare 46 rfl) rfl rfl ?_
            refine x_iadd 92 (ab_dd tk_fo_prepare 47 rfl) rfl (x_topn ((s * 4) + d) (nI_add _ _) ?_)
            refine x_istore 94 [some (.ref F), some (.ref r), some (.int (nI p)), some (.int (nI h)), some (.int (nI s)), some (.int (nI d)), some (.int (nI u)), some (.int (nI ((s * 4) + d)))] 7 (ab_dd tk_fo_prepare 48 rfl) rfl (by decide) rfl ?_
            refine x_aload_n 95 0 (ab_dd tk_fo_prepare 49 rfl) rfl rfl rfl ?_
            refine t_getP 98 (F + 5) (ab_dd tk_fo_prepare 50 rfl) rfl F_fo_37 (by have := hF2.1; omega) (Nat.lt_of_le_of_lt (Nat.le_add_right F 5) hF2.2.1) hF2.2.2.1 rfl hF2.2.2.2.2.2.2.2.2.2.2.2.2.1 ?_
            refine x_iload 100 7 (ab_dd tk_fo_prepare 51 rfl) rfl rfl ?_
            refine x_aload_n 101 0 (ab_dd tk_fo_prepare 52 rfl) rfl rfl rfl ?_
            refine t_getP 104 (F + 4) (ab_dd tk_fo_prepare 53 rfl) rfl F_fo_34 (by have := hF2.1; omega) (Nat.lt_of_le_of_lt (Nat.le_add_right F 5) hF2.2.1) hF2.2.2.1 rfl hF2.2.2.2.2.2.2.2.2.2.2.2.1 ?_
            refine x_iload 106 6 (ab_dd tk_fo_prepare 54 rfl) rfl rfl ?_
            refine t_iald 107 u (ab_dd tk_fo_prepare 55 rfl) rfl (by have := hF2.1; omega) (Nat.lt_of_le_of_lt (Nat.add_le_add_left (by decide) F) hF2.2.1) hF2.2.2.2.2.2.2.1 rfl (by omega) (by omega) (x_topx (encN (pv (gI a T) u (4 * s + d))) (hG2.1 u huT) ?_)
            refine t_iast 108 ((s * 4) + d) (ab_dd tk_fo_prepare 56 rfl) rfl (by have := hF2.1; omega) (Nat.lt_of_le_of_lt (Nat.add_le_add_left (by decide) F) hF2.2.1) hF2.2.2.2.2.2.2.2.1 rfl (by omega) (by omega) ?_
            refine x_aload_n 109 0 (ab_dd tk_fo_prepare 57 rfl) rfl rfl rfl ?_
            refine t_getP 112 (F + 4) (ab_dd tk_fo_prepare 58 rfl) rfl F_fo_34 (by have := hF2.1; omega) (Nat.lt_of_le_of_lt (Nat.le_add_right F 5) hF2.2.1) hF2.2.2.1 rfl hF2.2.2.2.2.2.2.2.2.2.2.2.1 ?_
            refine x_iload 114 6 (ab_dd tk_fo_prepare 59 rfl) rfl rfl ?_
            refine x_iload 116 7 (ab_dd tk_fo_prepare 60 rfl) rfl rfl ?_
            refine t_iast 117 u (ab_dd tk_fo_prepare 61 rfl) rfl (by have := hF2.1; omega) (Nat.lt_of_le_of_lt (Nat.add_le_add_left (by decide) F) hF2.2.1) hF2.2.2.2.2.2.2.1 rfl (by omega) (by omega) ?_
            refine x_aload_n 118 0 (ab_dd tk_fo_prepare 62 rfl) rfl rfl rfl ?_
            refine t_getP 121 (F + 3) (ab_dd tk_fo_prepare 63 rfl) rfl F_fo_31 (by have := hF2.1; omega) (Nat.lt_of_le_of_lt (Nat.le_add_right F 5) hF2.2.1) hF2.2.2.1 rfl hF2.2.2.2.2.2.2.2.2.2.2.1 ?_
            refine x_iload 123 4 (ab_dd tk_fo_prepare 64 rfl) rfl rfl ?_
            refine x_dup2 124 (ab_dd tk_fo_prepare 65 rfl) rfl rfl rfl ?_
            refine t_iald 125 s (ab_dd tk_fo_prepare 66 rfl) rfl (by have := hF2.1; omega) (Nat.lt_of_le_of_lt (Nat.add_le_add_left (by decide) F) hF2.2.1) hF2.2.2.2.2.2.1 rfl (by omega) (by omega) (x_topn (cnE (gI a T) (fun _ => false) 0 (4 * T) s d) ((congrFun (gI_o (by omega)) _).trans ((congrFun (gI_o (by omega)) _).trans hsv)) ?_)
            refine x_iconst 126 1 (ab_dd tk_fo_prepare 67 rfl) rfl (by decide) (x_topn 1 rfl ?_)
            refine x_iadd 127 (ab_dd tk_fo_prepare 68 rfl) rfl (x_topn ((cnE (gI a T) (fun _ => false) 0 (4 * T) s d) + 1) (nI_add _ _) ?_)
            refine t_iast 128 s (ab_dd tk_fo_prepare 69 rfl) rfl (by have := hF2.1; omega) (Nat.lt_of_le_of_lt (Nat.add_le_add_left (by decide) F) hF2.2.1) hF2.2.2.2.2.2.1 rfl (by omega) (by omega) ?_
            refine xn_iinc 131 5 (fun y => [some (.ref F), some (.ref r), some (.int (nI p)), some (.int (nI h)), some (.int (nI s)), some (.int y), some (.int (nI u)), some (.int (nI ((s * 4) + d)))]) (d + 1) (ab_dd tk_fo_prepare 70 rfl) rfl (by decide) rfl (fun _ => rfl) (iinc_p 1) ?_
            refine x_goto 54 (ab_dd tk_fo_prepare 71 rfl) (by decide) ?_
            have hE3 : sEq [F + 3, F + 4, F + 5] S2 (pI (pI (pI S2 (F + 5) (s * 4 + d) (encN (pv (gI a T) u (4 * s + d)))) (F + 4) u (nI (s * 4 + d))) (F + 3) s (nI (cnE (gI a T) (fun _ => false) 0 (4 * T) s d + 1))) := ((sEq.rf.pI (by simp)).pI (by simp)).pI (by simp)
            refine ihn (d + 1) (by omega) _ _ _ (hE2.tr (hE3.mono (by simp))) (hQ2.eq hE3 (by simp) (by simp) (by simp)) ⟨fun j hj => ?_, fun e he j ej => ?_⟩ (fun v hv => ?_) (fun j hj => (congrFun (hE3.2.2.1 F (by simp)) j).trans (hfr2 j hj))
            · rw [gI_o (by omega), pv_s (by omega), hgo]
              by_cases z : j = u
              · rw [z, gI_s, if_pos rfl]; exact congrArg nI (by omega)
              · rw [gI_k z, gI_o (by omega), if_neg (fun y => z (Option.some.inj y).symm)]; exact hG2.1 j hj
            · rw [gI_o (by omega), gI_o (by omega)]
              by_cases z : e = s * 4 + d
              · rw [z, show (s * 4 + d) / 4 = s by omega, show (s * 4 + d) % 4 = d by omega, hgo] at ej
                rw [z, gI_s, ← Option.some.inj ej, show s * 4 + d = 4 * s + d by omega]
              · rw [gI_k z]; exact hG2.2 e (by omega) j ej
            · by_cases z : v = s
              · rw [z, gI_s, if_neg (Nat.lt_irrefl s), if_pos rfl]
                show _ = nI (cnE (gI a T) (fun _ => false) 0 (4 * T) s d + ec (gI a T) (fun _ => false) 0 (4 * T) s d)
                rw [ec_so hgo (by omega) (by omega)]
              · rw [gI_k z, gI_o (by omega), gI_o (by omega), hes2 v hv, if_neg z, if_neg z]
      have hF1 : foK S1 F N := hF.eq hE1
      have hO1 : roK S1 r N := hO.eq hE1
      have hkn : sI S1 r 12 = nI T := by rw [hE1.2.2.1 r (by simp; omega), q1, hT]
      refine x_iload 34 4 (ab_dd tk_fo_prepare 17 rfl) rfl rfl ?_
      refine x_aload_n 35 1 (ab_dd tk_fo_prepare 18 rfl) rfl rfl rfl ?_
      refine t_getI 38 (ab_dd tk_fo_prepare 19 rfl) rfl F_fo_59 (by have := hO1.1; omega) (Nat.lt_of_le_of_lt (Nat.le_add_right r 7) hO1.2.1) hO1.2.2.1 rfl (x_topn T hkn ?_)
      refine x_icmp_ge_f 41 (ab_dd tk_fo_prepare 20 rfl) rfl 174 (by decide) (fun z => absurd ((nI_leI (a := T) (b := s) (by omega) (by omega)).mp z) (show ¬ (T ≤ s) by omega)) ?_
      refine x_iload 43 4 (ab_dd tk_fo_prepare 21 rfl) rfl rfl ?_
      refine x_aload_n 44 0 (ab_dd tk_fo_prepare 22 rfl) rfl rfl rfl ?_
      refine t_getP 47 (F + 3) (ab_dd tk_fo_prepare 23 rfl) rfl F_fo_31 (by have := hF1.1; omega) (Nat.lt_of_le_of_lt (Nat.le_add_right F 5) hF1.2.1) hF1.2.2.1 rfl hF1.2.2.2.2.2.2.2.2.2.2.1 ?_
      refine t_alen 48 0 (ab_dd tk_fo_prepare 24 rfl) rfl (by have := hF1.1; omega) (Nat.lt_of_le_of_lt (Nat.add_le_add_left (by decide) F) hF1.2.1) rfl hF1.2.2.2.2.2.1 ?_
      refine x_icmp_ge_f 51 (ab_dd tk_fo_prepare 25 rfl) rfl 174 (by decide) (fun z => absurd ((nI_leI (a := N) (b := s) (by omega) (by omega)).mp z) (show ¬ (N ≤ s) by omega)) ?_
      refine x_iconst 52 0 (ab_dd tk_fo_prepare 26 rfl) rfl (by decide) (x_topn 0 rfl ?_)
      refine x_istore 54 [some (.ref F), some (.ref r), some (.int (nI p)), some (.int (nI h)), some (.int (nI s)), some (.int (nI 0)), none, none] 5 (ab_dd tk_fo_prepare 27 rfl) rfl (by decide) rfl ?_
      exact inner 4 0 (by omega) S1 _ _ hE1 hQ1 hG1 (fun u hu => by
        rw [hes1 u hu]
        by_cases z : u < s
        · rw [if_pos z, if_pos z]
        · rw [if_neg z, if_neg z]
          by_cases y : u = s
          · rw [if_pos y]; rfl
          · rw [if_neg y]) hfr
  refine x_aload_n 1 0 (ab_dd tk_fo_prepare 0 rfl) rfl rfl rfl ?_
  refine x_iconst 2 0 (ab_dd tk_fo_prepare 1 rfl) rfl (by decide) (x_topn 0 rfl ?_)
  refine t_putI 5 (ab_dd tk_fo_prepare 2 rfl) rfl F_fo_21 (by have := hF.1; omega) (Nat.lt_of_le_of_lt (Nat.le_add_right F 5) hF.2.1) hF.2.2.1 rfl rfl rfl ?_
  have hFa : foK (pI S F 8 (nI 0)) F N := hF.eq (l := [F]) (sEq.rf.pI (by simp))
  refine x_aload_n 6 0 (ab_dd tk_fo_prepare 3 rfl) rfl rfl rfl ?_
  refine t_getP 9 (F + 1) (ab_dd tk_fo_prepare 4 rfl) rfl F_fo_24 (by have := hF.1; omega) (Nat.lt_of_le_of_lt (Nat.le_add_right F 5) hF.2.1) hF.2.2.1 rfl hF.2.2.2.2.2.2.2.2.1 ?_
  refine x_iconst 10 (-1) (ab_dd tk_fo_prepare 5 rfl) rfl (by decide) ?_
  refine x_callS 13 M_jA_fill_0 0 2 [_, _] (ab_dd tk_fo_prepare 6 rfl) rfl (by first | decide | omega) K_jA_fill_0 T_jA_fill_0 L_fo_53 rfl (Nat.le_of_ble_eq_true rfl) (c_jA_fill_0 (S := (pI S F 8 (nI 0))) (a := F + 1) (n := 2 * N) (by omega) (by have := hFa.2.1; omega) hFa.2.2.2.1 (by omega) _) (fun v1 w1 h1 => ?_)
  obtain ⟨rfl, S2, rfl, hE2, -, hv2⟩ := h1
  have hF2 : foK S2 F N := hFa.eq hE2
  refine x_aload_n 14 0 (ab_dd tk_fo_prepare 7 rfl) rfl rfl rfl ?_
  refine t_getP 17 (F + 4) (ab_dd tk_fo_prepare 8 rfl) rfl F_fo_34 (by have := hF2.1; omega) (Nat.lt_of_le_of_lt (Nat.le_add_right F 5) hF2.2.1) hF2.2.2.1 rfl hF2.2.2.2.2.2.2.2.2.2.2.2.1 ?_
  refine x_iconst 18 (-1) (ab_dd tk_fo_prepare 9 rfl) rfl (by decide) ?_
  refine x_callS 21 M_jA_fill_0 0 2 [_, _] (ab_dd tk_fo_prepare 10 rfl) rfl (by first | decide | omega) K_jA_fill_0 T_jA_fill_0 L_fo_53 rfl (Nat.le_of_ble_eq_true rfl) (c_jA_fill_0 (S := S2) (a := F + 4) (n := N) (by omega) (by have := hF2.2.1; omega) hF2.2.2.2.2.2.2.1 (by omega) _) (fun v1 w1 h1 => ?_)
  obtain ⟨rfl, S3, rfl, hE3, -, hv3⟩ := h1
  have hF3 : foK S3 F N := hF2.eq hE3
  refine x_aload_n 22 0 (ab_dd tk_fo_prepare 11 rfl) rfl rfl rfl ?_
  refine t_getP 25 (F + 3) (ab_dd tk_fo_prepare 12 rfl) rfl F_fo_31 (by have := hF3.1; omega) (Nat.lt_of_le_of_lt (Nat.le_add_right F 5) hF3.2.1) hF3.2.2.1 rfl hF3.2.2.2.2.2.2.2.2.2.2.1 ?_
  refine x_iconst 26 0 (ab_dd tk_fo_prepare 13 rfl) rfl (by decide) (x_topn 0 rfl ?_)
  refine x_callS 29 M_jA_fill_0 0 2 [_, _] (ab_dd tk_fo_prepare 14 rfl) rfl (by first | decide | omega) K_jA_fill_0 T_jA_fill_0 L_fo_53 rfl (Nat.le_of_ble_eq_true rfl) (c_jA_fill_0 (S := S3) (a := F + 3) (n := N) (by omega) (by have := hF3.2.1; omega) hF3.2.2.2.2.2.1 (by omega) _) (fun v1 w1 h1 => ?_)
  obtain ⟨rfl, S4, rfl, hE4, -, hv4⟩ := h1
  have hF4 : foK S4 F N := hF3.eq hE4
  refine x_iconst 30 0 (ab_dd tk_fo_prepare 15 rfl) rfl (by decide) (x_topn 0 rfl ?_)
  refine x_istore 32 [some (.ref F), some (.ref r), some (.int (nI p)), some (.int (nI h)), some (.int (nI 0)), none, none, none] 4 (ab_dd tk_fo_prepare 16 rfl) rfl (by decide) rfl ?_
  have hE5 : sEq [F, F + 1, F + 2, F + 3, F + 4, F + 5] S S4 := (((sEq.rf.pI (show F ∈ [F, F + 1, F + 2, F + 3, F + 4, F + 5] by simp)).tr (hE2.mono (by simp))).tr (hE3.mono (by simp))).tr (hE4.mono (by simp))
  refine outer T 0 (by omega) S4 (fun _ => 0) 0 (fun _ => none) _ _ _ hE5 ⟨?_, fun k hk => absurd hk (Nat.not_lt_zero k), fun y hy => ?_⟩ (fcP.start _ _) ⟨fun j hj => ?_, fun e he => absurd he (by omega)⟩ (fun u hu => ?_) (fun j hj => ?_)
  · rw [hE4.2.2.1 F (by simp), hE3.2.2.1 F (by simp), hE2.2.2.1 F (by simp)]; exact gI_s
  · rw [hE4.2.2.1 (F + 1) (by simp), hE3.2.2.1 (F + 1) (by simp), hv2, if_pos (by omega)]; rfl
  · rw [hE4.2.2.1 (F + 4) (by simp), hv3, if_pos (by omega)]; rfl
  · rw [hv4, if_pos (by omega), if_neg (Nat.not_lt_zero u)]
  · rw [hE4.2.2.1 F (by simp), hE3.2.2.1 F (by simp), hE2.2.2.1 F (by simp)]; exact gI_k hj
