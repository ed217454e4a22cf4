/-! ===== soonest, way, most, stands of the reference ===== -/
def tb_m_soonest : List (Nat × Instr × Nat) := [(0, .aload_n 0, 1), (1, .iconst 0, 1), (2, .putfield 1, 3), (5, .iload_n 1, 1), (6, .invokestatic 365, 3), (9, .ifCond .eq 14, 3), (12, .aload_n 0, 1), (13, .iload_n 1, 1), (14, .invokevirtual 381, 3), (17, .invokestatic 384, 3), (20, .goto 5, 3), (23, .bipush (-3), 2), (25, .ireturn, 1)]
theorem tk_m_soonest : ∀ q ∈ tb_m_soonest, decode M_m_soonest.2.1 q.1 = .ok q.2 := by decide +kernel
theorem c_m_soonest {G : ab_G} {S : ab_S} {a : Nat → Int32} (hm : mSh S) (hA : mA S = a) (ha : aOk a) (k : Int32) : ab_C G 7 M_m_soonest [.ref 120, .int k] (sw S) (fun v w' => ∃ v0, pQ S (some (.int v0)) v w' ∧ ((¬ (0 ≤ k ∧ k ≤ 4) ∧ v0 = -3) ∨ ((0 ≤ k ∧ k ≤ 4) ∧ ∃ N, (aL a N).length = N ∧ fstM (fun m => m < gFAR ∧ pth (gI a N) (gW a N (cN k)) m 0) v0))) := by
  refine x_enter [some (.ref 120), some (.int k)] (by decide) (Nat.le_of_ble_eq_true rfl) rfl (fun v w' h => by obtain ⟨v0, ⟨rfl, -⟩, -⟩ := h; rfl) ?_
  refine x_aload_n 1 0 (ab_dd tk_m_soonest 0 rfl) rfl rfl rfl ?_
  refine x_iconst 2 0 (ab_dd tk_m_soonest 1 rfl) rfl (by decide) (x_topn 0 rfl ?_)
  refine t_putI 5 (ab_dd tk_m_soonest 2 rfl) rfl F_m_1 (by decide) (Nat.lt_of_lt_of_le (by decide) hm.1) (hm.2.1 0 (by decide)) rfl rfl rfl ?_
  refine x_iload_n 6 1 (ab_dd tk_m_soonest 3 rfl) rfl rfl rfl ?_
  refine x_callS 9 M_m_isWarm 1 1 [_] (ab_dd tk_m_soonest 4 rfl) rfl (by decide) K_m_isWarm T_m_isWarm L_m_365 rfl (Nat.le_of_ble_eq_true rfl) (c_m_isWarm _) (fun v1 w1 h1 => ?_)
  obtain ⟨rfl, rfl⟩ := h1
  refine xb_if_eq 12 23 (ab_dd tk_m_soonest 5 rfl) rfl (by decide) (fun h9 => ?_) (fun h9 => ?_)
  · refine x_bipush 25 (-3) (ab_dd tk_m_soonest 11 rfl) rfl (by decide) ?_
    exact x_iret (ab_dd tk_m_soonest 12 rfl) ⟨-3, ⟨rfl, _, rfl, hm, hA.trans hA.symm, ((sEq.rf (l := qL)).pI (by decide)), (fEq.pI (fEq.rf (S := S)) (Or.inr (by decide)))⟩, Or.inl ⟨h9, rfl⟩⟩
  · obtain ⟨h, hh, ekh, ek⟩ := in_get (n := 4) (by decide) h9
    rw [show some (Value.int k) = some (Value.int (nI h)) by rw [ekh]]
    refine x_aload_n 13 0 (ab_dd tk_m_soonest 6 rfl) rfl rfl rfl ?_
    refine x_iload_n 14 1 (ab_dd tk_m_soonest 7 rfl) rfl rfl rfl ?_
    refine t_callV 17 M_m_laysFar 6 1 [_] (ab_dd tk_m_soonest 8 rfl) rfl (by decide) K_m_laysFar V_m_laysFar.1 V_m_laysFar.2 L_m_381 rfl (Nat.le_of_ble_eq_true rfl) (by decide) (Nat.lt_of_lt_of_le (by decide) hm.1) (hm.2.1 0 (by decide)) rfl (c_m_laysFar (by exact hm) (by exact hA) ha h (by omega)) (fun v1 w1 h1 => ?_)
    obtain ⟨U1, N, f, rfl, um1, uA1, uE1, uF1, hgr, hf, hr, hst, rfl⟩ := h1
    have hgN : ∀ i d j, i < N → d < 4 → gI a N i d = some j → j < N := fun i d j hi hd e => gI_lt hgr.1 hi hd e
    have hf0 := (hr 0 hgr.2.2.1).1
    have hFAR : gFAR = 268435456 := rfl
    refine x_callS 20 M_m_toldFar 0 1 [_] (ab_dd tk_m_soonest 9 rfl) rfl (by decide) K_m_toldFar T_m_toldFar L_m_384 rfl (Nat.le_of_ble_eq_true rfl) (c_m_toldFar (f 0) (by omega)) (fun v1 w1 h1 => ?_)
    obtain ⟨rfl, rfl⟩ := h1
    have hans : fstM (fun m => m < gFAR ∧ pth (gI a N) (gW a N (cN k)) m 0) (if f 0 = gFAR then -1 else nI (f 0)) := by
      rw [ek]
      by_cases z : f 0 = gFAR
      · rw [if_pos z]
        exact Or.inr ⟨fun m hm => by have := fFix_le hgN hr hst m 0 hgr.2.2.1 hm.2; omega, rfl⟩
      · rw [if_neg z]
        exact Or.inl ⟨f 0, ⟨by omega, (hr 0 hgr.2.2.1).2.2 (by omega)⟩, fun j hj hm => by have := fFix_le hgN hr hst j 0 hgr.2.2.1 hm.2; omega, rfl⟩
    refine x_goto 25 (ab_dd tk_m_soonest 10 rfl) (by decide) ?_
    exact x_iret (ab_dd tk_m_soonest 12 rfl) ⟨_, ⟨rfl, _, rfl, um1, uA1.trans hA.symm, (((sEq.rf (l := qL)).pI (by decide)).tr (uE1.mono (by decide))), (fEq.t2 uF1 (by exact (fEq.pI (fEq.rf (S := S)) (Or.inr (by decide)))))⟩, Or.inr ⟨h9, N, hgr.1, hans⟩⟩
def tb_m_way : List (Nat × Instr × Nat) := [(0, .aload_n 0, 1), (1, .iconst 0, 1), (2, .putfield 1, 3), (5, .iload_n 1, 1), (6, .invokestatic 365, 3), (9, .ifCond .eq 7, 3), (12, .iload_n 2, 1), (13, .ifCond .ge 6, 3), (16, .bipush (-3), 2), (18, .ireturn, 1), (19, .aload_n 0, 1), (20, .iload_n 1, 1), (21, .invokevirtual 381, 3), (24, .pop, 1), (25, .iconst 0, 1), (26, .istore_n 3, 1), (27, .iconst 0, 1), (28, .istore 4, 2), (30, .aload_n 0, 1), (31, .getfield 53, 3), (34, .iload_n 3, 1), (35, .iaload, 1), (36, .ifCond .le 67, 3), (39, .aload_n 0, 1), (40, .getfield 53, 3), (43, .iload_n 3, 1), (44, .iaload, 1), (45, .ldc_w 374, 3), (48, .if_icmp .ge 55, 3), (51, .iconst 0, 1), (52, .istore 5, 2), (54, .aload_n 0, 1), (55, .iload_n 3, 1), (56, .iload 5, 2), (58, .invokevirtual 378, 3), (61, .aload_n 0, 1), (62, .getfield 53, 3), (65, .iload_n 3, 1), (66, .iaload, 1), (67, .if_icmp .eq 9, 3), (70, .iinc 5 1, 3), (73, .goto (-19), 3), (76, .iload 4, 2), (78, .iload_n 2, 1), (79, .if_icmp .ne 6, 3), (82, .iload 5, 2), (84, .ireturn, 1), (85, .aload_n 0, 1), (86, .getfield 50, 3), (89, .iconst 4, 1), (90, .iload_n 3, 1), (91, .imul, 1), (92, .iload 5, 2), (94, .iadd, 1), (95, .iaload, 1), (96, .istore_n 3, 1), (97, .iinc 4 1, 3), (100, .goto (-70), 3), (103, .iconst (-1), 1), (104, .ireturn, 1)]
theorem tk_m_way : ∀ q ∈ tb_m_way, decode M_m_way.2.1 q.1 = .ok q.2 := by decide +kernel
theorem c_m_way {G : ab_G} {S : ab_S} {a : Nat → Int32} (hm : mSh S) (hA : mA S = a) (ha : aOk a) (k i : Int32) : ab_C G 7 M_m_way [.ref 120, .int k, .int i] (sw S) (fun v w' => ∃ v0, pQ S (some (.int v0)) v w' ∧ ((¬ ((0 ≤ k ∧ k ≤ 4) ∧ 0 ≤ i) ∧ v0 = -3) ∨ (((0 ≤ k ∧ k ≤ 4) ∧ 0 ≤ i) ∧ ∃ N, (aL a N).length = N ∧ wR (gI a N) (gW a N (cN k)) (cN i) 0 v0))) := by
  have go : ∀ (S1 : ab_S) (N h ii : Nat) (f : Nat → Nat), cN k = h → cN i = ii → ii < 2 ^ 31 → ((0 ≤ k ∧ k ≤ 4) ∧ 0 ≤ i) → mSh S1 → mA S1 = a → sEq qL S S1 → fEq S S1 → mGr S1 a N → fAr S1 132 f N → fReal (gI a N) (gW a N h) f N → (∀ i, i < N → fStab (gI a N) f i) → ∀ (t its n : Nat), f its ≤ t → its < N → n ≤ ii → (∀ v, wR (gI a N) (gW a N h) (ii - n) its v → wR (gI a N) (gW a N h) ii 0 v) → ab_Ex G 7 M_m_way 30 [some (.ref 120), some (.int (nI h)), some (.int (nI ii)), some (.int (nI its)), some (.int (nI n)), none] [] (sw S1) (fun v w' => ∃ v0, pQ S (some (.int v0)) v w' ∧ ((¬ ((0 ≤ k ∧ k ≤ 4) ∧ 0 ≤ i) ∧ v0 = -3) ∨ (((0 ≤ k ∧ k ≤ 4) ∧ 0 ≤ i) ∧ ∃ N, (aL a N).length = N ∧ wR (gI a N) (gW a N (cN k)) (cN i) 0 v0))) := by
    intro S1 N h ii f ek ei hii hz hm1 hA1 hE1 hF1 hgr hf hr hst t
    have hgN : ∀ i d j, i < N → d < 4 → gI a N i d = some j → j < N := fun i d j hi hd e => gI_lt hgr.1 hi hd e
    have hFAR : gFAR = 268435456 := rfl
    have hN := hgr.2.1
    induction t using Nat.strongRecOn with
    | ind t ih =>
      intro its n ht hits hn hcont
      have hfi := hf its hits
      have hfl := (hr its hits).1
      rw [hFAR] at hfl
      refine x_aload_n 31 0 (ab_dd tk_m_way 18 rfl) rfl rfl rfl ?_
      refine t_getP 34 132 (ab_dd tk_m_way 19 rfl) rfl F_m_53 (by decide) (Nat.lt_of_lt_of_le (by decide) hm1.1) (hm1.2.1 0 (by decide)) rfl (hm1.2.2 27 (by decide)) ?_
      refine x_iload_n 35 3 (ab_dd tk_m_way 20 rfl) rfl rfl rfl ?_
      refine t_iald 36 its (ab_dd tk_m_way 21 rfl) rfl (by decide) (Nat.lt_of_lt_of_le (by decide) hm1.1) (hm1.2.1 12 (by decide)) rfl (by omega) (by decide) (x_topn (f its) hfi ?_)
      refine xn_if_le 39 103 (ab_dd tk_m_way 22 rfl) rfl (by decide) (by omega) (fun h36 => ?_) (fun h36 => ?_)
      · refine x_iconst 104 (-1) (ab_dd tk_m_way 58 rfl) rfl (by decide) ?_
        exact x_iret (ab_dd tk_m_way 59 rfl) ⟨-1, ⟨rfl, _, rfl, hm1, hA1.trans hA.symm, hE1, hF1⟩, Or.inr ⟨hz, N, hgr.1, by
          rw [ek, ei]
          refine hcont _ ?_
          have hno : ¬ ∃ x, dst (gI a N) (gW a N h) its (x + 1) := fun z => by
            obtain ⟨x, hx⟩ := z
            have := dst_one hx ((fFix_dst hgN hr hst hits).1 (by omega)); omega
          cases ii - n with
          | zero => exact Or.inr ⟨hno, rfl⟩
          | succ q => exact Or.inr ⟨hno, rfl⟩⟩⟩
      · refine x_aload_n 40 0 (ab_dd tk_m_way 23 rfl) rfl rfl rfl ?_
        refine t_getP 43 132 (ab_dd tk_m_way 24 rfl) rfl F_m_53 (by decide) (Nat.lt_of_lt_of_le (by decide) hm1.1) (hm1.2.1 0 (by decide)) rfl (hm1.2.2 27 (by decide)) ?_
        refine x_iload_n 44 3 (ab_dd tk_m_way 25 rfl) rfl rfl rfl ?_
        refine t_iald 45 its (ab_dd tk_m_way 26 rfl) rfl (by decide) (Nat.lt_of_lt_of_le (by decide) hm1.1) (hm1.2.1 12 (by decide)) rfl (by omega) (by decide) (x_topn (f its) hfi ?_)
        refine x_ldcw 48 (ab_dd tk_m_way 27 rfl) rfl C_m_374 (x_topn 268435456 rfl ?_)
        refine xn_icmp_ge 51 103 (ab_dd tk_m_way 28 rfl) rfl (by decide) (by omega) (by omega) (fun h48 => ?_) (fun h48 => ?_)
        · refine x_iconst 104 (-1) (ab_dd tk_m_way 58 rfl) rfl (by decide) ?_
          exact x_iret (ab_dd tk_m_way 59 rfl) ⟨-1, ⟨rfl, _, rfl, hm1, hA1.trans hA.symm, hE1, hF1⟩, Or.inr ⟨hz, N, hgr.1, by
            rw [ek, ei]
            refine hcont _ ?_
            have hno : ¬ ∃ x, dst (gI a N) (gW a N h) its (x + 1) := fun z => by
              obtain ⟨x, hx⟩ := z
              exact (fFix_dst hgN hr hst hits).2 (by omega) _ hx
            cases ii - n with
            | zero => exact Or.inr ⟨hno, rfl⟩
            | succ q => exact Or.inr ⟨hno, rfl⟩⟩⟩
        · refine x_iconst 52 0 (ab_dd tk_m_way 29 rfl) rfl (by decide) (x_topn 0 rfl ?_)
          refine x_istore 54 [some (.ref 120), some (.int (nI h)), some (.int (nI ii)), some (.int (nI its)), some (.int (nI n)), some (.int (nI 0))] 5 (ab_dd tk_m_way 30 rfl) rfl (by decide) rfl ?_
          have search : ∀ (m d : Nat), d + m = 4 → (∀ d', d' < d → fB (gI a N) f its d' ≠ f its) → ab_Ex G 7 M_m_way 54 [some (.ref 120), some (.int (nI h)), some (.int (nI ii)), some (.int (nI its)), some (.int (nI n)), some (.int (nI d))] [] (sw S1) (fun v w' => ∃ v0, pQ S (some (.int v0)) v w' ∧ ((¬ ((0 ≤ k ∧ k ≤ 4) ∧ 0 ≤ i) ∧ v0 = -3) ∨ (((0 ≤ k ∧ k ≤ 4) ∧ 0 ≤ i) ∧ ∃ N, (aL a N).length = N ∧ wR (gI a N) (gW a N (cN k)) (cN i) 0 v0))) := by
            intro m
            induction m with
            | zero =>
              intro d hd hno
              obtain ⟨d0, hd0, e0⟩ := fFix_step hgN hr hst hits h36 (by omega)
              exact absurd e0 (hno d0 (by omega))
            | succ m ihm =>
              intro d hd hno
              have hbl := fB_le hgN hr hits (show d < 4 by omega)
              have hb1 := hbl.1
              rw [hFAR] at hb1
              refine x_aload_n 55 0 (ab_dd tk_m_way 31 rfl) rfl rfl rfl ?_
              refine x_iload_n 56 3 (ab_dd tk_m_way 32 rfl) rfl rfl rfl ?_
              refine x_iload 58 5 (ab_dd tk_m_way 33 rfl) rfl rfl ?_
              refine t_callV 61 M_m_farBy 0 2 [_, _] (ab_dd tk_m_way 34 rfl) rfl (by decide) K_m_farBy V_m_farBy.1 V_m_farBy.2 L_m_378 rfl (Nat.le_of_ble_eq_true rfl) (by decide) (Nat.lt_of_lt_of_le (by decide) hm1.1) (hm1.2.1 0 (by decide)) rfl (c_m_farBy (by exact hm1) (by exact hgr) (by exact hf) (fun i hi => (hr i hi).1) its d (by omega) (by omega)) (fun v1 w1 h1 => ?_)
              obtain ⟨rfl, rfl⟩ := h1
              refine x_aload_n 62 0 (ab_dd tk_m_way 35 rfl) rfl rfl rfl ?_
              refine t_getP 65 132 (ab_dd tk_m_way 36 rfl) rfl F_m_53 (by decide) (Nat.lt_of_lt_of_le (by decide) hm1.1) (hm1.2.1 0 (by decide)) rfl (hm1.2.2 27 (by decide)) ?_
              refine x_iload_n 66 3 (ab_dd tk_m_way 37 rfl) rfl rfl rfl ?_
              refine t_iald 67 its (ab_dd tk_m_way 38 rfl) rfl (by decide) (Nat.lt_of_lt_of_le (by decide) hm1.1) (hm1.2.1 12 (by decide)) rfl (by omega) (by decide) (x_topn (f its) hfi ?_)
              refine xn_icmp_eq 70 76 (ab_dd tk_m_way 39 rfl) rfl (by decide) (by omega) (by omega) (fun h67 => ?_) (fun h67 => ?_)
              · obtain ⟨j, ej, hj, hfj, hfd⟩ := fFix_fst (W := (gW a N h)) hgN hr hst hits h36 (by omega) (show d < 4 by omega) h67 hno
                have et : sI S1 131 (4 * its + d) = nI j := (hgr.2.2.2.2.2 its d hits (by omega)).trans (by rw [ej]; rfl)
                refine x_iload 78 4 (ab_dd tk_m_way 42 rfl) rfl rfl ?_
                refine x_iload_n 79 2 (ab_dd tk_m_way 43 rfl) rfl rfl rfl ?_
                refine xn_icmp_ne 82 85 (ab_dd tk_m_way 44 rfl) rfl (by decide) (by omega) (by omega) (fun h79 => ?_) (fun h79 => ?_)
                · refine x_aload_n 86 0 (ab_dd tk_m_way 47 rfl) rfl rfl rfl ?_
                  refine t_getP 89 131 (ab_dd tk_m_way 48 rfl) rfl F_m_50 (by decide) (Nat.lt_of_lt_of_le (by decide) hm1.1) (hm1.2.1 0 (by decide)) rfl (hm1.2.2 26 (by decide)) ?_
                  refine x_iconst 90 4 (ab_dd tk_m_way 49 rfl) rfl (by decide) (x_topn 4 rfl ?_)
                  refine x_iload_n 91 3 (ab_dd tk_m_way 50 rfl) rfl rfl rfl ?_
                  refine x_imul 92 (ab_dd tk_m_way 51 rfl) rfl (x_topn (4 * its) (pk_mul _ _) ?_)
                  refine x_iload 94 5 (ab_dd tk_m_way 52 rfl) rfl rfl ?_
                  refine x_iadd 95 (ab_dd tk_m_way 53 rfl) rfl (x_topn ((4 * its) + d) (nI_add _ _) ?_)
                  refine t_iald 96 ((4 * its) + d) (ab_dd tk_m_way 54 rfl) rfl (by decide) (Nat.lt_of_lt_of_le (by decide) hm1.1) (hm1.2.1 11 (by decide)) rfl (by omega) (by decide) (x_topn j et ?_)
                  refine x_istore_n 97 [some (.ref 120), some (.int (nI h)), some (.int (nI ii)), some (.int (nI j)), some (.int (nI n)), some (.int (nI d))] 3 (ab_dd tk_m_way 55 rfl) rfl rfl (by decide) rfl ?_
                  refine xn_iinc 100 4 (fun y => [some (.ref 120), some (.int (nI h)), some (.int (nI ii)), some (.int (nI j)), some (.int y), some (.int (nI d))]) (n + 1) (ab_dd tk_m_way 56 rfl) rfl (by decide) rfl (fun _ => rfl) (iinc_p 1) ?_
                  refine x_goto 30 (ab_dd tk_m_way 57 rfl) (by decide) ?_
                  refine x_forget 5 (ih (f j) (by omega) j (n + 1) (Nat.le_refl _) hj (by omega) (fun v hv => hcont v ?_))
                  rw [show ii - n = (ii - (n + 1)) + 1 by omega]
                  exact Or.inl ⟨d, j, hfd, hv⟩
                · refine x_iload 84 5 (ab_dd tk_m_way 45 rfl) rfl rfl ?_
                  exact x_iret (ab_dd tk_m_way 46 rfl) ⟨nI d, ⟨rfl, _, rfl, hm1, hA1.trans hA.symm, hE1, hF1⟩, Or.inr ⟨hz, N, hgr.1, by
                    rw [ek, ei]
                    refine hcont _ ?_
                    rw [show ii - n = 0 by omega]
                    exact Or.inl ⟨d, j, hfd, rfl⟩⟩⟩
              · refine xn_iinc 73 5 (fun y => [some (.ref 120), some (.int (nI h)), some (.int (nI ii)), some (.int (nI its)), some (.int (nI n)), some (.int y)]) (d + 1) (ab_dd tk_m_way 40 rfl) rfl (by decide) rfl (fun _ => rfl) (iinc_p 1) ?_
                refine x_goto 54 (ab_dd tk_m_way 41 rfl) (by decide) ?_
                refine ihm (d + 1) (by omega) (fun d' hd' => ?_)
                by_cases e : d' = d
                · rw [e]; exact h67
                · exact hno d' (by omega)
          exact search 4 0 rfl (fun d' hd' => absurd hd' (by omega))
  refine x_enter [some (.ref 120), some (.int k), some (.int i), none, none, none] (by decide) (Nat.le_of_ble_eq_true rfl) rfl (fun v w' h => by obtain ⟨v0, ⟨rfl, -⟩, -⟩ := h; rfl) ?_
  refine x_aload_n 1 0 (ab_dd tk_m_way 0 rfl) rfl rfl rfl ?_
  refine x_iconst 2 0 (ab_dd tk_m_way 1 rfl) rfl (by decide) (x_topn 0 rfl ?_)
  refine t_putI 5 (ab_dd tk_m_way 2 rfl) rfl F_m_1 (by decide) (Nat.lt_of_lt_of_le (by decide) hm.1) (hm.2.1 0 (by decide)) rfl rfl rfl ?_
  refine x_iload_n 6 1 (ab_dd tk_m_way 3 rfl) rfl rfl rfl ?_
  refine x_callS 9 M_m_isWarm 1 1 [_] (ab_dd tk_m_way 4 rfl) rfl (by decide) K_m_isWarm T_m_isWarm L_m_365 rfl (Nat.le_of_ble_eq_true rfl) (c_m_isWarm _) (fun v1 w1 h1 => ?_)
  obtain ⟨rfl, rfl⟩ := h1
  refine xb_if_eq 12 16 (ab_dd tk_m_way 5 rfl) rfl (by decide) (fun h9 => ?_) (fun h9 => ?_)
  · refine x_bipush 18 (-3) (ab_dd tk_m_way 8 rfl) rfl (by decide) ?_
    exact x_iret (ab_dd tk_m_way 9 rfl) ⟨-3, ⟨rfl, _, rfl, hm, hA.trans hA.symm, ((sEq.rf (l := qL)).pI (by decide)), (fEq.pI (fEq.rf (S := S)) (Or.inr (by decide)))⟩, Or.inl ⟨fun z => h9 z.1, rfl⟩⟩
  · refine x_iload_n 13 2 (ab_dd tk_m_way 6 rfl) rfl rfl rfl ?_
    refine x_if_ge 16 19 (ab_dd tk_m_way 7 rfl) rfl (by decide) (fun h13 => ?_) (fun h13 => ?_)
    · obtain ⟨h, hh, ekh, ek⟩ := in_get (n := 4) (by decide) h9
      obtain ⟨ii, hii, eii⟩ := nI_of (x := i) (Int32.not_lt.mpr h13)
      have ei : cN i = ii := by rw [eii, cN_nI hii]
      rw [show some (Value.int k) = some (Value.int (nI h)) by rw [ekh], show some (Value.int i) = some (Value.int (nI ii)) by rw [eii]]
      refine x_aload_n 20 0 (ab_dd tk_m_way 10 rfl) rfl rfl rfl ?_
      refine x_iload_n 21 1 (ab_dd tk_m_way 11 rfl) rfl rfl rfl ?_
      refine t_callV 24 M_m_laysFar 6 1 [_] (ab_dd tk_m_way 12 rfl) rfl (by decide) K_m_laysFar V_m_laysFar.1 V_m_laysFar.2 L_m_381 rfl (Nat.le_of_ble_eq_true rfl) (by decide) (Nat.lt_of_lt_of_le (by decide) hm.1) (hm.2.1 0 (by decide)) rfl (c_m_laysFar (by exact hm) (by exact hA) ha h (by omega)) (fun v1 w1 h1 => ?_)
      obtain ⟨U1, N, f, rfl, um1, uA1, uE1, uF1, hgr, hf, hr, hst, rfl⟩ := h1
      have hgN : ∀ i d j, i < N → d < 4 → gI a N i d = some j → j < N := fun i d j hi hd e => gI_lt hgr.1 hi hd e
      have hf0 := (hr 0 hgr.2.2.1).1
      have hFAR : gFAR = 268435456 := rfl
      refine x_pop 25 (ab_dd tk_m_way 13 rfl) rfl rfl ?_
      refine x_iconst 26 0 (ab_dd tk_m_way 14 rfl) rfl (by decide) (x_topn 0 rfl ?_)
      refine x_istore_n 27 [some (.ref 120), some (.int (nI h)), some (.int (nI ii)), some (.int (nI 0)), none, none] 3 (ab_dd tk_m_way 15 rfl) rfl rfl (by decide) rfl ?_
      refine x_iconst 28 0 (ab_dd tk_m_way 16 rfl) rfl (by decide) (x_topn 0 rfl ?_)
      refine x_istore 30 [some (.ref 120), some (.int (nI h)), some (.int (nI ii)), some (.int (nI 0)), some (.int (nI 0)), none] 4 (ab_dd tk_m_way 17 rfl) rfl (by decide) rfl ?_
      exact go _ N h ii f ek ei hii ⟨h9, h13⟩ um1 uA1 (((sEq.rf (l := qL)).pI (by decide)).tr (uE1.mono (by decide))) (fEq.t2 uF1 (by exact (fEq.pI (fEq.rf (S := S)) (Or.inr (by decide))))) hgr hf hr hst (f 0) 0 0 (Nat.le_refl _) hgr.2.2.1 (by omega) (fun v hv => hv)
    · refine x_bipush 18 (-3) (ab_dd tk_m_way 8 rfl) rfl (by decide) ?_
      exact x_iret (ab_dd tk_m_way 9 rfl) ⟨-3, ⟨rfl, _, rfl, hm, hA.trans hA.symm, ((sEq.rf (l := qL)).pI (by decide)), (fEq.pI (fEq.rf (S := S)) (Or.inr (by decide)))⟩, Or.inl ⟨fun z => h13 z.2, rfl⟩⟩
def tb_m_stands : List (Nat × Instr × Nat) := [(0, .aload_n 0, 1), (1, .iconst 0, 1), (2, .putfield 1, 3), (5, .aload_n 0, 1), (6, .invokevirtual 375, 3), (9, .aload_n 0, 1), (10, .getfield 368, 3), (13, .ireturn, 1)]
theorem tk_m_stands : ∀ q ∈ tb_m_stands, decode M_m_stands.2.1 q.1 = .ok q.2 := by decide +kernel
theorem c_m_stands {G : ab_G} {S : ab_S} {a : Nat → Int32} (hm : mSh S) (hA : mA S = a) (ha : aOk a) : ab_C G 6 M_m_stands [.ref 120] (sw S) (fun v w' => ∃ N, pQ S (some (.int (nI N))) v w' ∧ (aL a N).length = N) := by
  refine x_enter [some (.ref 120)] (by decide) (Nat.le_of_ble_eq_true rfl) rfl (fun v w' h => by obtain ⟨N, ⟨rfl, -⟩, -⟩ := h; rfl) ?_
  refine x_aload_n 1 0 (ab_dd tk_m_stands 0 rfl) rfl rfl rfl ?_
  refine x_iconst 2 0 (ab_dd tk_m_stands 1 rfl) rfl (by decide) (x_topn 0 rfl ?_)
  refine t_putI 5 (ab_dd tk_m_stands 2 rfl) rfl F_m_1 (by decide) (Nat.lt_of_lt_of_le (by decide) hm.1) (hm.2.1 0 (by decide)) rfl rfl rfl ?_
  refine x_aload_n 6 0 (ab_dd tk_m_stands 3 rfl) rfl rfl rfl ?_
  refine t_callV 9 M_m_laysStands 5 0 [] (ab_dd tk_m_stands 4 rfl) rfl (by decide) K_m_laysStands V_m_laysStands.1 V_m_laysStands.2 L_m_375 rfl (Nat.le_of_ble_eq_true rfl) (by decide) (Nat.lt_of_lt_of_le (by decide) hm.1) (hm.2.1 0 (by decide)) rfl (c_m_laysStands (by exact hm) (by exact hA) ha) (fun v1 w1 h1 => ?_)
  obtain ⟨rfl, U1, N, rfl, um1, uA1, uE1, uF1, hbf⟩ := h1
  have hgr := hbf.gr
  refine x_aload_n 10 0 (ab_dd tk_m_stands 5 rfl) rfl rfl rfl ?_
  refine t_getI 13 (ab_dd tk_m_stands 6 rfl) rfl F_m_368 (by decide) (Nat.lt_of_lt_of_le (by decide) um1.1) (um1.2.1 0 (by decide)) rfl (x_topn N hgr.2.2.2.1 ?_)
  exact x_iret (ab_dd tk_m_stands 7 rfl) ⟨N, ⟨rfl, _, rfl, um1, uA1.trans hA.symm, (((sEq.rf (l := qL)).pI (by decide)).tr (uE1.mono (by decide))), (fEq.t2 uF1 (by exact (fEq.pI (fEq.rf (S := S)) (Or.inr (by decide)))))⟩, hgr.1⟩
def mxW (c : Nat → Nat) (r : Nat) : Nat → Nat
  | 0 => 0
  | k + 1 => if mxW c r k < mWa (c k) r then mWa (c k) r else mxW c r k
theorem mxW_lt (c : Nat → Nat) (r : Nat) : ∀ k, mxW c r k < 5
  | 0 => by show 0 < 5; decide
  | k + 1 => by
    unfold mxW
    split
    · exact mWa_lt _ _
    · exact mxW_lt c r k
def tb_m_most : List (Nat × Instr × Nat) := [(0, .aload_n 0, 1), (1, .iconst 0, 1), (2, .putfield 1, 3), (5, .aload_n 0, 1), (6, .iload_n 1, 1), (7, .i2l, 1), (8, .invokevirtual 258, 3), (11, .ifCond .ne 6, 3), (14, .bipush (-2), 2), (16, .ireturn, 1), (17, .aload_n 0, 1), (18, .invokevirtual 375, 3), (21, .iconst 0, 1), (22, .istore_n 2, 1), (23, .iconst 0, 1), (24, .istore_n 3, 1), (25, .iload_n 3, 1), (26, .aload_n 0, 1), (27, .getfield 368, 3), (30, .if_icmp .ge 38, 3), (33, .aload_n 0, 1), (34, .getfield 46, 3), (37, .iload_n 3, 1), (38, .iaload, 1), (39, .iload_n 1, 1), (40, .invokestatic 228, 3), (43, .iload_n 2, 1), (44, .if_icmp .le 16, 3), (47, .aload_n 0, 1), (48, .getfield 46, 3), (51, .iload_n 3, 1), (52, .iaload, 1), (53, .iload_n 1, 1), (54, .invokestatic 228, 3), (57, .goto 4, 3), (60, .iload_n 2, 1), (61, .istore_n 2, 1), (62, .iinc 3 1, 3), (65, .goto (-40), 3), (68, .iload_n 2, 1), (69, .ireturn, 1)]
theorem tk_m_most : ∀ q ∈ tb_m_most, decode M_m_most.2.1 q.1 = .ok q.2 := by decide +kernel
theorem c_m_most {G : ab_G} {S : ab_S} {a : Nat → Int32} (hm : mSh S) (hA : mA S = a) (ha : aOk a) (r : Int32) : ab_C G 6 M_m_most [.ref 120, .int r] (sw S) (fun v w' => ∃ v0, pQ S (some (.int v0)) v w' ∧ ((¬ (0 ≤ r ∧ cN r < aR a) ∧ v0 = -2) ∨ ((0 ≤ r ∧ cN r < aR a) ∧ ∃ N, (aL a N).length = N ∧ v0 = nI (mxW (gC a N) (cN r) N)))) := by
  have hR4 := ha.R.2
  have loop : ∀ (S1 : ab_S) (N p : Nat), cN r = p → p < 4 → (0 ≤ r ∧ cN r < aR a) → mSh S1 → mA S1 = a → sEq qL S S1 → fEq S S1 → mGr S1 a N → ∀ (m k : Nat), k + m = N → ab_Ex G 6 M_m_most 25 [some (.ref 120), some (.int (nI p)), some (.int (nI (mxW (gC a N) p k))), some (.int (nI k))] [] (sw S1) (fun v w' => ∃ v0, pQ S (some (.int v0)) v w' ∧ ((¬ (0 ≤ r ∧ cN r < aR a) ∧ v0 = -2) ∨ ((0 ≤ r ∧ cN r < aR a) ∧ ∃ N, (aL a N).length = N ∧ v0 = nI (mxW (gC a N) (cN r) N)))) := by
    intro S1 N p ep hp hz hm1 hA1 hE1 hF1 hgr m
    have hN := hgr.2.1
    induction m with
    | zero =>
      intro k hk
      refine x_iload_n 26 3 (ab_dd tk_m_most 16 rfl) rfl rfl rfl ?_
      refine x_aload_n 27 0 (ab_dd tk_m_most 17 rfl) rfl rfl rfl ?_
      refine t_getI 30 (ab_dd tk_m_most 18 rfl) rfl F_m_368 (by decide) (Nat.lt_of_lt_of_le (by decide) hm1.1) (hm1.2.1 0 (by decide)) rfl (x_topn N hgr.2.2.2.1 ?_)
      refine x_icmp_ge_t 68 (ab_dd tk_m_most 19 rfl) (by decide) ((nI_leI (a := N) (b := k) (by omega) (by omega)).mpr (show N ≤ k by omega)) ?_
      refine x_iload_n 69 2 (ab_dd tk_m_most 39 rfl) rfl rfl rfl ?_
      exact x_iret (ab_dd tk_m_most 40 rfl) ⟨_, ⟨rfl, _, rfl, hm1, hA1.trans hA.symm, hE1, hF1⟩, Or.inr ⟨hz, N, hgr.1, by rw [ep, show k = N by omega]⟩⟩
    | succ m ih =>
      intro k hk
      have hck := (gC_ok ha hgr.1 (show k < N by omega)).1
      have h1 := mWa_lt (gC a N k) p
      have h2 := mxW_lt (gC a N) p k
      refine x_iload_n 26 3 (ab_dd tk_m_most 16 rfl) rfl rfl rfl ?_
      refine x_aload_n 27 0 (ab_dd tk_m_most 17 rfl) rfl rfl rfl ?_
      refine t_getI 30 (ab_dd tk_m_most 18 rfl) rfl F_m_368 (by decide) (Nat.lt_of_lt_of_le (by decide) hm1.1) (hm1.2.1 0 (by decide)) rfl (x_topn N hgr.2.2.2.1 ?_)
      refine x_icmp_ge_f 33 (ab_dd tk_m_most 19 rfl) rfl 68 (by decide) (fun z => absurd ((nI_leI (a := N) (b := k) (by omega) (by omega)).mp z) (show ¬ (N ≤ k) by omega)) ?_
      refine x_aload_n 34 0 (ab_dd tk_m_most 20 rfl) rfl rfl rfl ?_
      refine t_getP 37 130 (ab_dd tk_m_most 21 rfl) rfl F_m_46 (by decide) (Nat.lt_of_lt_of_le (by decide) hm1.1) (hm1.2.1 0 (by decide)) rfl (hm1.2.2 25 (by decide)) ?_
      refine x_iload_n 38 3 (ab_dd tk_m_most 22 rfl) rfl rfl rfl ?_
      refine t_iald 39 k (ab_dd tk_m_most 23 rfl) rfl (by decide) (Nat.lt_of_lt_of_le (by decide) hm1.1) (hm1.2.1 10 (by decide)) rfl (by omega) (by decide) (x_topn (gC a N k) (hgr.2.2.2.2.1 k (by omega)) ?_)
      refine x_iload_n 40 1 (ab_dd tk_m_most 24 rfl) rfl rfl rfl ?_
      refine x_callS 43 M_m_warmthIn 1 2 [_, _] (ab_dd tk_m_most 25 rfl) rfl (by decide) K_m_warmthIn T_m_warmthIn L_m_228 rfl (Nat.le_of_ble_eq_true rfl) (w_warmthIn _ (gC a N k) p (by omega) (by omega)) (fun v1 w1 h1 => ?_)
      obtain ⟨rfl, rfl⟩ := h1
      refine x_iload_n 44 2 (ab_dd tk_m_most 26 rfl) rfl rfl rfl ?_
      refine xn_icmp_le 47 60 (ab_dd tk_m_most 27 rfl) rfl (by decide) (by omega) (by omega) (fun h44 => ?_) (fun h44 => ?_)
      · refine x_iload_n 61 2 (ab_dd tk_m_most 35 rfl) rfl rfl rfl ?_
        refine x_istore_n 62 [some (.ref 120), some (.int (nI p)), some (.int (nI (mxW (gC a N) p k))), some (.int (nI k))] 2 (ab_dd tk_m_most 36 rfl) rfl rfl (by decide) rfl ?_
        refine xn_iinc 65 3 (fun y => [some (.ref 120), some (.int (nI p)), some (.int (nI (mxW (gC a N) p k))), some (.int y)]) (k + 1) (ab_dd tk_m_most 37 rfl) rfl (by decide) rfl (fun _ => rfl) (iinc_p 1) ?_
        refine x_goto 25 (ab_dd tk_m_most 38 rfl) (by decide) ?_
        have hI := ih (k + 1) (by omega)
        rw [show mxW (gC a N) p (k + 1) = _ from if_neg (by omega)] at hI
        exact hI
      · refine x_aload_n 48 0 (ab_dd tk_m_most 28 rfl) rfl rfl rfl ?_
        refine t_getP 51 130 (ab_dd tk_m_most 29 rfl) rfl F_m_46 (by decide) (Nat.lt_of_lt_of_le (by decide) hm1.1) (hm1.2.1 0 (by decide)) rfl (hm1.2.2 25 (by decide)) ?_
        refine x_iload_n 52 3 (ab_dd tk_m_most 30 rfl) rfl rfl rfl ?_
        refine t_iald 53 k (ab_dd tk_m_most 31 rfl) rfl (by decide) (Nat.lt_of_lt_of_le (by decide) hm1.1) (hm1.2.1 10 (by decide)) rfl (by omega) (by decide) (x_topn (gC a N k) (hgr.2.2.2.2.1 k (by omega)) ?_)
        refine x_iload_n 54 1 (ab_dd tk_m_most 32 rfl) rfl rfl rfl ?_
        refine x_callS 57 M_m_warmthIn 1 2 [_, _] (ab_dd tk_m_most 33 rfl) rfl (by decide) K_m_warmthIn T_m_warmthIn L_m_228 rfl (Nat.le_of_ble_eq_true rfl) (w_warmthIn _ (gC a N k) p (by omega) (by omega)) (fun v1 w1 h1 => ?_)
        obtain ⟨rfl, rfl⟩ := h1
        refine x_goto 61 (ab_dd tk_m_most 34 rfl) (by decide) ?_
        refine x_istore_n 62 [some (.ref 120), some (.int (nI p)), some (.int (nI (mWa (gC a N k) p))), some (.int (nI k))] 2 (ab_dd tk_m_most 36 rfl) rfl rfl (by decide) rfl ?_
        refine xn_iinc 65 3 (fun y => [some (.ref 120), some (.int (nI p)), some (.int (nI (mWa (gC a N k) p))), some (.int y)]) (k + 1) (ab_dd tk_m_most 37 rfl) rfl (by decide) rfl (fun _ => rfl) (iinc_p 1) ?_
        refine x_goto 25 (ab_dd tk_m_most 38 rfl) (by decide) ?_
        have hI := ih (k + 1) (by omega)
        rw [show mxW (gC a N) p (k + 1) = _ from if_pos h44] at hI
        exact hI
  refine x_enter [some (.ref 120), some (.int r), none, none] (by decide) (Nat.le_of_ble_eq_true rfl) rfl (fun v w' h => by obtain ⟨v0, ⟨rfl, -⟩, -⟩ := h; rfl) ?_
  refine x_aload_n 1 0 (ab_dd tk_m_most 0 rfl) rfl rfl rfl ?_
  refine x_iconst 2 0 (ab_dd tk_m_most 1 rfl) rfl (by decide) (x_topn 0 rfl ?_)
  refine t_putI 5 (ab_dd tk_m_most 2 rfl) rfl F_m_1 (by decide) (Nat.lt_of_lt_of_le (by decide) hm.1) (hm.2.1 0 (by decide)) rfl rfl rfl ?_
  refine x_aload_n 6 0 (ab_dd tk_m_most 3 rfl) rfl rfl rfl ?_
  refine x_iload_n 7 1 (ab_dd tk_m_most 4 rfl) rfl rfl rfl ?_
  refine x_i2l 8 (ab_dd tk_m_most 5 rfl) rfl ?_
  refine t_callV 11 M_m_isRider 1 1 [_] (ab_dd tk_m_most 6 rfl) rfl (by decide) K_m_isRider V_m_isRider.1 V_m_isRider.2 L_m_258 rfl (Nat.le_of_ble_eq_true rfl) (by decide) (Nat.lt_of_lt_of_le (by decide) hm.1) (hm.2.1 0 (by decide)) rfl (w_isRider (by exact hm) (by exact hA) ha _) (fun v1 w1 h1 => ?_)
  obtain ⟨rfl, rfl⟩ := h1
  refine xb_if_ne 14 17 (ab_dd tk_m_most 7 rfl) rfl (by decide) (fun h11 => ?_) (fun h11 => ?_)
  · obtain ⟨p, hp, erp, er⟩ := rid_get h11 hR4
    rw [show some (Value.int r) = some (Value.int (nI p)) by rw [erp]]
    refine x_aload_n 18 0 (ab_dd tk_m_most 10 rfl) rfl rfl rfl ?_
    refine t_callV 21 M_m_laysStands 5 0 [] (ab_dd tk_m_most 11 rfl) rfl (by decide) K_m_laysStands V_m_laysStands.1 V_m_laysStands.2 L_m_375 rfl (Nat.le_of_ble_eq_true rfl) (by decide) (Nat.lt_of_lt_of_le (by decide) hm.1) (hm.2.1 0 (by decide)) rfl (c_m_laysStands (by exact hm) (by exact hA) ha) (fun v1 w1 h1 => ?_)
    obtain ⟨rfl, U1, N, rfl, um1, uA1, uE1, uF1, hbf⟩ := h1
    have hgr := hbf.gr
    refine x_iconst 22 0 (ab_dd tk_m_most 12 rfl) rfl (by decide) (x_topn 0 rfl ?_)
    refine x_istore_n 23 [some (.ref 120), some (.int (nI p)), some (.int (nI 0)), none] 2 (ab_dd tk_m_most 13 rfl) rfl rfl (by decide) rfl ?_
    refine x_iconst 24 0 (ab_dd tk_m_most 14 rfl) rfl (by decide) (x_topn 0 rfl ?_)
    refine x_istore_n 25 [some (.ref 120), some (.int (nI p)), some (.int (nI 0)), some (.int (nI 0))] 3 (ab_dd tk_m_most 15 rfl) rfl rfl (by decide) rfl ?_
    exact loop _ N p er (by omega) h11 um1 uA1 (((sEq.rf (l := qL)).pI (by decide)).tr (uE1.mono (by decide))) (fEq.t2 uF1 (by exact (fEq.pI (fEq.rf (S := S)) (Or.inr (by decide))))) hgr N 0 (by omega)
  · refine x_bipush 16 (-2) (ab_dd tk_m_most 8 rfl) rfl (by decide) ?_
    exact x_iret (ab_dd tk_m_most 9 rfl) ⟨-2, ⟨rfl, _, rfl, hm, hA.trans hA.symm, ((sEq.rf (l := qL)).pI (by decide)), (fEq.pI (fEq.rf (S := S)) (Or.inr (by decide)))⟩, Or.inl ⟨h11, rfl⟩⟩
