/-! ===== the reference's stands ===== -/
/-- the rows indexOf and stand tell the list L -/
def mRep (S : ab_S) (L : List Nat) : Prop := (∀ s, s < 160000 → sI S 129 s = if s ∈ L then nI (L.idxOf s) else -1) ∧ (∀ i, i < L.length → sI S 130 i = nI (L.getD i 0)) ∧ sI S 120 29 = nI L.length
theorem mRep.eq {l : List Nat} {S S' : ab_S} {L : List Nat} (h : mRep S L) (hE : sEq l S S') (h1 : 129 ∉ l) (h2 : 130 ∉ l) (h3 : 120 ∉ l) : mRep S' L := by
  unfold mRep
  rw [hE.2.2.1 _ h1, hE.2.2.1 _ h2, hE.2.2.1 _ h3]
  exact h
def tb_m_adds : List (Nat × Instr × Nat) := [(0, .aload_n 0, 1), (1, .getfield 43, 3), (4, .iload_n 1, 1), (5, .iaload, 1), (6, .iconst (-1), 1), (7, .if_icmp .ne 33, 3), (10, .aload_n 0, 1), (11, .getfield 43, 3), (14, .iload_n 1, 1), (15, .aload_n 0, 1), (16, .getfield 368, 3), (19, .iastore, 1), (20, .aload_n 0, 1), (21, .getfield 46, 3), (24, .aload_n 0, 1), (25, .getfield 368, 3), (28, .iload_n 1, 1), (29, .iastore, 1), (30, .aload_n 0, 1), (31, .dup, 1), (32, .getfield 368, 3), (35, .iconst 1, 1), (36, .iadd, 1), (37, .putfield 368, 3), (40, .aload_n 0, 1), (41, .getfield 43, 3), (44, .iload_n 1, 1), (45, .iaload, 1), (46, .ireturn, 1)]
theorem tk_m_adds : ∀ q ∈ tb_m_adds, decode M_m_adds.2.1 q.1 = .ok q.2 := by decide +kernel
theorem c_m_adds {G : ab_G} {S : ab_S} {a : Nat → Int32} (hm : mSh S) (hA : mA S = a) (L : List Nat) (hL : mRep S L) (s : Nat) (hs : s < 160000) (hnew : s ∉ L → L.length < 15000) (h15 : L.length ≤ 15000) : ab_C G 0 M_m_adds [.ref 120, .int (nI s)] (sw S) (fun v w' => v = some (.int (nI ((bfA L s).idxOf s))) ∧ ∃ S', w' = sw S' ∧ mSh S' ∧ mA S' = a ∧ sEq [120, 129, 130] S S' ∧ fEq S S' ∧ mRep S' (bfA L s)) := by
  refine x_enter [some (.ref 120), some (.int (nI s))] (by decide) (Nat.le_of_ble_eq_true rfl) rfl (fun v w' h => by obtain ⟨rfl, -⟩ := h; rfl) ?_
  by_cases hin : s ∈ L
  · have e0 : sI S 129 s = nI (L.idxOf s) := (hL.1 s hs).trans (if_pos hin)
    have eL : bfA L s = L := if_pos hin
    have hlt := ix_lt hin
    rw [eL]
    refine x_aload_n 1 0 (ab_dd tk_m_adds 0 rfl) rfl rfl rfl ?_
    refine t_getP 4 129 (ab_dd tk_m_adds 1 rfl) rfl F_m_43 (by decide) (Nat.lt_of_lt_of_le (by decide) hm.1) (hm.2.1 0 (by decide)) rfl (hm.2.2 22 (by decide)) ?_
    refine x_iload_n 5 1 (ab_dd tk_m_adds 2 rfl) rfl rfl rfl ?_
    refine t_iald 6 s (ab_dd tk_m_adds 3 rfl) rfl (by decide) (Nat.lt_of_lt_of_le (by decide) hm.1) (hm.2.1 9 (by decide)) rfl (by omega) (by decide) (x_topn (L.idxOf s) e0 ?_)
    refine x_iconst 7 (-1) (ab_dd tk_m_adds 4 rfl) rfl (by decide) ?_
    refine x_icmp_ne_t 40 (ab_dd tk_m_adds 5 rfl) (by decide) (nI_nm1 (by omega)) ?_
    refine x_aload_n 41 0 (ab_dd tk_m_adds 24 rfl) rfl rfl rfl ?_
    refine t_getP 44 129 (ab_dd tk_m_adds 25 rfl) rfl F_m_43 (by decide) (Nat.lt_of_lt_of_le (by decide) hm.1) (hm.2.1 0 (by decide)) rfl (hm.2.2 22 (by decide)) ?_
    refine x_iload_n 45 1 (ab_dd tk_m_adds 26 rfl) rfl rfl rfl ?_
    refine t_iald 46 s (ab_dd tk_m_adds 27 rfl) rfl (by decide) (Nat.lt_of_lt_of_le (by decide) hm.1) (hm.2.1 9 (by decide)) rfl (by omega) (by decide) (x_topn (L.idxOf s) e0 ?_)
    exact x_iret (ab_dd tk_m_adds 28 rfl) ⟨rfl, S, rfl, hm, hA, sEq.rf, fEq.rf, hL⟩
  · have e0 : sI S 129 s = -1 := (hL.1 s hs).trans (if_neg hin)
    obtain ⟨eL, ei, el⟩ := bfA_new hin
    have hlt := hnew hin
    rw [ei]
    refine x_aload_n 1 0 (ab_dd tk_m_adds 0 rfl) rfl rfl rfl ?_
    refine t_getP 4 129 (ab_dd tk_m_adds 1 rfl) rfl F_m_43 (by decide) (Nat.lt_of_lt_of_le (by decide) hm.1) (hm.2.1 0 (by decide)) rfl (hm.2.2 22 (by decide)) ?_
    refine x_iload_n 5 1 (ab_dd tk_m_adds 2 rfl) rfl rfl rfl ?_
    refine t_iald 6 s (ab_dd tk_m_adds 3 rfl) rfl (by decide) (Nat.lt_of_lt_of_le (by decide) hm.1) (hm.2.1 9 (by decide)) rfl (by omega) (by decide) ?_
    refine x_iconst 7 (-1) (ab_dd tk_m_adds 4 rfl) rfl (by decide) ?_
    refine x_icmp_ne_f 10 (ab_dd tk_m_adds 5 rfl) rfl 40 (by decide) e0 ?_
    refine x_aload_n 11 0 (ab_dd tk_m_adds 6 rfl) rfl rfl rfl ?_
    refine t_getP 14 129 (ab_dd tk_m_adds 7 rfl) rfl F_m_43 (by decide) (Nat.lt_of_lt_of_le (by decide) hm.1) (hm.2.1 0 (by decide)) rfl (hm.2.2 22 (by decide)) ?_
    refine x_iload_n 15 1 (ab_dd tk_m_adds 8 rfl) rfl rfl rfl ?_
    refine x_aload_n 16 0 (ab_dd tk_m_adds 9 rfl) rfl rfl rfl ?_
    refine t_getI 19 (ab_dd tk_m_adds 10 rfl) rfl F_m_368 (by decide) (Nat.lt_of_lt_of_le (by decide) hm.1) (hm.2.1 0 (by decide)) rfl (x_topn L.length hL.2.2 ?_)
    refine t_iast 20 s (ab_dd tk_m_adds 11 rfl) rfl (by decide) (Nat.lt_of_lt_of_le (by decide) hm.1) (hm.2.1 9 (by decide)) rfl (by omega) (by decide) ?_
    refine x_aload_n 21 0 (ab_dd tk_m_adds 12 rfl) rfl rfl rfl ?_
    refine t_getP 24 130 (ab_dd tk_m_adds 13 rfl) rfl F_m_46 (by decide) (Nat.lt_of_lt_of_le (by decide) hm.1) (hm.2.1 0 (by decide)) rfl (hm.2.2 25 (by decide)) ?_
    refine x_aload_n 25 0 (ab_dd tk_m_adds 14 rfl) rfl rfl rfl ?_
    refine t_getI 28 (ab_dd tk_m_adds 15 rfl) rfl F_m_368 (by decide) (Nat.lt_of_lt_of_le (by decide) hm.1) (hm.2.1 0 (by decide)) rfl (x_topn L.length hL.2.2 ?_)
    refine x_iload_n 29 1 (ab_dd tk_m_adds 16 rfl) rfl rfl rfl ?_
    refine t_iast 30 L.length (ab_dd tk_m_adds 17 rfl) rfl (by decide) (Nat.lt_of_lt_of_le (by decide) hm.1) (hm.2.1 10 (by decide)) rfl (by omega) (by decide) ?_
    refine x_aload_n 31 0 (ab_dd tk_m_adds 18 rfl) rfl rfl rfl ?_
    refine x_dup 32 (ab_dd tk_m_adds 19 rfl) rfl rfl ?_
    refine t_getI 35 (ab_dd tk_m_adds 20 rfl) rfl F_m_368 (by decide) (Nat.lt_of_lt_of_le (by decide) hm.1) (hm.2.1 0 (by decide)) rfl (x_topn L.length hL.2.2 ?_)
    refine x_iconst 36 1 (ab_dd tk_m_adds 21 rfl) rfl (by decide) (x_topn 1 rfl ?_)
    refine x_iadd 37 (ab_dd tk_m_adds 22 rfl) rfl (x_topn (L.length + 1) (nI_add _ _) ?_)
    refine t_putI 40 (ab_dd tk_m_adds 23 rfl) rfl F_m_368 (by decide) (Nat.lt_of_lt_of_le (by decide) hm.1) (hm.2.1 0 (by decide)) rfl rfl rfl ?_
    refine x_aload_n 41 0 (ab_dd tk_m_adds 24 rfl) rfl rfl rfl ?_
    refine t_getP 44 129 (ab_dd tk_m_adds 25 rfl) rfl F_m_43 (by decide) (Nat.lt_of_lt_of_le (by decide) hm.1) (hm.2.1 0 (by decide)) rfl (hm.2.2 22 (by decide)) ?_
    refine x_iload_n 45 1 (ab_dd tk_m_adds 26 rfl) rfl rfl rfl ?_
    refine t_iald 46 s (ab_dd tk_m_adds 27 rfl) rfl (by decide) (Nat.lt_of_lt_of_le (by decide) hm.1) (hm.2.1 9 (by decide)) rfl (by omega) (by decide) (x_topn L.length (show up2 (sI S) 129 s _ 129 s = _ from up2_s) ?_)
    exact x_iret (ab_dd tk_m_adds 28 rfl) ⟨rfl, _, rfl, hm, hA, ((((sEq.rf (l := [120, 129, 130])).pI (by decide)).pI (by decide)).pI (by decide)), (fEq.pI (fEq.pI (fEq.pI (fEq.rf (S := S)) (Or.inl (by decide))) (Or.inl (by decide))) (Or.inr (by decide))), by
      refine ⟨fun q hq => ?_, fun i hi => ?_, ?_⟩
      · show up2 (sI S) 129 s (nI L.length) 129 q = _
        rw [eL]
        by_cases g : q = s
        · rw [g, up2_s, if_pos (List.mem_append.mpr (Or.inr (List.mem_singleton.mpr rfl))), ← eL, ei]
        · rw [up2_k g, hL.1 q hq]
          by_cases g2 : q ∈ L
          · rw [if_pos g2, if_pos (List.mem_append.mpr (Or.inl g2)), List.idxOf_append, if_pos g2]
          · rw [if_neg g2, if_neg (fun z => (List.mem_append.mp z).elim g2 (fun y => g (List.mem_singleton.mp y)))]
      · show up2 (sI S) 130 L.length (nI s) 130 i = _
        rw [el] at hi
        by_cases g : i = L.length
        · rw [g, up2_s, eL, List.getD_eq_getElem?_getD, List.getElem?_append_right (Nat.le_refl _), Nat.sub_self]; rfl
        · rw [up2_k g, hL.2.1 i (by omega), (bfA_pre L s).get (by omega)]
      · rw [el]; rfl⟩
def tOk (nx : Nat → Nat → Option Nat) (L : List Nat) (S : ab_S) (i d : Nat) : Prop := sI S 131 (4 * i + d) = enc L (nx (L.getD i 0) d) ∧ ∀ s, nx (L.getD i 0) d = some s → s ∈ L
theorem tOk.pre {nx : Nat → Nat → Option Nat} {L L' : List Nat} {S : ab_S} {i d : Nat} (h : tOk nx L S i d) (hL : pfx L L') (hi : i < L.length) : tOk nx L' S i d := by
  unfold tOk
  rw [hL.get hi]
  exact ⟨by rw [h.1, enc_pre hL h.2], fun s hs => hL.mem (h.2 s hs)⟩
theorem tOk.st {nx : Nat → Nat → Option Nat} {L : List Nat} {S S' : ab_S} {i d : Nat} (h : tOk nx L S i d) (e : sI S' 131 (4 * i + d) = sI S 131 (4 * i + d)) : tOk nx L S' i d := ⟨e.trans h.1, h.2⟩
/-- the stands are laid -/
def mBf (S : ab_S) (a : Nat → Int32) (N : Nat) : Prop := (aL a N).length = N ∧ N ≤ 15000 ∧ 0 < N ∧ sI S 120 29 = nI N ∧ (∀ i, i < N → sI S 130 i = nI ((aL a N).getD i 0)) ∧ ∀ i d, i < N → d < 4 → sI S 131 (4 * i + d) = enc (aL a N) (aN a ((aL a N).getD i 0) d) ∧ ∀ s, aN a ((aL a N).getD i 0) d = some s → s ∈ aL a N
def tb_m_laysStands : List (Nat × Instr × Nat) := [(0, .iconst 0, 1), (1, .istore_n 1, 1), (2, .iload_n 1, 1), (3, .ldc 42, 2), (5, .if_icmp .ge 16, 3), (8, .aload_n 0, 1), (9, .getfield 43, 3), (12, .iload_n 1, 1), (13, .iconst (-1), 1), (14, .iastore, 1), (15, .iinc 1 1, 3), (18, .goto (-16), 3), (21, .aload_n 0, 1), (22, .iconst 0, 1), (23, .putfield 368, 3), (26, .aload_n 0, 1), (27, .aload_n 0, 1), (28, .invokevirtual 266, 3), (31, .invokevirtual 371, 3), (34, .pop, 1), (35, .iconst 0, 1), (36, .istore_n 1, 1), (37, .iload_n 1, 1), (38, .aload_n 0, 1), (39, .getfield 368, 3), (42, .if_icmp .ge 80, 3), (45, .iconst 0, 1), (46, .istore_n 2, 1), (47, .iload_n 2, 1), (48, .iconst 4, 1), (49, .if_icmp .ge 67, 3), (52, .aload_n 0, 1), (53, .getfield 50, 3), (56, .iconst 4, 1), (57, .iload_n 1, 1), (58, .imul, 1), (59, .iload_n 2, 1), (60, .iadd, 1), (61, .aload_n 0, 1), (62, .aload_n 0, 1), (63, .getfield 46, 3), (66, .iload_n 1, 1), (67, .iaload, 1), (68, .iload_n 2, 1), (69, .i2l, 1), (70, .aload_n 0, 1), (71, .getfield 13, 3), (74, .bipush 40, 2), (76, .iaload, 1), (77, .invokevirtual 269, 3), (80, .ifCond .ne 28, 3), (83, .aload_n 0, 1), (84, .aload_n 0, 1), (85, .aload_n 0, 1), (86, .getfield 46, 3), (89, .iload_n 1, 1), (90, .iaload, 1), (91, .iload_n 2, 1), (92, .aload_n 0, 1), (93, .getfield 13, 3), (96, .bipush 40, 2), (98, .iaload, 1), (99, .invokevirtual 273, 3), (102, .invokevirtual 371, 3), (105, .goto 4, 3), (108, .iconst (-1), 1), (109, .iastore, 1), (110, .iinc 2 1, 3), (113, .goto (-66), 3), (116, .iinc 1 1, 3), (119, .goto (-82), 3), (122, .return_, 1)]
theorem tk_m_laysStands : ∀ q ∈ tb_m_laysStands, decode M_m_laysStands.2.1 q.1 = .ok q.2 := by decide +kernel
theorem c_m_laysStands {G : ab_G} {S : ab_S} {a : Nat → Int32} (hm : mSh S) (hA : mA S = a) (ha : aOk a) : ab_C G 5 M_m_laysStands [.ref 120] (sw S) (fun v w' => v = none ∧ ∃ S' N, w' = sw S' ∧ mSh S' ∧ mA S' = a ∧ sEq [120, 125, 126, 129, 130, 131] S S' ∧ fEq S S' ∧ mBf S' a N) := by
  have inner : ∀ k, k < (aL a k).length → (∀ S1, mSh S1 → mA S1 = a → sEq [120, 125, 126, 129, 130, 131] S S1 → fEq S S1 → mRep S1 (aL a (k + 1)) → (∀ i d, i < k + 1 → d < 4 → tOk (aN a) (aL a (k + 1)) S1 i d) → ab_Ex G 5 M_m_laysStands 37 [some (.ref 120), some (.int (nI (k + 1))), none] [] (sw S1) (fun v w' => v = none ∧ ∃ S' N, w' = sw S' ∧ mSh S' ∧ mA S' = a ∧ sEq [120, 125, 126, 129, 130, 131] S S' ∧ fEq S S' ∧ mBf S' a N)) → ∀ (m d : Nat), d + m = 4 → ∀ S1, mSh S1 → mA S1 = a → sEq [120, 125, 126, 129, 130, 131] S S1 → fEq S S1 → mRep S1 (bfO (aN a) (aL a k) ((aL a k).getD k 0) d) → (∀ i d', (i < k ∨ (i = k ∧ d' < d)) → d' < 4 → tOk (aN a) (bfO (aN a) (aL a k) ((aL a k).getD k 0) d) S1 i d') → ab_Ex G 5 M_m_laysStands 47 [some (.ref 120), some (.int (nI k)), some (.int (nI d))] [] (sw S1) (fun v w' => v = none ∧ ∃ S' N, w' = sw S' ∧ mSh S' ∧ mA S' = a ∧ sEq [120, 125, 126, 129, 130, 131] S S' ∧ fEq S S' ∧ mBf S' a N) := by
    intro k hk cont m
    induction m with
    | zero =>
      intro d hd S1 hm1 hA1 hE1 hF1 hR1 hT1
      obtain rfl : d = 4 := by omega
      have hk15 := aL_len ha k
      refine x_iload_n 48 2 (ab_dd tk_m_laysStands 28 rfl) rfl rfl rfl ?_
      refine x_iconst 49 4 (ab_dd tk_m_laysStands 29 rfl) rfl (by decide) (x_topn 4 rfl ?_)
      refine x_icmp_ge_t 116 (ab_dd tk_m_laysStands 30 rfl) (by decide) ((nI_leI (a := 4) (b := 4) (by omega) (by omega)).mpr (show 4 ≤ 4 by omega)) ?_
      refine xn_iinc 119 1 (fun y => [some (.ref 120), some (.int y), some (.int (nI 4))]) (k + 1) (ab_dd tk_m_laysStands 69 rfl) rfl (by decide) rfl (fun _ => rfl) (iinc_p 1) ?_
      refine x_goto 37 (ab_dd tk_m_laysStands 70 rfl) (by decide) ?_
      have e := (bfB_s (nx := aN a) (c0 := aE a) hk).symm
      refine x_forget 2 (cont S1 hm1 hA1 hE1 hF1 (by rw [show aL a (k + 1) = _ from e.symm]; exact hR1) (fun i d hi hd => ?_))
      rw [show aL a (k + 1) = _ from e.symm]
      exact hT1 i d (by omega) hd
    | succ m ih =>
      intro d hd S1 hm1 hA1 hE1 hF1 hR1 hT1
      have hk15 := aL_len ha k
      have hok : mOk (aR a) ((aL a k).getD k 0) := aL_ok ha k _ (get_mem hk)
      have hpre := bfO_pre (nx := aN a) (aL a k) ((aL a k).getD k 0) d
      have hst : sI S1 130 k = nI ((aL a k).getD k 0) := by rw [hR1.2.1 k (by have := hpre.len; omega), hpre.get hk]
      have hY3 : aY a (a 40) ((aL a k).getD k 0) d < 3 := spY_lt
      have hnd : (bfO (aN a) (aL a k) ((aL a k).getD k 0) d).Nodup := bfO_nd (nx := aN a) (bfB_nd (nx := aN a) (c0 := aE a) k) _ d
      have hall := bfO_all (nx := aN a) (P := fun c => mOk (aR a) c) (aL_ok ha k) (fun d s _ e => aN_ok ha hok e) d (by omega)
      have hl15 := mOk_few ha.R.2 hnd hall
      refine x_iload_n 48 2 (ab_dd tk_m_laysStands 28 rfl) rfl rfl rfl ?_
      refine x_iconst 49 4 (ab_dd tk_m_laysStands 29 rfl) rfl (by decide) (x_topn 4 rfl ?_)
      refine x_icmp_ge_f 52 (ab_dd tk_m_laysStands 30 rfl) rfl 116 (by decide) (fun z => absurd ((nI_leI (a := 4) (b := d) (by omega) (by omega)).mp z) (show ¬ (4 ≤ d) by omega)) ?_
      refine x_aload_n 53 0 (ab_dd tk_m_laysStands 31 rfl) rfl rfl rfl ?_
      refine t_getP 56 131 (ab_dd tk_m_laysStands 32 rfl) rfl F_m_50 (by decide) (Nat.lt_of_lt_of_le (by decide) hm1.1) (hm1.2.1 0 (by decide)) rfl (hm1.2.2 26 (by decide)) ?_
      refine x_iconst 57 4 (ab_dd tk_m_laysStands 33 rfl) rfl (by decide) (x_topn 4 rfl ?_)
      refine x_iload_n 58 1 (ab_dd tk_m_laysStands 34 rfl) rfl rfl rfl ?_
      refine x_imul 59 (ab_dd tk_m_laysStands 35 rfl) rfl (x_topn (4 * k) (pk_mul _ _) ?_)
      refine x_iload_n 60 2 (ab_dd tk_m_laysStands 36 rfl) rfl rfl rfl ?_
      refine x_iadd 61 (ab_dd tk_m_laysStands 37 rfl) rfl (x_topn ((4 * k) + d) (nI_add _ _) ?_)
      refine x_aload_n 62 0 (ab_dd tk_m_laysStands 38 rfl) rfl rfl rfl ?_
      refine x_aload_n 63 0 (ab_dd tk_m_laysStands 39 rfl) rfl rfl rfl ?_
      refine t_getP 66 130 (ab_dd tk_m_laysStands 40 rfl) rfl F_m_46 (by decide) (Nat.lt_of_lt_of_le (by decide) hm1.1) (hm1.2.1 0 (by decide)) rfl (hm1.2.2 25 (by decide)) ?_
      refine x_iload_n 67 1 (ab_dd tk_m_laysStands 41 rfl) rfl rfl rfl ?_
      refine t_iald 68 k (ab_dd tk_m_laysStands 42 rfl) rfl (by decide) (Nat.lt_of_lt_of_le (by decide) hm1.1) (hm1.2.1 10 (by decide)) rfl (by omega) (by decide) (x_topn ((aL a k).getD k 0) hst ?_)
      refine x_iload_n 69 2 (ab_dd tk_m_laysStands 43 rfl) rfl rfl rfl ?_
      refine x_i2l 70 (ab_dd tk_m_laysStands 44 rfl) rfl (x_topL (lN d) (nI_l (by omega)) ?_)
      refine x_aload_n 71 0 (ab_dd tk_m_laysStands 45 rfl) rfl rfl rfl ?_
      refine t_getP 74 121 (ab_dd tk_m_laysStands 46 rfl) rfl F_m_13 (by decide) (Nat.lt_of_lt_of_le (by decide) hm1.1) (hm1.2.1 0 (by decide)) rfl (hm1.2.2 1 (by decide)) ?_
      refine x_bipush 76 40 (ab_dd tk_m_laysStands 47 rfl) rfl (by decide) (x_topn 40 rfl ?_)
      refine t_iald 77 40 (ab_dd tk_m_laysStands 48 rfl) rfl (by decide) (Nat.lt_of_lt_of_le (by decide) hm1.1) (hm1.2.1 1 (by decide)) rfl (by decide) (by decide) (x_topx (a 40) (congrFun hA1 40) ?_)
      refine t_callV 80 M_m_whyStop 4 3 [_, _, _] (ab_dd tk_m_laysStands 49 rfl) rfl (by decide) K_m_whyStop V_m_whyStop.1 V_m_whyStop.2 L_m_269 rfl (Nat.le_of_ble_eq_true rfl) (by decide) (Nat.lt_of_lt_of_le (by decide) hm1.1) (hm1.2.1 0 (by decide)) rfl (w_whyStop (by exact hm1) (by exact hA1) ha ((aL a k).getD k 0) d _ hok (by omega)) (fun v1 w1 h1 => ?_)
      obtain ⟨rfl, U1, rfl, um1, uA1, uE1⟩ := h1
      have hst2 : sI U1 130 k = nI ((aL a k).getD k 0) := (congrFun (uE1.2.2.1 130 (by decide)) k).trans hst
      have hR2 := hR1.eq uE1 (by decide) (by decide) (by decide)
      refine xn_if_ne 83 108 (ab_dd tk_m_laysStands 50 rfl) rfl (by decide) (by omega) (fun h80 => ?_) (fun h80 => ?_)
      · refine x_iconst 109 (-1) (ab_dd tk_m_laysStands 65 rfl) rfl (by decide) ?_
        refine t_iast 110 ((4 * k) + d) (ab_dd tk_m_laysStands 66 rfl) rfl (by decide) (Nat.lt_of_lt_of_le (by decide) um1.1) (um1.2.1 11 (by decide)) rfl (by omega) (by decide) ?_
        refine xn_iinc 113 2 (fun y => [some (.ref 120), some (.int (nI k)), some (.int y)]) (d + 1) (ab_dd tk_m_laysStands 67 rfl) rfl (by decide) rfl (fun _ => rfl) (iinc_p 1) ?_
        refine x_goto 47 (ab_dd tk_m_laysStands 68 rfl) (by decide) ?_
        have hnx : aN a ((aL a k).getD k 0) d = none := if_neg (by omega)
        have eS := bfO_none (L := aL a k) hnx
        refine ih (d + 1) (by omega) _ um1 uA1 ((hE1.tr (uE1.mono (by decide))).pI (by decide)) (fEq.pI (fEq.r2 uE1 (by decide) (by exact hF1)) (Or.inl (by decide))) (by rw [eS]; exact hR2) (fun i d' hid hd' => ?_)
        rw [eS]
        by_cases g : i = k ∧ d' = d
        · obtain ⟨rfl, rfl⟩ := g
          refine ⟨?_, fun s hs => ?_⟩
          · rw [hpre.get hk, hnx]
            show up2 (sI U1) 131 (4 * i + d') _ 131 (4 * i + d') = _
            rw [up2_s]; rfl
          · rw [hpre.get hk, hnx] at hs
            cases hs
        · refine (hT1 i d' (by omega) hd').st ?_
          show up2 (sI U1) 131 (4 * k + d) _ 131 (4 * i + d') = _
          rw [up2_k (by omega), uE1.2.2.1 131 (by decide)]
      · refine x_aload_n 84 0 (ab_dd tk_m_laysStands 51 rfl) rfl rfl rfl ?_
        refine x_aload_n 85 0 (ab_dd tk_m_laysStands 52 rfl) rfl rfl rfl ?_
        refine x_aload_n 86 0 (ab_dd tk_m_laysStands 53 rfl) rfl rfl rfl ?_
        refine t_getP 89 130 (ab_dd tk_m_laysStands 54 rfl) rfl F_m_46 (by decide) (Nat.lt_of_lt_of_le (by decide) um1.1) (um1.2.1 0 (by decide)) rfl (um1.2.2 25 (by decide)) ?_
        refine x_iload_n 90 1 (ab_dd tk_m_laysStands 55 rfl) rfl rfl rfl ?_
        refine t_iald 91 k (ab_dd tk_m_laysStands 56 rfl) rfl (by decide) (Nat.lt_of_lt_of_le (by decide) um1.1) (um1.2.1 10 (by decide)) rfl (by omega) (by decide) (x_topn ((aL a k).getD k 0) hst2 ?_)
        refine x_iload_n 92 2 (ab_dd tk_m_laysStands 57 rfl) rfl rfl rfl ?_
        refine x_aload_n 93 0 (ab_dd tk_m_laysStands 58 rfl) rfl rfl rfl ?_
        refine t_getP 96 121 (ab_dd tk_m_laysStands 59 rfl) rfl F_m_13 (by decide) (Nat.lt_of_lt_of_le (by decide) um1.1) (um1.2.1 0 (by decide)) rfl (um1.2.2 1 (by decide)) ?_
        refine x_bipush 98 40 (ab_dd tk_m_laysStands 60 rfl) rfl (by decide) (x_topn 40 rfl ?_)
        refine t_iald 99 40 (ab_dd tk_m_laysStands 61 rfl) rfl (by decide) (Nat.lt_of_lt_of_le (by decide) um1.1) (um1.2.1 1 (by decide)) rfl (by decide) (by decide) (x_topx (a 40) (congrFun uA1 40) ?_)
        refine t_callV 102 M_m_stopTo 4 3 [_, _, _] (ab_dd tk_m_laysStands 62 rfl) rfl (by decide) K_m_stopTo V_m_stopTo.1 V_m_stopTo.2 L_m_273 rfl (Nat.le_of_ble_eq_true rfl) (by decide) (Nat.lt_of_lt_of_le (by decide) um1.1) (um1.2.1 0 (by decide)) rfl (w_stopTo (by exact um1) (by exact uA1) ha ((aL a k).getD k 0) d _ hok (spY_0 h80)) (fun v1 w1 h1 => ?_)
        obtain ⟨rfl, U2, rfl, um2, uA2, uE2⟩ := h1
        have hR3 := hR2.eq uE2 (by decide) (by decide) (by decide)
        have hsm := aS_ok ha (mo := a 40) hok (spY_0 h80)
        have hnx : aN a ((aL a k).getD k 0) d = some (aS a (a 40) ((aL a k).getD k 0) d) := if_pos h80
        refine t_callV 105 M_m_adds 0 1 [_] (ab_dd tk_m_laysStands 63 rfl) rfl (by decide) K_m_adds V_m_adds.1 V_m_adds.2 L_m_371 rfl (Nat.le_of_ble_eq_true rfl) (by decide) (Nat.lt_of_lt_of_le (by decide) um2.1) (um2.2.1 0 (by decide)) rfl (c_m_adds um2 uA2 (bfO (aN a) (aL a k) ((aL a k).getD k 0) d) hR3 (aS a (a 40) ((aL a k).getD k 0) d) hsm.1 (fun hne => by have := mOk_few ha.R.2 (bfA_nd hnd (aS a (a 40) ((aL a k).getD k 0) d)) (bfA_all hall hsm); rw [(bfA_new hne).2.2] at this; omega) hl15) (fun v1 w1 h1 => ?_)
        obtain ⟨rfl, U3, rfl, um3, uA3, uE3, uF3, hR4⟩ := h1
        refine x_goto 109 (ab_dd tk_m_laysStands 64 rfl) (by decide) ?_
        refine t_iast 110 ((4 * k) + d) (ab_dd tk_m_laysStands 66 rfl) rfl (by decide) (Nat.lt_of_lt_of_le (by decide) um3.1) (um3.2.1 11 (by decide)) rfl (by omega) (by decide) ?_
        refine xn_iinc 113 2 (fun y => [some (.ref 120), some (.int (nI k)), some (.int y)]) (d + 1) (ab_dd tk_m_laysStands 67 rfl) rfl (by decide) rfl (fun _ => rfl) (iinc_p 1) ?_
        refine x_goto 47 (ab_dd tk_m_laysStands 68 rfl) (by decide) ?_
        have eS := bfO_some (L := aL a k) hnx
        refine ih (d + 1) (by omega) _ um3 uA3 ((((hE1.tr (uE1.mono (by decide))).tr (uE2.mono (by decide))).tr (uE3.mono (by decide))).pI (by decide)) (fEq.pI (fEq.t2 uF3 (by exact (fEq.r2 uE2 (by decide) (by exact (fEq.r2 uE1 (by decide) (by exact hF1)))))) (Or.inl (by decide))) (by rw [eS]; exact hR4) (fun i d' hid hd' => ?_)
        rw [eS]
        have hlk : k < ((bfO (aN a) (aL a k) ((aL a k).getD k 0) d)).length := by have := hpre.len; omega
        by_cases g : i = k ∧ d' = d
        · obtain ⟨rfl, rfl⟩ := g
          refine ⟨?_, fun s hs => ?_⟩
          · rw [(bfA_pre _ _).get hlk, hpre.get hk, hnx]
            show up2 (sI U3) 131 (4 * i + d') _ 131 (4 * i + d') = _
            rw [up2_s]; rfl
          · rw [(bfA_pre _ _).get hlk, hpre.get hk, hnx] at hs
            cases hs
            exact bfA_mem _ _
        · have hil : i < ((bfO (aN a) (aL a k) ((aL a k).getD k 0) d)).length := by have := hpre.len; omega
          refine ((hT1 i d' (by omega) hd').pre (bfA_pre _ (aS a (a 40) ((aL a k).getD k 0) d)) hil).st ?_
          show up2 (sI U3) 131 (4 * k + d) _ 131 (4 * i + d') = _
          rw [up2_k (by omega), uE3.2.2.1 131 (by decide), uE2.2.2.1 131 (by decide), uE1.2.2.1 131 (by decide)]
  have outer : ∀ (m k : Nat), k + m = 15001 → k ≤ (aL a k).length → ∀ S1, mSh S1 → mA S1 = a → sEq [120, 125, 126, 129, 130, 131] S S1 → fEq S S1 → mRep S1 (aL a k) → (∀ i d, i < k → d < 4 → tOk (aN a) (aL a k) S1 i d) → ab_Ex G 5 M_m_laysStands 37 [some (.ref 120), some (.int (nI k)), none] [] (sw S1) (fun v w' => v = none ∧ ∃ S' N, w' = sw S' ∧ mSh S' ∧ mA S' = a ∧ sEq [120, 125, 126, 129, 130, 131] S S' ∧ fEq S S' ∧ mBf S' a N) := by
    intro m
    induction m with
    | zero =>
      intro k hk hkl
      have := aL_len ha k
      omega
    | succ m ih =>
      intro k hk hkl S1 hm1 hA1 hE1 hF1 hR1 hT1
      have h15 := aL_len ha k
      by_cases hlt : k < (aL a k).length
      · refine x_iload_n 38 1 (ab_dd tk_m_laysStands 22 rfl) rfl rfl rfl ?_
        refine x_aload_n 39 0 (ab_dd tk_m_laysStands 23 rfl) rfl rfl rfl ?_
        refine t_getI 42 (ab_dd tk_m_laysStands 24 rfl) rfl F_m_368 (by decide) (Nat.lt_of_lt_of_le (by decide) hm1.1) (hm1.2.1 0 (by decide)) rfl (x_topn ((aL a k).length) hR1.2.2 ?_)
        refine x_icmp_ge_f 45 (ab_dd tk_m_laysStands 25 rfl) rfl 122 (by decide) (fun z => absurd ((nI_leI (a := ((aL a k).length)) (b := k) (by omega) (by omega)).mp z) (show ¬ (((aL a k).length) ≤ k) by omega)) ?_
        refine x_iconst 46 0 (ab_dd tk_m_laysStands 26 rfl) rfl (by decide) (x_topn 0 rfl ?_)
        refine x_istore_n 47 [some (.ref 120), some (.int (nI k)), some (.int (nI 0))] 2 (ab_dd tk_m_laysStands 27 rfl) rfl rfl (by decide) rfl ?_
        refine inner k hlt (fun S2 g1 g2 g3 g4 g5 g6 => ?_) 4 0 rfl S1 hm1 hA1 hE1 hF1 hR1 (fun i d hid hd => hT1 i d (by omega) hd)
        exact ih (k + 1) (by omega) (by have := (bfB_step (nx := aN a) (c0 := aE a) k).len; show k + 1 ≤ (bfB (aN a) (aE a) (k + 1)).length; have h2 : (aL a k).length ≤ (bfB (aN a) (aE a) (k + 1)).length := this; omega) S2 g1 g2 g3 g4 g5 g6
      · refine x_iload_n 38 1 (ab_dd tk_m_laysStands 22 rfl) rfl rfl rfl ?_
        refine x_aload_n 39 0 (ab_dd tk_m_laysStands 23 rfl) rfl rfl rfl ?_
        refine t_getI 42 (ab_dd tk_m_laysStands 24 rfl) rfl F_m_368 (by decide) (Nat.lt_of_lt_of_le (by decide) hm1.1) (hm1.2.1 0 (by decide)) rfl (x_topn ((aL a k).length) hR1.2.2 ?_)
        refine x_icmp_ge_t 122 (ab_dd tk_m_laysStands 25 rfl) (by decide) ((nI_leI (a := ((aL a k).length)) (b := k) (by omega) (by omega)).mpr (show ((aL a k).length) ≤ k by omega)) ?_
        exact x_vret (ab_dd tk_m_laysStands 71 rfl) ⟨rfl, S1, k, rfl, hm1, hA1, hE1, hF1, ⟨by omega, by omega, by have := (bfB_pos (nx := aN a) (c0 := aE a) k).1; have h2 : 0 < (aL a k).length := this; omega, by rw [hR1.2.2]; exact congrArg nI (by omega), fun i hi => hR1.2.1 i (by omega), fun i d hi hd => hT1 i d hi hd⟩⟩
  have fill : ∀ (m k : Nat), k + m = 160000 → ∀ S1 : ab_S, sEq [129] S S1 → (∀ i, sI S1 129 i = if 0 ≤ i ∧ i < 0 + k then (fun _ => -1) (i - 0) else sI S 129 i) → ab_Ex G 5 M_m_laysStands 2 [some (.ref 120), some (.int (nI k)), none] [] (sw S1) (fun v w' => v = none ∧ ∃ S' N, w' = sw S' ∧ mSh S' ∧ mA S' = a ∧ sEq [120, 125, 126, 129, 130, 131] S S' ∧ fEq S S' ∧ mBf S' a N) := by
    intro m
    induction m with
    | zero =>
      intro k hk S1 hE hV
      have hm1 := hm.eq hE
      have hkN : k = 160000 := by omega
      rw [hkN] at hV ⊢
      refine x_iload_n 3 1 (ab_dd tk_m_laysStands 2 rfl) rfl rfl rfl ?_
      refine x_ldc 5 (ab_dd tk_m_laysStands 3 rfl) rfl C_m_42 (x_topn 160000 rfl ?_)
      refine x_icmp_ge_t 21 (ab_dd tk_m_laysStands 4 rfl) (by decide) ((nI_leI (a := 160000) (b := 160000) (by omega) (by omega)).mpr (show 160000 ≤ 160000 by omega)) ?_
      refine x_aload_n 22 0 (ab_dd tk_m_laysStands 12 rfl) rfl rfl rfl ?_
      refine x_iconst 23 0 (ab_dd tk_m_laysStands 13 rfl) rfl (by decide) (x_topn 0 rfl ?_)
      refine t_putI 26 (ab_dd tk_m_laysStands 14 rfl) rfl F_m_368 (by decide) (Nat.lt_of_lt_of_le (by decide) hm1.1) (hm1.2.1 0 (by decide)) rfl rfl rfl ?_
      refine x_aload_n 27 0 (ab_dd tk_m_laysStands 15 rfl) rfl rfl rfl ?_
      refine x_aload_n 28 0 (ab_dd tk_m_laysStands 16 rfl) rfl rfl rfl ?_
      refine t_callV 31 M_m_standNow 1 0 [] (ab_dd tk_m_laysStands 17 rfl) rfl (by decide) K_m_standNow V_m_standNow.1 V_m_standNow.2 L_m_266 rfl (Nat.le_of_ble_eq_true rfl) (by decide) (Nat.lt_of_lt_of_le (by decide) hm1.1) (hm1.2.1 0 (by decide)) rfl (w_standNow (by exact hm1) (by exact ((hE.2.2.1 121 (by decide)).trans hA)) ha) (fun v1 w1 h1 => ?_)
      obtain ⟨rfl, rfl⟩ := h1
      have hR0 : mRep (pI S1 120 29 0) [] := ⟨fun s hs => by
        show sI S1 129 s = _
        rw [hV s, if_pos ⟨by omega, by omega⟩, if_neg (by simp)], fun i hi => absurd hi (by simp), rfl⟩
      refine t_callV 34 M_m_adds 0 1 [_] (ab_dd tk_m_laysStands 18 rfl) rfl (by decide) K_m_adds V_m_adds.1 V_m_adds.2 L_m_371 rfl (Nat.le_of_ble_eq_true rfl) (by decide) (Nat.lt_of_lt_of_le (by decide) hm1.1) (hm1.2.1 0 (by decide)) rfl (c_m_adds (by exact hm1) (by exact ((hE.2.2.1 121 (by decide)).trans hA)) [] hR0 (aE a) ha.E.1 (fun _ => by simp) (by simp)) (fun v1 w1 h1 => ?_)
      obtain ⟨rfl, U1, rfl, um1, uA1, uE1, uF1, hR4⟩ := h1
      refine x_pop 35 (ab_dd tk_m_laysStands 19 rfl) rfl rfl ?_
      refine x_iconst 36 0 (ab_dd tk_m_laysStands 20 rfl) rfl (by decide) (x_topn 0 rfl ?_)
      refine x_istore_n 37 [some (.ref 120), some (.int (nI 0)), none] 1 (ab_dd tk_m_laysStands 21 rfl) rfl rfl (by decide) rfl ?_
      exact outer 15001 0 rfl (Nat.zero_le _) _ um1 uA1 (((sEq.mono (l := [129]) (l' := [120, 125, 126, 129, 130, 131]) hE (by decide)).pI (by decide)).tr (uE1.mono (by decide))) (fEq.t2 uF1 (by exact (fEq.pI (fEq.of hE (by decide)) (Or.inr (by decide))))) hR4 (fun i d hi _ => absurd hi (by omega))
    | succ m ih =>
      intro k hk S1 hE hV
      have hm1 := hm.eq hE
      refine x_iload_n 3 1 (ab_dd tk_m_laysStands 2 rfl) rfl rfl rfl ?_
      refine x_ldc 5 (ab_dd tk_m_laysStands 3 rfl) rfl C_m_42 (x_topn 160000 rfl ?_)
      refine x_icmp_ge_f 8 (ab_dd tk_m_laysStands 4 rfl) rfl 21 (by decide) (fun z => absurd ((nI_leI (a := 160000) (b := k) (by omega) (by omega)).mp z) (show ¬ (160000 ≤ k) by omega)) ?_
      refine x_aload_n 9 0 (ab_dd tk_m_laysStands 5 rfl) rfl rfl rfl ?_
      refine t_getP 12 129 (ab_dd tk_m_laysStands 6 rfl) rfl F_m_43 (by decide) (Nat.lt_of_lt_of_le (by decide) hm1.1) (hm1.2.1 0 (by decide)) rfl (hm1.2.2 22 (by decide)) ?_
      refine x_iload_n 13 1 (ab_dd tk_m_laysStands 7 rfl) rfl rfl rfl ?_
      refine x_iconst 14 (-1) (ab_dd tk_m_laysStands 8 rfl) rfl (by decide) ?_
      refine t_iast 15 k (ab_dd tk_m_laysStands 9 rfl) rfl (by decide) (Nat.lt_of_lt_of_le (by decide) hm1.1) (hm1.2.1 9 (by decide)) rfl (by omega) (by decide) ?_
      refine xn_iinc 18 1 (fun y => [some (.ref 120), some (.int y), none]) (k + 1) (ab_dd tk_m_laysStands 10 rfl) rfl (by decide) rfl (fun _ => rfl) (iinc_p 1) ?_
      refine x_goto 2 (ab_dd tk_m_laysStands 11 rfl) (by decide) ?_
      refine ih (k + 1) (by omega) _ ?_ ?_
      · exact hE.pI (by decide)
      · intro i
        show up2 (sI S1) 129 (k) _ 129 i = _
        by_cases hi : i = k
        · rw [hi, up2_s, if_pos ⟨by omega, by omega⟩, show k - 0 = k by omega]
        · rw [up2_k hi, hV i]
          by_cases h1 : 0 ≤ i ∧ i < 0 + k
          · rw [if_pos h1, if_pos ⟨h1.1, by omega⟩]
          · rw [if_neg h1, if_neg (fun z => h1 ⟨z.1, by omega⟩)]
  refine x_enter [some (.ref 120), none, none] (by decide) (Nat.le_of_ble_eq_true rfl) rfl (fun v w' h => by obtain ⟨rfl, -⟩ := h; trivial) ?_
  refine x_iconst 1 0 (ab_dd tk_m_laysStands 0 rfl) rfl (by decide) (x_topn 0 rfl ?_)
  refine x_istore_n 2 [some (.ref 120), some (.int (nI 0)), none] 1 (ab_dd tk_m_laysStands 1 rfl) rfl rfl (by decide) rfl ?_
  exact fill 160000 0 rfl S sEq.rf (fun i => by rw [if_neg (by omega)])
