/-! ===== the class's reader: live and dead ===== -/
def qLv (S : ab_S) (tp : Nat → Nat) (n p : Nat) : Prop := xSh S ∧ kSh S.1 ∧ bT S tp ∧ n ≤ 900 ∧ sP S 72 0 = some 51 ∧ sI S 72 1 = nI n ∧ p ≤ n ∧ qT S tp n p ∧ (sI S 72 6 = nI 0 ∧ sI S 72 7 = -1) ∧ ∃ N, N ≤ 900 ∧ sI S 72 12 = nI N
def qD (S : ab_S) (n : Nat) (e : Nat × Nat) : Prop := xSh S ∧ kSh S.1 ∧ n ≤ 900 ∧ sP S 72 0 = some 51 ∧ sI S 72 1 = nI n ∧ sI S 72 2 = nI n ∧ sI S 72 4 = nI 0 ∧ sI S 72 6 = nI e.1 ∧ sI S 72 7 = nI e.2 ∧ (0 < e.1 ∧ e.1 < 5) ∧ ∃ N, N ≤ 900 ∧ sI S 72 12 = nI N
/-- the reader's own place alone is another -/
def qG (S S' : ab_S) : Prop := sEq [72] S S' ∧ ∀ j, (j < 2 ∨ 7 < j) → sI S' 72 j = sI S 72 j
def qF (S S' : ab_S) : Prop := sEq [72, 77] S S' ∧ ∀ j, (j < 2 ∨ j = 9 ∨ 12 < j) → sI S' 72 j = sI S 72 j
theorem qG.F {S S' : ab_S} (h : qG S S') : qF S S' := ⟨h.1.mono (by simp), fun j hj => h.2 j (by omega)⟩
theorem qF.rf {S : ab_S} : qF S S := ⟨sEq.rf, fun _ _ => rfl⟩
theorem qG.rf {S : ab_S} : qG S S := ⟨sEq.rf, fun _ _ => rfl⟩
theorem qF.tr {S S1 S2 : ab_S} (h : qF S S1) (g : qF S1 S2) : qF S S2 := ⟨h.1.tr g.1, fun j hj => (g.2 j hj).trans (h.2 j hj)⟩
theorem qG.tr {S S1 S2 : ab_S} (h : qG S S1) (g : qG S1 S2) : qG S S2 := ⟨h.1.tr g.1, fun j hj => (g.2 j hj).trans (h.2 j hj)⟩
theorem qG.la {S S' : ab_S} (h : qG S S') : sI S' 77 = sI S 77 := h.1.2.2.1 77 (by decide)
theorem tK_gap (tp : Nat → Nat) (n p : Nat) : tK tp n p < 26 ∨ 30 ≤ tK tp n p := by
  by_cases h : tS tp n p < n
  · by_cases hs : isSm (tp (tS tp n p)) = true
    · rw [tK_w h hs]
      have : keyO tp (tS tp n p) (tE tp n p) < 23 := kyF_le tp _ _ 21 0 (by decide)
      omega
    · by_cases hd : isDg (tp (tS tp n p)) = true
      · rw [tK_d h hs hd]; split <;> omega
      · rw [tK_s h hs hd]
        rcases kIx 0 (tp (tS tp n p)) 12 0 with _ | k
        · exact Or.inl (by decide)
        · exact Or.inr (by show 30 ≤ 30 + k; omega)
  · rw [tK_e (by omega)]; exact Or.inl (by decide)
theorem ckd_lt (K : Nat) : ckd K < 5 := by
  unfold ckd
  split
  · decide
  · split
    · decide
    · split
      · decide
      · split <;> decide
theorem ckd_i (K : Nat) (hg : K < 26 ∨ 30 ≤ K) : (ckd K = 0 ↔ K = 24) ∧ (ckd K = 1 ↔ K < 23) ∧ (ckd K = 2 ↔ K = 23) ∧ (ckd K = 3 ↔ 30 ≤ K) ∧ (ckd K = 4 ↔ K = 25) := by
  unfold ckd
  split
  · refine ⟨?_, ?_, ?_, ?_, ?_⟩ <;> omega
  · split
    · refine ⟨?_, ?_, ?_, ?_, ?_⟩ <;> omega
    · split
      · refine ⟨?_, ?_, ?_, ?_, ?_⟩ <;> omega
      · split
        · refine ⟨?_, ?_, ?_, ?_, ?_⟩ <;> omega
        · refine ⟨?_, ?_, ?_, ?_, ?_⟩ <;> omega
theorem sgI_all : (List.range 12).all (fun k => decide (kB 0 k < 128) && (List.range 12).all (fun l => !(kB 0 k == kB 0 l) || k == l)) = true := by decide +kernel
theorem sgI {k l : Nat} (hk : k < 12) (hl : l < 12) : kB 0 k < 128 ∧ (kB 0 k = kB 0 l → k = l) := by
  have h := List.all_eq_true.mp sgI_all k (List.mem_range.mpr hk)
  rw [Bool.and_eq_true, decide_eq_true_eq] at h
  refine ⟨h.1, fun e => ?_⟩
  have h2 := List.all_eq_true.mp h.2 l (List.mem_range.mpr hl)
  rw [e] at h2
  simp at h2
  exact h2
theorem kyI_all : (List.range 21).all (fun k => (List.range 21).all (fun l => k == l || !(kLen (kyT k) == kLen (kyT l)) || !((List.range (kLen (kyT k))).all (fun i => kB (kyT k) i == kB (kyT l) i)))) = true := by decide +kernel
theorem wEq_one {tp : Nat → Nat} {q e k l : Nat} (hk : k < 21) (hl : l < 21) (h1 : wEq tp (kyT k) q e = true) (h2 : wEq tp (kyT l) q e = true) : k = l := by
  obtain ⟨a1, a2⟩ := wEq_iff.mp h1
  obtain ⟨b1, b2⟩ := wEq_iff.mp h2
  have h := List.all_eq_true.mp (List.all_eq_true.mp kyI_all k (List.mem_range.mpr hk)) l (List.mem_range.mpr hl)
  rw [Bool.or_eq_true, Bool.or_eq_true, beq_iff_eq, Bool.not_eq_true', Bool.not_eq_true', beq_eq_false_iff_ne] at h
  rcases h with (h | h) | h
  · exact h
  · exact absurd (by omega) h
  · have : (List.range (kLen (kyT k))).all (fun i => kB (kyT k) i == kB (kyT l) i) = true := by
      rw [List.all_eq_true]
      intro i hi
      have hi2 := List.mem_range.mp hi
      rw [beq_iff_eq, ← a2 i hi2, ← b2 i (by omega)]
    rw [this] at h
    cases h
theorem kyF_iff {tp : Nat → Nat} {q e K : Nat} (hK : K < 21) : ∀ m k, k + m = 21 → k ≤ K → (kyF tp q e m k = K ↔ wEq tp (kyT K) q e = true)
  | 0, k, h1, h2 => absurd h2 (by omega)
  | m + 1, k, h1, h2 => by
    unfold kyF
    split
    · rename_i z
      exact ⟨fun y => by rw [← y]; exact z, fun y => wEq_one (by omega) hK z y⟩
    · rename_i z
      by_cases e1 : k = K
      · constructor
        · intro y
          have hgt : ∀ m k, k + m = 21 → kyF tp q e m k = 22 ∨ k ≤ kyF tp q e m k := fun m => by
            induction m with
            | zero => intro k _; exact Or.inl rfl
            | succ m ih =>
              intro k hk
              unfold kyF
              split
              · exact Or.inr (Nat.le_refl _)
              · have := ih (k + 1) (by omega); omega
          have := hgt m (k + 1) (by omega)
          omega
        · intro y; rw [e1] at z; exact absurd y z
      · exact kyF_iff hK m (k + 1) (by omega) (by omega)
/-- a token is the word K -/
theorem tK_word {tp : Nat → Nat} {n p K : Nat} (hK : K < 21) (h : tK tp n p < 23) : tK tp n p = K ↔ wEq tp (kyT K) (tS tp n p) (tE tp n p) = true := by
  by_cases h0 : tS tp n p < n
  · by_cases hs : isSm (tp (tS tp n p)) = true
    · rw [tK_w h0 hs]
      exact kyF_iff hK 21 0 (by decide) (by omega)
    · exfalso
      by_cases hd : isDg (tp (tS tp n p)) = true
      · rw [tK_d h0 hs hd] at h; split at h <;> omega
      · rw [tK_s h0 hs hd] at h
        rcases z : kIx 0 (tp (tS tp n p)) 12 0 with _ | k
        · rw [z] at h; exact absurd (show 25 < 23 from h) (by decide)
        · rw [z] at h; exact absurd (show 30 + k < 23 from h) (by omega)
  · rw [tK_e (by omega)] at h; omega
theorem qLv.mk {S S' : ab_S} {tp : Nat → Nat} {n p q : Nat} (h : qLv S tp n p) (hG : qG S S') (hT : qT S' tp n q) (hq : q ≤ n) (h6 : sI S' 72 6 = nI 0 ∧ sI S' 72 7 = -1) : qLv S' tp n q := by
  obtain ⟨a1, a2, a3, a4, a5, a6, a7, a8, a9, N, a10, a11⟩ := h
  exact ⟨a1.eq hG.1, by rw [hG.1.1]; exact a2, a3.eq hG.1 (by decide), a4, by rw [hG.1.2.2.2.2.1]; exact a5, (hG.2 1 (by omega)).trans a6, hq, hT, h6, N, a10, (hG.2 12 (by omega)).trans a11⟩
def tb_re_refuse : List (Nat × Instr × Nat) := [(0, .aload_n 0, 1), (1, .getfield 31, 3), (4, .ifCond .ne 28, 3), (7, .aload_n 0, 1), (8, .aload_n 0, 1), (9, .getfield 25, 3), (12, .iconst 4, 1), (13, .if_icmp .ne 7, 3), (16, .iconst 1, 1), (17, .goto 4, 3), (20, .iload_n 1, 1), (21, .putfield 31, 3), (24, .aload_n 0, 1), (25, .aload_n 0, 1), (26, .getfield 22, 3), (29, .putfield 34, 3), (32, .aload_n 0, 1), (33, .aload_n 0, 1), (34, .getfield 15, 3), (37, .putfield 19, 3), (40, .aload_n 0, 1), (41, .iconst 0, 1), (42, .putfield 25, 3), (45, .return_, 1)]
theorem tk_re_refuse : ∀ q ∈ tb_re_refuse, decode M_re_refuse.2.1 q.1 = .ok q.2 := by decide +kernel
theorem LA_refuse {G : ab_G} {S : ab_S} {tp : Nat → Nat} {n p : Nat} (hL : qLv S tp n p) (k : Nat) (hk0 : 0 < k) (hk5 : k < 5) : ab_C G 0 M_re_refuse [.ref 72, .int (nI k)] (sw S) (fun v w' => v = none ∧ ∃ S', w' = sw S' ∧ qG S S' ∧ qD S' n (pE tp n p k)) := by
  refine x_enter [some (.ref 72), some (.int (nI k))] (by decide) (Nat.le_of_ble_eq_true rfl) rfl (fun v w' h => by obtain ⟨rfl, -⟩ := h; trivial) ?_
  have hLb := hL
  obtain ⟨-, -, -, hn9, -, -, hpn, -, -, N0, hN0, hN1⟩ := hLb
  have hSb := tS_b tp hpn
  have hEb := tE_b tp hpn
  have hgap := tK_gap tp n p
  have hKlt := tK_lt tp n p
  obtain ⟨k0, k1, k2, k3, k4⟩ := ckd_i (tK tp n p) hgap
  have kl := ckd_lt (tK tp n p)
  refine x_aload_n 1 0 (ab_dd tk_re_refuse 0 rfl) rfl rfl rfl ?_
  refine t_getI 4 (ab_dd tk_re_refuse 1 rfl) rfl F_re_31 (by decide) (Nat.lt_of_lt_of_le (by decide) hL.1.1) (hL.1.2.1 22 (by decide)) rfl (x_topn 0 hL.2.2.2.2.2.2.2.2.1.1 ?_)
  refine x_if_ne_f 7 (ab_dd tk_re_refuse 2 rfl) rfl 32 (by decide) ((nI_eq (a := 0) (b := 0) (by omega) (by omega)).mpr (show 0 = 0 by rfl)) ?_
  refine x_aload_n 8 0 (ab_dd tk_re_refuse 3 rfl) rfl rfl rfl ?_
  refine x_aload_n 9 0 (ab_dd tk_re_refuse 4 rfl) rfl rfl rfl ?_
  refine t_getI 12 (ab_dd tk_re_refuse 5 rfl) rfl F_re_25 (by decide) (Nat.lt_of_lt_of_le (by decide) hL.1.1) (hL.1.2.1 22 (by decide)) rfl (x_topn (ckd (tK tp n p)) hL.2.2.2.2.2.2.2.1.2.2.1 ?_)
  refine x_iconst 13 4 (ab_dd tk_re_refuse 6 rfl) rfl (by decide) (x_topn 4 rfl ?_)
  refine xn_icmp_ne 16 20 (ab_dd tk_re_refuse 7 rfl) rfl (by decide) (by omega) (by omega) (fun h13 => ?_) (fun h13 => ?_)
  · refine x_iload_n 21 1 (ab_dd tk_re_refuse 10 rfl) rfl rfl rfl ?_
    refine t_putI 24 (ab_dd tk_re_refuse 11 rfl) rfl F_re_31 (by decide) (Nat.lt_of_lt_of_le (by decide) hL.1.1) (hL.1.2.1 22 (by decide)) rfl rfl rfl ?_
    refine x_aload_n 25 0 (ab_dd tk_re_refuse 12 rfl) rfl rfl rfl ?_
    refine x_aload_n 26 0 (ab_dd tk_re_refuse 13 rfl) rfl rfl rfl ?_
    refine t_getI 29 (ab_dd tk_re_refuse 14 rfl) rfl F_re_22 (by decide) (Nat.lt_of_lt_of_le (by decide) hL.1.1) (hL.1.2.1 22 (by decide)) rfl (x_topn (tS tp n p) ((gI_k (by decide)).trans hL.2.2.2.2.2.2.2.1.2.1) ?_)
    refine t_putI 32 (ab_dd tk_re_refuse 15 rfl) rfl F_re_34 (by decide) (Nat.lt_of_lt_of_le (by decide) hL.1.1) (hL.1.2.1 22 (by decide)) rfl rfl rfl ?_
    refine x_aload_n 33 0 (ab_dd tk_re_refuse 16 rfl) rfl rfl rfl ?_
    refine x_aload_n 34 0 (ab_dd tk_re_refuse 17 rfl) rfl rfl rfl ?_
    refine t_getI 37 (ab_dd tk_re_refuse 18 rfl) rfl F_re_15 (by decide) (Nat.lt_of_lt_of_le (by decide) hL.1.1) (hL.1.2.1 22 (by decide)) rfl (x_topn n ((gI_k (by decide)).trans ((gI_k (by decide)).trans hL.2.2.2.2.2.1)) ?_)
    refine t_putI 40 (ab_dd tk_re_refuse 19 rfl) rfl F_re_19 (by decide) (Nat.lt_of_lt_of_le (by decide) hL.1.1) (hL.1.2.1 22 (by decide)) rfl rfl rfl ?_
    refine x_aload_n 41 0 (ab_dd tk_re_refuse 20 rfl) rfl rfl rfl ?_
    refine x_iconst 42 0 (ab_dd tk_re_refuse 21 rfl) rfl (by decide) (x_topn 0 rfl ?_)
    refine t_putI 45 (ab_dd tk_re_refuse 22 rfl) rfl F_re_25 (by decide) (Nat.lt_of_lt_of_le (by decide) hL.1.1) (hL.1.2.1 22 (by decide)) rfl rfl rfl ?_
    have hE : sEq [72] S (pI (pI (pI (pI S 72 6 (nI k)) 72 7 (nI (tS tp n p))) 72 2 (nI n)) 72 4 (nI 0)) := ((((sEq.rf (S := S).pI (by simp)).pI (by simp)).pI (by simp)).pI (by simp))
    have hb : (pE tp n p k).1 = _ := (show (if tK tp n p = 25 then 1 else k) = k from if_neg (by omega))
    exact x_vret (ab_dd tk_re_refuse 23 rfl) ⟨rfl, _, rfl, ⟨hE, (fun j hj => (gI_k (by omega)).trans ((gI_k (by omega)).trans ((gI_k (by omega)).trans (gI_k (by omega)))))⟩, hL.1.eq hE, hL.2.1, hn9, hL.2.2.2.2.1, ((gI_k (by decide)).trans ((gI_k (by decide)).trans ((gI_k (by decide)).trans ((gI_k (by decide)).trans hL.2.2.2.2.2.1)))), ((gI_k (by decide)).trans gI_s), gI_s, ((gI_k (by decide)).trans ((gI_k (by decide)).trans ((gI_k (by decide)).trans gI_s))).trans (congrArg nI (show k = if tK tp n p = 25 then 1 else k by rw [if_neg (by omega)])), ((gI_k (by decide)).trans ((gI_k (by decide)).trans gI_s)), ⟨by omega, by omega⟩, N0, hN0, ((gI_k (by decide)).trans ((gI_k (by decide)).trans ((gI_k (by decide)).trans ((gI_k (by decide)).trans hN1))))⟩
  · refine x_iconst 17 1 (ab_dd tk_re_refuse 8 rfl) rfl (by decide) (x_topn 1 rfl ?_)
    refine x_goto 21 (ab_dd tk_re_refuse 9 rfl) (by decide) ?_
    refine t_putI 24 (ab_dd tk_re_refuse 11 rfl) rfl F_re_31 (by decide) (Nat.lt_of_lt_of_le (by decide) hL.1.1) (hL.1.2.1 22 (by decide)) rfl rfl rfl ?_
    refine x_aload_n 25 0 (ab_dd tk_re_refuse 12 rfl) rfl rfl rfl ?_
    refine x_aload_n 26 0 (ab_dd tk_re_refuse 13 rfl) rfl rfl rfl ?_
    refine t_getI 29 (ab_dd tk_re_refuse 14 rfl) rfl F_re_22 (by decide) (Nat.lt_of_lt_of_le (by decide) hL.1.1) (hL.1.2.1 22 (by decide)) rfl (x_topn (tS tp n p) ((gI_k (by decide)).trans hL.2.2.2.2.2.2.2.1.2.1) ?_)
    refine t_putI 32 (ab_dd tk_re_refuse 15 rfl) rfl F_re_34 (by decide) (Nat.lt_of_lt_of_le (by decide) hL.1.1) (hL.1.2.1 22 (by decide)) rfl rfl rfl ?_
    refine x_aload_n 33 0 (ab_dd tk_re_refuse 16 rfl) rfl rfl rfl ?_
    refine x_aload_n 34 0 (ab_dd tk_re_refuse 17 rfl) rfl rfl rfl ?_
    refine t_getI 37 (ab_dd tk_re_refuse 18 rfl) rfl F_re_15 (by decide) (Nat.lt_of_lt_of_le (by decide) hL.1.1) (hL.1.2.1 22 (by decide)) rfl (x_topn n ((gI_k (by decide)).trans ((gI_k (by decide)).trans hL.2.2.2.2.2.1)) ?_)
    refine t_putI 40 (ab_dd tk_re_refuse 19 rfl) rfl F_re_19 (by decide) (Nat.lt_of_lt_of_le (by decide) hL.1.1) (hL.1.2.1 22 (by decide)) rfl rfl rfl ?_
    refine x_aload_n 41 0 (ab_dd tk_re_refuse 20 rfl) rfl rfl rfl ?_
    refine x_iconst 42 0 (ab_dd tk_re_refuse 21 rfl) rfl (by decide) (x_topn 0 rfl ?_)
    refine t_putI 45 (ab_dd tk_re_refuse 22 rfl) rfl F_re_25 (by decide) (Nat.lt_of_lt_of_le (by decide) hL.1.1) (hL.1.2.1 22 (by decide)) rfl rfl rfl ?_
    have hE : sEq [72] S (pI (pI (pI (pI S 72 6 (nI 1)) 72 7 (nI (tS tp n p))) 72 2 (nI n)) 72 4 (nI 0)) := ((((sEq.rf (S := S).pI (by simp)).pI (by simp)).pI (by simp)).pI (by simp))
    have hb : (pE tp n p k).1 = _ := (show (if tK tp n p = 25 then 1 else k) = 1 from if_pos (by omega))
    exact x_vret (ab_dd tk_re_refuse 23 rfl) ⟨rfl, _, rfl, ⟨hE, (fun j hj => (gI_k (by omega)).trans ((gI_k (by omega)).trans ((gI_k (by omega)).trans (gI_k (by omega)))))⟩, hL.1.eq hE, hL.2.1, hn9, hL.2.2.2.2.1, ((gI_k (by decide)).trans ((gI_k (by decide)).trans ((gI_k (by decide)).trans ((gI_k (by decide)).trans hL.2.2.2.2.2.1)))), ((gI_k (by decide)).trans gI_s), gI_s, ((gI_k (by decide)).trans ((gI_k (by decide)).trans ((gI_k (by decide)).trans gI_s))).trans (congrArg nI (show 1 = if tK tp n p = 25 then 1 else k by rw [if_pos (by omega)])), ((gI_k (by decide)).trans ((gI_k (by decide)).trans gI_s)), ⟨by omega, by omega⟩, N0, hN0, ((gI_k (by decide)).trans ((gI_k (by decide)).trans ((gI_k (by decide)).trans ((gI_k (by decide)).trans hN1))))⟩
theorem DA_refuse {G : ab_G} {S : ab_S} {n : Nat} {e : Nat × Nat} (hD : qD S n e) (x : Int32) : ab_C G 0 M_re_refuse [.ref 72, .int x] (sw S) (fun v w' => v = none ∧ ∃ S', w' = sw S' ∧ qG S S' ∧ qD S' n e) := by
  refine x_enter [some (.ref 72), some (.int x)] (by decide) (Nat.le_of_ble_eq_true rfl) rfl (fun v w' h => by obtain ⟨rfl, -⟩ := h; trivial) ?_
  have hDb := hD
  obtain ⟨-, -, hn9, -, -, -, -, -, -, ⟨he0, he5⟩, N0, hN0, hN1⟩ := hDb
  refine x_aload_n 1 0 (ab_dd tk_re_refuse 0 rfl) rfl rfl rfl ?_
  refine t_getI 4 (ab_dd tk_re_refuse 1 rfl) rfl F_re_31 (by decide) (Nat.lt_of_lt_of_le (by decide) hD.1.1) (hD.1.2.1 22 (by decide)) rfl (x_topn e.1 hD.2.2.2.2.2.2.2.1 ?_)
  refine x_if_ne_t 32 (ab_dd tk_re_refuse 2 rfl) (by decide) (fun z => absurd ((nI_eq (a := e.1) (b := 0) (by omega) (by omega)).mp z) (show ¬ (e.1 = 0) by omega)) ?_
  refine x_aload_n 33 0 (ab_dd tk_re_refuse 16 rfl) rfl rfl rfl ?_
  refine x_aload_n 34 0 (ab_dd tk_re_refuse 17 rfl) rfl rfl rfl ?_
  refine t_getI 37 (ab_dd tk_re_refuse 18 rfl) rfl F_re_15 (by decide) (Nat.lt_of_lt_of_le (by decide) hD.1.1) (hD.1.2.1 22 (by decide)) rfl (x_topn n hD.2.2.2.2.1 ?_)
  refine t_putI 40 (ab_dd tk_re_refuse 19 rfl) rfl F_re_19 (by decide) (Nat.lt_of_lt_of_le (by decide) hD.1.1) (hD.1.2.1 22 (by decide)) rfl rfl rfl ?_
  refine x_aload_n 41 0 (ab_dd tk_re_refuse 20 rfl) rfl rfl rfl ?_
  refine x_iconst 42 0 (ab_dd tk_re_refuse 21 rfl) rfl (by decide) (x_topn 0 rfl ?_)
  refine t_putI 45 (ab_dd tk_re_refuse 22 rfl) rfl F_re_25 (by decide) (Nat.lt_of_lt_of_le (by decide) hD.1.1) (hD.1.2.1 22 (by decide)) rfl rfl rfl ?_
  have hE : sEq [72] S (pI (pI S 72 2 (nI n)) 72 4 (nI 0)) := ((sEq.rf (S := S)).pI (by simp)).pI (by simp)
  exact x_vret (ab_dd tk_re_refuse 23 rfl) ⟨rfl, _, rfl, ⟨hE, fun j hj => (gI_k (by omega)).trans (gI_k (by omega))⟩, hD.1.eq hE, hD.2.1, hn9, hD.2.2.2.1, ((gI_k (by decide)).trans ((gI_k (by decide)).trans hD.2.2.2.2.1)), ((gI_k (by decide)).trans gI_s), gI_s, ((gI_k (by decide)).trans ((gI_k (by decide)).trans hD.2.2.2.2.2.2.2.1)), (gI_k (by decide)).trans ((gI_k (by decide)).trans hD.2.2.2.2.2.2.2.2.1), ⟨he0, he5⟩, N0, hN0, (gI_k (by decide)).trans ((gI_k (by decide)).trans hN1)⟩
theorem LA_adv {G : ab_G} {S : ab_S} {tp : Nat → Nat} {n p : Nat} (hL : qLv S tp n p) (h24 : tK tp n p ≠ 24) : ab_C G 5 M_re_advance [.ref 72] (sw S) (fun v w' => v = none ∧ ∃ S', w' = sw S' ∧ qG S S' ∧ qLv S' tp n (tE tp n p)) := by
  have ht := tE_g hL.2.2.2.2.2.2.1 h24
  refine (c_re_advance hL.1 hL.2.1 hL.2.2.1 hL.2.2.2.1 hL.2.2.2.2.1 hL.2.2.2.2.2.1 (tE tp n p) ht.2 hL.2.2.2.2.2.2.2.1.1).mono ?_
  rintro v w' ⟨rfl, S', rfl, hE, hT, hfr⟩
  have hG : qG S S' := ⟨hE, fun j hj => hfr j (by omega)⟩
  exact ⟨rfl, S', rfl, hG, hL.mk hG hT ht.2 ⟨(hfr 6 (by omega)).trans hL.2.2.2.2.2.2.2.2.1.1, (hfr 7 (by omega)).trans hL.2.2.2.2.2.2.2.2.1.2⟩⟩
def tb_re_isSign : List (Nat × Instr × Nat) := [(0, .aload_n 0, 1), (1, .getfield 25, 3), (4, .iconst 3, 1), (5, .if_icmp .ne 15, 3), (8, .aload_n 0, 1), (9, .getfield 28, 3), (12, .iload_n 1, 1), (13, .if_icmp .ne 7, 3), (16, .iconst 1, 1), (17, .goto 4, 3), (20, .iconst 0, 1), (21, .ireturn, 1)]
theorem tk_re_isSign : ∀ q ∈ tb_re_isSign, decode M_re_isSign.2.1 q.1 = .ok q.2 := by decide +kernel
theorem LA_isSign {G : ab_G} {S : ab_S} {tp : Nat → Nat} {n p : Nat} (hL : qLv S tp n p) (k : Nat) (hk : k < 12) : ab_C G 0 M_re_isSign [.ref 72, .int (nI (kB 0 k))] (sw S) (fun v w' => v = some (.int (if tK tp n p = 30 + k then 1 else 0)) ∧ w' = sw S) := by
  refine x_enter [some (.ref 72), some (.int (nI (kB 0 k)))] (by decide) (Nat.le_of_ble_eq_true rfl) rfl (fun v w' h => by obtain ⟨rfl, rfl⟩ := h; split <;> rfl) ?_
  have hLb := hL
  obtain ⟨-, -, -, hn9, -, -, hpn, -, -, N0, hN0, hN1⟩ := hLb
  have hSb := tS_b tp hpn
  have hEb := tE_b tp hpn
  have hgap := tK_gap tp n p
  have hKlt := tK_lt tp n p
  obtain ⟨k0, k1, k2, k3, k4⟩ := ckd_i (tK tp n p) hgap
  have kl := ckd_lt (tK tp n p)
  have hb := (sgI hk hk).1
  refine x_aload_n 1 0 (ab_dd tk_re_isSign 0 rfl) rfl rfl rfl ?_
  refine t_getI 4 (ab_dd tk_re_isSign 1 rfl) rfl F_re_25 (by decide) (Nat.lt_of_lt_of_le (by decide) hL.1.1) (hL.1.2.1 22 (by decide)) rfl (x_topn (ckd (tK tp n p)) hL.2.2.2.2.2.2.2.1.2.2.1 ?_)
  refine x_iconst 5 3 (ab_dd tk_re_isSign 2 rfl) rfl (by decide) (x_topn 3 rfl ?_)
  refine xn_icmp_ne 8 20 (ab_dd tk_re_isSign 3 rfl) rfl (by decide) (by omega) (by omega) (fun h5 => ?_) (fun h5 => ?_)
  · refine x_iconst 21 0 (ab_dd tk_re_isSign 10 rfl) rfl (by decide) (x_topn 0 rfl ?_)
    exact x_iret (ab_dd tk_re_isSign 11 rfl) ⟨rI (if_neg (by omega)).symm, rfl⟩
  · refine x_aload_n 9 0 (ab_dd tk_re_isSign 4 rfl) rfl rfl rfl ?_
    refine t_getI 12 (ab_dd tk_re_isSign 5 rfl) rfl F_re_28 (by decide) (Nat.lt_of_lt_of_le (by decide) hL.1.1) (hL.1.2.1 22 (by decide)) rfl (x_topn (kB 0 (tK tp n p - 30)) (hL.2.2.2.2.2.2.2.1.2.2.2.2 (by omega)) ?_)
    have hb2 := (sgI (k := tK tp n p - 30) (l := k) (by omega) hk).1
    refine x_iload_n 13 1 (ab_dd tk_re_isSign 6 rfl) rfl rfl rfl ?_
    refine xn_icmp_ne 16 20 (ab_dd tk_re_isSign 7 rfl) rfl (by decide) (by omega) (by omega) (fun h13 => ?_) (fun h13 => ?_)
    · refine x_iconst 21 0 (ab_dd tk_re_isSign 10 rfl) rfl (by decide) (x_topn 0 rfl ?_)
      exact x_iret (ab_dd tk_re_isSign 11 rfl) ⟨rI (if_neg (fun z => h13 (by rw [z, show 30 + k - 30 = k by omega]))).symm, rfl⟩
    · refine x_iconst 17 1 (ab_dd tk_re_isSign 8 rfl) rfl (by decide) (x_topn 1 rfl ?_)
      refine x_goto 21 (ab_dd tk_re_isSign 9 rfl) (by decide) ?_
      exact x_iret (ab_dd tk_re_isSign 11 rfl) ⟨rI (if_pos (by have := (sgI (k := tK tp n p - 30) (l := k) (by omega) hk).2 h13; omega)).symm, rfl⟩
theorem DA_isSign {G : ab_G} {S : ab_S} {n : Nat} {e : Nat × Nat} (hD : qD S n e) (x : Int32) : ab_C G 0 M_re_isSign [.ref 72, .int x] (sw S) (fun v w' => v = some (.int (nI 0)) ∧ w' = sw S) := by
  refine x_enter [some (.ref 72), some (.int x)] (by decide) (Nat.le_of_ble_eq_true rfl) rfl (fun v w' h => by obtain ⟨rfl, rfl⟩ := h; rfl) ?_
  have hDb := hD
  obtain ⟨-, -, hn9, -, -, -, -, -, -, ⟨he0, he5⟩, N0, hN0, hN1⟩ := hDb
  refine x_aload_n 1 0 (ab_dd tk_re_isSign 0 rfl) rfl rfl rfl ?_
  refine t_getI 4 (ab_dd tk_re_isSign 1 rfl) rfl F_re_25 (by decide) (Nat.lt_of_lt_of_le (by decide) hD.1.1) (hD.1.2.1 22 (by decide)) rfl (x_topn 0 hD.2.2.2.2.2.2.1 ?_)
  refine x_iconst 5 3 (ab_dd tk_re_isSign 2 rfl) rfl (by decide) (x_topn 3 rfl ?_)
  refine x_icmp_ne_t 20 (ab_dd tk_re_isSign 3 rfl) (by decide) (fun z => absurd ((nI_eq (a := 0) (b := 3) (by omega) (by omega)).mp z) (show ¬ (0 = 3) by decide)) ?_
  refine x_iconst 21 0 (ab_dd tk_re_isSign 10 rfl) rfl (by decide) (x_topn 0 rfl ?_)
  exact x_iret (ab_dd tk_re_isSign 11 rfl) ⟨rfl, rfl⟩
def tb_re_isWord : List (Nat × Instr × Nat) := [(0, .aload_n 0, 1), (1, .getfield 25, 3), (4, .iconst 1, 1), (5, .if_icmp .ne 31, 3), (8, .aload_n 0, 1), (9, .getfield 19, 3), (12, .aload_n 0, 1), (13, .getfield 22, 3), (16, .isub, 1), (17, .aload_n 1, 1), (18, .invokevirtual 215, 3), (21, .if_icmp .ne 15, 3), (24, .aload_n 0, 1), (25, .getfield 19, 3), (28, .aload_n 0, 1), (29, .getfield 9, 3), (32, .arraylength, 1), (33, .if_icmp .le 5, 3), (36, .iconst 0, 1), (37, .ireturn, 1), (38, .iconst 0, 1), (39, .istore_n 2, 1), (40, .iload_n 2, 1), (41, .aload_n 1, 1), (42, .invokevirtual 215, 3), (45, .if_icmp .ge 30, 3), (48, .aload_n 0, 1), (49, .getfield 9, 3), (52, .aload_n 0, 1), (53, .getfield 22, 3), (56, .iload_n 2, 1), (57, .iadd, 1), (58, .baload, 1), (59, .aload_n 1, 1), (60, .iload_n 2, 1), (61, .invokevirtual 219, 3), (64, .if_icmp .eq 5, 3), (67, .iconst 0, 1), (68, .ireturn, 1), (69, .iinc 2 1, 3), (72, .goto (-32), 3), (75, .iconst 1, 1), (76, .ireturn, 1)]
theorem tk_re_isWord : ∀ q ∈ tb_re_isWord, decode M_re_isWord.2.1 q.1 = .ok q.2 := by decide +kernel
theorem LA_isWord {G : ab_G} {S : ab_S} {tp : Nat → Nat} {n p : Nat} (hL : qLv S tp n p) (K t : Nat) (hK : K < 21) (htK : kyT K = t) : ab_C G 4 M_re_isWord [.ref 72, .ref t] (sw S) (fun v w' => v = some (.int (if tK tp n p = K then 1 else 0)) ∧ w' = sw S) := by
  refine x_enter [some (.ref 72), some (.ref t), none] (by decide) (Nat.le_of_ble_eq_true rfl) rfl (fun v w' h => by obtain ⟨rfl, rfl⟩ := h; split <;> rfl) ?_
  have hLb := hL
  obtain ⟨-, -, -, hn9, -, -, hpn, -, -, N0, hN0, hN1⟩ := hLb
  have hSb := tS_b tp hpn
  have hEb := tE_b tp hpn
  have hgap := tK_gap tp n p
  have hKlt := tK_lt tp n p
  obtain ⟨k0, k1, k2, k3, k4⟩ := ckd_i (tK tp n p) hgap
  have kl := ckd_lt (tK tp n p)
  obtain ⟨ht22, htl, -⟩ := ky_ok hK
  rw [htK] at ht22 htl
  have ht : t < 23 := by omega
  have hkl := kLen_le t ht
  have hB := hL.2.2.1
  have loop : tK tp n p < 23 → tE tp n p = tS tp n p + kLen t → ∀ (m i : Nat), i + m = kLen t → (∀ j, j < i → tp (tS tp n p + j) = kB t j) → ab_Ex G 4 M_re_isWord 40 [some (.ref 72), some (.ref t), some (.int (nI i))] [] (sw S) (fun v w' => v = some (.int (if tK tp n p = K then 1 else 0)) ∧ w' = sw S) := by
    intro h23 hlen m
    have hw := tK_word hK h23
    rw [htK] at hw
    induction m with
    | zero =>
      intro i hi hall
      refine x_iload_n 41 2 (ab_dd tk_re_isWord 22 rfl) rfl rfl rfl ?_
      refine x_aload_n 42 1 (ab_dd tk_re_isWord 23 rfl) rfl rfl rfl ?_
      refine x_callT 45 M_jS_length 1 0 [] (ab_dd tk_re_isWord 24 rfl) rfl (by first | decide | omega) K_jS_length V_jS_length.1 V_jS_length.2 (ml_T L_re_215 rfl) rfl (Nat.le_of_ble_eq_true rfl) (by omega) (by rw [sw_old (by omega) (Nat.le_trans (by decide) hL.1.1), (hL.2.1.1 t ht).1]) rfl (c_jS_length hL.2.1 (Nat.le_trans (by decide) hL.1.1) t ht) (fun v1 w1 h1 => ?_)
      obtain ⟨rfl, rfl⟩ := h1
      refine x_icmp_ge_t 75 (ab_dd tk_re_isWord 25 rfl) (by decide) ((nI_leI (a := (kLen t)) (b := i) (by omega) (by omega)).mpr (show (kLen t) ≤ i by omega)) ?_
      refine x_iconst 76 1 (ab_dd tk_re_isWord 41 rfl) rfl (by decide) (x_topn 1 rfl ?_)
      exact x_iret (ab_dd tk_re_isWord 42 rfl) ⟨rI (if_pos (hw.mpr (wEq_iff.mpr ⟨hlen, fun j hj => hall j (by omega)⟩))).symm, rfl⟩
    | succ m ih =>
      intro i hi hall
      have hb := hB (tS tp n p + i) (by omega)
      have hkb := (kByt_ok ht (show i < kLen t by omega)).2.1
      have hs := (sB_ok hb.2).2.1 (kB t i) hkb
      refine x_iload_n 41 2 (ab_dd tk_re_isWord 22 rfl) rfl rfl rfl ?_
      refine x_aload_n 42 1 (ab_dd tk_re_isWord 23 rfl) rfl rfl rfl ?_
      refine x_callT 45 M_jS_length 1 0 [] (ab_dd tk_re_isWord 24 rfl) rfl (by first | decide | omega) K_jS_length V_jS_length.1 V_jS_length.2 (ml_T L_re_215 rfl) rfl (Nat.le_of_ble_eq_true rfl) (by omega) (by rw [sw_old (by omega) (Nat.le_trans (by decide) hL.1.1), (hL.2.1.1 t ht).1]) rfl (c_jS_length hL.2.1 (Nat.le_trans (by decide) hL.1.1) t ht) (fun v1 w1 h1 => ?_)
      obtain ⟨rfl, rfl⟩ := h1
      refine x_icmp_ge_f 48 (ab_dd tk_re_isWord 25 rfl) rfl 75 (by decide) (fun z => absurd ((nI_leI (a := (kLen t)) (b := i) (by omega) (by omega)).mp z) (show ¬ ((kLen t) ≤ i) by omega)) ?_
      refine x_aload_n 49 0 (ab_dd tk_re_isWord 26 rfl) rfl rfl rfl ?_
      refine t_getP 52 51 (ab_dd tk_re_isWord 27 rfl) rfl F_re_9 (by decide) (Nat.lt_of_lt_of_le (by decide) hL.1.1) (hL.1.2.1 22 (by decide)) rfl hL.2.2.2.2.1 ?_
      refine x_aload_n 53 0 (ab_dd tk_re_isWord 28 rfl) rfl rfl rfl ?_
      refine t_getI 56 (ab_dd tk_re_isWord 29 rfl) rfl F_re_22 (by decide) (Nat.lt_of_lt_of_le (by decide) hL.1.1) (hL.1.2.1 22 (by decide)) rfl (x_topn (tS tp n p) hL.2.2.2.2.2.2.2.1.2.1 ?_)
      refine x_iload_n 57 2 (ab_dd tk_re_isWord 30 rfl) rfl rfl rfl ?_
      refine x_iadd 58 (ab_dd tk_re_isWord 31 rfl) rfl (x_topn ((tS tp n p) + i) (nI_add _ _) ?_)
      refine t_bald 59 ((tS tp n p) + i) (ab_dd tk_re_isWord 32 rfl) rfl (by decide) (Nat.lt_of_lt_of_le (by decide) hL.1.1) (hL.1.2.1 1 (by decide)) rfl (by omega) (by decide) (x_topx (sB (tp (tS tp n p + i))) hb.1 ?_)
      refine x_aload_n 60 1 (ab_dd tk_re_isWord 33 rfl) rfl rfl rfl ?_
      refine x_iload_n 61 2 (ab_dd tk_re_isWord 34 rfl) rfl rfl rfl ?_
      refine x_callT 64 M_jS_charAt 3 1 [_] (ab_dd tk_re_isWord 35 rfl) rfl (by first | decide | omega) K_jS_charAt V_jS_charAt.1 V_jS_charAt.2 (ml_T L_re_219 rfl) rfl (Nat.le_of_ble_eq_true rfl) (by omega) (by rw [sw_old (by omega) (Nat.le_trans (by decide) hL.1.1), (hL.2.1.1 t ht).1]) rfl (c_jS_charAt hL.2.1 (Nat.le_trans (by decide) hL.1.1) t ht i (by omega)) (fun v1 w1 h1 => ?_)
      obtain ⟨rfl, rfl⟩ := h1
      refine x_icmp_eq 67 69 (ab_dd tk_re_isWord 36 rfl) rfl (by decide) (fun h64 => ?_) (fun h64 => ?_)
      · refine xn_iinc 72 2 (fun y => [some (.ref 72), some (.ref t), some (.int y)]) (i + 1) (ab_dd tk_re_isWord 39 rfl) rfl (by decide) rfl (fun _ => rfl) (iinc_p 1) ?_
        refine x_goto 40 (ab_dd tk_re_isWord 40 rfl) (by decide) ?_
        exact ih (i + 1) (by omega) (fun j hj => by
          by_cases z : j = i
          · rw [z]; exact hs.mp h64
          · exact hall j (by omega))
      · refine x_iconst 68 0 (ab_dd tk_re_isWord 37 rfl) rfl (by decide) (x_topn 0 rfl ?_)
        exact x_iret (ab_dd tk_re_isWord 38 rfl) ⟨rI (if_neg (fun z => h64 (hs.mpr ((wEq_iff.mp (hw.mp z)).2 i (by omega))))).symm, rfl⟩
  refine x_aload_n 1 0 (ab_dd tk_re_isWord 0 rfl) rfl rfl rfl ?_
  refine t_getI 4 (ab_dd tk_re_isWord 1 rfl) rfl F_re_25 (by decide) (Nat.lt_of_lt_of_le (by decide) hL.1.1) (hL.1.2.1 22 (by decide)) rfl (x_topn (ckd (tK tp n p)) hL.2.2.2.2.2.2.2.1.2.2.1 ?_)
  refine x_iconst 5 1 (ab_dd tk_re_isWord 2 rfl) rfl (by decide) (x_topn 1 rfl ?_)
  refine xn_icmp_ne 8 36 (ab_dd tk_re_isWord 3 rfl) rfl (by decide) (by omega) (by omega) (fun h5 => ?_) (fun h5 => ?_)
  · refine x_iconst 37 0 (ab_dd tk_re_isWord 18 rfl) rfl (by decide) (x_topn 0 rfl ?_)
    exact x_iret (ab_dd tk_re_isWord 19 rfl) ⟨rI (if_neg (by omega)).symm, rfl⟩
  · refine x_aload_n 9 0 (ab_dd tk_re_isWord 4 rfl) rfl rfl rfl ?_
    refine t_getI 12 (ab_dd tk_re_isWord 5 rfl) rfl F_re_19 (by decide) (Nat.lt_of_lt_of_le (by decide) hL.1.1) (hL.1.2.1 22 (by decide)) rfl (x_topn (tE tp n p) hL.2.2.2.2.2.2.2.1.1 ?_)
    refine x_aload_n 13 0 (ab_dd tk_re_isWord 6 rfl) rfl rfl rfl ?_
    refine t_getI 16 (ab_dd tk_re_isWord 7 rfl) rfl F_re_22 (by decide) (Nat.lt_of_lt_of_le (by decide) hL.1.1) (hL.1.2.1 22 (by decide)) rfl (x_topn (tS tp n p) hL.2.2.2.2.2.2.2.1.2.1 ?_)
    refine x_isub 17 (ab_dd tk_re_isWord 8 rfl) rfl (x_topn ((tE tp n p) - (tS tp n p)) (pk_sub (by omega)) ?_)
    refine x_aload_n 18 1 (ab_dd tk_re_isWord 9 rfl) rfl rfl rfl ?_
    refine x_callT 21 M_jS_length 1 0 [] (ab_dd tk_re_isWord 10 rfl) rfl (by first | decide | omega) K_jS_length V_jS_length.1 V_jS_length.2 (ml_T L_re_215 rfl) rfl (Nat.le_of_ble_eq_true rfl) (by omega) (by rw [sw_old (by omega) (Nat.le_trans (by decide) hL.1.1), (hL.2.1.1 t ht).1]) rfl (c_jS_length hL.2.1 (Nat.le_trans (by decide) hL.1.1) t ht) (fun v1 w1 h1 => ?_)
    obtain ⟨rfl, rfl⟩ := h1
    refine xn_icmp_ne 24 36 (ab_dd tk_re_isWord 11 rfl) rfl (by decide) (by omega) (by omega) (fun h21 => ?_) (fun h21 => ?_)
    · refine x_iconst 37 0 (ab_dd tk_re_isWord 18 rfl) rfl (by decide) (x_topn 0 rfl ?_)
      exact x_iret (ab_dd tk_re_isWord 19 rfl) ⟨rI (if_neg (fun z => by have y := (wEq_iff.mp ((tK_word hK (by omega)).mp z)).1; rw [htK] at y; omega)).symm, rfl⟩
    · refine x_aload_n 25 0 (ab_dd tk_re_isWord 12 rfl) rfl rfl rfl ?_
      refine t_getI 28 (ab_dd tk_re_isWord 13 rfl) rfl F_re_19 (by decide) (Nat.lt_of_lt_of_le (by decide) hL.1.1) (hL.1.2.1 22 (by decide)) rfl (x_topn (tE tp n p) hL.2.2.2.2.2.2.2.1.1 ?_)
      refine x_aload_n 29 0 (ab_dd tk_re_isWord 14 rfl) rfl rfl rfl ?_
      refine t_getP 32 51 (ab_dd tk_re_isWord 15 rfl) rfl F_re_9 (by decide) (Nat.lt_of_lt_of_le (by decide) hL.1.1) (hL.1.2.1 22 (by decide)) rfl hL.2.2.2.2.1 ?_
      refine t_alen 33 1 (ab_dd tk_re_isWord 16 rfl) rfl (by decide) (Nat.lt_of_lt_of_le (by decide) hL.1.1) rfl (hL.1.2.1 1 (by decide)) ?_
      refine x_icmp_le_t 38 (ab_dd tk_re_isWord 17 rfl) (by decide) ((nI_leI (a := (tE tp n p)) (b := 900) (by omega) (by omega)).mpr (show (tE tp n p) ≤ 900 by omega)) ?_
      refine x_iconst 39 0 (ab_dd tk_re_isWord 20 rfl) rfl (by decide) (x_topn 0 rfl ?_)
      refine x_istore_n 40 [some (.ref 72), some (.ref t), some (.int (nI 0))] 2 (ab_dd tk_re_isWord 21 rfl) rfl rfl (by decide) rfl ?_
      exact loop (by omega) (by omega) (kLen t) 0 (by omega) (fun j hj => absurd hj (Nat.not_lt_zero j))
theorem DA_isWord {G : ab_G} {S : ab_S} {n : Nat} {e : Nat × Nat} (hD : qD S n e) (t : Nat) : ab_C G 4 M_re_isWord [.ref 72, .ref t] (sw S) (fun v w' => v = some (.int (nI 0)) ∧ w' = sw S) := by
  refine x_enter [some (.ref 72), some (.ref t), none] (by decide) (Nat.le_of_ble_eq_true rfl) rfl (fun v w' h => by obtain ⟨rfl, rfl⟩ := h; rfl) ?_
  have hDb := hD
  obtain ⟨-, -, hn9, -, -, -, -, -, -, ⟨he0, he5⟩, N0, hN0, hN1⟩ := hDb
  refine x_aload_n 1 0 (ab_dd tk_re_isWord 0 rfl) rfl rfl rfl ?_
  refine t_getI 4 (ab_dd tk_re_isWord 1 rfl) rfl F_re_25 (by decide) (Nat.lt_of_lt_of_le (by decide) hD.1.1) (hD.1.2.1 22 (by decide)) rfl (x_topn 0 hD.2.2.2.2.2.2.1 ?_)
  refine x_iconst 5 1 (ab_dd tk_re_isWord 2 rfl) rfl (by decide) (x_topn 1 rfl ?_)
  refine x_icmp_ne_t 36 (ab_dd tk_re_isWord 3 rfl) (by decide) (fun z => absurd ((nI_eq (a := 0) (b := 1) (by omega) (by omega)).mp z) (show ¬ (0 = 1) by decide)) ?_
  refine x_iconst 37 0 (ab_dd tk_re_isWord 18 rfl) rfl (by decide) (x_topn 0 rfl ?_)
  exact x_iret (ab_dd tk_re_isWord 19 rfl) ⟨rfl, rfl⟩
def tb_re_needWord : List (Nat × Instr × Nat) := [(0, .aload_n 0, 1), (1, .aload_n 1, 1), (2, .invokevirtual 93, 3), (5, .ifCond .eq 10, 3), (8, .aload_n 0, 1), (9, .invokevirtual 64, 3), (12, .goto 8, 3), (15, .aload_n 0, 1), (16, .iconst 2, 1), (17, .invokevirtual 114, 3), (20, .return_, 1)]
theorem tk_re_needWord : ∀ q ∈ tb_re_needWord, decode M_re_needWord.2.1 q.1 = .ok q.2 := by decide +kernel
theorem LA_needWord {G : ab_G} {S : ab_S} {tp : Nat → Nat} {n p : Nat} (hL : qLv S tp n p) (K t : Nat) (hK : K < 21) (htK : kyT K = t) : ab_C G 6 M_re_needWord [.ref 72, .ref t] (sw S) (fun v w' => v = none ∧ ∃ S', w' = sw S' ∧ qG S S' ∧ ((tK tp n p = K ∧ qLv S' tp n (tE tp n p)) ∨ (tK tp n p ≠ K ∧ qD S' n (pE tp n p 2)))) := by
  refine x_enter [some (.ref 72), some (.ref t)] (by decide) (Nat.le_of_ble_eq_true rfl) rfl (fun v w' h => by obtain ⟨rfl, -⟩ := h; trivial) ?_
  have hLb := hL
  obtain ⟨-, -, -, hn9, -, -, hpn, -, -, N0, hN0, hN1⟩ := hLb
  have hSb := tS_b tp hpn
  have hEb := tE_b tp hpn
  have hgap := tK_gap tp n p
  have hKlt := tK_lt tp n p
  obtain ⟨k0, k1, k2, k3, k4⟩ := ckd_i (tK tp n p) hgap
  have kl := ckd_lt (tK tp n p)
  refine x_aload_n 1 0 (ab_dd tk_re_needWord 0 rfl) rfl rfl rfl ?_
  refine x_aload_n 2 1 (ab_dd tk_re_needWord 1 rfl) rfl rfl rfl ?_
  refine t_callV 5 M_re_isWord 4 1 [_] (ab_dd tk_re_needWord 2 rfl) rfl (by first | decide | omega) K_re_isWord V_re_isWord.1 V_re_isWord.2 L_re_93 rfl (Nat.le_of_ble_eq_true rfl) (by decide) (Nat.lt_of_lt_of_le (by decide) hL.1.1) (hL.1.2.1 22 (by decide)) rfl (LA_isWord hL K t hK htK) (fun v1 w1 h1 => ?_)
  obtain ⟨rfl, rfl⟩ := h1
  refine xb_if_eq 8 15 (ab_dd tk_re_needWord 3 rfl) rfl (by decide) (fun h5 => ?_) (fun h5 => ?_)
  · refine x_aload_n 16 0 (ab_dd tk_re_needWord 7 rfl) rfl rfl rfl ?_
    refine x_iconst 17 2 (ab_dd tk_re_needWord 8 rfl) rfl (by decide) (x_topn 2 rfl ?_)
    refine t_callV 20 M_re_refuse 0 1 [_] (ab_dd tk_re_needWord 9 rfl) rfl (by first | decide | omega) K_re_refuse V_re_refuse.1 V_re_refuse.2 L_re_114 rfl (Nat.le_of_ble_eq_true rfl) (by decide) (Nat.lt_of_lt_of_le (by decide) hL.1.1) (hL.1.2.1 22 (by decide)) rfl (LA_refuse hL 2 (by decide) (by decide)) (fun v1 w1 h1 => ?_)
    obtain ⟨rfl, S2, rfl, hG2, hD2⟩ := h1
    exact x_vret (ab_dd tk_re_needWord 10 rfl) ⟨rfl, S2, rfl, hG2, Or.inr ⟨h5, hD2⟩⟩
  · refine x_aload_n 9 0 (ab_dd tk_re_needWord 4 rfl) rfl rfl rfl ?_
    refine t_callV 12 M_re_advance 5 0 [] (ab_dd tk_re_needWord 5 rfl) rfl (by first | decide | omega) K_re_advance V_re_advance.1 V_re_advance.2 L_re_64 rfl (Nat.le_of_ble_eq_true rfl) (by decide) (Nat.lt_of_lt_of_le (by decide) hL.1.1) (hL.1.2.1 22 (by decide)) rfl (LA_adv hL (by omega)) (fun v1 w1 h1 => ?_)
    obtain ⟨rfl, S2, rfl, hG2, hL2⟩ := h1
    refine x_goto 20 (ab_dd tk_re_needWord 6 rfl) (by decide) ?_
    exact x_vret (ab_dd tk_re_needWord 10 rfl) ⟨rfl, S2, rfl, hG2, Or.inl ⟨h5, hL2⟩⟩
theorem DA_needWord {G : ab_G} {S : ab_S} {n : Nat} {e : Nat × Nat} (hD : qD S n e) (t : Nat) : ab_C G 6 M_re_needWord [.ref 72, .ref t] (sw S) (fun v w' => v = none ∧ ∃ S', w' = sw S' ∧ qG S S' ∧ qD S' n e) := by
  refine x_enter [some (.ref 72), some (.ref t)] (by decide) (Nat.le_of_ble_eq_true rfl) rfl (fun v w' h => by obtain ⟨rfl, -⟩ := h; trivial) ?_
  have hDb := hD
  obtain ⟨-, -, hn9, -, -, -, -, -, -, ⟨he0, he5⟩, N0, hN0, hN1⟩ := hDb
  refine x_aload_n 1 0 (ab_dd tk_re_needWord 0 rfl) rfl rfl rfl ?_
  refine x_aload_n 2 1 (ab_dd tk_re_needWord 1 rfl) rfl rfl rfl ?_
  refine t_callV 5 M_re_isWord 4 1 [_] (ab_dd tk_re_needWord 2 rfl) rfl (by first | decide | omega) K_re_isWord V_re_isWord.1 V_re_isWord.2 L_re_93 rfl (Nat.le_of_ble_eq_true rfl) (by decide) (Nat.lt_of_lt_of_le (by decide) hD.1.1) (hD.1.2.1 22 (by decide)) rfl (DA_isWord hD _) (fun v1 w1 h1 => ?_)
  obtain ⟨rfl, rfl⟩ := h1
  refine x_if_eq_t 15 (ab_dd tk_re_needWord 3 rfl) (by decide) ((nI_eq (a := 0) (b := 0) (by omega) (by omega)).mpr (show 0 = 0 by rfl)) ?_
  refine x_aload_n 16 0 (ab_dd tk_re_needWord 7 rfl) rfl rfl rfl ?_
  refine x_iconst 17 2 (ab_dd tk_re_needWord 8 rfl) rfl (by decide) (x_topn 2 rfl ?_)
  refine t_callV 20 M_re_refuse 0 1 [_] (ab_dd tk_re_needWord 9 rfl) rfl (by first | decide | omega) K_re_refuse V_re_refuse.1 V_re_refuse.2 L_re_114 rfl (Nat.le_of_ble_eq_true rfl) (by decide) (Nat.lt_of_lt_of_le (by decide) hD.1.1) (hD.1.2.1 22 (by decide)) rfl (DA_refuse hD _) (fun v1 w1 h1 => ?_)
  obtain ⟨rfl, S2, rfl, hG2, hD2⟩ := h1
  exact x_vret (ab_dd tk_re_needWord 10 rfl) ⟨rfl, S2, rfl, hG2, hD2⟩
def tb_re_needSign : List (Nat × Instr × Nat) := [(0, .aload_n 0, 1), (1, .iload_n 1, 1), (2, .invokevirtual 161, 3), (5, .ifCond .eq 10, 3), (8, .aload_n 0, 1), (9, .invokevirtual 64, 3), (12, .goto 8, 3), (15, .aload_n 0, 1), (16, .iconst 2, 1), (17, .invokevirtual 114, 3), (20, .return_, 1)]
theorem tk_re_needSign : ∀ q ∈ tb_re_needSign, decode M_re_needSign.2.1 q.1 = .ok q.2 := by decide +kernel
theorem LA_needSign {G : ab_G} {S : ab_S} {tp : Nat → Nat} {n p : Nat} (hL : qLv S tp n p) (k : Nat) (hk : k < 12) : ab_C G 6 M_re_needSign [.ref 72, .int (nI (kB 0 k))] (sw S) (fun v w' => v = none ∧ ∃ S', w' = sw S' ∧ qG S S' ∧ ((tK tp n p = (30 + k) ∧ qLv S' tp n (tE tp n p)) ∨ (tK tp n p ≠ (30 + k) ∧ qD S' n (pE tp n p 2)))) := by
  refine x_enter [some (.ref 72), some (.int (nI (kB 0 k)))] (by decide) (Nat.le_of_ble_eq_true rfl) rfl (fun v w' h => by obtain ⟨rfl, -⟩ := h; trivial) ?_
  have hLb := hL
  obtain ⟨-, -, -, hn9, -, -, hpn, -, -, N0, hN0, hN1⟩ := hLb
  have hSb := tS_b tp hpn
  have hEb := tE_b tp hpn
  have hgap := tK_gap tp n p
  have hKlt := tK_lt tp n p
  obtain ⟨k0, k1, k2, k3, k4⟩ := ckd_i (tK tp n p) hgap
  have kl := ckd_lt (tK tp n p)
  refine x_aload_n 1 0 (ab_dd tk_re_needSign 0 rfl) rfl rfl rfl ?_
  refine x_iload_n 2 1 (ab_dd tk_re_needSign 1 rfl) rfl rfl rfl ?_
  refine t_callV 5 M_re_isSign 0 1 [_] (ab_dd tk_re_needSign 2 rfl) rfl (by first | decide | omega) K_re_isSign V_re_isSign.1 V_re_isSign.2 L_re_161 rfl (Nat.le_of_ble_eq_true rfl) (by decide) (Nat.lt_of_lt_of_le (by decide) hL.1.1) (hL.1.2.1 22 (by decide)) rfl (LA_isSign hL k hk) (fun v1 w1 h1 => ?_)
  obtain ⟨rfl, rfl⟩ := h1
  refine xb_if_eq 8 15 (ab_dd tk_re_needSign 3 rfl) rfl (by decide) (fun h5 => ?_) (fun h5 => ?_)
  · refine x_aload_n 16 0 (ab_dd tk_re_needSign 7 rfl) rfl rfl rfl ?_
    refine x_iconst 17 2 (ab_dd tk_re_needSign 8 rfl) rfl (by decide) (x_topn 2 rfl ?_)
    refine t_callV 20 M_re_refuse 0 1 [_] (ab_dd tk_re_needSign 9 rfl) rfl (by first | decide | omega) K_re_refuse V_re_refuse.1 V_re_refuse.2 L_re_114 rfl (Nat.le_of_ble_eq_true rfl) (by decide) (Nat.lt_of_lt_of_le (by decide) hL.1.1) (hL.1.2.1 22 (by decide)) rfl (LA_refuse hL 2 (by decide) (by decide)) (fun v1 w1 h1 => ?_)
    obtain ⟨rfl, S2, rfl, hG2, hD2⟩ := h1
    exact x_vret (ab_dd tk_re_needSign 10 rfl) ⟨rfl, S2, rfl, hG2, Or.inr ⟨h5, hD2⟩⟩
  · refine x_aload_n 9 0 (ab_dd tk_re_needSign 4 rfl) rfl rfl rfl ?_
    refine t_callV 12 M_re_advance 5 0 [] (ab_dd tk_re_needSign 5 rfl) rfl (by first | decide | omega) K_re_advance V_re_advance.1 V_re_advance.2 L_re_64 rfl (Nat.le_of_ble_eq_true rfl) (by decide) (Nat.lt_of_lt_of_le (by decide) hL.1.1) (hL.1.2.1 22 (by decide)) rfl (LA_adv hL (by omega)) (fun v1 w1 h1 => ?_)
    obtain ⟨rfl, S2, rfl, hG2, hL2⟩ := h1
    refine x_goto 20 (ab_dd tk_re_needSign 6 rfl) (by decide) ?_
    exact x_vret (ab_dd tk_re_needSign 10 rfl) ⟨rfl, S2, rfl, hG2, Or.inl ⟨h5, hL2⟩⟩
theorem DA_needSign {G : ab_G} {S : ab_S} {n : Nat} {e : Nat × Nat} (hD : qD S n e) (x : Int32) : ab_C G 6 M_re_needSign [.ref 72, .int x] (sw S) (fun v w' => v = none ∧ ∃ S', w' = sw S' ∧ qG S S' ∧ qD S' n e) := by
  refine x_enter [some (.ref 72), some (.int x)] (by decide) (Nat.le_of_ble_eq_true rfl) rfl (fun v w' h => by obtain ⟨rfl, -⟩ := h; trivial) ?_
  have hDb := hD
  obtain ⟨-, -, hn9, -, -, -, -, -, -, ⟨he0, he5⟩, N0, hN0, hN1⟩ := hDb
  refine x_aload_n 1 0 (ab_dd tk_re_needSign 0 rfl) rfl rfl rfl ?_
  refine x_iload_n 2 1 (ab_dd tk_re_needSign 1 rfl) rfl rfl rfl ?_
  refine t_callV 5 M_re_isSign 0 1 [_] (ab_dd tk_re_needSign 2 rfl) rfl (by first | decide | omega) K_re_isSign V_re_isSign.1 V_re_isSign.2 L_re_161 rfl (Nat.le_of_ble_eq_true rfl) (by decide) (Nat.lt_of_lt_of_le (by decide) hD.1.1) (hD.1.2.1 22 (by decide)) rfl (DA_isSign hD _) (fun v1 w1 h1 => ?_)
  obtain ⟨rfl, rfl⟩ := h1
  refine x_if_eq_t 15 (ab_dd tk_re_needSign 3 rfl) (by decide) ((nI_eq (a := 0) (b := 0) (by omega) (by omega)).mpr (show 0 = 0 by rfl)) ?_
  refine x_aload_n 16 0 (ab_dd tk_re_needSign 7 rfl) rfl rfl rfl ?_
  refine x_iconst 17 2 (ab_dd tk_re_needSign 8 rfl) rfl (by decide) (x_topn 2 rfl ?_)
  refine t_callV 20 M_re_refuse 0 1 [_] (ab_dd tk_re_needSign 9 rfl) rfl (by first | decide | omega) K_re_refuse V_re_refuse.1 V_re_refuse.2 L_re_114 rfl (Nat.le_of_ble_eq_true rfl) (by decide) (Nat.lt_of_lt_of_le (by decide) hD.1.1) (hD.1.2.1 22 (by decide)) rfl (DA_refuse hD _) (fun v1 w1 h1 => ?_)
  obtain ⟨rfl, S2, rfl, hG2, hD2⟩ := h1
  exact x_vret (ab_dd tk_re_needSign 10 rfl) ⟨rfl, S2, rfl, hG2, hD2⟩
def tb_re_needNumber : List (Nat × Instr × Nat) := [(0, .aload_n 0, 1), (1, .getfield 25, 3), (4, .iconst 2, 1), (5, .if_icmp .eq 10, 3), (8, .aload_n 0, 1), (9, .iconst 2, 1), (10, .invokevirtual 114, 3), (13, .iconst 0, 1), (14, .ireturn, 1), (15, .aload_n 0, 1), (16, .getfield 28, 3), (19, .iload_n 1, 1), (20, .if_icmp .le 10, 3), (23, .aload_n 0, 1), (24, .iconst 3, 1), (25, .invokevirtual 114, 3), (28, .iconst 0, 1), (29, .ireturn, 1), (30, .aload_n 0, 1), (31, .getfield 28, 3), (34, .istore_n 2, 1), (35, .aload_n 0, 1), (36, .invokevirtual 64, 3), (39, .iload_n 2, 1), (40, .ireturn, 1)]
theorem tk_re_needNumber : ∀ q ∈ tb_re_needNumber, decode M_re_needNumber.2.1 q.1 = .ok q.2 := by decide +kernel
def nnQ (S : ab_S) (tp : Nat → Nat) (n hi : Nat) (r : nR) (v : Option Value) (w' : ab_H) : Prop := ∃ S', w' = sw S' ∧ qG S S' ∧ (match r with
  | .inl e => qD S' n e ∧ v = some (.int (nI 0))
  | .inr y => v = some (.int (nI y.2)) ∧ qLv S' tp n y.1 ∧ y.2 ≤ hi)
theorem nnQ_ok {S : ab_S} {tp : Nat → Nat} {n hi : Nat} {r : nR} {v : Option Value} {w' : ab_H} (h : nnQ S tp n hi r v w') : ∃ x : Int32, v = some (.int x) := by
  obtain ⟨S', -, -, h⟩ := h
  cases r with
  | inl e => exact ⟨_, h.2⟩
  | inr y => exact ⟨_, h.1⟩
theorem LA_needNumber {G : ab_G} {S : ab_S} {tp : Nat → Nat} {n p : Nat} (hL : qLv S tp n p) (hi : Nat) (hhi : hi < 1000) : ab_C G 6 M_re_needNumber [.ref 72, .int (nI hi)] (sw S) (nnQ S tp n hi (xN tp n hi p)) := by
  refine x_enter [some (.ref 72), some (.int (nI hi)), none] (by decide) (Nat.le_of_ble_eq_true rfl) rfl (fun v w' h => by obtain ⟨x, rfl⟩ := nnQ_ok h; rfl) ?_
  have hLb := hL
  obtain ⟨-, -, -, hn9, -, -, hpn, -, -, N0, hN0, hN1⟩ := hLb
  have hSb := tS_b tp hpn
  have hEb := tE_b tp hpn
  have hgap := tK_gap tp n p
  have hKlt := tK_lt tp n p
  obtain ⟨k0, k1, k2, k3, k4⟩ := ckd_i (tK tp n p) hgap
  have kl := ckd_lt (tK tp n p)
  refine x_aload_n 1 0 (ab_dd tk_re_needNumber 0 rfl) rfl rfl rfl ?_
  refine t_getI 4 (ab_dd tk_re_needNumber 1 rfl) rfl F_re_25 (by decide) (Nat.lt_of_lt_of_le (by decide) hL.1.1) (hL.1.2.1 22 (by decide)) rfl (x_topn (ckd (tK tp n p)) hL.2.2.2.2.2.2.2.1.2.2.1 ?_)
  refine x_iconst 5 2 (ab_dd tk_re_needNumber 2 rfl) rfl (by decide) (x_topn 2 rfl ?_)
  refine xn_icmp_eq 8 15 (ab_dd tk_re_needNumber 3 rfl) rfl (by decide) (by omega) (by omega) (fun h5 => ?_) (fun h5 => ?_)
  · have h23 : tK tp n p = 23 := by omega
    have htn := tN_lt hpn h23
    refine x_aload_n 16 0 (ab_dd tk_re_needNumber 9 rfl) rfl rfl rfl ?_
    refine t_getI 19 (ab_dd tk_re_needNumber 10 rfl) rfl F_re_28 (by decide) (Nat.lt_of_lt_of_le (by decide) hL.1.1) (hL.1.2.1 22 (by decide)) rfl (x_topn (tN tp n p) (hL.2.2.2.2.2.2.2.1.2.2.2.1 h23) ?_)
    refine x_iload_n 20 1 (ab_dd tk_re_needNumber 11 rfl) rfl rfl rfl ?_
    refine xn_icmp_le 23 30 (ab_dd tk_re_needNumber 12 rfl) rfl (by decide) (by omega) (by omega) (fun h20 => ?_) (fun h20 => ?_)
    · refine x_aload_n 31 0 (ab_dd tk_re_needNumber 18 rfl) rfl rfl rfl ?_
      refine t_getI 34 (ab_dd tk_re_needNumber 19 rfl) rfl F_re_28 (by decide) (Nat.lt_of_lt_of_le (by decide) hL.1.1) (hL.1.2.1 22 (by decide)) rfl (x_topn (tN tp n p) (hL.2.2.2.2.2.2.2.1.2.2.2.1 h23) ?_)
      refine x_istore_n 35 [some (.ref 72), some (.int (nI hi)), some (.int (nI (tN tp n p)))] 2 (ab_dd tk_re_needNumber 20 rfl) rfl rfl (by decide) rfl ?_
      refine x_aload_n 36 0 (ab_dd tk_re_needNumber 21 rfl) rfl rfl rfl ?_
      refine t_callV 39 M_re_advance 5 0 [] (ab_dd tk_re_needNumber 22 rfl) rfl (by first | decide | omega) K_re_advance V_re_advance.1 V_re_advance.2 L_re_64 rfl (Nat.le_of_ble_eq_true rfl) (by decide) (Nat.lt_of_lt_of_le (by decide) hL.1.1) (hL.1.2.1 22 (by decide)) rfl (LA_adv hL (by omega)) (fun v1 w1 h1 => ?_)
      obtain ⟨rfl, S2, rfl, hG2, hL2⟩ := h1
      refine x_iload_n 40 2 (ab_dd tk_re_needNumber 23 rfl) rfl rfl rfl ?_
      have hr : xN tp n hi p = .inr (tE tp n p, tN tp n p) := by unfold xN; rw [if_pos (by omega), if_pos (by omega)]
      rw [hr]
      exact x_iret (ab_dd tk_re_needNumber 24 rfl) ⟨S2, rfl, hG2, rfl, hL2, by show tN tp n p ≤ hi; omega⟩
    · refine x_aload_n 24 0 (ab_dd tk_re_needNumber 13 rfl) rfl rfl rfl ?_
      refine x_iconst 25 3 (ab_dd tk_re_needNumber 14 rfl) rfl (by decide) (x_topn 3 rfl ?_)
      refine t_callV 28 M_re_refuse 0 1 [_] (ab_dd tk_re_needNumber 15 rfl) rfl (by first | decide | omega) K_re_refuse V_re_refuse.1 V_re_refuse.2 L_re_114 rfl (Nat.le_of_ble_eq_true rfl) (by decide) (Nat.lt_of_lt_of_le (by decide) hL.1.1) (hL.1.2.1 22 (by decide)) rfl (LA_refuse hL 3 (by decide) (by decide)) (fun v1 w1 h1 => ?_)
      obtain ⟨rfl, S2, rfl, hG2, hD2⟩ := h1
      refine x_iconst 29 0 (ab_dd tk_re_needNumber 16 rfl) rfl (by decide) (x_topn 0 rfl ?_)
      have hr : xN tp n hi p = .inl (pE tp n p 3) := by unfold xN; rw [if_pos (by omega), if_neg (by omega)]
      rw [hr]
      exact x_iret (ab_dd tk_re_needNumber 17 rfl) ⟨S2, rfl, hG2, hD2, rfl⟩
  · refine x_aload_n 9 0 (ab_dd tk_re_needNumber 4 rfl) rfl rfl rfl ?_
    refine x_iconst 10 2 (ab_dd tk_re_needNumber 5 rfl) rfl (by decide) (x_topn 2 rfl ?_)
    refine t_callV 13 M_re_refuse 0 1 [_] (ab_dd tk_re_needNumber 6 rfl) rfl (by first | decide | omega) K_re_refuse V_re_refuse.1 V_re_refuse.2 L_re_114 rfl (Nat.le_of_ble_eq_true rfl) (by decide) (Nat.lt_of_lt_of_le (by decide) hL.1.1) (hL.1.2.1 22 (by decide)) rfl (LA_refuse hL 2 (by decide) (by decide)) (fun v1 w1 h1 => ?_)
    obtain ⟨rfl, S2, rfl, hG2, hD2⟩ := h1
    refine x_iconst 14 0 (ab_dd tk_re_needNumber 7 rfl) rfl (by decide) (x_topn 0 rfl ?_)
    have hr : xN tp n hi p = .inl (pE tp n p 2) := if_neg (by omega)
    rw [hr]
    exact x_iret (ab_dd tk_re_needNumber 8 rfl) ⟨S2, rfl, hG2, hD2, rfl⟩
theorem DA_needNumber {G : ab_G} {S : ab_S} {n : Nat} {e : Nat × Nat} (hD : qD S n e) (x : Int32) : ab_C G 6 M_re_needNumber [.ref 72, .int x] (sw S) (fun v w' => v = some (.int (nI 0)) ∧ ∃ S', w' = sw S' ∧ qG S S' ∧ qD S' n e) := by
  refine x_enter [some (.ref 72), some (.int x), none] (by decide) (Nat.le_of_ble_eq_true rfl) rfl (fun v w' h => by obtain ⟨rfl, -⟩ := h; rfl) ?_
  have hDb := hD
  obtain ⟨-, -, hn9, -, -, -, -, -, -, ⟨he0, he5⟩, N0, hN0, hN1⟩ := hDb
  refine x_aload_n 1 0 (ab_dd tk_re_needNumber 0 rfl) rfl rfl rfl ?_
  refine t_getI 4 (ab_dd tk_re_needNumber 1 rfl) rfl F_re_25 (by decide) (Nat.lt_of_lt_of_le (by decide) hD.1.1) (hD.1.2.1 22 (by decide)) rfl (x_topn 0 hD.2.2.2.2.2.2.1 ?_)
  refine x_iconst 5 2 (ab_dd tk_re_needNumber 2 rfl) rfl (by decide) (x_topn 2 rfl ?_)
  refine x_icmp_eq_f 8 (ab_dd tk_re_needNumber 3 rfl) rfl 15 (by decide) (fun z => absurd ((nI_eq (a := 0) (b := 2) (by omega) (by omega)).mp z) (show ¬ (0 = 2) by decide)) ?_
  refine x_aload_n 9 0 (ab_dd tk_re_needNumber 4 rfl) rfl rfl rfl ?_
  refine x_iconst 10 2 (ab_dd tk_re_needNumber 5 rfl) rfl (by decide) (x_topn 2 rfl ?_)
  refine t_callV 13 M_re_refuse 0 1 [_] (ab_dd tk_re_needNumber 6 rfl) rfl (by first | decide | omega) K_re_refuse V_re_refuse.1 V_re_refuse.2 L_re_114 rfl (Nat.le_of_ble_eq_true rfl) (by decide) (Nat.lt_of_lt_of_le (by decide) hD.1.1) (hD.1.2.1 22 (by decide)) rfl (DA_refuse hD _) (fun v1 w1 h1 => ?_)
  obtain ⟨rfl, S2, rfl, hG2, hD2⟩ := h1
  refine x_iconst 14 0 (ab_dd tk_re_needNumber 7 rfl) rfl (by decide) (x_topn 0 rfl ?_)
  exact x_iret (ab_dd tk_re_needNumber 8 rfl) ⟨rfl, S2, rfl, hG2, hD2⟩
