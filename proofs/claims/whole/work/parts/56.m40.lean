/-! ===== tokens ===== -/
def scn (P : Nat → Bool) (tp : Nat → Nat) : Nat → Nat → Nat
  | 0, p => p
  | m + 1, p => if P (tp p) = true then scn P tp m (p + 1) else p
theorem scn_le (P : Nat → Bool) (tp : Nat → Nat) : ∀ m p, p ≤ scn P tp m p ∧ scn P tp m p ≤ p + m
  | 0, p => ⟨Nat.le_refl _, Nat.le_refl _⟩
  | m + 1, p => by
    have := scn_le P tp m (p + 1)
    unfold scn
    split <;> omega
theorem scn_y {P : Nat → Bool} {tp : Nat → Nat} {m p : Nat} (h : P (tp p) = true) : scn P tp (m + 1) p = scn P tp m (p + 1) := if_pos h
theorem scn_n {P : Nat → Bool} {tp : Nat → Nat} {m p : Nat} (h : ¬ P (tp p) = true) : scn P tp (m + 1) p = p := if_neg h
theorem scn_in {P : Nat → Bool} {tp : Nat → Nat} : ∀ m p i, p ≤ i → i < scn P tp m p → P (tp i) = true
  | 0, p, i, h1, h2 => absurd h2 (by show ¬ i < p; omega)
  | m + 1, p, i, h1, h2 => by
    by_cases z : P (tp p) = true
    · rw [scn_y z] at h2
      by_cases e : i = p
      · rw [e]; exact z
      · exact scn_in m (p + 1) i (by omega) h2
    · rw [scn_n z] at h2; omega
theorem scn_at {P : Nat → Bool} {tp : Nat → Nat} : ∀ m p, scn P tp m p < p + m → ¬ P (tp (scn P tp m p)) = true
  | 0, p, h => absurd h (by show ¬ p < p + 0; omega)
  | m + 1, p, h => by
    by_cases z : P (tp p) = true
    · rw [scn_y z] at h ⊢; exact scn_at m (p + 1) (by omega)
    · rw [scn_n z]; exact z
def isBl (c : Nat) : Bool := c == 10 || c == 32
def isSm (c : Nat) : Bool := decide (97 ≤ c ∧ c ≤ 122)
def isDg (c : Nat) : Bool := decide (48 ≤ c ∧ c ≤ 57)
/-- the texts of the keys, by their numbers -/
def kyT (k : Nat) : Nat := [1, 2, 3, 4, 5, 6, 7, 8, 21, 10, 11, 12, 13, 14, 15, 16, 17, 18, 19, 20, 9].getD k 0
def kyO (k : Nat) : Nat := [1, 7, 13, 19, 26, 32, 37, 43, 49, 53, 56, 61, 66, 70, 77, 82, 89, 94, 99, 103, 106, 110].getD k 110
/-- whether the text t stands from q to e -/
def wEq (tp : Nat → Nat) (t q e : Nat) : Bool := decide (e = q + kLen t) && (List.range (kLen t)).all (fun i => tp (q + i) == kB t i)
theorem wEq_iff {tp : Nat → Nat} {t q e : Nat} : wEq tp t q e = true ↔ (e = q + kLen t ∧ ∀ i, i < kLen t → tp (q + i) = kB t i) := by
  unfold wEq
  simp only [Bool.and_eq_true, decide_eq_true_iff, List.all_eq_true, List.mem_range, beq_iff_eq]
def kyF (tp : Nat → Nat) (q e : Nat) : Nat → Nat → Nat
  | 0, _ => 22
  | m + 1, k => if wEq tp (kyT k) q e = true then k else kyF tp q e m (k + 1)
def keyO (tp : Nat → Nat) (q e : Nat) : Nat := kyF tp q e 21 0
def kyB (k : Nat) : Bool := decide (kyT k < 22) && decide (0 < kLen (kyT k)) && decide (kyO (k + 1) = kyO k + kLen (kyT k) + 1) && decide (kyO (k + 1) ≤ 110) && (kB 22 (kyO k + kLen (kyT k)) == 32) && (List.range (kLen (kyT k))).all (fun i => (kB 22 (kyO k + i) == kB (kyT k) i) && !(kB 22 (kyO k + i) == 32))
theorem kyB_all : (List.range 21).all kyB = true := by decide +kernel
theorem ky_ok {k : Nat} (h : k < 21) : kyT k < 22 ∧ 0 < kLen (kyT k) ∧ kyO (k + 1) = kyO k + kLen (kyT k) + 1 ∧ kyO (k + 1) ≤ 110 ∧ kB 22 (kyO k + kLen (kyT k)) = 32 ∧ ∀ i, i < kLen (kyT k) → kB 22 (kyO k + i) = kB (kyT k) i ∧ kB 22 (kyO k + i) ≠ 32 := by
  have h0 := kyB_all
  rw [List.all_eq_true] at h0
  have h1 := h0 k (List.mem_range.mpr h)
  unfold kyB at h1
  simp only [Bool.and_eq_true, decide_eq_true_iff, beq_iff_eq, List.all_eq_true, List.mem_range, Bool.not_eq_true', beq_eq_false_iff_ne] at h1
  obtain ⟨⟨⟨⟨⟨g1, g2⟩, g3⟩, g4⟩, g5⟩, g6⟩ := h1
  exact ⟨g1, g2, g3, g4, g5, g6⟩
/-- the first m digits from q on -/
def dgV (tp : Nat → Nat) (q : Nat) : Nat → Nat
  | 0 => 0
  | m + 1 => 10 * dgV tp q m + (tp (q + m) - 48)
/-- a token: where it begins, ends, its kind, its number; p: where the one ahead of it ended -/
def tS (tp : Nat → Nat) (n p : Nat) : Nat := scn isBl tp (n - p) p
def tE (tp : Nat → Nat) (n p : Nat) : Nat := if n ≤ tS tp n p then tS tp n p else if isSm (tp (tS tp n p)) = true then scn isSm tp (n - tS tp n p) (tS tp n p) else if isDg (tp (tS tp n p)) = true then scn isDg tp (n - tS tp n p) (tS tp n p) else tS tp n p + 1
def tK (tp : Nat → Nat) (n p : Nat) : Nat := if n ≤ tS tp n p then 24 else if isSm (tp (tS tp n p)) = true then keyO tp (tS tp n p) (tE tp n p) else if isDg (tp (tS tp n p)) = true then (if 3 < tE tp n p - tS tp n p then 25 else 23) else match kIx 0 (tp (tS tp n p)) 12 0 with
  | none => 25
  | some k => 30 + k
def tN (tp : Nat → Nat) (n p : Nat) : Nat := dgV tp (tS tp n p) (tE tp n p - tS tp n p)
def rT (S : ab_S) (tp : Nat → Nat) : Prop := ∀ i, i < 900 → sI S 123 i = nI (tp i) ∧ tp i < 256
theorem rT.eq {l : List Nat} {S S' : ab_S} {tp : Nat → Nat} (h : rT S tp) (hE : sEq l S S') (hl : 123 ∉ l) : rT S' tp := by
  unfold rT
  rw [hE.2.2.1 _ hl]
  exact h
def tb_m_see : List (Nat × Instr × Nat) := [(0, .iload_n 1, 1), (1, .aload_n 0, 1), (2, .getfield 100, 3), (5, .if_icmp .ge 12, 3), (8, .aload_n 0, 1), (9, .getfield 21, 3), (12, .iload_n 1, 1), (13, .iaload, 1), (14, .goto 4, 3), (17, .iconst (-1), 1), (18, .ireturn, 1)]
theorem tk_m_see : ∀ q ∈ tb_m_see, decode M_m_see.2.1 q.1 = .ok q.2 := by decide +kernel
theorem c_m_seeL {G : ab_G} {S : ab_S} (hm : mSh S) {tp : Nat → Nat} (hT : rT S tp) {n : Nat} (hn : n ≤ 900) (hs : sI S 120 8 = nI n) (k : Nat) (hk : k < n) : ab_C G 0 M_m_see [.ref 120, .int (nI k)] (sw S) (fun v w' => v = some (.int (nI (tp k))) ∧ w' = sw S) := by
  refine x_enter [some (.ref 120), some (.int (nI k))] (by decide) (Nat.le_of_ble_eq_true rfl) rfl (fun v w' h => by obtain ⟨rfl, rfl⟩ := h; rfl) ?_
  refine x_iload_n 1 1 (ab_dd tk_m_see 0 rfl) rfl rfl rfl ?_
  refine x_aload_n 2 0 (ab_dd tk_m_see 1 rfl) rfl rfl rfl ?_
  refine t_getI 5 (ab_dd tk_m_see 2 rfl) rfl F_m_100 (by decide) (Nat.lt_of_lt_of_le (by decide) hm.1) (hm.2.1 0 (by decide)) rfl (x_topn n hs ?_)
  refine x_icmp_ge_f 8 (ab_dd tk_m_see 3 rfl) rfl 17 (by decide) (fun z => absurd ((nI_leI (a := n) (b := k) (by omega) (by omega)).mp z) (show ¬ (n ≤ k) by omega)) ?_
  refine x_aload_n 9 0 (ab_dd tk_m_see 4 rfl) rfl rfl rfl ?_
  refine t_getP 12 123 (ab_dd tk_m_see 5 rfl) rfl F_m_21 (by decide) (Nat.lt_of_lt_of_le (by decide) hm.1) (hm.2.1 0 (by decide)) rfl (hm.2.2 3 (by decide)) ?_
  refine x_iload_n 13 1 (ab_dd tk_m_see 6 rfl) rfl rfl rfl ?_
  refine t_iald 14 k (ab_dd tk_m_see 7 rfl) rfl (by decide) (Nat.lt_of_lt_of_le (by decide) hm.1) (hm.2.1 3 (by decide)) rfl (by omega) (by decide) (x_topn (tp k) ((hT k (by omega)).1) ?_)
  refine x_goto 18 (ab_dd tk_m_see 8 rfl) (by decide) ?_
  exact x_iret (ab_dd tk_m_see 10 rfl) ⟨rfl, rfl⟩
theorem c_m_seeE {G : ab_G} {S : ab_S} (hm : mSh S) {tp : Nat → Nat} (hT : rT S tp) {n : Nat} (hn : n ≤ 900) (hs : sI S 120 8 = nI n) (k : Nat) (hk : n ≤ k) (hk2 : k < 2 ^ 31) : ab_C G 0 M_m_see [.ref 120, .int (nI k)] (sw S) (fun v w' => v = some (.int (-1)) ∧ w' = sw S) := by
  refine x_enter [some (.ref 120), some (.int (nI k))] (by decide) (Nat.le_of_ble_eq_true rfl) rfl (fun v w' h => by obtain ⟨rfl, rfl⟩ := h; rfl) ?_
  refine x_iload_n 1 1 (ab_dd tk_m_see 0 rfl) rfl rfl rfl ?_
  refine x_aload_n 2 0 (ab_dd tk_m_see 1 rfl) rfl rfl rfl ?_
  refine t_getI 5 (ab_dd tk_m_see 2 rfl) rfl F_m_100 (by decide) (Nat.lt_of_lt_of_le (by decide) hm.1) (hm.2.1 0 (by decide)) rfl (x_topn n hs ?_)
  refine x_icmp_ge_t 17 (ab_dd tk_m_see 3 rfl) (by decide) ((nI_leI (a := n) (b := k) (by omega) (by omega)).mpr (show n ≤ k by omega)) ?_
  refine x_iconst 18 (-1) (ab_dd tk_m_see 9 rfl) rfl (by decide) ?_
  exact x_iret (ab_dd tk_m_see 10 rfl) ⟨rfl, rfl⟩
def tb_m_isSmall : List (Nat × Instr × Nat) := [(0, .iload_n 0, 1), (1, .bipush 97, 2), (3, .if_icmp .lt 13, 3), (6, .iload_n 0, 1), (7, .bipush 122, 2), (9, .if_icmp .gt 7, 3), (12, .iconst 1, 1), (13, .goto 4, 3), (16, .iconst 0, 1), (17, .ireturn, 1)]
theorem tk_m_isSmall : ∀ q ∈ tb_m_isSmall, decode M_m_isSmall.2.1 q.1 = .ok q.2 := by decide +kernel
theorem c_m_isSmall {G : ab_G} {S : ab_S} (c : Nat) (hc : c < 256) : ab_C G 0 M_m_isSmall [.int (nI c)] (sw S) (fun v w' => v = some (.int (if isSm c = true then 1 else 0)) ∧ w' = sw S) := by
  refine x_enter [some (.int (nI c))] (by decide) (Nat.le_of_ble_eq_true rfl) rfl (fun v w' h => by obtain ⟨rfl, rfl⟩ := h; split <;> rfl) ?_
  refine x_iload_n 1 0 (ab_dd tk_m_isSmall 0 rfl) rfl rfl rfl ?_
  refine x_bipush 3 97 (ab_dd tk_m_isSmall 1 rfl) rfl (by decide) (x_topn 97 rfl ?_)
  refine xn_icmp_lt 6 16 (ab_dd tk_m_isSmall 2 rfl) rfl (by decide) (by omega) (by omega) (fun h3 => ?_) (fun h3 => ?_)
  · refine x_iconst 17 0 (ab_dd tk_m_isSmall 8 rfl) rfl (by decide) (x_topn 0 rfl ?_)
    exact x_iret (ab_dd tk_m_isSmall 9 rfl) ⟨rI (if_neg (by unfold isSm; rw [decide_eq_true_iff]; omega)).symm, rfl⟩
  · refine x_iload_n 7 0 (ab_dd tk_m_isSmall 3 rfl) rfl rfl rfl ?_
    refine x_bipush 9 122 (ab_dd tk_m_isSmall 4 rfl) rfl (by decide) (x_topn 122 rfl ?_)
    refine xn_icmp_gt 12 16 (ab_dd tk_m_isSmall 5 rfl) rfl (by decide) (by omega) (by omega) (fun h9 => ?_) (fun h9 => ?_)
    · refine x_iconst 17 0 (ab_dd tk_m_isSmall 8 rfl) rfl (by decide) (x_topn 0 rfl ?_)
      exact x_iret (ab_dd tk_m_isSmall 9 rfl) ⟨rI (if_neg (by unfold isSm; rw [decide_eq_true_iff]; omega)).symm, rfl⟩
    · refine x_iconst 13 1 (ab_dd tk_m_isSmall 6 rfl) rfl (by decide) (x_topn 1 rfl ?_)
      refine x_goto 17 (ab_dd tk_m_isSmall 7 rfl) (by decide) ?_
      exact x_iret (ab_dd tk_m_isSmall 9 rfl) ⟨rI (if_pos (by unfold isSm; rw [decide_eq_true_iff]; omega)).symm, rfl⟩
theorem c_m_isSmallE {G : ab_G} {S : ab_S} : ab_C G 0 M_m_isSmall [.int (-1)] (sw S) (fun v w' => v = some (.int 0) ∧ w' = sw S) := by
  refine x_enter [some (.int (-1))] (by decide) (Nat.le_of_ble_eq_true rfl) rfl (fun v w' h => by obtain ⟨rfl, rfl⟩ := h; rfl) ?_
  refine x_iload_n 1 0 (ab_dd tk_m_isSmall 0 rfl) rfl rfl rfl ?_
  refine x_bipush 3 97 (ab_dd tk_m_isSmall 1 rfl) rfl (by decide) (x_topn 97 rfl ?_)
  refine x_icmp_lt_t 16 (ab_dd tk_m_isSmall 2 rfl) (by decide) (by decide) ?_
  refine x_iconst 17 0 (ab_dd tk_m_isSmall 8 rfl) rfl (by decide) (x_topn 0 rfl ?_)
  exact x_iret (ab_dd tk_m_isSmall 9 rfl) ⟨rfl, rfl⟩
def tb_m_isDigit : List (Nat × Instr × Nat) := [(0, .iload_n 0, 1), (1, .bipush 48, 2), (3, .if_icmp .lt 13, 3), (6, .iload_n 0, 1), (7, .bipush 57, 2), (9, .if_icmp .gt 7, 3), (12, .iconst 1, 1), (13, .goto 4, 3), (16, .iconst 0, 1), (17, .ireturn, 1)]
theorem tk_m_isDigit : ∀ q ∈ tb_m_isDigit, decode M_m_isDigit.2.1 q.1 = .ok q.2 := by decide +kernel
theorem c_m_isDigit {G : ab_G} {S : ab_S} (c : Nat) (hc : c < 256) : ab_C G 0 M_m_isDigit [.int (nI c)] (sw S) (fun v w' => v = some (.int (if isDg c = true then 1 else 0)) ∧ w' = sw S) := by
  refine x_enter [some (.int (nI c))] (by decide) (Nat.le_of_ble_eq_true rfl) rfl (fun v w' h => by obtain ⟨rfl, rfl⟩ := h; split <;> rfl) ?_
  refine x_iload_n 1 0 (ab_dd tk_m_isDigit 0 rfl) rfl rfl rfl ?_
  refine x_bipush 3 48 (ab_dd tk_m_isDigit 1 rfl) rfl (by decide) (x_topn 48 rfl ?_)
  refine xn_icmp_lt 6 16 (ab_dd tk_m_isDigit 2 rfl) rfl (by decide) (by omega) (by omega) (fun h3 => ?_) (fun h3 => ?_)
  · refine x_iconst 17 0 (ab_dd tk_m_isDigit 8 rfl) rfl (by decide) (x_topn 0 rfl ?_)
    exact x_iret (ab_dd tk_m_isDigit 9 rfl) ⟨rI (if_neg (by unfold isDg; rw [decide_eq_true_iff]; omega)).symm, rfl⟩
  · refine x_iload_n 7 0 (ab_dd tk_m_isDigit 3 rfl) rfl rfl rfl ?_
    refine x_bipush 9 57 (ab_dd tk_m_isDigit 4 rfl) rfl (by decide) (x_topn 57 rfl ?_)
    refine xn_icmp_gt 12 16 (ab_dd tk_m_isDigit 5 rfl) rfl (by decide) (by omega) (by omega) (fun h9 => ?_) (fun h9 => ?_)
    · refine x_iconst 17 0 (ab_dd tk_m_isDigit 8 rfl) rfl (by decide) (x_topn 0 rfl ?_)
      exact x_iret (ab_dd tk_m_isDigit 9 rfl) ⟨rI (if_neg (by unfold isDg; rw [decide_eq_true_iff]; omega)).symm, rfl⟩
    · refine x_iconst 13 1 (ab_dd tk_m_isDigit 6 rfl) rfl (by decide) (x_topn 1 rfl ?_)
      refine x_goto 17 (ab_dd tk_m_isDigit 7 rfl) (by decide) ?_
      exact x_iret (ab_dd tk_m_isDigit 9 rfl) ⟨rI (if_pos (by unfold isDg; rw [decide_eq_true_iff]; omega)).symm, rfl⟩
theorem c_m_isDigitE {G : ab_G} {S : ab_S} : ab_C G 0 M_m_isDigit [.int (-1)] (sw S) (fun v w' => v = some (.int 0) ∧ w' = sw S) := by
  refine x_enter [some (.int (-1))] (by decide) (Nat.le_of_ble_eq_true rfl) rfl (fun v w' h => by obtain ⟨rfl, rfl⟩ := h; rfl) ?_
  refine x_iload_n 1 0 (ab_dd tk_m_isDigit 0 rfl) rfl rfl rfl ?_
  refine x_bipush 3 48 (ab_dd tk_m_isDigit 1 rfl) rfl (by decide) (x_topn 48 rfl ?_)
  refine x_icmp_lt_t 16 (ab_dd tk_m_isDigit 2 rfl) (by decide) (by decide) ?_
  refine x_iconst 17 0 (ab_dd tk_m_isDigit 8 rfl) rfl (by decide) (x_topn 0 rfl ?_)
  exact x_iret (ab_dd tk_m_isDigit 9 rfl) ⟨rfl, rfl⟩
def tb_m_keyAt : List (Nat × Instr × Nat) := [(0, .iconst 0, 1), (1, .istore_n 1, 1), (2, .iconst 1, 1), (3, .istore_n 2, 1), (4, .iload_n 2, 1), (5, .ldc 103, 2), (7, .invokevirtual 105, 3), (10, .if_icmp .ge 113, 3), (13, .iconst 0, 1), (14, .istore_n 3, 1), (15, .ldc 103, 2), (17, .iload_n 2, 1), (18, .iload_n 3, 1), (19, .iadd, 1), (20, .invokevirtual 111, 3), (23, .bipush 32, 2), (25, .if_icmp .eq 44, 3), (28, .aload_n 0, 1), (29, .getfield 115, 3), (32, .iload_n 3, 1), (33, .iadd, 1), (34, .aload_n 0, 1), (35, .getfield 118, 3), (38, .if_icmp .ge 31, 3), (41, .aload_n 0, 1), (42, .getfield 21, 3), (45, .aload_n 0, 1), (46, .getfield 115, 3), (49, .iload_n 3, 1), (50, .iadd, 1), (51, .iaload, 1), (52, .ldc 103, 2), (54, .iload_n 2, 1), (55, .iload_n 3, 1), (56, .iadd, 1), (57, .invokevirtual 111, 3), (60, .if_icmp .ne 9, 3), (63, .iinc 3 1, 3), (66, .goto (-51), 3), (69, .ldc 103, 2), (71, .iload_n 2, 1), (72, .iload_n 3, 1), (73, .iadd, 1), (74, .invokevirtual 111, 3), (77, .bipush 32, 2), (79, .if_icmp .ne 18, 3), (82, .aload_n 0, 1), (83, .getfield 115, 3), (86, .iload_n 3, 1), (87, .iadd, 1), (88, .aload_n 0, 1), (89, .getfield 118, 3), (92, .if_icmp .ne 5, 3), (95, .iload_n 1, 1), (96, .ireturn, 1), (97, .ldc 103, 2), (99, .iload_n 2, 1), (100, .invokevirtual 111, 3), (103, .bipush 32, 2), (105, .if_icmp .eq 9, 3), (108, .iinc 2 1, 3), (111, .goto (-14), 3), (114, .iinc 2 1, 3), (117, .iinc 1 1, 3), (120, .goto (-116), 3), (123, .bipush 22, 2), (125, .ireturn, 1)]
theorem tk_m_keyAt : ∀ q ∈ tb_m_keyAt, decode M_m_keyAt.2.1 q.1 = .ok q.2 := by decide +kernel
theorem c_m_keyAt {G : ab_G} {S : ab_S} (hm : mSh S) {tp : Nat → Nat} (hT : rT S tp) {n : Nat} (hn : n ≤ 900) (hs : sI S 120 8 = nI n) (kc : kSh S.1) (q e : Nat) (hqe : q ≤ e) (he : e ≤ n) (hq : sI S 120 6 = nI q) (hb : sI S 120 7 = nI e) : ab_C G 4 M_m_keyAt [.ref 120] (sw S) (fun v w' => v = some (.int (nI (keyO tp q e))) ∧ w' = sw S) := by
  have h50 : 50 ≤ sn S := Nat.le_trans (by decide) hm.1
  have ht : 22 < 23 := by decide
  have hl22 : kLen 22 = 110 := by decide +kernel
  refine x_enter [some (.ref 120), none, none, none] (by decide) (Nat.le_of_ble_eq_true rfl) rfl (fun v w' h => by obtain ⟨rfl, rfl⟩ := h; rfl) ?_
  have whil : ∀ (m k : Nat), k + m = 21 → kyF tp q e m k = keyO tp q e → ab_Ex G 4 M_m_keyAt 4 [some (.ref 120), some (.int (nI k)), some (.int (nI (kyO k))), none] [] (sw S) (fun v w' => v = some (.int (nI (keyO tp q e))) ∧ w' = sw S) := by
    intro m
    induction m with
    | zero =>
      intro k hk hf
      obtain rfl : k = 21 := by omega
      have h21 : kyO 21 = 110 := by decide
      rw [← hf]
      refine x_iload_n 5 2 (ab_dd tk_m_keyAt 4 rfl) rfl rfl rfl ?_
      refine x_ldcS 7 22 (ab_dd tk_m_keyAt 5 rfl) rfl (by decide) (List.mem_of_getElem? (i := 22) rfl) ?_
      refine x_callT 10 M_jS_length 1 0 [] (ab_dd tk_m_keyAt 6 rfl) rfl (by decide) K_jS_length V_jS_length.1 V_jS_length.2 (ml_T L_m_105 rfl) rfl (Nat.le_of_ble_eq_true rfl) (by omega) (by rw [sw_old (by omega) h50, (kc.1 22 (by decide)).1]) rfl (c_jS_length kc h50 22 ht) (fun v1 w1 h1 => ?_)
      obtain ⟨rfl, rfl⟩ := h1
      rw [hl22]
      refine x_icmp_ge_t 123 (ab_dd tk_m_keyAt 7 rfl) (by decide) ((nI_leI (a := 110) (b := (kyO 21)) (by omega) (by omega)).mpr (show 110 ≤ (kyO 21) by omega)) ?_
      refine x_bipush 125 22 (ab_dd tk_m_keyAt 65 rfl) rfl (by decide) (x_topn 22 rfl ?_)
      exact x_iret (ab_dd tk_m_keyAt 66 rfl) ⟨rfl, rfl⟩
    | succ m ih =>
      intro k hk hf
      obtain ⟨o1, o2, o3, o4, o5, o6⟩ := ky_ok (show k < 21 by omega)
      have hkt := kLen_le (kyT k) (by omega)
      have hf2 : kyF tp q e (m + 1) k = if wEq tp (kyT k) q e = true then k else kyF tp q e m (k + 1) := rfl
      rw [hf2] at hf
      have skip : ¬ wEq tp (kyT k) q e = true → ∀ (x j : Nat), j + x = kLen (kyT k) → ∀ y, ab_Ex G 4 M_m_keyAt 97 [some (.ref 120), some (.int (nI k)), some (.int (nI (kyO k + j))), y] [] (sw S) (fun v w' => v = some (.int (nI (keyO tp q e))) ∧ w' = sw S) := by
        intro hne x
        rw [if_neg hne] at hf
        induction x with
        | zero =>
          intro j hj y
          obtain rfl : j = kLen (kyT k) := by omega
          refine x_forget 3 ?_
          refine x_ldcS 99 22 (ab_dd tk_m_keyAt 55 rfl) rfl (by decide) (List.mem_of_getElem? (i := 22) rfl) ?_
          refine x_iload_n 100 2 (ab_dd tk_m_keyAt 56 rfl) rfl rfl rfl ?_
          refine x_callT 103 M_jS_charAt 3 1 [_] (ab_dd tk_m_keyAt 57 rfl) rfl (by decide) K_jS_charAt V_jS_charAt.1 V_jS_charAt.2 (ml_T L_m_111 rfl) rfl (Nat.le_of_ble_eq_true rfl) (by omega) (by rw [sw_old (by omega) h50, (kc.1 22 (by decide)).1]) rfl (c_jS_charAt kc h50 22 ht (kyO k + kLen (kyT k)) (by rw [hl22]; omega)) (fun v1 w1 h1 => ?_)
          obtain ⟨rfl, rfl⟩ := h1
          refine x_bipush 105 32 (ab_dd tk_m_keyAt 58 rfl) rfl (by decide) (x_topn 32 rfl ?_)
          refine x_icmp_eq_t 114 (ab_dd tk_m_keyAt 59 rfl) (by decide) ((nI_eq (a := (kB 22 (kyO k + kLen (kyT k)))) (b := 32) (by omega) (by omega)).mpr (show (kB 22 (kyO k + kLen (kyT k))) = 32 by (rw [o5]))) ?_
          refine xn_iinc 117 2 (fun y => [some (.ref 120), some (.int (nI k)), some (.int y), none]) ((kyO k + kLen (kyT k)) + 1) (ab_dd tk_m_keyAt 62 rfl) rfl (by decide) rfl (fun _ => rfl) (iinc_p 1) ?_
          refine xn_iinc 120 1 (fun y => [some (.ref 120), some (.int y), some (.int (nI ((kyO k + kLen (kyT k)) + 1))), none]) (k + 1) (ab_dd tk_m_keyAt 63 rfl) rfl (by decide) rfl (fun _ => rfl) (iinc_p 1) ?_
          refine x_goto 4 (ab_dd tk_m_keyAt 64 rfl) (by decide) ?_
          rw [← o3]
          exact ih (k + 1) (by omega) hf
        | succ x ihx =>
          intro j hj y
          obtain ⟨-, z2⟩ := o6 j (by omega)
          have hbl := (kByt_ok ht (show kyO k + j < kLen 22 by rw [hl22]; omega)).2.1
          refine x_forget 3 ?_
          refine x_ldcS 99 22 (ab_dd tk_m_keyAt 55 rfl) rfl (by decide) (List.mem_of_getElem? (i := 22) rfl) ?_
          refine x_iload_n 100 2 (ab_dd tk_m_keyAt 56 rfl) rfl rfl rfl ?_
          refine x_callT 103 M_jS_charAt 3 1 [_] (ab_dd tk_m_keyAt 57 rfl) rfl (by decide) K_jS_charAt V_jS_charAt.1 V_jS_charAt.2 (ml_T L_m_111 rfl) rfl (Nat.le_of_ble_eq_true rfl) (by omega) (by rw [sw_old (by omega) h50, (kc.1 22 (by decide)).1]) rfl (c_jS_charAt kc h50 22 ht (kyO k + j) (by rw [hl22]; omega)) (fun v1 w1 h1 => ?_)
          obtain ⟨rfl, rfl⟩ := h1
          refine x_bipush 105 32 (ab_dd tk_m_keyAt 58 rfl) rfl (by decide) (x_topn 32 rfl ?_)
          refine x_icmp_eq_f 108 (ab_dd tk_m_keyAt 59 rfl) rfl 114 (by decide) (fun z => absurd ((nI_eq (a := (kB 22 (kyO k + j))) (b := 32) (by omega) (by omega)).mp z) (show ¬ ((kB 22 (kyO k + j)) = 32) by exact z2)) ?_
          refine xn_iinc 111 2 (fun y => [some (.ref 120), some (.int (nI k)), some (.int y), none]) ((kyO k + j) + 1) (ab_dd tk_m_keyAt 60 rfl) rfl (by decide) rfl (fun _ => rfl) (iinc_p 1) ?_
          refine x_goto 97 (ab_dd tk_m_keyAt 61 rfl) (by decide) ?_
          exact ihx (j + 1) (by omega) none
      have mat : ∀ (x j : Nat), j + x = kLen (kyT k) → (∀ i, i < j → tp (q + i) = kB (kyT k) i) → q + j ≤ e → ab_Ex G 4 M_m_keyAt 15 [some (.ref 120), some (.int (nI k)), some (.int (nI (kyO k))), some (.int (nI j))] [] (sw S) (fun v w' => v = some (.int (nI (keyO tp q e))) ∧ w' = sw S) := by
        intro x
        induction x with
        | zero =>
          intro j hj hpre hqj
          obtain rfl : j = kLen (kyT k) := by omega
          by_cases hee : e = q + kLen (kyT k)
          · refine x_ldcS 17 22 (ab_dd tk_m_keyAt 10 rfl) rfl (by decide) (List.mem_of_getElem? (i := 22) rfl) ?_
            refine x_iload_n 18 2 (ab_dd tk_m_keyAt 11 rfl) rfl rfl rfl ?_
            refine x_iload_n 19 3 (ab_dd tk_m_keyAt 12 rfl) rfl rfl rfl ?_
            refine x_iadd 20 (ab_dd tk_m_keyAt 13 rfl) rfl (x_topn ((kyO k) + (kLen (kyT k))) (nI_add _ _) ?_)
            refine x_callT 23 M_jS_charAt 3 1 [_] (ab_dd tk_m_keyAt 14 rfl) rfl (by decide) K_jS_charAt V_jS_charAt.1 V_jS_charAt.2 (ml_T L_m_111 rfl) rfl (Nat.le_of_ble_eq_true rfl) (by omega) (by rw [sw_old (by omega) h50, (kc.1 22 (by decide)).1]) rfl (c_jS_charAt kc h50 22 ht ((kyO k) + (kLen (kyT k))) (by rw [hl22]; omega)) (fun v1 w1 h1 => ?_)
            obtain ⟨rfl, rfl⟩ := h1
            refine x_bipush 25 32 (ab_dd tk_m_keyAt 15 rfl) rfl (by decide) (x_topn 32 rfl ?_)
            refine x_icmp_eq_t 69 (ab_dd tk_m_keyAt 16 rfl) (by decide) ((nI_eq (a := (kB 22 ((kyO k) + (kLen (kyT k))))) (b := 32) (by omega) (by omega)).mpr (show (kB 22 ((kyO k) + (kLen (kyT k)))) = 32 by (rw [o5]))) ?_
            refine x_ldcS 71 22 (ab_dd tk_m_keyAt 39 rfl) rfl (by decide) (List.mem_of_getElem? (i := 22) rfl) ?_
            refine x_iload_n 72 2 (ab_dd tk_m_keyAt 40 rfl) rfl rfl rfl ?_
            refine x_iload_n 73 3 (ab_dd tk_m_keyAt 41 rfl) rfl rfl rfl ?_
            refine x_iadd 74 (ab_dd tk_m_keyAt 42 rfl) rfl (x_topn ((kyO k) + (kLen (kyT k))) (nI_add _ _) ?_)
            refine x_callT 77 M_jS_charAt 3 1 [_] (ab_dd tk_m_keyAt 43 rfl) rfl (by decide) K_jS_charAt V_jS_charAt.1 V_jS_charAt.2 (ml_T L_m_111 rfl) rfl (Nat.le_of_ble_eq_true rfl) (by omega) (by rw [sw_old (by omega) h50, (kc.1 22 (by decide)).1]) rfl (c_jS_charAt kc h50 22 ht ((kyO k) + (kLen (kyT k))) (by rw [hl22]; omega)) (fun v1 w1 h1 => ?_)
            obtain ⟨rfl, rfl⟩ := h1
            refine x_bipush 79 32 (ab_dd tk_m_keyAt 44 rfl) rfl (by decide) (x_topn 32 rfl ?_)
            refine x_icmp_ne_f 82 (ab_dd tk_m_keyAt 45 rfl) rfl 97 (by decide) ((nI_eq (a := (kB 22 ((kyO k) + (kLen (kyT k))))) (b := 32) (by omega) (by omega)).mpr (show (kB 22 ((kyO k) + (kLen (kyT k)))) = 32 by (rw [o5]))) ?_
            refine x_aload_n 83 0 (ab_dd tk_m_keyAt 46 rfl) rfl rfl rfl ?_
            refine t_getI 86 (ab_dd tk_m_keyAt 47 rfl) rfl F_m_115 (by decide) (Nat.lt_of_lt_of_le (by decide) hm.1) (hm.2.1 0 (by decide)) rfl (x_topn q hq ?_)
            refine x_iload_n 87 3 (ab_dd tk_m_keyAt 48 rfl) rfl rfl rfl ?_
            refine x_iadd 88 (ab_dd tk_m_keyAt 49 rfl) rfl (x_topn (q + (kLen (kyT k))) (nI_add _ _) ?_)
            refine x_aload_n 89 0 (ab_dd tk_m_keyAt 50 rfl) rfl rfl rfl ?_
            refine t_getI 92 (ab_dd tk_m_keyAt 51 rfl) rfl F_m_118 (by decide) (Nat.lt_of_lt_of_le (by decide) hm.1) (hm.2.1 0 (by decide)) rfl (x_topn e hb ?_)
            refine x_icmp_ne_f 95 (ab_dd tk_m_keyAt 52 rfl) rfl 97 (by decide) ((nI_eq (a := (q + (kLen (kyT k)))) (b := e) (by omega) (by omega)).mpr (show (q + (kLen (kyT k))) = e by omega)) ?_
            refine x_iload_n 96 1 (ab_dd tk_m_keyAt 53 rfl) rfl rfl rfl ?_
            exact x_iret (ab_dd tk_m_keyAt 54 rfl) ⟨rI (congrArg nI (by rw [← hf, if_pos (wEq_iff.mpr ⟨hee, hpre⟩)])), rfl⟩
          · refine x_ldcS 17 22 (ab_dd tk_m_keyAt 10 rfl) rfl (by decide) (List.mem_of_getElem? (i := 22) rfl) ?_
            refine x_iload_n 18 2 (ab_dd tk_m_keyAt 11 rfl) rfl rfl rfl ?_
            refine x_iload_n 19 3 (ab_dd tk_m_keyAt 12 rfl) rfl rfl rfl ?_
            refine x_iadd 20 (ab_dd tk_m_keyAt 13 rfl) rfl (x_topn ((kyO k) + (kLen (kyT k))) (nI_add _ _) ?_)
            refine x_callT 23 M_jS_charAt 3 1 [_] (ab_dd tk_m_keyAt 14 rfl) rfl (by decide) K_jS_charAt V_jS_charAt.1 V_jS_charAt.2 (ml_T L_m_111 rfl) rfl (Nat.le_of_ble_eq_true rfl) (by omega) (by rw [sw_old (by omega) h50, (kc.1 22 (by decide)).1]) rfl (c_jS_charAt kc h50 22 ht ((kyO k) + (kLen (kyT k))) (by rw [hl22]; omega)) (fun v1 w1 h1 => ?_)
            obtain ⟨rfl, rfl⟩ := h1
            refine x_bipush 25 32 (ab_dd tk_m_keyAt 15 rfl) rfl (by decide) (x_topn 32 rfl ?_)
            refine x_icmp_eq_t 69 (ab_dd tk_m_keyAt 16 rfl) (by decide) ((nI_eq (a := (kB 22 ((kyO k) + (kLen (kyT k))))) (b := 32) (by omega) (by omega)).mpr (show (kB 22 ((kyO k) + (kLen (kyT k)))) = 32 by (rw [o5]))) ?_
            refine x_ldcS 71 22 (ab_dd tk_m_keyAt 39 rfl) rfl (by decide) (List.mem_of_getElem? (i := 22) rfl) ?_
            refine x_iload_n 72 2 (ab_dd tk_m_keyAt 40 rfl) rfl rfl rfl ?_
            refine x_iload_n 73 3 (ab_dd tk_m_keyAt 41 rfl) rfl rfl rfl ?_
            refine x_iadd 74 (ab_dd tk_m_keyAt 42 rfl) rfl (x_topn ((kyO k) + (kLen (kyT k))) (nI_add _ _) ?_)
            refine x_callT 77 M_jS_charAt 3 1 [_] (ab_dd tk_m_keyAt 43 rfl) rfl (by decide) K_jS_charAt V_jS_charAt.1 V_jS_charAt.2 (ml_T L_m_111 rfl) rfl (Nat.le_of_ble_eq_true rfl) (by omega) (by rw [sw_old (by omega) h50, (kc.1 22 (by decide)).1]) rfl (c_jS_charAt kc h50 22 ht ((kyO k) + (kLen (kyT k))) (by rw [hl22]; omega)) (fun v1 w1 h1 => ?_)
            obtain ⟨rfl, rfl⟩ := h1
            refine x_bipush 79 32 (ab_dd tk_m_keyAt 44 rfl) rfl (by decide) (x_topn 32 rfl ?_)
            refine x_icmp_ne_f 82 (ab_dd tk_m_keyAt 45 rfl) rfl 97 (by decide) ((nI_eq (a := (kB 22 ((kyO k) + (kLen (kyT k))))) (b := 32) (by omega) (by omega)).mpr (show (kB 22 ((kyO k) + (kLen (kyT k)))) = 32 by (rw [o5]))) ?_
            refine x_aload_n 83 0 (ab_dd tk_m_keyAt 46 rfl) rfl rfl rfl ?_
            refine t_getI 86 (ab_dd tk_m_keyAt 47 rfl) rfl F_m_115 (by decide) (Nat.lt_of_lt_of_le (by decide) hm.1) (hm.2.1 0 (by decide)) rfl (x_topn q hq ?_)
            refine x_iload_n 87 3 (ab_dd tk_m_keyAt 48 rfl) rfl rfl rfl ?_
            refine x_iadd 88 (ab_dd tk_m_keyAt 49 rfl) rfl (x_topn (q + (kLen (kyT k))) (nI_add _ _) ?_)
            refine x_aload_n 89 0 (ab_dd tk_m_keyAt 50 rfl) rfl rfl rfl ?_
            refine t_getI 92 (ab_dd tk_m_keyAt 51 rfl) rfl F_m_118 (by decide) (Nat.lt_of_lt_of_le (by decide) hm.1) (hm.2.1 0 (by decide)) rfl (x_topn e hb ?_)
            refine x_icmp_ne_t 97 (ab_dd tk_m_keyAt 52 rfl) (by decide) (fun z => absurd ((nI_eq (a := (q + (kLen (kyT k)))) (b := e) (by omega) (by omega)).mp z) (show ¬ ((q + (kLen (kyT k))) = e) by omega)) ?_
            exact skip (fun z => hee (wEq_iff.mp z).1) (kLen (kyT k)) 0 (by omega) _
        | succ x ihx =>
          intro j hj hpre hqj
          have hjl : j < kLen (kyT k) := by omega
          obtain ⟨z1, z2⟩ := o6 j hjl
          have hbl := (kByt_ok ht (show kyO k + j < kLen 22 by rw [hl22]; omega)).2.1
          refine x_ldcS 17 22 (ab_dd tk_m_keyAt 10 rfl) rfl (by decide) (List.mem_of_getElem? (i := 22) rfl) ?_
          refine x_iload_n 18 2 (ab_dd tk_m_keyAt 11 rfl) rfl rfl rfl ?_
          refine x_iload_n 19 3 (ab_dd tk_m_keyAt 12 rfl) rfl rfl rfl ?_
          refine x_iadd 20 (ab_dd tk_m_keyAt 13 rfl) rfl (x_topn ((kyO k) + j) (nI_add _ _) ?_)
          refine x_callT 23 M_jS_charAt 3 1 [_] (ab_dd tk_m_keyAt 14 rfl) rfl (by decide) K_jS_charAt V_jS_charAt.1 V_jS_charAt.2 (ml_T L_m_111 rfl) rfl (Nat.le_of_ble_eq_true rfl) (by omega) (by rw [sw_old (by omega) h50, (kc.1 22 (by decide)).1]) rfl (c_jS_charAt kc h50 22 ht ((kyO k) + j) (by rw [hl22]; omega)) (fun v1 w1 h1 => ?_)
          obtain ⟨rfl, rfl⟩ := h1
          refine x_bipush 25 32 (ab_dd tk_m_keyAt 15 rfl) rfl (by decide) (x_topn 32 rfl ?_)
          refine x_icmp_eq_f 28 (ab_dd tk_m_keyAt 16 rfl) rfl 69 (by decide) (fun z => absurd ((nI_eq (a := (kB 22 ((kyO k) + j))) (b := 32) (by omega) (by omega)).mp z) (show ¬ ((kB 22 ((kyO k) + j)) = 32) by exact z2)) ?_
          refine x_aload_n 29 0 (ab_dd tk_m_keyAt 17 rfl) rfl rfl rfl ?_
          refine t_getI 32 (ab_dd tk_m_keyAt 18 rfl) rfl F_m_115 (by decide) (Nat.lt_of_lt_of_le (by decide) hm.1) (hm.2.1 0 (by decide)) rfl (x_topn q hq ?_)
          refine x_iload_n 33 3 (ab_dd tk_m_keyAt 19 rfl) rfl rfl rfl ?_
          refine x_iadd 34 (ab_dd tk_m_keyAt 20 rfl) rfl (x_topn (q + j) (nI_add _ _) ?_)
          refine x_aload_n 35 0 (ab_dd tk_m_keyAt 21 rfl) rfl rfl rfl ?_
          refine t_getI 38 (ab_dd tk_m_keyAt 22 rfl) rfl F_m_118 (by decide) (Nat.lt_of_lt_of_le (by decide) hm.1) (hm.2.1 0 (by decide)) rfl (x_topn e hb ?_)
          refine xn_icmp_ge 41 69 (ab_dd tk_m_keyAt 23 rfl) rfl (by decide) (by omega) (by omega) (fun h38 => ?_) (fun h38 => ?_)
          · refine x_ldcS 71 22 (ab_dd tk_m_keyAt 39 rfl) rfl (by decide) (List.mem_of_getElem? (i := 22) rfl) ?_
            refine x_iload_n 72 2 (ab_dd tk_m_keyAt 40 rfl) rfl rfl rfl ?_
            refine x_iload_n 73 3 (ab_dd tk_m_keyAt 41 rfl) rfl rfl rfl ?_
            refine x_iadd 74 (ab_dd tk_m_keyAt 42 rfl) rfl (x_topn ((kyO k) + j) (nI_add _ _) ?_)
            refine x_callT 77 M_jS_charAt 3 1 [_] (ab_dd tk_m_keyAt 43 rfl) rfl (by decide) K_jS_charAt V_jS_charAt.1 V_jS_charAt.2 (ml_T L_m_111 rfl) rfl (Nat.le_of_ble_eq_true rfl) (by omega) (by rw [sw_old (by omega) h50, (kc.1 22 (by decide)).1]) rfl (c_jS_charAt kc h50 22 ht ((kyO k) + j) (by rw [hl22]; omega)) (fun v1 w1 h1 => ?_)
            obtain ⟨rfl, rfl⟩ := h1
            refine x_bipush 79 32 (ab_dd tk_m_keyAt 44 rfl) rfl (by decide) (x_topn 32 rfl ?_)
            refine x_icmp_ne_t 97 (ab_dd tk_m_keyAt 45 rfl) (by decide) (fun z => absurd ((nI_eq (a := (kB 22 ((kyO k) + j))) (b := 32) (by omega) (by omega)).mp z) (show ¬ ((kB 22 ((kyO k) + j)) = 32) by exact z2)) ?_
            exact skip (fun z => by have := (wEq_iff.mp z).1; omega) (kLen (kyT k)) 0 (by omega) _
          · have htj := hT (q + j) (by omega)
            have htj2 := htj.2
            refine x_aload_n 42 0 (ab_dd tk_m_keyAt 24 rfl) rfl rfl rfl ?_
            refine t_getP 45 123 (ab_dd tk_m_keyAt 25 rfl) rfl F_m_21 (by decide) (Nat.lt_of_lt_of_le (by decide) hm.1) (hm.2.1 0 (by decide)) rfl (hm.2.2 3 (by decide)) ?_
            refine x_aload_n 46 0 (ab_dd tk_m_keyAt 26 rfl) rfl rfl rfl ?_
            refine t_getI 49 (ab_dd tk_m_keyAt 27 rfl) rfl F_m_115 (by decide) (Nat.lt_of_lt_of_le (by decide) hm.1) (hm.2.1 0 (by decide)) rfl (x_topn q hq ?_)
            refine x_iload_n 50 3 (ab_dd tk_m_keyAt 28 rfl) rfl rfl rfl ?_
            refine x_iadd 51 (ab_dd tk_m_keyAt 29 rfl) rfl (x_topn (q + j) (nI_add _ _) ?_)
            refine t_iald 52 (q + j) (ab_dd tk_m_keyAt 30 rfl) rfl (by decide) (Nat.lt_of_lt_of_le (by decide) hm.1) (hm.2.1 3 (by decide)) rfl (by omega) (by decide) (x_topn (tp (q + j)) htj.1 ?_)
            refine x_ldcS 54 22 (ab_dd tk_m_keyAt 31 rfl) rfl (by decide) (List.mem_of_getElem? (i := 22) rfl) ?_
            refine x_iload_n 55 2 (ab_dd tk_m_keyAt 32 rfl) rfl rfl rfl ?_
            refine x_iload_n 56 3 (ab_dd tk_m_keyAt 33 rfl) rfl rfl rfl ?_
            refine x_iadd 57 (ab_dd tk_m_keyAt 34 rfl) rfl (x_topn ((kyO k) + j) (nI_add _ _) ?_)
            refine x_callT 60 M_jS_charAt 3 1 [_] (ab_dd tk_m_keyAt 35 rfl) rfl (by decide) K_jS_charAt V_jS_charAt.1 V_jS_charAt.2 (ml_T L_m_111 rfl) rfl (Nat.le_of_ble_eq_true rfl) (by omega) (by rw [sw_old (by omega) h50, (kc.1 22 (by decide)).1]) rfl (c_jS_charAt kc h50 22 ht ((kyO k) + j) (by rw [hl22]; omega)) (fun v1 w1 h1 => ?_)
            obtain ⟨rfl, rfl⟩ := h1
            refine xn_icmp_ne 63 69 (ab_dd tk_m_keyAt 36 rfl) rfl (by decide) (by omega) (by omega) (fun h60 => ?_) (fun h60 => ?_)
            · refine x_ldcS 71 22 (ab_dd tk_m_keyAt 39 rfl) rfl (by decide) (List.mem_of_getElem? (i := 22) rfl) ?_
              refine x_iload_n 72 2 (ab_dd tk_m_keyAt 40 rfl) rfl rfl rfl ?_
              refine x_iload_n 73 3 (ab_dd tk_m_keyAt 41 rfl) rfl rfl rfl ?_
              refine x_iadd 74 (ab_dd tk_m_keyAt 42 rfl) rfl (x_topn ((kyO k) + j) (nI_add _ _) ?_)
              refine x_callT 77 M_jS_charAt 3 1 [_] (ab_dd tk_m_keyAt 43 rfl) rfl (by decide) K_jS_charAt V_jS_charAt.1 V_jS_charAt.2 (ml_T L_m_111 rfl) rfl (Nat.le_of_ble_eq_true rfl) (by omega) (by rw [sw_old (by omega) h50, (kc.1 22 (by decide)).1]) rfl (c_jS_charAt kc h50 22 ht ((kyO k) + j) (by rw [hl22]; omega)) (fun v1 w1 h1 => ?_)
              obtain ⟨rfl, rfl⟩ := h1
              refine x_bipush 79 32 (ab_dd tk_m_keyAt 44 rfl) rfl (by decide) (x_topn 32 rfl ?_)
              refine x_icmp_ne_t 97 (ab_dd tk_m_keyAt 45 rfl) (by decide) (fun z => absurd ((nI_eq (a := (kB 22 ((kyO k) + j))) (b := 32) (by omega) (by omega)).mp z) (show ¬ ((kB 22 ((kyO k) + j)) = 32) by exact z2)) ?_
              exact skip (fun z => h60 (((wEq_iff.mp z).2 j hjl).trans z1.symm)) (kLen (kyT k)) 0 (by omega) _
            · refine xn_iinc 66 3 (fun y => [some (.ref 120), some (.int (nI k)), some (.int (nI (kyO k))), some (.int y)]) (j + 1) (ab_dd tk_m_keyAt 37 rfl) rfl (by decide) rfl (fun _ => rfl) (iinc_p 1) ?_
              refine x_goto 15 (ab_dd tk_m_keyAt 38 rfl) (by decide) ?_
              exact ihx (j + 1) (by omega) (fun i hi => by by_cases g : i = j; (· rw [g, ← z1]; exact h60); (· exact hpre i (by omega))) (by omega)
      refine x_iload_n 5 2 (ab_dd tk_m_keyAt 4 rfl) rfl rfl rfl ?_
      refine x_ldcS 7 22 (ab_dd tk_m_keyAt 5 rfl) rfl (by decide) (List.mem_of_getElem? (i := 22) rfl) ?_
      refine x_callT 10 M_jS_length 1 0 [] (ab_dd tk_m_keyAt 6 rfl) rfl (by decide) K_jS_length V_jS_length.1 V_jS_length.2 (ml_T L_m_105 rfl) rfl (Nat.le_of_ble_eq_true rfl) (by omega) (by rw [sw_old (by omega) h50, (kc.1 22 (by decide)).1]) rfl (c_jS_length kc h50 22 ht) (fun v1 w1 h1 => ?_)
      obtain ⟨rfl, rfl⟩ := h1
      rw [hl22]
      refine x_icmp_ge_f 13 (ab_dd tk_m_keyAt 7 rfl) rfl 123 (by decide) (fun z => absurd ((nI_leI (a := 110) (b := (kyO k)) (by omega) (by omega)).mp z) (show ¬ (110 ≤ (kyO k)) by omega)) ?_
      refine x_iconst 14 0 (ab_dd tk_m_keyAt 8 rfl) rfl (by decide) (x_topn 0 rfl ?_)
      refine x_istore_n 15 [some (.ref 120), some (.int (nI k)), some (.int (nI (kyO k))), some (.int (nI 0))] 3 (ab_dd tk_m_keyAt 9 rfl) rfl rfl (by decide) rfl ?_
      exact mat (kLen (kyT k)) 0 (by omega) (fun i hi => absurd hi (by omega)) (by omega)
  refine x_iconst 1 0 (ab_dd tk_m_keyAt 0 rfl) rfl (by decide) (x_topn 0 rfl ?_)
  refine x_istore_n 2 [some (.ref 120), some (.int (nI 0)), none, none] 1 (ab_dd tk_m_keyAt 1 rfl) rfl rfl (by decide) rfl ?_
  refine x_iconst 3 1 (ab_dd tk_m_keyAt 2 rfl) rfl (by decide) (x_topn 1 rfl ?_)
  refine x_istore_n 4 [some (.ref 120), some (.int (nI 0)), some (.int (nI 1)), none] 2 (ab_dd tk_m_keyAt 3 rfl) rfl rfl (by decide) rfl ?_
  exact whil 21 0 (by omega) rfl
