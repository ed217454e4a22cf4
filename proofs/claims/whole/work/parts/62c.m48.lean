/-- the lowest byte of an int -/
def lB8 (x : Int32) : Nat := x.toBitVec.toNat % 256
theorem lB8_lt (x : Int32) : lB8 x < 256 := Nat.mod_lt _ (by decide)
theorem lB8_and (x : Int32) : x &&& 255 = nI (lB8 x) := by
  apply Int32.toBitVec_inj.mp
  apply BitVec.eq_of_toNat_eq
  rw [pk_tn (by have := lB8_lt x; omega), Int32.toBitVec_and, BitVec.toNat_and]
  exact Nat.and_two_pow_sub_one_eq_mod _ 8
/-- a byte, as a byte array has it -/
def sB (n : Nat) : Int32 := (nI n).toInt8.toInt32
theorem sB_all : (List.range 256).all (fun n => decide (sB n &&& 255 = nI n) && ((List.range 128).all (fun c => decide (sB n = nI c) == decide (n = c))) && (decide (128 ≤ n) || decide (sB n = nI n))) = true := by decide +kernel
theorem sB_ok {n : Nat} (h : n < 256) : sB n &&& 255 = nI n ∧ (∀ c, c < 128 → (sB n = nI c ↔ n = c)) ∧ (n < 128 → sB n = nI n) := by
  have h0 := sB_all
  rw [List.all_eq_true] at h0
  have h1 := h0 n (List.mem_range.mpr h)
  rw [Bool.and_eq_true, Bool.and_eq_true, List.all_eq_true] at h1
  refine ⟨of_decide_eq_true h1.1.1, fun c hc => ?_, fun hn => ?_⟩
  · have h2 := beq_iff_eq.mp (h1.1.2 c (List.mem_range.mpr hc))
    rw [decide_eq_decide] at h2
    exact h2
  · have h2 := h1.2
    rw [Bool.or_eq_true, decide_eq_true_iff, decide_eq_true_iff] at h2
    rcases h2 with h2 | h2
    · omega
    · exact h2
theorem sB_of (x : Int32) : x.toInt8.toInt32 = sB (lB8 x) := by
  unfold sB
  rw [← lB8_and]
  congr 1
  apply Int8.toBitVec_inj.mp
  apply BitVec.eq_of_toNat_eq
  show (x.toBitVec.signExtend 8).toNat = ((x &&& 255).toBitVec.signExtend 8).toNat
  rw [BitVec.signExtend_eq_setWidth_of_le _ (by decide), BitVec.signExtend_eq_setWidth_of_le _ (by decide), BitVec.toNat_setWidth, BitVec.toNat_setWidth, Int32.toBitVec_and, BitVec.toNat_and]
  show _ = (x.toBitVec.toNat &&& (2 ^ 8 - 1)) % 2 ^ 8
  rw [Nat.and_two_pow_sub_one_eq_mod, Nat.mod_mod]
/-- the j-th byte of an int, the highest first -/
def bO (x : Int32) (j : Nat) : Nat := lB8 (x >>> (nI (24 - 8 * j) &&& 31))
/-- the k-th byte of five ints -/
def fdN (a b c d e : Int32) (k : Nat) : Nat := bO (if k < 4 then a else if k < 8 then b else if k < 12 then c else if k < 16 then d else e) (k % 4)
def fdT (tp : Nat → Nat) (t : Nat) (a b c d e : Int32) : Nat → Nat := fun i => if t ≤ i ∧ i < t + 20 then fdN a b c d e (i - t) else tp i
def tb_m_feed : List (Nat × Instr × Nat) := [(0, .aload_n 0, 1), (1, .iconst 0, 1), (2, .putfield 1, 3), (5, .aload_n 0, 1), (6, .getfield 97, 3), (9, .bipush 20, 2), (11, .iadd, 1), (12, .sipush 900, 3), (15, .if_icmp .le 6, 3), (18, .bipush (-5), 2), (20, .ireturn, 1), (21, .iconst 0, 1), (22, .istore 6, 2), (24, .iload 6, 2), (26, .bipush 20, 2), (28, .if_icmp .ge 93, 3), (31, .iload 6, 2), (33, .iconst 4, 1), (34, .if_icmp .ge 7, 3), (37, .iload_n 1, 1), (38, .goto 39, 3), (41, .iload 6, 2), (43, .bipush 8, 2), (45, .if_icmp .ge 7, 3), (48, .iload_n 2, 1), (49, .goto 28, 3), (52, .iload 6, 2), (54, .bipush 12, 2), (56, .if_icmp .ge 7, 3), (59, .iload_n 3, 1), (60, .goto 17, 3), (63, .iload 6, 2), (65, .bipush 16, 2), (67, .if_icmp .ge 8, 3), (70, .iload 4, 2), (72, .goto 5, 3), (75, .iload 5, 2), (77, .istore 7, 2), (79, .aload_n 0, 1), (80, .getfield 21, 3), (83, .aload_n 0, 1), (84, .getfield 97, 3), (87, .iload 7, 2), (89, .bipush 24, 2), (91, .bipush 8, 2), (93, .iload 6, 2), (95, .iconst 4, 1), (96, .irem, 1), (97, .imul, 1), (98, .isub, 1), (99, .ishr, 1), (100, .sipush 255, 3), (103, .iand, 1), (104, .iastore, 1), (105, .aload_n 0, 1), (106, .dup, 1), (107, .getfield 97, 3), (110, .iconst 1, 1), (111, .iadd, 1), (112, .putfield 97, 3), (115, .iinc 6 1, 3), (118, .goto (-94), 3), (121, .aload_n 0, 1), (122, .getfield 97, 3), (125, .ireturn, 1)]
theorem tk_m_feed : ∀ q ∈ tb_m_feed, decode M_m_feed.2.1 q.1 = .ok q.2 := by decide +kernel
theorem c_m_feedN {G : ab_G} {S : ab_S} (hm : mSh S) {t : Nat} (ht9 : t ≤ 900) (h5 : sI S 120 5 = nI t) (a b c dd e : Int32) (hf : 880 < t) : ab_C G 0 M_m_feed [.ref 120, .int a, .int b, .int c, .int dd, .int e] (sw S) (fun v w' => v = some (.int (-5)) ∧ w' = sw (m0 S)) := by
  refine x_enter [some (.ref 120), some (.int a), some (.int b), some (.int c), some (.int dd), some (.int e), none, none] (by decide) (Nat.le_of_ble_eq_true rfl) rfl (fun v w' h => by obtain ⟨rfl, rfl⟩ := h; rfl) ?_
  refine x_aload_n 1 0 (ab_dd tk_m_feed 0 rfl) rfl rfl rfl ?_
  refine x_iconst 2 0 (ab_dd tk_m_feed 1 rfl) rfl (by decide) (x_topn 0 rfl ?_)
  refine t_putI 5 (ab_dd tk_m_feed 2 rfl) rfl F_m_1 (by decide) (Nat.lt_of_lt_of_le (by decide) hm.1) (hm.2.1 0 (by decide)) rfl rfl rfl ?_
  refine x_aload_n 6 0 (ab_dd tk_m_feed 3 rfl) rfl rfl rfl ?_
  refine t_getI 9 (ab_dd tk_m_feed 4 rfl) rfl F_m_97 (by decide) (Nat.lt_of_lt_of_le (by decide) hm.1) (hm.2.1 0 (by decide)) rfl (x_topn t ((gI_k (by decide)).trans h5) ?_)
  refine x_bipush 11 20 (ab_dd tk_m_feed 5 rfl) rfl (by decide) (x_topn 20 rfl ?_)
  refine x_iadd 12 (ab_dd tk_m_feed 6 rfl) rfl (x_topn (t + 20) (nI_add _ _) ?_)
  refine x_sipush 15 900 (ab_dd tk_m_feed 7 rfl) rfl (by decide) (x_topn 900 rfl ?_)
  refine x_icmp_le_f 18 (ab_dd tk_m_feed 8 rfl) rfl 21 (by decide) (fun z => absurd ((nI_leI (a := (t + 20)) (b := 900) (by omega) (by omega)).mp z) (show ¬ ((t + 20) ≤ 900) by omega)) ?_
  refine x_bipush 20 (-5) (ab_dd tk_m_feed 9 rfl) rfl (by decide) ?_
  exact x_iret (ab_dd tk_m_feed 10 rfl) ⟨rfl, rfl⟩
theorem c_m_feed {G : ab_G} {S : ab_S} (hm : mSh S) {t : Nat} (ht9 : t ≤ 900) (h5 : sI S 120 5 = nI t) (a b c dd e : Int32) {tp : Nat → Nat} (hT : rT S tp) (hf : t ≤ 880) : ab_C G 0 M_m_feed [.ref 120, .int a, .int b, .int c, .int dd, .int e] (sw S) (fun v w' => v = some (.int (nI (t + 20))) ∧ ∃ S', w' = sw S' ∧ mSh S' ∧ sEq [120, 123] S S' ∧ rT S' (fdT tp t a b c dd e) ∧ sI S' 120 5 = nI (t + 20) ∧ sI S' 120 13 = sI S 120 13 ∧ sI S' 120 14 = sI S 120 14) := by
  refine x_enter [some (.ref 120), some (.int a), some (.int b), some (.int c), some (.int dd), some (.int e), none, none] (by decide) (Nat.le_of_ble_eq_true rfl) rfl (fun v w' h => by obtain ⟨rfl, -⟩ := h; rfl) ?_
  have lp : ∀ (m k : Nat), k + m = 20 → ∀ (S1 : ab_S) (y : Option Value), sEq [120, 123] S S1 → sI S1 120 5 = nI (t + k) → sI S1 120 13 = sI S 120 13 → sI S1 120 14 = sI S 120 14 → (∀ i, sI S1 123 i = if t ≤ i ∧ i < t + k then nI (fdN a b c dd e (i - t)) else sI S 123 i) → ab_Ex G 0 M_m_feed 24 [some (.ref 120), some (.int a), some (.int b), some (.int c), some (.int dd), some (.int e), some (.int (nI k)), y] [] (sw S1) (fun v w' => v = some (.int (nI (t + 20))) ∧ ∃ S', w' = sw S' ∧ mSh S' ∧ sEq [120, 123] S S' ∧ rT S' (fdT tp t a b c dd e) ∧ sI S' 120 5 = nI (t + 20) ∧ sI S' 120 13 = sI S 120 13 ∧ sI S' 120 14 = sI S 120 14) := by
    intro m
    induction m with
    | zero =>
      intro k hk S1 y hE hv5 hv13 hv14 hV
      obtain rfl : k = 20 := by omega
      have hm1 : mSh S1 := hm.eq hE
      refine x_forget 7 ?_
      refine x_iload 26 6 (ab_dd tk_m_feed 13 rfl) rfl rfl ?_
      refine x_bipush 28 20 (ab_dd tk_m_feed 14 rfl) rfl (by decide) (x_topn 20 rfl ?_)
      refine x_icmp_ge_t 121 (ab_dd tk_m_feed 15 rfl) (by decide) ((nI_leI (a := 20) (b := 20) (by omega) (by omega)).mpr (show 20 ≤ 20 by omega)) ?_
      refine x_aload_n 122 0 (ab_dd tk_m_feed 62 rfl) rfl rfl rfl ?_
      refine t_getI 125 (ab_dd tk_m_feed 63 rfl) rfl F_m_97 (by decide) (Nat.lt_of_lt_of_le (by decide) hm1.1) (hm1.2.1 0 (by decide)) rfl (x_topn (t + 20) hv5 ?_)
      exact x_iret (ab_dd tk_m_feed 64 rfl) ⟨rfl, _, rfl, hm1, hE, fun i hi => (show sI S1 123 i = nI (fdT tp t a b c dd e i) ∧ fdT tp t a b c dd e i < 256 by
              unfold fdT
              rw [hV i]
              split
              · exact ⟨rfl, lB8_lt _⟩
              · exact hT i hi), hv5, hv13, hv14⟩
    | succ m ih =>
      intro k hk S1 y hE hv5 hv13 hv14 hV
      have hm1 : mSh S1 := hm.eq hE
      refine x_forget 7 ?_
      have hk4 : k % 4 < 4 := Nat.mod_lt _ (by decide)
      have tl : ∀ v : Int32, bO v (k % 4) = fdN a b c dd e k → ab_Ex G 0 M_m_feed 79 [some (.ref 120), some (.int a), some (.int b), some (.int c), some (.int dd), some (.int e), some (.int (nI k)), some (.int v)] [] (sw S1) (fun v w' => v = some (.int (nI (t + 20))) ∧ ∃ S', w' = sw S' ∧ mSh S' ∧ sEq [120, 123] S S' ∧ rT S' (fdT tp t a b c dd e) ∧ sI S' 120 5 = nI (t + 20) ∧ sI S' 120 13 = sI S 120 13 ∧ sI S' 120 14 = sI S 120 14) := by
        intro v hv
        refine x_aload_n 80 0 (ab_dd tk_m_feed 38 rfl) rfl rfl rfl ?_
        refine t_getP 83 123 (ab_dd tk_m_feed 39 rfl) rfl F_m_21 (by decide) (Nat.lt_of_lt_of_le (by decide) hm1.1) (hm1.2.1 0 (by decide)) rfl (hm1.2.2 3 (by decide)) ?_
        refine x_aload_n 84 0 (ab_dd tk_m_feed 40 rfl) rfl rfl rfl ?_
        refine t_getI 87 (ab_dd tk_m_feed 41 rfl) rfl F_m_97 (by decide) (Nat.lt_of_lt_of_le (by decide) hm1.1) (hm1.2.1 0 (by decide)) rfl (x_topn (t + k) hv5 ?_)
        refine x_iload 89 7 (ab_dd tk_m_feed 42 rfl) rfl rfl ?_
        refine x_bipush 91 24 (ab_dd tk_m_feed 43 rfl) rfl (by decide) (x_topn 24 rfl ?_)
        refine x_bipush 93 8 (ab_dd tk_m_feed 44 rfl) rfl (by decide) (x_topn 8 rfl ?_)
        refine x_iload 95 6 (ab_dd tk_m_feed 45 rfl) rfl rfl ?_
        refine x_iconst 96 4 (ab_dd tk_m_feed 46 rfl) rfl (by decide) (x_topn 4 rfl ?_)
        refine x_irem 97 (ab_dd tk_m_feed 47 rfl) rfl (by decide) (x_topn (k % 4) (pk_rem (by omega) (by omega) (by omega)) ?_)
        refine x_imul 98 (ab_dd tk_m_feed 48 rfl) rfl (x_topn (8 * (k % 4)) (pk_mul _ _) ?_)
        refine x_isub 99 (ab_dd tk_m_feed 49 rfl) rfl (x_topn (24 - (8 * (k % 4))) (pk_sub (by omega)) ?_)
        refine x_ishr 100 (ab_dd tk_m_feed 50 rfl) rfl ?_
        refine x_sipush 103 255 (ab_dd tk_m_feed 51 rfl) rfl (by decide) (x_topn 255 rfl ?_)
        refine x_iand 104 (ab_dd tk_m_feed 52 rfl) rfl (x_topn (fdN a b c dd e k) (by rw [← hv]; exact lB8_and _) ?_)
        refine t_iast 105 (t + k) (ab_dd tk_m_feed 53 rfl) rfl (by decide) (Nat.lt_of_lt_of_le (by decide) hm1.1) (hm1.2.1 3 (by decide)) rfl (by omega) (by decide) ?_
        refine x_aload_n 106 0 (ab_dd tk_m_feed 54 rfl) rfl rfl rfl ?_
        refine x_dup 107 (ab_dd tk_m_feed 55 rfl) rfl rfl ?_
        refine t_getI 110 (ab_dd tk_m_feed 56 rfl) rfl F_m_97 (by decide) (Nat.lt_of_lt_of_le (by decide) hm1.1) (hm1.2.1 0 (by decide)) rfl (x_topn (t + k) ((gI_a (by decide)).trans hv5) ?_)
        refine x_iconst 111 1 (ab_dd tk_m_feed 57 rfl) rfl (by decide) (x_topn 1 rfl ?_)
        refine x_iadd 112 (ab_dd tk_m_feed 58 rfl) rfl (x_topn ((t + k) + 1) (nI_add _ _) ?_)
        refine t_putI 115 (ab_dd tk_m_feed 59 rfl) rfl F_m_97 (by decide) (Nat.lt_of_lt_of_le (by decide) hm1.1) (hm1.2.1 0 (by decide)) rfl rfl rfl ?_
        refine xn_iinc 118 6 (fun y => [some (.ref 120), some (.int a), some (.int b), some (.int c), some (.int dd), some (.int e), some (.int y), some (.int v)]) (k + 1) (ab_dd tk_m_feed 60 rfl) rfl (by decide) rfl (fun _ => rfl) (iinc_p 1) ?_
        refine x_goto 24 (ab_dd tk_m_feed 61 rfl) (by decide) ?_
        refine ih (k + 1) (by omega) _ _ ((hE.pI (by decide)).pI (by decide)) gI_s ((gI_k (by decide)).trans ((gI_a (by decide)).trans hv13)) ((gI_k (by decide)).trans ((gI_a (by decide)).trans hv14)) (fun i => ?_)
        rw [gI_o (by decide)]
        by_cases hi : i = t + k
        · rw [hi, if_pos (by omega), show t + k - t = k by omega]; exact gI_s
        · rw [gI_k hi, hV i]
          by_cases h1 : t ≤ i ∧ i < t + k
          · rw [if_pos h1, if_pos (by omega)]
          · rw [if_neg h1, if_neg (by omega)]
      refine x_iload 26 6 (ab_dd tk_m_feed 13 rfl) rfl rfl ?_
      refine x_bipush 28 20 (ab_dd tk_m_feed 14 rfl) rfl (by decide) (x_topn 20 rfl ?_)
      refine x_icmp_ge_f 31 (ab_dd tk_m_feed 15 rfl) rfl 121 (by decide) (fun z => absurd ((nI_leI (a := 20) (b := k) (by omega) (by omega)).mp z) (show ¬ (20 ≤ k) by omega)) ?_
      refine x_iload 33 6 (ab_dd tk_m_feed 16 rfl) rfl rfl ?_
      refine x_iconst 34 4 (ab_dd tk_m_feed 17 rfl) rfl (by decide) (x_topn 4 rfl ?_)
      refine xn_icmp_ge 37 41 (ab_dd tk_m_feed 18 rfl) rfl (by decide) (by omega) (by omega) (fun h34 => ?_) (fun h34 => ?_)
      · refine x_iload 43 6 (ab_dd tk_m_feed 21 rfl) rfl rfl ?_
        refine x_bipush 45 8 (ab_dd tk_m_feed 22 rfl) rfl (by decide) (x_topn 8 rfl ?_)
        refine xn_icmp_ge 48 52 (ab_dd tk_m_feed 23 rfl) rfl (by decide) (by omega) (by omega) (fun h45 => ?_) (fun h45 => ?_)
        · refine x_iload 54 6 (ab_dd tk_m_feed 26 rfl) rfl rfl ?_
          refine x_bipush 56 12 (ab_dd tk_m_feed 27 rfl) rfl (by decide) (x_topn 12 rfl ?_)
          refine xn_icmp_ge 59 63 (ab_dd tk_m_feed 28 rfl) rfl (by decide) (by omega) (by omega) (fun h56 => ?_) (fun h56 => ?_)
          · refine x_iload 65 6 (ab_dd tk_m_feed 31 rfl) rfl rfl ?_
            refine x_bipush 67 16 (ab_dd tk_m_feed 32 rfl) rfl (by decide) (x_topn 16 rfl ?_)
            refine xn_icmp_ge 70 75 (ab_dd tk_m_feed 33 rfl) rfl (by decide) (by omega) (by omega) (fun h67 => ?_) (fun h67 => ?_)
            · refine x_iload 77 5 (ab_dd tk_m_feed 36 rfl) rfl rfl ?_
              refine x_topi (fun v1 ev1 => ?_)
              refine x_istore 79 [some (.ref 120), some (.int a), some (.int b), some (.int c), some (.int dd), some (.int e), some (.int (nI k)), some (.int v1)] 7 (ab_dd tk_m_feed 37 rfl) rfl (by decide) rfl ?_
              exact tl _ (by rw [ev1]; unfold fdN; rw [if_neg (by omega), if_neg (by omega), if_neg (by omega), if_neg (by omega)])
            · refine x_iload 72 4 (ab_dd tk_m_feed 34 rfl) rfl rfl ?_
              refine x_goto 77 (ab_dd tk_m_feed 35 rfl) (by decide) ?_
              refine x_topi (fun v2 ev2 => ?_)
              refine x_istore 79 [some (.ref 120), some (.int a), some (.int b), some (.int c), some (.int dd), some (.int e), some (.int (nI k)), some (.int v2)] 7 (ab_dd tk_m_feed 37 rfl) rfl (by decide) rfl ?_
              exact tl _ (by rw [ev2]; unfold fdN; rw [if_neg (by omega), if_neg (by omega), if_neg (by omega), if_pos (by omega)])
          · refine x_iload_n 60 3 (ab_dd tk_m_feed 29 rfl) rfl rfl rfl ?_
            refine x_goto 77 (ab_dd tk_m_feed 30 rfl) (by decide) ?_
            refine x_topi (fun v3 ev3 => ?_)
            refine x_istore 79 [some (.ref 120), some (.int a), some (.int b), some (.int c), some (.int dd), some (.int e), some (.int (nI k)), some (.int v3)] 7 (ab_dd tk_m_feed 37 rfl) rfl (by decide) rfl ?_
            exact tl _ (by rw [ev3]; unfold fdN; rw [if_neg (by omega), if_neg (by omega), if_pos (by omega)])
        · refine x_iload_n 49 2 (ab_dd tk_m_feed 24 rfl) rfl rfl rfl ?_
          refine x_goto 77 (ab_dd tk_m_feed 25 rfl) (by decide) ?_
          refine x_topi (fun v4 ev4 => ?_)
          refine x_istore 79 [some (.ref 120), some (.int a), some (.int b), some (.int c), some (.int dd), some (.int e), some (.int (nI k)), some (.int v4)] 7 (ab_dd tk_m_feed 37 rfl) rfl (by decide) rfl ?_
          exact tl _ (by rw [ev4]; unfold fdN; rw [if_neg (by omega), if_pos (by omega)])
      · refine x_iload_n 38 1 (ab_dd tk_m_feed 19 rfl) rfl rfl rfl ?_
        refine x_goto 77 (ab_dd tk_m_feed 20 rfl) (by decide) ?_
        refine x_topi (fun v5 ev5 => ?_)
        refine x_istore 79 [some (.ref 120), some (.int a), some (.int b), some (.int c), some (.int dd), some (.int e), some (.int (nI k)), some (.int v5)] 7 (ab_dd tk_m_feed 37 rfl) rfl (by decide) rfl ?_
        exact tl _ (by rw [ev5]; unfold fdN; rw [if_pos (by omega)])
  refine x_aload_n 1 0 (ab_dd tk_m_feed 0 rfl) rfl rfl rfl ?_
  refine x_iconst 2 0 (ab_dd tk_m_feed 1 rfl) rfl (by decide) (x_topn 0 rfl ?_)
  refine t_putI 5 (ab_dd tk_m_feed 2 rfl) rfl F_m_1 (by decide) (Nat.lt_of_lt_of_le (by decide) hm.1) (hm.2.1 0 (by decide)) rfl rfl rfl ?_
  refine x_aload_n 6 0 (ab_dd tk_m_feed 3 rfl) rfl rfl rfl ?_
  refine t_getI 9 (ab_dd tk_m_feed 4 rfl) rfl F_m_97 (by decide) (Nat.lt_of_lt_of_le (by decide) hm.1) (hm.2.1 0 (by decide)) rfl (x_topn t ((gI_k (by decide)).trans h5) ?_)
  refine x_bipush 11 20 (ab_dd tk_m_feed 5 rfl) rfl (by decide) (x_topn 20 rfl ?_)
  refine x_iadd 12 (ab_dd tk_m_feed 6 rfl) rfl (x_topn (t + 20) (nI_add _ _) ?_)
  refine x_sipush 15 900 (ab_dd tk_m_feed 7 rfl) rfl (by decide) (x_topn 900 rfl ?_)
  refine x_icmp_le_t 21 (ab_dd tk_m_feed 8 rfl) (by decide) ((nI_leI (a := (t + 20)) (b := 900) (by omega) (by omega)).mpr (show (t + 20) ≤ 900 by omega)) ?_
  refine x_iconst 22 0 (ab_dd tk_m_feed 11 rfl) rfl (by decide) (x_topn 0 rfl ?_)
  refine x_istore 24 [some (.ref 120), some (.int a), some (.int b), some (.int c), some (.int dd), some (.int e), some (.int (nI 0)), none] 6 (ab_dd tk_m_feed 12 rfl) rfl (by decide) rfl ?_
  exact lp 20 0 (by omega) _ _ (sEq.pI (l := [120, 123]) sEq.rf (by decide)) ((gI_k (by decide)).trans h5) ((gI_k (by decide)).trans rfl) ((gI_k (by decide)).trans rfl) (fun i => by rw [if_neg (by omega)]; exact gI_a (by decide))
