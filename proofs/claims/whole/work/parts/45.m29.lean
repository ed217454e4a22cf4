/-! ===== rows of the reference: in how many ways ===== -/
/-- how many rows of m stops lead from i to where w holds -/
def gT (g : Nat → Nat → Option Nat) (w : Nat → Bool) : Nat → Nat → Nat
  | 0, i => if w i = true then 1 else 0
  | m + 1, i => (match g i 0 with | none => 0 | some j => gT g w m j) + (match g i 1 with | none => 0 | some j => gT g w m j) + (match g i 2 with | none => 0 | some j => gT g w m j) + (match g i 3 with | none => 0 | some j => gT g w m j)
def gD (g : Nat → Nat → Option Nat) (t : Nat → Nat) (i d : Nat) : Nat := match g i d with
  | none => 0
  | some j => t j
def gDs (g : Nat → Nat → Option Nat) (t : Nat → Nat) (i : Nat) : Nat → Nat
  | 0 => 0
  | d + 1 => gDs g t i d + gD g t i d
theorem gT_s (g : Nat → Nat → Option Nat) (w : Nat → Bool) (m i : Nat) : gT g w (m + 1) i = gDs g (gT g w m) i 4 := by
  show _ = 0 + gD g (gT g w m) i 0 + gD g (gT g w m) i 1 + gD g (gT g w m) i 2 + gD g (gT g w m) i 3
  rw [Nat.zero_add]; rfl
/-- the sum of f i times t i -/
def sumW (f t : Nat → Nat) : Nat → Nat
  | 0 => 0
  | n + 1 => sumW f t n + f n * t n
theorem sumW_cg {f f' t t' : Nat → Nat} : ∀ n, (∀ i, i < n → f i = f' i ∧ t i = t' i) → sumW f t n = sumW f' t' n
  | 0, _ => rfl
  | n + 1, h => by show sumW f t n + f n * t n = sumW f' t' n + f' n * t' n; rw [sumW_cg n (fun i hi => h i (by omega)), (h n (by omega)).1, (h n (by omega)).2]
theorem sumW_up {f t : Nat → Nat} {k x : Nat} : ∀ n, k < n → sumW (up1 f k (f k + x)) t n = sumW f t n + x * t k
  | 0, h => absurd h (by omega)
  | n + 1, h => by
    show sumW (up1 f k (f k + x)) t n + up1 f k (f k + x) n * t n = sumW f t n + f n * t n + x * t k
    by_cases e : n = k
    · subst e
      rw [up1_s, sumW_cg (f' := f) (t' := t) n (fun i hi => ⟨up1_o (by omega), rfl⟩), Nat.add_mul]; omega
    · rw [up1_o e, sumW_up (f := f) (t := t) (k := k) (x := x) n (by omega)]; omega
theorem sumW_0 {f t : Nat → Nat} : ∀ n, (∀ i, i < n → f i = 0) → sumW f t n = 0
  | 0, _ => rfl
  | n + 1, h => by show sumW f t n + f n * t n = 0; rw [sumW_0 n (fun i hi => h i (by omega)), h n (by omega), Nat.zero_mul]
theorem sumW_1 {f : Nat → Nat} : ∀ n, sumW f (fun _ => 1) n = sumF f n
  | 0 => rfl
  | n + 1 => by show sumW f (fun _ => 1) n + f n * 1 = sumF f n + f n; rw [sumW_1 n, Nat.mul_one]
theorem sumF_ge {f : Nat → Nat} : ∀ n k, k < n → f k ≤ sumF f n
  | 0, _, h => absurd h (by omega)
  | n + 1, k, h => by
    show f k ≤ sumF f n + f n
    by_cases e : k = n
    · rw [e]; omega
    · have := sumF_ge (f := f) n k (by omega); omega
theorem sumF_0 {f : Nat → Nat} : ∀ n, (∀ i, i < n → f i = 0) → sumF f n = 0
  | 0, _ => rfl
  | n + 1, h => by show sumF f n + f n = 0; rw [sumF_0 n (fun i hi => h i (by omega)), h n (by omega)]
theorem sumF_le {f : Nat → Nat} : ∀ n k, k ≤ n → sumF f k ≤ sumF f n
  | 0, k, h => by rw [show k = 0 by omega]; exact Nat.le_refl _
  | n + 1, k, h => by
    show sumF f k ≤ sumF f n + f n
    by_cases e : k = n + 1
    · rw [e]; exact Nat.le_refl _
    · have := sumF_le (f := f) n k (by omega); omega
theorem sum_one {t : Nat → Nat} : ∀ n, 0 < n → sumW (fun i => if i = 0 then 1 else 0) t n = t 0 ∧ sumF (fun i => if i = 0 then 1 else 0) n = 1
  | 0, h => absurd h (by omega)
  | n + 1, _ => by
    show sumW (fun i => if i = 0 then 1 else 0) t n + (if n = 0 then 1 else 0) * t n = t 0 ∧ sumF (fun i => if i = 0 then 1 else 0) n + (if n = 0 then 1 else 0) = 1
    by_cases e : n = 0
    · subst e; exact ⟨by show 0 + 1 * t 0 = t 0; omega, rfl⟩
    · have := sum_one (t := t) n (by omega)
      rw [if_neg e, this.1, this.2]; omega
def fArL (S : ab_S) (ad : Nat) (f : Nat → Nat) (N : Nat) : Prop := ∀ i, i < N → sJ S ad i = lN (f i)
theorem fArL.eq {l : List Nat} {S S' : ab_S} {ad N : Nat} {f : Nat → Nat} (h : fArL S ad f N) (hE : sEq l S S') (h1 : ad ∉ l) : fArL S' ad f N := by
  unfold fArL
  rw [hE.2.2.2.1 _ h1]
  exact h
theorem fArL.up {S : ab_S} {ad N k x : Nat} {f : Nat → Nat} (h : fArL S ad f N) : fArL (pJ S ad k (lN x)) ad (up1 f k x) N := by
  intro i hi
  show up2 (sJ S) ad k (lN x) ad i = _
  by_cases e : i = k
  · rw [e, up2_s, up1_s]
  · rw [up2_k e, up1_o e]; exact h i hi
def gWb (a : Nat → Int32) (N k i : Nat) : Bool := decide (k ≤ mLe (gC a N i) (aR a))
def tb_m_rows : List (Nat × Instr × Nat) := [(0, .aload_n 0, 1), (1, .iconst 0, 1), (2, .putfield 1, 3), (5, .iload_n 1, 1), (6, .invokestatic 365, 3), (9, .ifCond .eq 15, 3), (12, .iload_n 2, 1), (13, .i2l, 1), (14, .lconst 0, 1), (15, .ldc2_w 387, 3), (18, .invokestatic 159, 3), (21, .ifCond .ne 7, 3), (24, .ldc2_w 389, 3), (27, .lreturn, 1), (28, .aload_n 0, 1), (29, .invokevirtual 375, 3), (32, .iconst 0, 1), (33, .istore_n 3, 1), (34, .iload_n 3, 1), (35, .aload_n 0, 1), (36, .getfield 368, 3), (39, .if_icmp .ge 31, 3), (42, .aload_n 0, 1), (43, .getfield 59, 3), (46, .iload_n 3, 1), (47, .iload_n 3, 1), (48, .ifCond .ne 7, 3), (51, .lconst 1, 1), (52, .goto 4, 3), (55, .lconst 0, 1), (56, .lastore, 1), (57, .aload_n 0, 1), (58, .getfield 63, 3), (61, .iload_n 3, 1), (62, .lconst 0, 1), (63, .lastore, 1), (64, .iinc 3 1, 3), (67, .goto (-33), 3), (70, .iconst 0, 1), (71, .istore_n 3, 1), (72, .iload_n 3, 1), (73, .iload_n 2, 1), (74, .if_icmp .ge 137, 3), (77, .iconst 0, 1), (78, .istore 4, 2), (80, .iload 4, 2), (82, .aload_n 0, 1), (83, .getfield 368, 3), (86, .if_icmp .ge 79, 3), (89, .iconst 0, 1), (90, .istore 5, 2), (92, .iload 5, 2), (94, .iconst 4, 1), (95, .if_icmp .ge 64, 3), (98, .aload_n 0, 1), (99, .getfield 59, 3), (102, .iload 4, 2), (104, .laload, 1), (105, .lconst 0, 1), (106, .lcmp, 1), (107, .ifCond .le 52, 3), (110, .aload_n 0, 1), (111, .getfield 50, 3), (114, .iconst 4, 1), (115, .iload 4, 2), (117, .imul, 1), (118, .iload 5, 2), (120, .iadd, 1), (121, .iaload, 1), (122, .iconst (-1), 1), (123, .if_icmp .eq 30, 3), (126, .aload_n 0, 1), (127, .getfield 63, 3), (130, .aload_n 0, 1), (131, .getfield 50, 3), (134, .iconst 4, 1), (135, .iload 4, 2), (137, .imul, 1), (138, .iload 5, 2), (140, .iadd, 1), (141, .iaload, 1), (142, .dup2, 1), (143, .laload, 1), (144, .aload_n 0, 1), (145, .getfield 59, 3), (148, .iload 4, 2), (150, .laload, 1), (151, .ladd, 1), (152, .lastore, 1), (153, .iinc 5 1, 3), (156, .goto (-64), 3), (159, .iinc 4 1, 3), (162, .goto (-82), 3), (165, .iconst 0, 1), (166, .istore 4, 2), (168, .iload 4, 2), (170, .aload_n 0, 1), (171, .getfield 368, 3), (174, .if_icmp .ge 31, 3), (177, .aload_n 0, 1), (178, .getfield 59, 3), (181, .iload 4, 2), (183, .aload_n 0, 1), (184, .getfield 63, 3), (187, .iload 4, 2), (189, .laload, 1), (190, .lastore, 1), (191, .aload_n 0, 1), (192, .getfield 63, 3), (195, .iload 4, 2), (197, .lconst 0, 1), (198, .lastore, 1), (199, .iinc 4 1, 3), (202, .goto (-34), 3), (205, .iinc 3 1, 3), (208, .goto (-136), 3), (211, .lconst 0, 1), (212, .lstore_n 3, 1), (213, .iconst 0, 1), (214, .istore 5, 2), (216, .iload 5, 2), (218, .aload_n 0, 1), (219, .getfield 368, 3), (222, .if_icmp .ge 38, 3), (225, .lload_n 3, 1), (226, .aload_n 0, 1), (227, .aload_n 0, 1), (228, .getfield 46, 3), (231, .iload 5, 2), (233, .iaload, 1), (234, .invokevirtual 288, 3), (237, .iload_n 1, 1), (238, .if_icmp .lt 13, 3), (241, .aload_n 0, 1), (242, .getfield 59, 3), (245, .iload 5, 2), (247, .laload, 1), (248, .goto 4, 3), (251, .lconst 0, 1), (252, .ladd, 1), (253, .lstore_n 3, 1), (254, .iinc 5 1, 3), (257, .goto (-41), 3), (260, .lload_n 3, 1), (261, .lreturn, 1)]
theorem tk_m_rows : ∀ q ∈ tb_m_rows, decode M_m_rows.2.1 q.1 = .ok q.2 := by decide +kernel
theorem c_m_rows {G : ab_G} {S : ab_S} {a : Nat → Int32} (hm : mSh S) (hA : mA S = a) (ha : aOk a) (k n : Int32) : ab_C G 6 M_m_rows [.ref 120, .int k, .int n] (sw S) (fun v w' => ∃ v0, pQ S (some (.long v0)) v w' ∧ ((¬ ((0 ≤ k ∧ k ≤ 4) ∧ (0 ≤ n ∧ n ≤ 12)) ∧ v0 = -3) ∨ (((0 ≤ k ∧ k ≤ 4) ∧ (0 ≤ n ∧ n ≤ 12)) ∧ ∃ N, (aL a N).length = N ∧ v0 = lN (gT (gI a N) (gWb a N (cN k)) (cN n) 0)))) := by
  have go : ∀ (N h nn : Nat) (S0 : ab_S), cN k = h → h ≤ 4 → cN n = nn → nn ≤ 12 → ((0 ≤ k ∧ k ≤ 4) ∧ (0 ≤ n ∧ n ≤ 12)) → mSh S0 → mA S0 = a → sEq qL S S0 → fEq S S0 → mGr S0 a N → ab_Ex G 6 M_m_rows 34 [some (.ref 120), some (.int (nI h)), some (.int (nI nn)), some (.int (nI 0)), none, none] [] (sw S0) (fun v w' => ∃ v0, pQ S (some (.long v0)) v w' ∧ ((¬ ((0 ≤ k ∧ k ≤ 4) ∧ (0 ≤ n ∧ n ≤ 12)) ∧ v0 = -3) ∨ (((0 ≤ k ∧ k ≤ 4) ∧ (0 ≤ n ∧ n ≤ 12)) ∧ ∃ N, (aL a N).length = N ∧ v0 = lN (gT (gI a N) (gWb a N (cN k)) (cN n) 0)))) := by
    intro N h nn S0 ek hh en hnn hz hm0 hA0 hE0 hF0 hgr0
    have hN := hgr0.2.1
    have fin : ∀ (S1 : ab_S) (f : Nat → Nat), mSh S1 → mA S1 = a → sEq qL S S1 → fEq S S1 → mGr S1 a N → fArL S1 134 f N → ∀ (m i : Nat), i + m = N → sumW f ((gT (gI a N) (gWb a N h)) 0) N = (gT (gI a N) (gWb a N h)) nn 0 → ab_Ex G 6 M_m_rows 216 [some (.ref 120), some (.int (nI h)), some (.int (nI nn)), some (.long (lN (sumW f ((gT (gI a N) (gWb a N h)) 0) i))), none, some (.int (nI i))] [] (sw S1) (fun v w' => ∃ v0, pQ S (some (.long v0)) v w' ∧ ((¬ ((0 ≤ k ∧ k ≤ 4) ∧ (0 ≤ n ∧ n ≤ 12)) ∧ v0 = -3) ∨ (((0 ≤ k ∧ k ≤ 4) ∧ (0 ≤ n ∧ n ≤ 12)) ∧ ∃ N, (aL a N).length = N ∧ v0 = lN (gT (gI a N) (gWb a N (cN k)) (cN n) 0)))) := by
      intro S1 f hm1 hA1 hE1 hF1 hgr hf m
      induction m with
      | zero =>
        intro i hi hs
        refine x_iload 218 5 (ab_dd tk_m_rows 120 rfl) rfl rfl ?_
        refine x_aload_n 219 0 (ab_dd tk_m_rows 121 rfl) rfl rfl rfl ?_
        refine t_getI 222 (ab_dd tk_m_rows 122 rfl) rfl F_m_368 (by decide) (Nat.lt_of_lt_of_le (by decide) hm1.1) (hm1.2.1 0 (by decide)) rfl (x_topn N hgr.2.2.2.1 ?_)
        refine x_icmp_ge_t 260 (ab_dd tk_m_rows 123 rfl) (by decide) ((nI_leI (a := N) (b := i) (by omega) (by omega)).mpr (show N ≤ i by omega)) ?_
        refine x_lload_n 261 3 (ab_dd tk_m_rows 143 rfl) rfl rfl rfl ?_
        exact x_lret (ab_dd tk_m_rows 144 rfl) ⟨_, ⟨rfl, _, rfl, hm1, hA1.trans hA.symm, hE1, hF1⟩, Or.inr ⟨hz, N, hgr.1, by rw [ek, en, ← hs, show i = N by omega]⟩⟩
      | succ m ih =>
        intro i hi hs
        have hl4 := mLe_le (gC a N i) (aR a)
        have hfi := hf i (by omega)
        refine x_iload 218 5 (ab_dd tk_m_rows 120 rfl) rfl rfl ?_
        refine x_aload_n 219 0 (ab_dd tk_m_rows 121 rfl) rfl rfl rfl ?_
        refine t_getI 222 (ab_dd tk_m_rows 122 rfl) rfl F_m_368 (by decide) (Nat.lt_of_lt_of_le (by decide) hm1.1) (hm1.2.1 0 (by decide)) rfl (x_topn N hgr.2.2.2.1 ?_)
        refine x_icmp_ge_f 225 (ab_dd tk_m_rows 123 rfl) rfl 260 (by decide) (fun z => absurd ((nI_leI (a := N) (b := i) (by omega) (by omega)).mp z) (show ¬ (N ≤ i) by omega)) ?_
        refine x_lload_n 226 3 (ab_dd tk_m_rows 124 rfl) rfl rfl rfl ?_
        refine x_aload_n 227 0 (ab_dd tk_m_rows 125 rfl) rfl rfl rfl ?_
        refine x_aload_n 228 0 (ab_dd tk_m_rows 126 rfl) rfl rfl rfl ?_
        refine t_getP 231 130 (ab_dd tk_m_rows 127 rfl) rfl F_m_46 (by decide) (Nat.lt_of_lt_of_le (by decide) hm1.1) (hm1.2.1 0 (by decide)) rfl (hm1.2.2 25 (by decide)) ?_
        refine x_iload 233 5 (ab_dd tk_m_rows 128 rfl) rfl rfl ?_
        refine t_iald 234 i (ab_dd tk_m_rows 129 rfl) rfl (by decide) (Nat.lt_of_lt_of_le (by decide) hm1.1) (hm1.2.1 10 (by decide)) rfl (by omega) (by decide) (x_topn (gC a N i) (hgr.2.2.2.2.1 i (by omega)) ?_)
        refine t_callV 237 M_m_leastIn 2 1 [_] (ab_dd tk_m_rows 130 rfl) rfl (by decide) K_m_leastIn V_m_leastIn.1 V_m_leastIn.2 L_m_288 rfl (Nat.le_of_ble_eq_true rfl) (by decide) (Nat.lt_of_lt_of_le (by decide) hm1.1) (hm1.2.1 0 (by decide)) rfl (w_leastIn (by exact hm1) (by exact hA1) ha (gC a N i) (gC_ok ha hgr.1 (by omega)).1) (fun v1 w1 h1 => ?_)
        obtain ⟨rfl, rfl⟩ := h1
        refine x_iload_n 238 1 (ab_dd tk_m_rows 131 rfl) rfl rfl rfl ?_
        refine xn_icmp_lt 241 251 (ab_dd tk_m_rows 132 rfl) rfl (by decide) (by omega) (by omega) (fun h238 => ?_) (fun h238 => ?_)
        · refine x_lconst 252 0 (ab_dd tk_m_rows 138 rfl) rfl (by decide) ?_
          refine x_ladd 253 (ab_dd tk_m_rows 139 rfl) rfl (x_topL (lN (sumW f ((gT (gI a N) (gWb a N h)) 0) i + 0)) (lN_add _ _) ?_)
          refine x_lstore_n 254 [some (.ref 120), some (.int (nI h)), some (.int (nI nn)), some (.long (lN (sumW f ((gT (gI a N) (gWb a N h)) 0) i + 0))), none, some (.int (nI i))] 3 (ab_dd tk_m_rows 140 rfl) rfl rfl (by decide) rfl ?_
          refine xn_iinc 257 5 (fun y => [some (.ref 120), some (.int (nI h)), some (.int (nI nn)), some (.long (lN (sumW f ((gT (gI a N) (gWb a N h)) 0) i + 0))), none, some (.int y)]) (i + 1) (ab_dd tk_m_rows 141 rfl) rfl (by decide) rfl (fun _ => rfl) (iinc_p 1) ?_
          refine x_goto 216 (ab_dd tk_m_rows 142 rfl) (by decide) ?_
          have hI := ih (i + 1) (by omega) hs
          rw [show sumW f ((gT (gI a N) (gWb a N h)) 0) (i + 1) = sumW f ((gT (gI a N) (gWb a N h)) 0) i + f i * (gT (gI a N) (gWb a N h)) 0 i from rfl, show (gT (gI a N) (gWb a N h)) 0 i = 0 from if_neg (by unfold gWb; rw [decide_eq_true_iff]; omega), Nat.mul_zero] at hI
          exact hI
        · refine x_aload_n 242 0 (ab_dd tk_m_rows 133 rfl) rfl rfl rfl ?_
          refine t_getP 245 134 (ab_dd tk_m_rows 134 rfl) rfl F_m_59 (by decide) (Nat.lt_of_lt_of_le (by decide) hm1.1) (hm1.2.1 0 (by decide)) rfl (hm1.2.2 30 (by decide)) ?_
          refine x_iload 247 5 (ab_dd tk_m_rows 135 rfl) rfl rfl ?_
          refine t_lald 248 i (ab_dd tk_m_rows 136 rfl) rfl (by decide) (Nat.lt_of_lt_of_le (by decide) hm1.1) (hm1.2.1 14 (by decide)) rfl (by omega) (by decide) (x_topL (lN (f i)) hfi ?_)
          refine x_goto 252 (ab_dd tk_m_rows 137 rfl) (by decide) ?_
          refine x_ladd 253 (ab_dd tk_m_rows 139 rfl) rfl (x_topL (lN (sumW f ((gT (gI a N) (gWb a N h)) 0) i + f i)) (lN_add _ _) ?_)
          refine x_lstore_n 254 [some (.ref 120), some (.int (nI h)), some (.int (nI nn)), some (.long (lN (sumW f ((gT (gI a N) (gWb a N h)) 0) i + f i))), none, some (.int (nI i))] 3 (ab_dd tk_m_rows 140 rfl) rfl rfl (by decide) rfl ?_
          refine xn_iinc 257 5 (fun y => [some (.ref 120), some (.int (nI h)), some (.int (nI nn)), some (.long (lN (sumW f ((gT (gI a N) (gWb a N h)) 0) i + f i))), none, some (.int y)]) (i + 1) (ab_dd tk_m_rows 141 rfl) rfl (by decide) rfl (fun _ => rfl) (iinc_p 1) ?_
          refine x_goto 216 (ab_dd tk_m_rows 142 rfl) (by decide) ?_
          have hI := ih (i + 1) (by omega) hs
          rw [show sumW f ((gT (gI a N) (gWb a N h)) 0) (i + 1) = sumW f ((gT (gI a N) (gWb a N h)) 0) i + f i * (gT (gI a N) (gWb a N h)) 0 i from rfl, show (gT (gI a N) (gWb a N h)) 0 i = 1 from if_pos (by unfold gWb; rw [decide_eq_true_iff]; omega), Nat.mul_one] at hI
          exact hI
    have copy : ∀ (s : Nat) (mt : Nat → Nat) (cont : ∀ S1, mSh S1 → mA S1 = a → sEq qL S S1 → fEq S S1 → mGr S1 a N → fArL S1 134 mt N → fArL S1 135 (fun _ => 0) N → ab_Ex G 6 M_m_rows 72 [some (.ref 120), some (.int (nI h)), some (.int (nI nn)), some (.int (nI (s + 1))), none, none] [] (sw S1) (fun v w' => ∃ v0, pQ S (some (.long v0)) v w' ∧ ((¬ ((0 ≤ k ∧ k ≤ 4) ∧ (0 ≤ n ∧ n ≤ 12)) ∧ v0 = -3) ∨ (((0 ≤ k ∧ k ≤ 4) ∧ (0 ≤ n ∧ n ≤ 12)) ∧ ∃ N, (aL a N).length = N ∧ v0 = lN (gT (gI a N) (gWb a N (cN k)) (cN n) 0))))) (m i : Nat), i + m = N → ∀ S1, mSh S1 → mA S1 = a → sEq qL S S1 → fEq S S1 → mGr S1 a N → (∀ j, j < N → sJ S1 135 j = if j < i then 0 else lN (mt j)) → (∀ j, j < i → sJ S1 134 j = lN (mt j)) → ab_Ex G 6 M_m_rows 168 [some (.ref 120), some (.int (nI h)), some (.int (nI nn)), some (.int (nI s)), some (.int (nI i)), none] [] (sw S1) (fun v w' => ∃ v0, pQ S (some (.long v0)) v w' ∧ ((¬ ((0 ≤ k ∧ k ≤ 4) ∧ (0 ≤ n ∧ n ≤ 12)) ∧ v0 = -3) ∨ (((0 ≤ k ∧ k ≤ 4) ∧ (0 ≤ n ∧ n ≤ 12)) ∧ ∃ N, (aL a N).length = N ∧ v0 = lN (gT (gI a N) (gWb a N (cN k)) (cN n) 0)))) := by
      intro s mt cont m
      induction m with
      | zero =>
        intro i hi S1 hm1 hA1 hE1 hF1 hgr h1 h2
        refine x_iload 170 4 (ab_dd tk_m_rows 95 rfl) rfl rfl ?_
        refine x_aload_n 171 0 (ab_dd tk_m_rows 96 rfl) rfl rfl rfl ?_
        refine t_getI 174 (ab_dd tk_m_rows 97 rfl) rfl F_m_368 (by decide) (Nat.lt_of_lt_of_le (by decide) hm1.1) (hm1.2.1 0 (by decide)) rfl (x_topn N hgr.2.2.2.1 ?_)
        refine x_icmp_ge_t 205 (ab_dd tk_m_rows 98 rfl) (by decide) ((nI_leI (a := N) (b := i) (by omega) (by omega)).mpr (show N ≤ i by omega)) ?_
        refine xn_iinc 208 3 (fun y => [some (.ref 120), some (.int (nI h)), some (.int (nI nn)), some (.int y), some (.int (nI i)), none]) (s + 1) (ab_dd tk_m_rows 114 rfl) rfl (by decide) rfl (fun _ => rfl) (iinc_p 1) ?_
        refine x_goto 72 (ab_dd tk_m_rows 115 rfl) (by decide) ?_
        exact x_forget 4 (cont S1 hm1 hA1 hE1 hF1 hgr (fun j hj => h2 j (by omega)) (fun j hj => by rw [h1 j hj, if_pos (by omega)]; rfl))
      | succ m ih =>
        intro i hi S1 hm1 hA1 hE1 hF1 hgr h1 h2
        have hti := (h1 i (by omega)).trans (if_neg (by omega))
        refine x_iload 170 4 (ab_dd tk_m_rows 95 rfl) rfl rfl ?_
        refine x_aload_n 171 0 (ab_dd tk_m_rows 96 rfl) rfl rfl rfl ?_
        refine t_getI 174 (ab_dd tk_m_rows 97 rfl) rfl F_m_368 (by decide) (Nat.lt_of_lt_of_le (by decide) hm1.1) (hm1.2.1 0 (by decide)) rfl (x_topn N hgr.2.2.2.1 ?_)
        refine x_icmp_ge_f 177 (ab_dd tk_m_rows 98 rfl) rfl 205 (by decide) (fun z => absurd ((nI_leI (a := N) (b := i) (by omega) (by omega)).mp z) (show ¬ (N ≤ i) by omega)) ?_
        refine x_aload_n 178 0 (ab_dd tk_m_rows 99 rfl) rfl rfl rfl ?_
        refine t_getP 181 134 (ab_dd tk_m_rows 100 rfl) rfl F_m_59 (by decide) (Nat.lt_of_lt_of_le (by decide) hm1.1) (hm1.2.1 0 (by decide)) rfl (hm1.2.2 30 (by decide)) ?_
        refine x_iload 183 4 (ab_dd tk_m_rows 101 rfl) rfl rfl ?_
        refine x_aload_n 184 0 (ab_dd tk_m_rows 102 rfl) rfl rfl rfl ?_
        refine t_getP 187 135 (ab_dd tk_m_rows 103 rfl) rfl F_m_63 (by decide) (Nat.lt_of_lt_of_le (by decide) hm1.1) (hm1.2.1 0 (by decide)) rfl (hm1.2.2 31 (by decide)) ?_
        refine x_iload 189 4 (ab_dd tk_m_rows 104 rfl) rfl rfl ?_
        refine t_lald 190 i (ab_dd tk_m_rows 105 rfl) rfl (by decide) (Nat.lt_of_lt_of_le (by decide) hm1.1) (hm1.2.1 15 (by decide)) rfl (by omega) (by decide) (x_topL (lN (mt i)) hti ?_)
        refine t_last 191 i (ab_dd tk_m_rows 106 rfl) rfl (by decide) (Nat.lt_of_lt_of_le (by decide) hm1.1) (hm1.2.1 14 (by decide)) rfl (by omega) (by decide) ?_
        refine x_aload_n 192 0 (ab_dd tk_m_rows 107 rfl) rfl rfl rfl ?_
        refine t_getP 195 135 (ab_dd tk_m_rows 108 rfl) rfl F_m_63 (by decide) (Nat.lt_of_lt_of_le (by decide) hm1.1) (hm1.2.1 0 (by decide)) rfl (hm1.2.2 31 (by decide)) ?_
        refine x_iload 197 4 (ab_dd tk_m_rows 109 rfl) rfl rfl ?_
        refine x_lconst 198 0 (ab_dd tk_m_rows 110 rfl) rfl (by decide) ?_
        refine t_last 199 i (ab_dd tk_m_rows 111 rfl) rfl (by decide) (Nat.lt_of_lt_of_le (by decide) hm1.1) (hm1.2.1 15 (by decide)) rfl (by omega) (by decide) ?_
        refine xn_iinc 202 4 (fun y => [some (.ref 120), some (.int (nI h)), some (.int (nI nn)), some (.int (nI s)), some (.int y), none]) (i + 1) (ab_dd tk_m_rows 112 rfl) rfl (by decide) rfl (fun _ => rfl) (iinc_p 1) ?_
        refine x_goto 168 (ab_dd tk_m_rows 113 rfl) (by decide) ?_
        refine ih (i + 1) (by omega) _ hm1 hA1 ((hE1.pJ (by decide)).pJ (by decide)) hF1 hgr (fun j hj => ?_) (fun j hj => ?_)
        · show up2 (sJ S1) 135 i 0 135 j = _
          by_cases e : j = i
          · rw [e, up2_s, if_pos (by omega)]
          · rw [up2_k e, h1 j hj]
            by_cases z : j < i
            · rw [if_pos z, if_pos (by omega)]
            · rw [if_neg z, if_neg (by omega)]
        · show up2 (sJ S1) 134 i (lN (mt i)) 134 j = _
          by_cases e : j = i
          · rw [e, up2_s]
          · rw [up2_k e]; exact h2 j (by omega)
    have deeds : ∀ (s mm : Nat) (f : Nat → Nat) (i : Nat), i < N → sumF f N ≤ 4 ^ 12 → ∀ (cont : ∀ S1 mt, mSh S1 → mA S1 = a → sEq qL S S1 → fEq S S1 → mGr S1 a N → fArL S1 134 f N → fArL S1 135 mt N → sumW mt ((gT (gI a N) (gWb a N h)) mm) N = sumW f ((gT (gI a N) (gWb a N h)) (mm + 1)) (i + 1) → sumF mt N ≤ 4 * sumF f (i + 1) → ab_Ex G 6 M_m_rows 80 [some (.ref 120), some (.int (nI h)), some (.int (nI nn)), some (.int (nI s)), some (.int (nI (i + 1))), none] [] (sw S1) (fun v w' => ∃ v0, pQ S (some (.long v0)) v w' ∧ ((¬ ((0 ≤ k ∧ k ≤ 4) ∧ (0 ≤ n ∧ n ≤ 12)) ∧ v0 = -3) ∨ (((0 ≤ k ∧ k ≤ 4) ∧ (0 ≤ n ∧ n ≤ 12)) ∧ ∃ N, (aL a N).length = N ∧ v0 = lN (gT (gI a N) (gWb a N (cN k)) (cN n) 0))))) (m d : Nat), d + m = 4 → ∀ S1 mt, mSh S1 → mA S1 = a → sEq qL S S1 → fEq S S1 → mGr S1 a N → fArL S1 134 f N → fArL S1 135 mt N → sumW mt ((gT (gI a N) (gWb a N h)) mm) N = sumW f ((gT (gI a N) (gWb a N h)) (mm + 1)) i + f i * gDs (gI a N) ((gT (gI a N) (gWb a N h)) mm) i d → sumF mt N ≤ 4 * sumF f i + f i * d → ab_Ex G 6 M_m_rows 92 [some (.ref 120), some (.int (nI h)), some (.int (nI nn)), some (.int (nI s)), some (.int (nI i)), some (.int (nI d))] [] (sw S1) (fun v w' => ∃ v0, pQ S (some (.long v0)) v w' ∧ ((¬ ((0 ≤ k ∧ k ≤ 4) ∧ (0 ≤ n ∧ n ≤ 12)) ∧ v0 = -3) ∨ (((0 ≤ k ∧ k ≤ 4) ∧ (0 ≤ n ∧ n ≤ 12)) ∧ ∃ N, (aL a N).length = N ∧ v0 = lN (gT (gI a N) (gWb a N (cN k)) (cN n) 0)))) := by
      intro s mm f i hi hb cont m
      have hfb := Nat.le_trans (sumF_ge (f := f) N i hi) hb
      have h412 : (4 : Nat) ^ 12 = 16777216 := by decide
      rw [h412] at hfb
      induction m with
      | zero =>
        intro d hd S1 mt hm1 hA1 hE1 hF1 hgr hf hmt hs hl
        obtain rfl : d = 4 := by omega
        refine x_iload 94 5 (ab_dd tk_m_rows 51 rfl) rfl rfl ?_
        refine x_iconst 95 4 (ab_dd tk_m_rows 52 rfl) rfl (by decide) (x_topn 4 rfl ?_)
        refine x_icmp_ge_t 159 (ab_dd tk_m_rows 53 rfl) (by decide) ((nI_leI (a := 4) (b := 4) (by omega) (by omega)).mpr (show 4 ≤ 4 by omega)) ?_
        refine xn_iinc 162 4 (fun y => [some (.ref 120), some (.int (nI h)), some (.int (nI nn)), some (.int (nI s)), some (.int y), some (.int (nI 4))]) (i + 1) (ab_dd tk_m_rows 91 rfl) rfl (by decide) rfl (fun _ => rfl) (iinc_p 1) ?_
        refine x_goto 80 (ab_dd tk_m_rows 92 rfl) (by decide) ?_
        exact x_forget 5 (cont S1 mt hm1 hA1 hE1 hF1 hgr hf hmt (by rw [hs]; show _ = sumW f ((gT (gI a N) (gWb a N h)) (mm + 1)) i + f i * (gT (gI a N) (gWb a N h)) (mm + 1) i; rw [gT_s]) (by show _ ≤ 4 * (sumF f i + f i); omega))
      | succ m ih =>
        intro d hd S1 mt hm1 hA1 hE1 hF1 hgr hf hmt hs hl
        have hfi := hf i hi
        by_cases z : f i = 0
        · refine x_iload 94 5 (ab_dd tk_m_rows 51 rfl) rfl rfl ?_
          refine x_iconst 95 4 (ab_dd tk_m_rows 52 rfl) rfl (by decide) (x_topn 4 rfl ?_)
          refine x_icmp_ge_f 98 (ab_dd tk_m_rows 53 rfl) rfl 159 (by decide) (fun z => absurd ((nI_leI (a := 4) (b := d) (by omega) (by omega)).mp z) (show ¬ (4 ≤ d) by omega)) ?_
          refine x_aload_n 99 0 (ab_dd tk_m_rows 54 rfl) rfl rfl rfl ?_
          refine t_getP 102 134 (ab_dd tk_m_rows 55 rfl) rfl F_m_59 (by decide) (Nat.lt_of_lt_of_le (by decide) hm1.1) (hm1.2.1 0 (by decide)) rfl (hm1.2.2 30 (by decide)) ?_
          refine x_iload 104 4 (ab_dd tk_m_rows 56 rfl) rfl rfl ?_
          refine t_lald 105 i (ab_dd tk_m_rows 57 rfl) rfl (by decide) (Nat.lt_of_lt_of_le (by decide) hm1.1) (hm1.2.1 14 (by decide)) rfl (by omega) (by decide) (x_topL (lN (f i)) hfi ?_)
          refine x_lconst 106 0 (ab_dd tk_m_rows 58 rfl) rfl (by decide) ?_
          refine x_lcmp 107 (ab_dd tk_m_rows 59 rfl) rfl ?_
          refine x_if_le_t 159 (ab_dd tk_m_rows 60 rfl) (by decide) ((lg_cmp_le _ _).mpr (by rw [z]; decide)) ?_
          refine xn_iinc 162 4 (fun y => [some (.ref 120), some (.int (nI h)), some (.int (nI nn)), some (.int (nI s)), some (.int y), some (.int (nI d))]) (i + 1) (ab_dd tk_m_rows 91 rfl) rfl (by decide) rfl (fun _ => rfl) (iinc_p 1) ?_
          refine x_goto 80 (ab_dd tk_m_rows 92 rfl) (by decide) ?_
          refine x_forget 5 (cont S1 mt hm1 hA1 hE1 hF1 hgr hf hmt ?_ ?_)
          · rw [hs]; show _ = sumW f ((gT (gI a N) (gWb a N h)) (mm + 1)) i + f i * (gT (gI a N) (gWb a N h)) (mm + 1) i; rw [z, Nat.zero_mul, Nat.zero_mul]
          · show _ ≤ 4 * (sumF f i + f i); rw [z, Nat.zero_mul] at hl; omega
        · cases e : gI a N i d with
          | none =>
            have et : sI S1 131 (4 * i + d) = -1 := (hgr.2.2.2.2.2 i d hi (by omega)).trans (by rw [e]; rfl)
            have eD : gD (gI a N) ((gT (gI a N) (gWb a N h)) mm) i d = 0 := by unfold gD; rw [e]
            refine x_iload 94 5 (ab_dd tk_m_rows 51 rfl) rfl rfl ?_
            refine x_iconst 95 4 (ab_dd tk_m_rows 52 rfl) rfl (by decide) (x_topn 4 rfl ?_)
            refine x_icmp_ge_f 98 (ab_dd tk_m_rows 53 rfl) rfl 159 (by decide) (fun z => absurd ((nI_leI (a := 4) (b := d) (by omega) (by omega)).mp z) (show ¬ (4 ≤ d) by omega)) ?_
            refine x_aload_n 99 0 (ab_dd tk_m_rows 54 rfl) rfl rfl rfl ?_
            refine t_getP 102 134 (ab_dd tk_m_rows 55 rfl) rfl F_m_59 (by decide) (Nat.lt_of_lt_of_le (by decide) hm1.1) (hm1.2.1 0 (by decide)) rfl (hm1.2.2 30 (by decide)) ?_
            refine x_iload 104 4 (ab_dd tk_m_rows 56 rfl) rfl rfl ?_
            refine t_lald 105 i (ab_dd tk_m_rows 57 rfl) rfl (by decide) (Nat.lt_of_lt_of_le (by decide) hm1.1) (hm1.2.1 14 (by decide)) rfl (by omega) (by decide) (x_topL (lN (f i)) hfi ?_)
            refine x_lconst 106 0 (ab_dd tk_m_rows 58 rfl) rfl (by decide) ?_
            refine x_lcmp 107 (ab_dd tk_m_rows 59 rfl) rfl ?_
            refine x_if_le_f 110 (ab_dd tk_m_rows 60 rfl) rfl 159 (by decide) (fun y => absurd ((pk_lLE (a := f i) (b := 0) (by omega) (by decide)).mp ((lg_cmp_le _ _).mp y)) (by omega)) ?_
            refine x_aload_n 111 0 (ab_dd tk_m_rows 61 rfl) rfl rfl rfl ?_
            refine t_getP 114 131 (ab_dd tk_m_rows 62 rfl) rfl F_m_50 (by decide) (Nat.lt_of_lt_of_le (by decide) hm1.1) (hm1.2.1 0 (by decide)) rfl (hm1.2.2 26 (by decide)) ?_
            refine x_iconst 115 4 (ab_dd tk_m_rows 63 rfl) rfl (by decide) (x_topn 4 rfl ?_)
            refine x_iload 117 4 (ab_dd tk_m_rows 64 rfl) rfl rfl ?_
            refine x_imul 118 (ab_dd tk_m_rows 65 rfl) rfl (x_topn (4 * i) (pk_mul _ _) ?_)
            refine x_iload 120 5 (ab_dd tk_m_rows 66 rfl) rfl rfl ?_
            refine x_iadd 121 (ab_dd tk_m_rows 67 rfl) rfl (x_topn ((4 * i) + d) (nI_add _ _) ?_)
            refine t_iald 122 ((4 * i) + d) (ab_dd tk_m_rows 68 rfl) rfl (by decide) (Nat.lt_of_lt_of_le (by decide) hm1.1) (hm1.2.1 11 (by decide)) rfl (by omega) (by decide) ?_
            refine x_iconst 123 (-1) (ab_dd tk_m_rows 69 rfl) rfl (by decide) ?_
            refine x_icmp_eq_t 153 (ab_dd tk_m_rows 70 rfl) (by decide) et ?_
            refine xn_iinc 156 5 (fun y => [some (.ref 120), some (.int (nI h)), some (.int (nI nn)), some (.int (nI s)), some (.int (nI i)), some (.int y)]) (d + 1) (ab_dd tk_m_rows 89 rfl) rfl (by decide) rfl (fun _ => rfl) (iinc_p 1) ?_
            refine x_goto 92 (ab_dd tk_m_rows 90 rfl) (by decide) ?_
            exact ih (d + 1) (by omega) S1 mt hm1 hA1 hE1 hF1 hgr hf hmt (by rw [hs]; show _ = _ + f i * (gDs (gI a N) ((gT (gI a N) (gWb a N h)) mm) i d + gD (gI a N) ((gT (gI a N) (gWb a N h)) mm) i d); rw [eD] <;> rfl) (by rw [Nat.mul_add]; omega)
          | some j =>
            have hj := gI_lt hgr.1 hi (show d < 4 by omega) e
            have et : sI S1 131 (4 * i + d) = nI j := (hgr.2.2.2.2.2 i d hi (by omega)).trans (by rw [e]; rfl)
            have eD : gD (gI a N) ((gT (gI a N) (gWb a N h)) mm) i d = ((gT (gI a N) (gWb a N h)) mm) j := by unfold gD; rw [e]
            refine x_iload 94 5 (ab_dd tk_m_rows 51 rfl) rfl rfl ?_
            refine x_iconst 95 4 (ab_dd tk_m_rows 52 rfl) rfl (by decide) (x_topn 4 rfl ?_)
            refine x_icmp_ge_f 98 (ab_dd tk_m_rows 53 rfl) rfl 159 (by decide) (fun z => absurd ((nI_leI (a := 4) (b := d) (by omega) (by omega)).mp z) (show ¬ (4 ≤ d) by omega)) ?_
            refine x_aload_n 99 0 (ab_dd tk_m_rows 54 rfl) rfl rfl rfl ?_
            refine t_getP 102 134 (ab_dd tk_m_rows 55 rfl) rfl F_m_59 (by decide) (Nat.lt_of_lt_of_le (by decide) hm1.1) (hm1.2.1 0 (by decide)) rfl (hm1.2.2 30 (by decide)) ?_
            refine x_iload 104 4 (ab_dd tk_m_rows 56 rfl) rfl rfl ?_
            refine t_lald 105 i (ab_dd tk_m_rows 57 rfl) rfl (by decide) (Nat.lt_of_lt_of_le (by decide) hm1.1) (hm1.2.1 14 (by decide)) rfl (by omega) (by decide) (x_topL (lN (f i)) hfi ?_)
            refine x_lconst 106 0 (ab_dd tk_m_rows 58 rfl) rfl (by decide) ?_
            refine x_lcmp 107 (ab_dd tk_m_rows 59 rfl) rfl ?_
            refine x_if_le_f 110 (ab_dd tk_m_rows 60 rfl) rfl 159 (by decide) (fun y => absurd ((pk_lLE (a := f i) (b := 0) (by omega) (by decide)).mp ((lg_cmp_le _ _).mp y)) (by omega)) ?_
            refine x_aload_n 111 0 (ab_dd tk_m_rows 61 rfl) rfl rfl rfl ?_
            refine t_getP 114 131 (ab_dd tk_m_rows 62 rfl) rfl F_m_50 (by decide) (Nat.lt_of_lt_of_le (by decide) hm1.1) (hm1.2.1 0 (by decide)) rfl (hm1.2.2 26 (by decide)) ?_
            refine x_iconst 115 4 (ab_dd tk_m_rows 63 rfl) rfl (by decide) (x_topn 4 rfl ?_)
            refine x_iload 117 4 (ab_dd tk_m_rows 64 rfl) rfl rfl ?_
            refine x_imul 118 (ab_dd tk_m_rows 65 rfl) rfl (x_topn (4 * i) (pk_mul _ _) ?_)
            refine x_iload 120 5 (ab_dd tk_m_rows 66 rfl) rfl rfl ?_
            refine x_iadd 121 (ab_dd tk_m_rows 67 rfl) rfl (x_topn ((4 * i) + d) (nI_add _ _) ?_)
            refine t_iald 122 ((4 * i) + d) (ab_dd tk_m_rows 68 rfl) rfl (by decide) (Nat.lt_of_lt_of_le (by decide) hm1.1) (hm1.2.1 11 (by decide)) rfl (by omega) (by decide) ?_
            refine x_iconst 123 (-1) (ab_dd tk_m_rows 69 rfl) rfl (by decide) ?_
            refine x_icmp_eq_f 126 (ab_dd tk_m_rows 70 rfl) rfl 153 (by decide) (by rw [et]; exact nI_nm1 (by omega)) ?_
            refine x_aload_n 127 0 (ab_dd tk_m_rows 71 rfl) rfl rfl rfl ?_
            refine t_getP 130 135 (ab_dd tk_m_rows 72 rfl) rfl F_m_63 (by decide) (Nat.lt_of_lt_of_le (by decide) hm1.1) (hm1.2.1 0 (by decide)) rfl (hm1.2.2 31 (by decide)) ?_
            refine x_aload_n 131 0 (ab_dd tk_m_rows 73 rfl) rfl rfl rfl ?_
            refine t_getP 134 131 (ab_dd tk_m_rows 74 rfl) rfl F_m_50 (by decide) (Nat.lt_of_lt_of_le (by decide) hm1.1) (hm1.2.1 0 (by decide)) rfl (hm1.2.2 26 (by decide)) ?_
            refine x_iconst 135 4 (ab_dd tk_m_rows 75 rfl) rfl (by decide) (x_topn 4 rfl ?_)
            refine x_iload 137 4 (ab_dd tk_m_rows 76 rfl) rfl rfl ?_
            refine x_imul 138 (ab_dd tk_m_rows 77 rfl) rfl (x_topn (4 * i) (pk_mul _ _) ?_)
            refine x_iload 140 5 (ab_dd tk_m_rows 78 rfl) rfl rfl ?_
            refine x_iadd 141 (ab_dd tk_m_rows 79 rfl) rfl (x_topn ((4 * i) + d) (nI_add _ _) ?_)
            refine t_iald 142 ((4 * i) + d) (ab_dd tk_m_rows 80 rfl) rfl (by decide) (Nat.lt_of_lt_of_le (by decide) hm1.1) (hm1.2.1 11 (by decide)) rfl (by omega) (by decide) (x_topn j et ?_)
            refine x_dup2 143 (ab_dd tk_m_rows 81 rfl) rfl rfl rfl ?_
            refine t_lald 144 j (ab_dd tk_m_rows 82 rfl) rfl (by decide) (Nat.lt_of_lt_of_le (by decide) hm1.1) (hm1.2.1 15 (by decide)) rfl (by omega) (by decide) (x_topL (lN (mt j)) (hmt j hj) ?_)
            refine x_aload_n 145 0 (ab_dd tk_m_rows 83 rfl) rfl rfl rfl ?_
            refine t_getP 148 134 (ab_dd tk_m_rows 84 rfl) rfl F_m_59 (by decide) (Nat.lt_of_lt_of_le (by decide) hm1.1) (hm1.2.1 0 (by decide)) rfl (hm1.2.2 30 (by decide)) ?_
            refine x_iload 150 4 (ab_dd tk_m_rows 85 rfl) rfl rfl ?_
            refine t_lald 151 i (ab_dd tk_m_rows 86 rfl) rfl (by decide) (Nat.lt_of_lt_of_le (by decide) hm1.1) (hm1.2.1 14 (by decide)) rfl (by omega) (by decide) (x_topL (lN (f i)) hfi ?_)
            refine x_ladd 152 (ab_dd tk_m_rows 87 rfl) rfl (x_topL (lN (mt j + f i)) (lN_add _ _) ?_)
            refine t_last 153 j (ab_dd tk_m_rows 88 rfl) rfl (by decide) (Nat.lt_of_lt_of_le (by decide) hm1.1) (hm1.2.1 15 (by decide)) rfl (by omega) (by decide) ?_
            refine xn_iinc 156 5 (fun y => [some (.ref 120), some (.int (nI h)), some (.int (nI nn)), some (.int (nI s)), some (.int (nI i)), some (.int y)]) (d + 1) (ab_dd tk_m_rows 89 rfl) rfl (by decide) rfl (fun _ => rfl) (iinc_p 1) ?_
            refine x_goto 92 (ab_dd tk_m_rows 90 rfl) (by decide) ?_
            refine ih (d + 1) (by omega) _ (up1 mt j (mt j + f i)) hm1 hA1 (hE1.pJ (by decide)) hF1 hgr hf hmt.up ?_ ?_
            · rw [sumW_up N hj, hs]; show _ = _ + f i * (gDs (gI a N) ((gT (gI a N) (gWb a N h)) mm) i d + gD (gI a N) ((gT (gI a N) (gWb a N h)) mm) i d); rw [eD, Nat.mul_add]; omega
            · rw [← sumW_1, sumW_up N hj, sumW_1, Nat.mul_add]; omega
    have nodes : ∀ (s mm : Nat) (f : Nat → Nat), sumF f N ≤ 4 ^ 12 → ∀ (cont : ∀ S1 mt, mSh S1 → mA S1 = a → sEq qL S S1 → fEq S S1 → mGr S1 a N → fArL S1 134 f N → fArL S1 135 mt N → sumW mt ((gT (gI a N) (gWb a N h)) mm) N = sumW f ((gT (gI a N) (gWb a N h)) (mm + 1)) N → sumF mt N ≤ 4 * sumF f N → ab_Ex G 6 M_m_rows 165 [some (.ref 120), some (.int (nI h)), some (.int (nI nn)), some (.int (nI s)), none, none] [] (sw S1) (fun v w' => ∃ v0, pQ S (some (.long v0)) v w' ∧ ((¬ ((0 ≤ k ∧ k ≤ 4) ∧ (0 ≤ n ∧ n ≤ 12)) ∧ v0 = -3) ∨ (((0 ≤ k ∧ k ≤ 4) ∧ (0 ≤ n ∧ n ≤ 12)) ∧ ∃ N, (aL a N).length = N ∧ v0 = lN (gT (gI a N) (gWb a N (cN k)) (cN n) 0))))) (m i : Nat), i + m = N → ∀ S1 mt, mSh S1 → mA S1 = a → sEq qL S S1 → fEq S S1 → mGr S1 a N → fArL S1 134 f N → fArL S1 135 mt N → sumW mt ((gT (gI a N) (gWb a N h)) mm) N = sumW f ((gT (gI a N) (gWb a N h)) (mm + 1)) i → sumF mt N ≤ 4 * sumF f i → ab_Ex G 6 M_m_rows 80 [some (.ref 120), some (.int (nI h)), some (.int (nI nn)), some (.int (nI s)), some (.int (nI i)), none] [] (sw S1) (fun v w' => ∃ v0, pQ S (some (.long v0)) v w' ∧ ((¬ ((0 ≤ k ∧ k ≤ 4) ∧ (0 ≤ n ∧ n ≤ 12)) ∧ v0 = -3) ∨ (((0 ≤ k ∧ k ≤ 4) ∧ (0 ≤ n ∧ n ≤ 12)) ∧ ∃ N, (aL a N).length = N ∧ v0 = lN (gT (gI a N) (gWb a N (cN k)) (cN n) 0)))) := by
      intro s mm f hb cont m
      induction m with
      | zero =>
        intro i hi S1 mt hm1 hA1 hE1 hF1 hgr hf hmt hs hl
        obtain rfl : i = N := by omega
        refine x_iload 82 4 (ab_dd tk_m_rows 45 rfl) rfl rfl ?_
        refine x_aload_n 83 0 (ab_dd tk_m_rows 46 rfl) rfl rfl rfl ?_
        refine t_getI 86 (ab_dd tk_m_rows 47 rfl) rfl F_m_368 (by decide) (Nat.lt_of_lt_of_le (by decide) hm1.1) (hm1.2.1 0 (by decide)) rfl (x_topn i hgr.2.2.2.1 ?_)
        refine x_icmp_ge_t 165 (ab_dd tk_m_rows 48 rfl) (by decide) ((nI_leI (a := i) (b := i) (by omega) (by omega)).mpr (show i ≤ i by omega)) ?_
        exact x_forget 4 (cont S1 mt hm1 hA1 hE1 hF1 hgr hf hmt hs hl)
      | succ m ih =>
        intro i hi S1 mt hm1 hA1 hE1 hF1 hgr hf hmt hs hl
        refine x_iload 82 4 (ab_dd tk_m_rows 45 rfl) rfl rfl ?_
        refine x_aload_n 83 0 (ab_dd tk_m_rows 46 rfl) rfl rfl rfl ?_
        refine t_getI 86 (ab_dd tk_m_rows 47 rfl) rfl F_m_368 (by decide) (Nat.lt_of_lt_of_le (by decide) hm1.1) (hm1.2.1 0 (by decide)) rfl (x_topn N hgr.2.2.2.1 ?_)
        refine x_icmp_ge_f 89 (ab_dd tk_m_rows 48 rfl) rfl 165 (by decide) (fun z => absurd ((nI_leI (a := N) (b := i) (by omega) (by omega)).mp z) (show ¬ (N ≤ i) by omega)) ?_
        refine x_iconst 90 0 (ab_dd tk_m_rows 49 rfl) rfl (by decide) (x_topn 0 rfl ?_)
        refine x_istore 92 [some (.ref 120), some (.int (nI h)), some (.int (nI nn)), some (.int (nI s)), some (.int (nI i)), some (.int (nI 0))] 5 (ab_dd tk_m_rows 50 rfl) rfl (by decide) rfl ?_
        exact deeds s mm f i (by omega) hb (fun S2 mt2 g1 g2 g3 g4 g5 g6 g7 g8 g9 => ih (i + 1) (by omega) S2 mt2 g1 g2 g3 g4 g5 g6 g7 g8 g9) 4 0 rfl S1 mt hm1 hA1 hE1 hF1 hgr hf hmt hs (by omega)
    have rounds : ∀ (m s : Nat), s + m = nn → ∀ S1 f, mSh S1 → mA S1 = a → sEq qL S S1 → fEq S S1 → mGr S1 a N → fArL S1 134 f N → fArL S1 135 (fun _ => 0) N → sumW f ((gT (gI a N) (gWb a N h)) m) N = (gT (gI a N) (gWb a N h)) nn 0 → sumF f N ≤ 4 ^ s → ab_Ex G 6 M_m_rows 72 [some (.ref 120), some (.int (nI h)), some (.int (nI nn)), some (.int (nI s)), none, none] [] (sw S1) (fun v w' => ∃ v0, pQ S (some (.long v0)) v w' ∧ ((¬ ((0 ≤ k ∧ k ≤ 4) ∧ (0 ≤ n ∧ n ≤ 12)) ∧ v0 = -3) ∨ (((0 ≤ k ∧ k ≤ 4) ∧ (0 ≤ n ∧ n ≤ 12)) ∧ ∃ N, (aL a N).length = N ∧ v0 = lN (gT (gI a N) (gWb a N (cN k)) (cN n) 0)))) := by
      intro m
      induction m with
      | zero =>
        intro s hs S1 f hm1 hA1 hE1 hF1 hgr hf hmt hsum hl
        refine x_iload_n 73 3 (ab_dd tk_m_rows 40 rfl) rfl rfl rfl ?_
        refine x_iload_n 74 2 (ab_dd tk_m_rows 41 rfl) rfl rfl rfl ?_
        refine x_icmp_ge_t 211 (ab_dd tk_m_rows 42 rfl) (by decide) ((nI_leI (a := nn) (b := s) (by omega) (by omega)).mpr (show nn ≤ s by omega)) ?_
        refine x_lconst 212 0 (ab_dd tk_m_rows 116 rfl) rfl (by decide) (x_topL (lN 0) rfl ?_)
        refine x_lstore_n 213 [some (.ref 120), some (.int (nI h)), some (.int (nI nn)), some (.long (lN 0)), none, none] 3 (ab_dd tk_m_rows 117 rfl) rfl rfl (by decide) rfl ?_
        refine x_iconst 214 0 (ab_dd tk_m_rows 118 rfl) rfl (by decide) (x_topn 0 rfl ?_)
        refine x_istore 216 [some (.ref 120), some (.int (nI h)), some (.int (nI nn)), some (.long (lN 0)), none, some (.int (nI 0))] 5 (ab_dd tk_m_rows 119 rfl) rfl (by decide) rfl ?_
        exact fin S1 f hm1 hA1 hE1 hF1 hgr hf N 0 (by omega) hsum
      | succ m ih =>
        intro s hs S1 f hm1 hA1 hE1 hF1 hgr hf hmt hsum hl
        have hb : sumF f N ≤ 4 ^ 12 := Nat.le_trans hl (Nat.pow_le_pow_right (by decide) (by omega))
        have stp : ∀ S2 mt, mSh S2 → mA S2 = a → sEq qL S S2 → fEq S S2 → mGr S2 a N → fArL S2 134 f N → fArL S2 135 mt N → sumW mt ((gT (gI a N) (gWb a N h)) m) N = (gT (gI a N) (gWb a N h)) nn 0 → sumF mt N ≤ 4 ^ (s + 1) → ab_Ex G 6 M_m_rows 165 [some (.ref 120), some (.int (nI h)), some (.int (nI nn)), some (.int (nI s)), none, none] [] (sw S2) (fun v w' => ∃ v0, pQ S (some (.long v0)) v w' ∧ ((¬ ((0 ≤ k ∧ k ≤ 4) ∧ (0 ≤ n ∧ n ≤ 12)) ∧ v0 = -3) ∨ (((0 ≤ k ∧ k ≤ 4) ∧ (0 ≤ n ∧ n ≤ 12)) ∧ ∃ N, (aL a N).length = N ∧ v0 = lN (gT (gI a N) (gWb a N (cN k)) (cN n) 0)))) := by
          intro S2 mt g1 g2 g3 g4 g5 g6 g7 g8 g9
          refine x_iconst 166 0 (ab_dd tk_m_rows 93 rfl) rfl (by decide) (x_topn 0 rfl ?_)
          refine x_istore 168 [some (.ref 120), some (.int (nI h)), some (.int (nI nn)), some (.int (nI s)), some (.int (nI 0)), none] 4 (ab_dd tk_m_rows 94 rfl) rfl (by decide) rfl ?_
          exact copy s mt (fun S3 f1 f2 f3 f4 f5 f6 f7 => ih (s + 1) (by omega) S3 mt f1 f2 f3 f4 f5 f6 f7 g8 g9) N 0 (by omega) S2 g1 g2 g3 g4 g5 (fun j hj => by rw [if_neg (by omega)]; exact g7 j hj) (fun j hj => absurd hj (by omega))
        refine x_iload_n 73 3 (ab_dd tk_m_rows 40 rfl) rfl rfl rfl ?_
        refine x_iload_n 74 2 (ab_dd tk_m_rows 41 rfl) rfl rfl rfl ?_
        refine x_icmp_ge_f 77 (ab_dd tk_m_rows 42 rfl) rfl 211 (by decide) (fun z => absurd ((nI_leI (a := nn) (b := s) (by omega) (by omega)).mp z) (show ¬ (nn ≤ s) by omega)) ?_
        refine x_iconst 78 0 (ab_dd tk_m_rows 43 rfl) rfl (by decide) (x_topn 0 rfl ?_)
        refine x_istore 80 [some (.ref 120), some (.int (nI h)), some (.int (nI nn)), some (.int (nI s)), some (.int (nI 0)), none] 4 (ab_dd tk_m_rows 44 rfl) rfl (by decide) rfl ?_
        refine nodes s m f hb (fun S2 mt g1 g2 g3 g4 g5 g6 g7 g8 g9 => ?_) N 0 (by omega) S1 (fun _ => 0) hm1 hA1 hE1 hF1 hgr hf hmt (by rw [sumW_0 N (fun _ _ => rfl)]; rfl) (by rw [sumF_0 N (fun _ _ => rfl)]; exact Nat.zero_le _)
        refine stp S2 mt g1 g2 g3 g4 g5 g6 g7 ?_ ?_
        · rw [g8]; exact hsum
        · have : sumF f N * 4 ≤ 4 ^ s * 4 := Nat.mul_le_mul_right 4 hl
          rw [← Nat.pow_succ] at this
          omega
    have fill : ∀ (m i : Nat), i + m = N → ∀ S1, mSh S1 → mA S1 = a → sEq qL S S1 → fEq S S1 → mGr S1 a N → (∀ j, j < i → sJ S1 134 j = lN (if j = 0 then 1 else 0)) → (∀ j, j < i → sJ S1 135 j = lN 0) → ab_Ex G 6 M_m_rows 34 [some (.ref 120), some (.int (nI h)), some (.int (nI nn)), some (.int (nI i)), none, none] [] (sw S1) (fun v w' => ∃ v0, pQ S (some (.long v0)) v w' ∧ ((¬ ((0 ≤ k ∧ k ≤ 4) ∧ (0 ≤ n ∧ n ≤ 12)) ∧ v0 = -3) ∨ (((0 ≤ k ∧ k ≤ 4) ∧ (0 ≤ n ∧ n ≤ 12)) ∧ ∃ N, (aL a N).length = N ∧ v0 = lN (gT (gI a N) (gWb a N (cN k)) (cN n) 0)))) := by
      intro m
      induction m with
      | zero =>
        intro i hi S1 hm1 hA1 hE1 hF1 hgr h1 h2
        refine x_iload_n 35 3 (ab_dd tk_m_rows 18 rfl) rfl rfl rfl ?_
        refine x_aload_n 36 0 (ab_dd tk_m_rows 19 rfl) rfl rfl rfl ?_
        refine t_getI 39 (ab_dd tk_m_rows 20 rfl) rfl F_m_368 (by decide) (Nat.lt_of_lt_of_le (by decide) hm1.1) (hm1.2.1 0 (by decide)) rfl (x_topn N hgr.2.2.2.1 ?_)
        refine x_icmp_ge_t 70 (ab_dd tk_m_rows 21 rfl) (by decide) ((nI_leI (a := N) (b := i) (by omega) (by omega)).mpr (show N ≤ i by omega)) ?_
        refine x_iconst 71 0 (ab_dd tk_m_rows 38 rfl) rfl (by decide) (x_topn 0 rfl ?_)
        refine x_istore_n 72 [some (.ref 120), some (.int (nI h)), some (.int (nI nn)), some (.int (nI 0)), none, none] 3 (ab_dd tk_m_rows 39 rfl) rfl rfl (by decide) rfl ?_
        exact rounds nn 0 (by omega) S1 (fun i => if i = 0 then 1 else 0) hm1 hA1 hE1 hF1 hgr (fun j hj => h1 j (by omega)) (fun j hj => h2 j (by omega)) (sum_one N hgr.2.2.1).1 (by rw [(sum_one (t := fun _ => 0) N hgr.2.2.1).2]; decide)
      | succ m ih =>
        intro i hi S1 hm1 hA1 hE1 hF1 hgr h1 h2
        refine x_iload_n 35 3 (ab_dd tk_m_rows 18 rfl) rfl rfl rfl ?_
        refine x_aload_n 36 0 (ab_dd tk_m_rows 19 rfl) rfl rfl rfl ?_
        refine t_getI 39 (ab_dd tk_m_rows 20 rfl) rfl F_m_368 (by decide) (Nat.lt_of_lt_of_le (by decide) hm1.1) (hm1.2.1 0 (by decide)) rfl (x_topn N hgr.2.2.2.1 ?_)
        refine x_icmp_ge_f 42 (ab_dd tk_m_rows 21 rfl) rfl 70 (by decide) (fun z => absurd ((nI_leI (a := N) (b := i) (by omega) (by omega)).mp z) (show ¬ (N ≤ i) by omega)) ?_
        refine x_aload_n 43 0 (ab_dd tk_m_rows 22 rfl) rfl rfl rfl ?_
        refine t_getP 46 134 (ab_dd tk_m_rows 23 rfl) rfl F_m_59 (by decide) (Nat.lt_of_lt_of_le (by decide) hm1.1) (hm1.2.1 0 (by decide)) rfl (hm1.2.2 30 (by decide)) ?_
        refine x_iload_n 47 3 (ab_dd tk_m_rows 24 rfl) rfl rfl rfl ?_
        refine x_iload_n 48 3 (ab_dd tk_m_rows 25 rfl) rfl rfl rfl ?_
        refine xn_if_ne 51 55 (ab_dd tk_m_rows 26 rfl) rfl (by decide) (by omega) (fun h48 => ?_) (fun h48 => ?_)
        · refine x_lconst 56 0 (ab_dd tk_m_rows 29 rfl) rfl (by decide) ?_
          refine t_last 57 i (ab_dd tk_m_rows 30 rfl) rfl (by decide) (Nat.lt_of_lt_of_le (by decide) hm1.1) (hm1.2.1 14 (by decide)) rfl (by omega) (by decide) ?_
          refine x_aload_n 58 0 (ab_dd tk_m_rows 31 rfl) rfl rfl rfl ?_
          refine t_getP 61 135 (ab_dd tk_m_rows 32 rfl) rfl F_m_63 (by decide) (Nat.lt_of_lt_of_le (by decide) hm1.1) (hm1.2.1 0 (by decide)) rfl (hm1.2.2 31 (by decide)) ?_
          refine x_iload_n 62 3 (ab_dd tk_m_rows 33 rfl) rfl rfl rfl ?_
          refine x_lconst 63 0 (ab_dd tk_m_rows 34 rfl) rfl (by decide) ?_
          refine t_last 64 i (ab_dd tk_m_rows 35 rfl) rfl (by decide) (Nat.lt_of_lt_of_le (by decide) hm1.1) (hm1.2.1 15 (by decide)) rfl (by omega) (by decide) ?_
          refine xn_iinc 67 3 (fun y => [some (.ref 120), some (.int (nI h)), some (.int (nI nn)), some (.int y), none, none]) (i + 1) (ab_dd tk_m_rows 36 rfl) rfl (by decide) rfl (fun _ => rfl) (iinc_p 1) ?_
          refine x_goto 34 (ab_dd tk_m_rows 37 rfl) (by decide) ?_
          refine ih (i + 1) (by omega) _ hm1 hA1 ((hE1.pJ (by decide)).pJ (by decide)) hF1 hgr (fun j hj => ?_) (fun j hj => ?_)
          · show up2 (sJ S1) 134 i _ 134 j = _
            by_cases e : j = i
            · rw [e, up2_s, if_neg (by omega)] <;> rfl
            · rw [up2_k e]; exact h1 j (by omega)
          · show up2 (sJ S1) 135 i _ 135 j = _
            by_cases e : j = i
            · rw [e, up2_s] <;> rfl
            · rw [up2_k e]; exact h2 j (by omega)
        · refine x_lconst 52 1 (ab_dd tk_m_rows 27 rfl) rfl (by decide) ?_
          refine x_goto 56 (ab_dd tk_m_rows 28 rfl) (by decide) ?_
          refine t_last 57 i (ab_dd tk_m_rows 30 rfl) rfl (by decide) (Nat.lt_of_lt_of_le (by decide) hm1.1) (hm1.2.1 14 (by decide)) rfl (by omega) (by decide) ?_
          refine x_aload_n 58 0 (ab_dd tk_m_rows 31 rfl) rfl rfl rfl ?_
          refine t_getP 61 135 (ab_dd tk_m_rows 32 rfl) rfl F_m_63 (by decide) (Nat.lt_of_lt_of_le (by decide) hm1.1) (hm1.2.1 0 (by decide)) rfl (hm1.2.2 31 (by decide)) ?_
          refine x_iload_n 62 3 (ab_dd tk_m_rows 33 rfl) rfl rfl rfl ?_
          refine x_lconst 63 0 (ab_dd tk_m_rows 34 rfl) rfl (by decide) ?_
          refine t_last 64 i (ab_dd tk_m_rows 35 rfl) rfl (by decide) (Nat.lt_of_lt_of_le (by decide) hm1.1) (hm1.2.1 15 (by decide)) rfl (by omega) (by decide) ?_
          refine xn_iinc 67 3 (fun y => [some (.ref 120), some (.int (nI h)), some (.int (nI nn)), some (.int y), none, none]) (i + 1) (ab_dd tk_m_rows 36 rfl) rfl (by decide) rfl (fun _ => rfl) (iinc_p 1) ?_
          refine x_goto 34 (ab_dd tk_m_rows 37 rfl) (by decide) ?_
          refine ih (i + 1) (by omega) _ hm1 hA1 ((hE1.pJ (by decide)).pJ (by decide)) hF1 hgr (fun j hj => ?_) (fun j hj => ?_)
          · show up2 (sJ S1) 134 i _ 134 j = _
            by_cases e : j = i
            · rw [e, up2_s, if_pos h48] <;> rfl
            · rw [up2_k e]; exact h1 j (by omega)
          · show up2 (sJ S1) 135 i _ 135 j = _
            by_cases e : j = i
            · rw [e, up2_s] <;> rfl
            · rw [up2_k e]; exact h2 j (by omega)
    exact fill N 0 (by omega) S0 hm0 hA0 hE0 hF0 hgr0 (fun j hj => absurd hj (by omega)) (fun j hj => absurd hj (by omega))
  refine x_enter [some (.ref 120), some (.int k), some (.int n), none, none, none] (by decide) (Nat.le_of_ble_eq_true rfl) rfl (fun v w' h => by obtain ⟨v0, ⟨rfl, -⟩, -⟩ := h; trivial) ?_
  refine x_aload_n 1 0 (ab_dd tk_m_rows 0 rfl) rfl rfl rfl ?_
  refine x_iconst 2 0 (ab_dd tk_m_rows 1 rfl) rfl (by decide) (x_topn 0 rfl ?_)
  refine t_putI 5 (ab_dd tk_m_rows 2 rfl) rfl F_m_1 (by decide) (Nat.lt_of_lt_of_le (by decide) hm.1) (hm.2.1 0 (by decide)) rfl rfl rfl ?_
  refine x_iload_n 6 1 (ab_dd tk_m_rows 3 rfl) rfl rfl rfl ?_
  refine x_callS 9 M_m_isWarm 1 1 [_] (ab_dd tk_m_rows 4 rfl) rfl (by decide) K_m_isWarm T_m_isWarm L_m_365 rfl (Nat.le_of_ble_eq_true rfl) (c_m_isWarm _) (fun v1 w1 h1 => ?_)
  obtain ⟨rfl, rfl⟩ := h1
  refine xb_if_eq 12 24 (ab_dd tk_m_rows 5 rfl) rfl (by decide) (fun h9 => ?_) (fun h9 => ?_)
  · refine x_ldc2 27 (ab_dd tk_m_rows 12 rfl) rfl C_m_389 ?_
    exact x_lret (ab_dd tk_m_rows 13 rfl) ⟨-3, ⟨rfl, _, rfl, hm, hA.trans hA.symm, ((sEq.rf (l := qL)).pI (by decide)), (fEq.pI (fEq.rf (S := S)) (Or.inr (by decide)))⟩, Or.inl ⟨fun z => h9 z.1, rfl⟩⟩
  · refine x_iload_n 13 2 (ab_dd tk_m_rows 6 rfl) rfl rfl rfl ?_
    refine x_i2l 14 (ab_dd tk_m_rows 7 rfl) rfl ?_
    refine x_lconst 15 0 (ab_dd tk_m_rows 8 rfl) rfl (by decide) ?_
    refine x_ldc2 18 (ab_dd tk_m_rows 9 rfl) rfl C_m_387 ?_
    refine x_callS 21 M_m_within 0 3 [_, _, _] (ab_dd tk_m_rows 10 rfl) rfl (by decide) K_m_within T_m_within L_m_159 rfl (Nat.le_of_ble_eq_true rfl) (w_inI 0 12 rfl rfl _) (fun v1 w1 h1 => ?_)
    obtain ⟨rfl, rfl⟩ := h1
    refine xb_if_ne 24 28 (ab_dd tk_m_rows 11 rfl) rfl (by decide) (fun h21 => ?_) (fun h21 => ?_)
    · obtain ⟨h, hh, ekh, ek⟩ := in_get (n := 4) (by decide) h9
      obtain ⟨nn, hnn, enn, en⟩ := in_get (n := 12) (by decide) h21
      rw [show some (Value.int k) = some (Value.int (nI h)) by rw [ekh], show some (Value.int n) = some (Value.int (nI nn)) by rw [enn]]
      refine x_aload_n 29 0 (ab_dd tk_m_rows 14 rfl) rfl rfl rfl ?_
      refine t_callV 32 M_m_laysStands 5 0 [] (ab_dd tk_m_rows 15 rfl) rfl (by decide) K_m_laysStands V_m_laysStands.1 V_m_laysStands.2 L_m_375 rfl (Nat.le_of_ble_eq_true rfl) (by decide) (Nat.lt_of_lt_of_le (by decide) hm.1) (hm.2.1 0 (by decide)) rfl (c_m_laysStands (by exact hm) (by exact hA) ha) (fun v1 w1 h1 => ?_)
      obtain ⟨rfl, U1, N, rfl, um1, uA1, uE1, uF1, hbf⟩ := h1
      have hgr := hbf.gr
      refine x_iconst 33 0 (ab_dd tk_m_rows 16 rfl) rfl (by decide) (x_topn 0 rfl ?_)
      refine x_istore_n 34 [some (.ref 120), some (.int (nI h)), some (.int (nI nn)), some (.int (nI 0)), none, none] 3 (ab_dd tk_m_rows 17 rfl) rfl rfl (by decide) rfl ?_
      exact go N h nn _ ek hh en hnn ⟨h9, h21⟩ um1 uA1 (((sEq.rf (l := qL)).pI (by decide)).tr (uE1.mono (by decide))) (fEq.t2 uF1 (by exact (fEq.pI (fEq.rf (S := S)) (Or.inr (by decide))))) hgr
    · refine x_ldc2 27 (ab_dd tk_m_rows 12 rfl) rfl C_m_389 ?_
      exact x_lret (ab_dd tk_m_rows 13 rfl) ⟨-3, ⟨rfl, _, rfl, hm, hA.trans hA.symm, ((sEq.rf (l := qL)).pI (by decide)), (fEq.pI (fEq.rf (S := S)) (Or.inr (by decide)))⟩, Or.inl ⟨fun z => h21 z.2, rfl⟩⟩
