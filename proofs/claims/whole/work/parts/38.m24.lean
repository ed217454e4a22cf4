theorem nI_nm1 {t : Nat} (h : t < 2 ^ 31) : ¬ nI t = -1 := fun e => by
  have := congrArg Int32.toInt e
  rw [nI_toInt h, show (-1 : Int32).toInt = -1 by decide] at this
  omega
/-! ===== settling: the row of stands that comes if nothing is done ===== -/
theorem pigeon : ∀ (N n : Nat) (f : Nat → Nat), (∀ i, i < n → f i < N) → (∀ i j, i < j → j < n → f i ≠ f j) → n ≤ N
  | 0, n, f, h, _ => by
    by_cases hn : n = 0
    · omega
    · have := h 0 (by omega); omega
  | N + 1, n, f, h, hd => by
    by_cases hx : ∃ i, i < n ∧ f i = N
    · obtain ⟨i, hi, e⟩ := hx
      have := pigeon N (n - 1) (fun k => if k < i then f k else f (k + 1)) (fun k hk => by
        show (if k < i then f k else f (k + 1)) < N
        by_cases g : k < i
        · rw [if_pos g]
          have h1 := h k (by omega); have h2 := hd k i g hi; omega
        · rw [if_neg g]
          have h1 := h (k + 1) (by omega); have h2 := hd i (k + 1) (by omega) (by omega); omega) (fun k j hkj hj => by
        show (if k < i then f k else f (k + 1)) ≠ (if j < i then f j else f (j + 1))
        by_cases g : k < i
        · rw [if_pos g]
          by_cases g2 : j < i
          · rw [if_pos g2]; exact hd k j hkj (by omega)
          · rw [if_neg g2]; exact hd k (j + 1) (by omega) (by omega)
        · rw [if_neg g, if_neg (by omega)]; exact hd (k + 1) (j + 1) (by omega) (by omega))
      omega
    · have := pigeon N n f (fun i hi => by have h1 := h i hi; have h2 : f i ≠ N := fun e => hx ⟨i, hi, e⟩; omega) hd
      omega
/-- f comes again at n, where it was at t, and not before -/
def isLas (f : Nat → Nat) (n t : Nat) : Prop := t < n ∧ f n = f t ∧ ∀ i j, i < j → j < n → f i ≠ f j
theorem isLas_one {f : Nat → Nat} {n t n' t' : Nat} (h : isLas f n t) (h' : isLas f n' t') : n = n' ∧ t = t' := by
  have e : n = n' := by
    rcases Nat.lt_trichotomy n n' with g | g | g
    · exact absurd h.2.1.symm (h'.2.2 t n h.1 g)
    · exact g
    · exact absurd h'.2.1.symm (h.2.2 t' n' h'.1 g)
  subst e
  refine ⟨rfl, ?_⟩
  rcases Nat.lt_trichotomy t t' with g | g | g
  · exact absurd (h.2.1.symm.trans h'.2.1) (h.2.2 t t' g h'.1)
  · exact g
  · exact absurd (h'.2.1.symm.trans h.2.1) (h.2.2 t' t g h.1)
theorem isLas_at {f g : Nat → Nat} (hf : ∀ k, f (k + 1) = g (f k)) {n t : Nat} (h : isLas f n t) : ∀ m, f m = f (if m < t then m else t + (m - t) % (n - t)) := by
  intro m
  induction m with
  | zero =>
    by_cases g : 0 < t
    · rw [if_pos g]
    · rw [if_neg g, Nat.zero_sub, Nat.zero_mod, Nat.add_zero]
      congr 1; omega
  | succ m ih =>
    by_cases g1 : m + 1 < t
    · rw [if_pos g1]
    · rw [if_neg g1]
      by_cases g2 : m < t
      · have e : t = m + 1 := by omega
        rw [e, Nat.sub_self, Nat.zero_mod]
      · rw [if_neg g2] at ih
        rw [hf, ih, ← hf]
        have hp : 0 < n - t := by have := h.1; omega
        have hlt := Nat.mod_lt (m - t) hp
        by_cases g3 : (m - t) % (n - t) + 1 = n - t
        · have e : (m + 1 - t) % (n - t) = 0 := by
            rw [show m + 1 - t = (m - t) + 1 by omega, Nat.add_mod]
            by_cases h1 : n - t = 1
            · rw [h1]; omega
            · rw [Nat.mod_eq_of_lt (a := 1) (by omega), g3, Nat.mod_self]
          rw [e, show t + (m - t) % (n - t) + 1 = n by omega, Nat.add_zero]
          exact h.2.1
        · have e : (m + 1 - t) % (n - t) = (m - t) % (n - t) + 1 := by
            rw [show m + 1 - t = (m - t) + 1 by omega, Nat.add_mod, Nat.mod_eq_of_lt (a := 1) (by omega), Nat.mod_eq_of_lt (by omega)]
          rw [e] <;> rfl
/-- v is the first m with P, -1 if there is none -/
def fstM (P : Nat → Prop) (v : Int32) : Prop := (∃ m, P m ∧ (∀ j, j < m → ¬ P j) ∧ v = nI m) ∨ ((∀ m, ¬ P m) ∧ v = -1)
theorem fstM_one {P : Nat → Prop} {v v' : Int32} (h : fstM P v) (h' : fstM P v') : v = v' := by
  rcases h with ⟨m, h1, h2, h3⟩ | ⟨h1, h2⟩
  · rcases h' with ⟨m', h1', h2', h3'⟩ | ⟨h1', h2'⟩
    · have : m = m' := by
        rcases Nat.lt_trichotomy m m' with g | g | g
        · exact absurd h1 (h2' m g)
        · exact g
        · exact absurd h1' (h2 m' g)
      rw [h3, h3', this]
    · exact absurd h1 (h1' m)
  · rcases h' with ⟨m', h1', h2', h3'⟩ | ⟨h1', h2'⟩
    · exact absurd h1' (h1 m')
    · rw [h2, h2']
def aI (a : Nat → Int32) (mo : Int32) (k : Nat) : Nat := spI (aR a) (mWl (rwS a)) (mSea (rwS a)) (mCls (rwS a)) mo (aE a) k
theorem aI_s (a : Nat → Int32) (mo : Int32) (k : Nat) : aI a mo (k + 1) = aS a mo (aI a mo k) 0 := rfl
theorem aI_ok {a : Nat → Int32} (h : aOk a) (mo : Int32) (k : Nat) : mOk (aR a) (aI a mo k) := spI_Ok h.R.2 h.E k
theorem aS_div {a : Nat → Int32} (h : aOk a) {mo : Int32} {c : Nat} (hc : mOk (aR a) c) : aS a mo c 0 / 625 = c / 625 := by
  have := (spF_dig (tw := fun r => spT (mWl (rwS a)) (mSea (rwS a)) (mCls (rwS a)) (aR a) mo (mSw (aR a) c 0) r) (c := mSw (aR a) c 0) (by rw [show mSw (aR a) c 0 = c from if_pos rfl]; exact hc.1) (fun r => spT_lt _ _ _ _ _ _ _) (aR a) h.R.2).2.1
  exact this.trans (by rw [show mSw (aR a) c 0 = c from if_pos rfl])
theorem aI_div {a : Nat → Int32} (h : aOk a) (mo : Int32) : ∀ k, aI a mo k / 625 = aE a / 625
  | 0 => rfl
  | k + 1 => by rw [aI_s, aS_div h (aI_ok h mo k), aI_div h mo k]
theorem aI_pig {a : Nat → Int32} (h : aOk a) (mo : Int32) {n : Nat} (hd : ∀ i j, i < j → j < n → aI a mo i ≠ aI a mo j) : n ≤ 625 := by
  refine pigeon 625 n (fun i => aI a mo i % 625) (fun i _ => Nat.mod_lt _ (by decide)) (fun i j hij hj e => hd i j hij hj ?_)
  have e1 : aI a mo i % 625 = aI a mo j % 625 := e
  have e2 := (aI_div h mo i).trans (aI_div h mo j).symm
  omega
def tb_m_laysRow : List (Nat × Instr × Nat) := [(0, .iconst 0, 1), (1, .istore_n 1, 1), (2, .iload_n 1, 1), (3, .ldc 42, 2), (5, .if_icmp .ge 16, 3), (8, .aload_n 0, 1), (9, .getfield 43, 3), (12, .iload_n 1, 1), (13, .iconst (-1), 1), (14, .iastore, 1), (15, .iinc 1 1, 3), (18, .goto (-16), 3), (21, .aload_n 0, 1), (22, .invokevirtual 266, 3), (25, .istore_n 1, 1), (26, .iconst 0, 1), (27, .istore_n 2, 1), (28, .aload_n 0, 1), (29, .getfield 43, 3), (32, .iload_n 1, 1), (33, .iaload, 1), (34, .iconst (-1), 1), (35, .if_icmp .ne 37, 3), (38, .aload_n 0, 1), (39, .getfield 43, 3), (42, .iload_n 1, 1), (43, .iload_n 2, 1), (44, .iastore, 1), (45, .aload_n 0, 1), (46, .getfield 39, 3), (49, .iload_n 2, 1), (50, .iload_n 1, 1), (51, .iastore, 1), (52, .iinc 2 1, 3), (55, .aload_n 0, 1), (56, .iload_n 1, 1), (57, .iconst 0, 1), (58, .aload_n 0, 1), (59, .getfield 13, 3), (62, .bipush 40, 2), (64, .iaload, 1), (65, .invokevirtual 273, 3), (68, .istore_n 1, 1), (69, .goto (-41), 3), (72, .aload_n 0, 1), (73, .aload_n 0, 1), (74, .getfield 43, 3), (77, .iload_n 1, 1), (78, .iaload, 1), (79, .putfield 349, 3), (82, .aload_n 0, 1), (83, .iload_n 2, 1), (84, .aload_n 0, 1), (85, .getfield 349, 3), (88, .isub, 1), (89, .putfield 352, 3), (92, .return_, 1)]
theorem tk_m_laysRow : ∀ q ∈ tb_m_laysRow, decode M_m_laysRow.2.1 q.1 = .ok q.2 := by decide +kernel
theorem c_m_laysRow {G : ab_G} {S : ab_S} {a : Nat → Int32} (hm : mSh S) (hA : mA S = a) (ha : aOk a) : ab_C G 5 M_m_laysRow [.ref 120] (sw S) (fun v w' => v = none ∧ ∃ S' n t, w' = sw S' ∧ mSh S' ∧ mA S' = a ∧ sEq [120, 125, 126, 128, 129] S S' ∧ fEq S S' ∧ isLas (aI a (a 40)) n t ∧ n ≤ 625 ∧ (∀ k, k < n → sI S' 128 k = nI (aI a (a 40) k)) ∧ sI S' 120 23 = nI t ∧ sI S' 120 24 = nI (n - t)) := by
  have loop : ∀ (m n : Nat), n + m = 626 → ∀ (S1 : ab_S), mSh S1 → mA S1 = a → sEq [120, 125, 126, 128, 129] S S1 → fEq S S1 → (∀ i j, i < j → j < n → aI a (a 40) i ≠ aI a (a 40) j) → (∀ i, i < n → sI S1 129 (aI a (a 40) i) = nI i) → (∀ s, s < 160000 → (∀ i, i < n → aI a (a 40) i ≠ s) → sI S1 129 s = -1) → (∀ i, i < n → sI S1 128 i = nI (aI a (a 40) i)) → ab_Ex G 5 M_m_laysRow 28 [some (.ref 120), some (.int (nI (aI a (a 40) n))), some (.int (nI n))] [] (sw S1) (fun v w' => v = none ∧ ∃ S' n t, w' = sw S' ∧ mSh S' ∧ mA S' = a ∧ sEq [120, 125, 126, 128, 129] S S' ∧ fEq S S' ∧ isLas (aI a (a 40)) n t ∧ n ≤ 625 ∧ (∀ k, k < n → sI S' 128 k = nI (aI a (a 40) k)) ∧ sI S' 120 23 = nI t ∧ sI S' 120 24 = nI (n - t)) := by
    intro m
    induction m with
    | zero =>
      intro n hn S1 hm1 hA1 hE1 hF1 hD hX hO hRw
      have := aI_pig ha (a 40) hD
      omega
    | succ m ih =>
      intro n hn S1 hm1 hA1 hE1 hF1 hD hX hO hRw
      have hlt := (aI_ok ha (a 40) n).1
      have hok := aI_ok ha (a 40) n
      have hn625 := aI_pig ha (a 40) hD
      by_cases hold : ∃ i, i < n ∧ aI a (a 40) i = aI a (a 40) n
      · obtain ⟨t, ht, et⟩ := hold
        have hxt : sI S1 129 (aI a (a 40) n) = nI t := by rw [← et]; exact hX t ht
        refine x_aload_n 29 0 (ab_dd tk_m_laysRow 17 rfl) rfl rfl rfl ?_
        refine t_getP 32 129 (ab_dd tk_m_laysRow 18 rfl) rfl F_m_43 (by decide) (Nat.lt_of_lt_of_le (by decide) hm1.1) (hm1.2.1 0 (by decide)) rfl (hm1.2.2 22 (by decide)) ?_
        refine x_iload_n 33 1 (ab_dd tk_m_laysRow 19 rfl) rfl rfl rfl ?_
        refine t_iald 34 (aI a (a 40) n) (ab_dd tk_m_laysRow 20 rfl) rfl (by decide) (Nat.lt_of_lt_of_le (by decide) hm1.1) (hm1.2.1 9 (by decide)) rfl (by omega) (by decide) (x_topn t hxt ?_)
        refine x_iconst 35 (-1) (ab_dd tk_m_laysRow 21 rfl) rfl (by decide) ?_
        refine x_icmp_ne_t 72 (ab_dd tk_m_laysRow 22 rfl) (by decide) (show ¬ nI t = -1 from nI_nm1 (by omega)) ?_
        refine x_aload_n 73 0 (ab_dd tk_m_laysRow 44 rfl) rfl rfl rfl ?_
        refine x_aload_n 74 0 (ab_dd tk_m_laysRow 45 rfl) rfl rfl rfl ?_
        refine t_getP 77 129 (ab_dd tk_m_laysRow 46 rfl) rfl F_m_43 (by decide) (Nat.lt_of_lt_of_le (by decide) hm1.1) (hm1.2.1 0 (by decide)) rfl (hm1.2.2 22 (by decide)) ?_
        refine x_iload_n 78 1 (ab_dd tk_m_laysRow 47 rfl) rfl rfl rfl ?_
        refine t_iald 79 (aI a (a 40) n) (ab_dd tk_m_laysRow 48 rfl) rfl (by decide) (Nat.lt_of_lt_of_le (by decide) hm1.1) (hm1.2.1 9 (by decide)) rfl (by omega) (by decide) (x_topn t (show _ = _ from hxt) ?_)
        refine t_putI 82 (ab_dd tk_m_laysRow 49 rfl) rfl F_m_349 (by decide) (Nat.lt_of_lt_of_le (by decide) hm1.1) (hm1.2.1 0 (by decide)) rfl rfl rfl ?_
        refine x_aload_n 83 0 (ab_dd tk_m_laysRow 50 rfl) rfl rfl rfl ?_
        refine x_iload_n 84 2 (ab_dd tk_m_laysRow 51 rfl) rfl rfl rfl ?_
        refine x_aload_n 85 0 (ab_dd tk_m_laysRow 52 rfl) rfl rfl rfl ?_
        refine t_getI 88 (ab_dd tk_m_laysRow 53 rfl) rfl F_m_349 (by decide) (Nat.lt_of_lt_of_le (by decide) hm1.1) (hm1.2.1 0 (by decide)) rfl (x_topn t rfl ?_)
        refine x_isub 89 (ab_dd tk_m_laysRow 54 rfl) rfl (x_topn (n - t) (pk_sub (by omega)) ?_)
        refine t_putI 92 (ab_dd tk_m_laysRow 55 rfl) rfl F_m_352 (by decide) (Nat.lt_of_lt_of_le (by decide) hm1.1) (hm1.2.1 0 (by decide)) rfl rfl rfl ?_
        exact x_vret (ab_dd tk_m_laysRow 56 rfl) ⟨rfl, _, n, t, rfl, hm1, hA1, ((hE1.pI (by decide)).pI (by decide)), (fEq.pI (fEq.pI hF1 (Or.inr (by decide))) (Or.inr (by decide))), ⟨ht, et.symm, hD⟩, hn625, hRw, rfl, rfl⟩
      · have hnew : ∀ i, i < n → aI a (a 40) i ≠ aI a (a 40) n := fun i hi e => hold ⟨i, hi, e⟩
        have hx0 := hO (aI a (a 40) n) hlt hnew
        have hD2 : ∀ i j, i < j → j < n + 1 → aI a (a 40) i ≠ aI a (a 40) j := fun i j hij hj => by
          by_cases g : j = n
          · rw [g]; exact hnew i (by omega)
          · exact hD i j hij (by omega)
        have hn1 := aI_pig ha (a 40) hD2
        refine x_aload_n 29 0 (ab_dd tk_m_laysRow 17 rfl) rfl rfl rfl ?_
        refine t_getP 32 129 (ab_dd tk_m_laysRow 18 rfl) rfl F_m_43 (by decide) (Nat.lt_of_lt_of_le (by decide) hm1.1) (hm1.2.1 0 (by decide)) rfl (hm1.2.2 22 (by decide)) ?_
        refine x_iload_n 33 1 (ab_dd tk_m_laysRow 19 rfl) rfl rfl rfl ?_
        refine t_iald 34 (aI a (a 40) n) (ab_dd tk_m_laysRow 20 rfl) rfl (by decide) (Nat.lt_of_lt_of_le (by decide) hm1.1) (hm1.2.1 9 (by decide)) rfl (by omega) (by decide) ?_
        refine x_iconst 35 (-1) (ab_dd tk_m_laysRow 21 rfl) rfl (by decide) ?_
        refine x_icmp_ne_f 38 (ab_dd tk_m_laysRow 22 rfl) rfl 72 (by decide) hx0 ?_
        refine x_aload_n 39 0 (ab_dd tk_m_laysRow 23 rfl) rfl rfl rfl ?_
        refine t_getP 42 129 (ab_dd tk_m_laysRow 24 rfl) rfl F_m_43 (by decide) (Nat.lt_of_lt_of_le (by decide) hm1.1) (hm1.2.1 0 (by decide)) rfl (hm1.2.2 22 (by decide)) ?_
        refine x_iload_n 43 1 (ab_dd tk_m_laysRow 25 rfl) rfl rfl rfl ?_
        refine x_iload_n 44 2 (ab_dd tk_m_laysRow 26 rfl) rfl rfl rfl ?_
        refine t_iast 45 (aI a (a 40) n) (ab_dd tk_m_laysRow 27 rfl) rfl (by decide) (Nat.lt_of_lt_of_le (by decide) hm1.1) (hm1.2.1 9 (by decide)) rfl (by omega) (by decide) ?_
        refine x_aload_n 46 0 (ab_dd tk_m_laysRow 28 rfl) rfl rfl rfl ?_
        refine t_getP 49 128 (ab_dd tk_m_laysRow 29 rfl) rfl F_m_39 (by decide) (Nat.lt_of_lt_of_le (by decide) hm1.1) (hm1.2.1 0 (by decide)) rfl (hm1.2.2 21 (by decide)) ?_
        refine x_iload_n 50 2 (ab_dd tk_m_laysRow 30 rfl) rfl rfl rfl ?_
        refine x_iload_n 51 1 (ab_dd tk_m_laysRow 31 rfl) rfl rfl rfl ?_
        refine t_iast 52 n (ab_dd tk_m_laysRow 32 rfl) rfl (by decide) (Nat.lt_of_lt_of_le (by decide) hm1.1) (hm1.2.1 8 (by decide)) rfl (by omega) (by decide) ?_
        refine xn_iinc 55 2 (fun y => [some (.ref 120), some (.int (nI (aI a (a 40) n))), some (.int y)]) (n + 1) (ab_dd tk_m_laysRow 33 rfl) rfl (by decide) rfl (fun _ => rfl) (iinc_p 1) ?_
        refine x_aload_n 56 0 (ab_dd tk_m_laysRow 34 rfl) rfl rfl rfl ?_
        refine x_iload_n 57 1 (ab_dd tk_m_laysRow 35 rfl) rfl rfl rfl ?_
        refine x_iconst 58 0 (ab_dd tk_m_laysRow 36 rfl) rfl (by decide) (x_topn 0 rfl ?_)
        refine x_aload_n 59 0 (ab_dd tk_m_laysRow 37 rfl) rfl rfl rfl ?_
        refine t_getP 62 121 (ab_dd tk_m_laysRow 38 rfl) rfl F_m_13 (by decide) (Nat.lt_of_lt_of_le (by decide) hm1.1) (hm1.2.1 0 (by decide)) rfl (hm1.2.2 1 (by decide)) ?_
        refine x_bipush 64 40 (ab_dd tk_m_laysRow 39 rfl) rfl (by decide) (x_topn 40 rfl ?_)
        refine t_iald 65 40 (ab_dd tk_m_laysRow 40 rfl) rfl (by decide) (Nat.lt_of_lt_of_le (by decide) hm1.1) (hm1.2.1 1 (by decide)) rfl (by decide) (by decide) (x_topx (a 40) (congrFun hA1 40) ?_)
        refine t_callV 68 M_m_stopTo 4 3 [_, _, _] (ab_dd tk_m_laysRow 41 rfl) rfl (by decide) K_m_stopTo V_m_stopTo.1 V_m_stopTo.2 L_m_273 rfl (Nat.le_of_ble_eq_true rfl) (by decide) (Nat.lt_of_lt_of_le (by decide) hm1.1) (hm1.2.1 0 (by decide)) rfl (w_stopTo (by exact hm1) (by exact hA1) ha (aI a (a 40) n) 0 _ hok (Or.inr rfl)) (fun v1 w1 h1 => ?_)
        obtain ⟨rfl, U1, rfl, um1, uA1, uE1⟩ := h1
        refine x_istore_n 69 [some (.ref 120), some (.int (nI (aI a (a 40) (n + 1)))), some (.int (nI (n + 1)))] 1 (ab_dd tk_m_laysRow 42 rfl) rfl rfl (by decide) rfl ?_
        refine x_goto 28 (ab_dd tk_m_laysRow 43 rfl) (by decide) ?_
        refine ih (n + 1) (by omega) _ um1 uA1 (((hE1.pI (by decide)).pI (by decide)).tr (uE1.mono (by decide))) (fEq.r2 uE1 (by decide) (by exact (fEq.pI (fEq.pI hF1 (Or.inl (by decide))) (Or.inl (by decide))))) hD2 (fun i hi => ?_) (fun s hs hne => ?_) (fun i hi => ?_)
        · rw [uE1.2.2.1 129 (by decide)]
          show up2 (sI S1) 129 (aI a (a 40) n) (nI n) 129 (aI a (a 40) i) = nI i
          by_cases g : i = n
          · rw [g, up2_s]
          · rw [up2_k (fun e => hnew i (by omega) e)]
            exact hX i (by omega)
        · rw [uE1.2.2.1 129 (by decide)]
          show up2 (sI S1) 129 (aI a (a 40) n) (nI n) 129 s = -1
          rw [up2_k (fun e => hne n (by omega) e.symm)]
          exact hO s hs (fun i hi => hne i (by omega))
        · rw [uE1.2.2.1 128 (by decide)]
          show up2 (sI S1) 128 n (nI (aI a (a 40) n)) 128 i = _
          by_cases g : i = n
          · rw [g, up2_s]
          · rw [up2_k g]
            exact hRw i (by omega)
  have fill : ∀ (m k : Nat), k + m = 160000 → ∀ S1 : ab_S, sEq [129] S S1 → (∀ i, sI S1 129 i = if 0 ≤ i ∧ i < 0 + k then (fun _ => -1) (i - 0) else sI S 129 i) → ab_Ex G 5 M_m_laysRow 2 [some (.ref 120), some (.int (nI k)), none] [] (sw S1) (fun v w' => v = none ∧ ∃ S' n t, w' = sw S' ∧ mSh S' ∧ mA S' = a ∧ sEq [120, 125, 126, 128, 129] S S' ∧ fEq S S' ∧ isLas (aI a (a 40)) n t ∧ n ≤ 625 ∧ (∀ k, k < n → sI S' 128 k = nI (aI a (a 40) k)) ∧ sI S' 120 23 = nI t ∧ sI S' 120 24 = nI (n - t)) := by
    intro m
    induction m with
    | zero =>
      intro k hk S1 hE hV
      have hm1 := hm.eq hE
      have hkN : k = 160000 := by omega
      rw [hkN] at hV ⊢
      refine x_iload_n 3 1 (ab_dd tk_m_laysRow 2 rfl) rfl rfl rfl ?_
      refine x_ldc 5 (ab_dd tk_m_laysRow 3 rfl) rfl C_m_42 (x_topn 160000 rfl ?_)
      refine x_icmp_ge_t 21 (ab_dd tk_m_laysRow 4 rfl) (by decide) ((nI_leI (a := 160000) (b := 160000) (by omega) (by omega)).mpr (show 160000 ≤ 160000 by omega)) ?_
      refine x_aload_n 22 0 (ab_dd tk_m_laysRow 12 rfl) rfl rfl rfl ?_
      refine t_callV 25 M_m_standNow 1 0 [] (ab_dd tk_m_laysRow 13 rfl) rfl (by decide) K_m_standNow V_m_standNow.1 V_m_standNow.2 L_m_266 rfl (Nat.le_of_ble_eq_true rfl) (by decide) (Nat.lt_of_lt_of_le (by decide) hm1.1) (hm1.2.1 0 (by decide)) rfl (w_standNow (by exact hm1) (by exact ((hE.2.2.1 121 (by decide)).trans hA)) ha) (fun v1 w1 h1 => ?_)
      obtain ⟨rfl, rfl⟩ := h1
      refine x_istore_n 26 [some (.ref 120), some (.int (nI (aE a))), none] 1 (ab_dd tk_m_laysRow 14 rfl) rfl rfl (by decide) rfl ?_
      refine x_iconst 27 0 (ab_dd tk_m_laysRow 15 rfl) rfl (by decide) (x_topn 0 rfl ?_)
      refine x_istore_n 28 [some (.ref 120), some (.int (nI (aE a))), some (.int (nI 0))] 2 (ab_dd tk_m_laysRow 16 rfl) rfl rfl (by decide) rfl ?_
      exact loop 626 0 rfl S1 hm1 ((hE.2.2.1 121 (by decide)).trans hA) (hE.mono (by decide)) (fEq.of hE (by decide)) (fun i j _ hj => absurd hj (by omega)) (fun i hi => absurd hi (by omega)) (fun s hs _ => by rw [hV s, if_pos ⟨by omega, by omega⟩]) (fun i hi => absurd hi (by omega))
    | succ m ih =>
      intro k hk S1 hE hV
      have hm1 := hm.eq hE
      refine x_iload_n 3 1 (ab_dd tk_m_laysRow 2 rfl) rfl rfl rfl ?_
      refine x_ldc 5 (ab_dd tk_m_laysRow 3 rfl) rfl C_m_42 (x_topn 160000 rfl ?_)
      refine x_icmp_ge_f 8 (ab_dd tk_m_laysRow 4 rfl) rfl 21 (by decide) (fun z => absurd ((nI_leI (a := 160000) (b := k) (by omega) (by omega)).mp z) (show ¬ (160000 ≤ k) by omega)) ?_
      refine x_aload_n 9 0 (ab_dd tk_m_laysRow 5 rfl) rfl rfl rfl ?_
      refine t_getP 12 129 (ab_dd tk_m_laysRow 6 rfl) rfl F_m_43 (by decide) (Nat.lt_of_lt_of_le (by decide) hm1.1) (hm1.2.1 0 (by decide)) rfl (hm1.2.2 22 (by decide)) ?_
      refine x_iload_n 13 1 (ab_dd tk_m_laysRow 7 rfl) rfl rfl rfl ?_
      refine x_iconst 14 (-1) (ab_dd tk_m_laysRow 8 rfl) rfl (by decide) ?_
      refine t_iast 15 k (ab_dd tk_m_laysRow 9 rfl) rfl (by decide) (Nat.lt_of_lt_of_le (by decide) hm1.1) (hm1.2.1 9 (by decide)) rfl (by omega) (by decide) ?_
      refine xn_iinc 18 1 (fun y => [some (.ref 120), some (.int y), none]) (k + 1) (ab_dd tk_m_laysRow 10 rfl) rfl (by decide) rfl (fun _ => rfl) (iinc_p 1) ?_
      refine x_goto 2 (ab_dd tk_m_laysRow 11 rfl) (by decide) ?_
      refine ih (k + 1) (by omega) _ ?_ ?_
      · exact hE.pI (by decide)
      · intro i
        show up2 (sI S1) 129 (k) _ 129 i = _
        by_cases hi : i = k
        · rw [hi, up2_s, if_pos ⟨by omega, by omega⟩, show k - 0 = k by omega]
        · rw [up2_k hi, hV i]
          by_cases h1 : 0 ≤ i ∧ i < 0 + k
          · rw [if_pos h1, if_pos ⟨h1.1, by omega⟩]
          · rw [if_neg h1, if_neg (fun z => h1 ⟨z.1, by omega⟩)]
  refine x_enter [some (.ref 120), none, none] (by decide) (Nat.le_of_ble_eq_true rfl) rfl (fun v w' h => by obtain ⟨rfl, -⟩ := h; trivial) ?_
  refine x_iconst 1 0 (ab_dd tk_m_laysRow 0 rfl) rfl (by decide) (x_topn 0 rfl ?_)
  refine x_istore_n 2 [some (.ref 120), some (.int (nI 0)), none] 1 (ab_dd tk_m_laysRow 1 rfl) rfl rfl (by decide) rfl ?_
  exact fill 160000 0 rfl S sEq.rf (fun i => by rw [if_neg (by omega)])
