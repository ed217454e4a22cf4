/-! ===== trades and glad of the reference ===== -/
abbrev bt (t r : Nat) : Prop := t / 2 ^ r % 2 = 1
def lk (a : Nat → Int32) (r u : Nat) : Int32 := a (12 + 4 * r + cN (a (28 + u)))
def pt (a : Nat → Int32) (t r : Nat) : Nat → Nat
  | 0 => r
  | k + 1 => if bt t k ∧ lk a r (pt a t r k) < lk a r k then k else pt a t r k
theorem pt_ok {a : Nat → Int32} {t r : Nat} (hr : bt t r) : ∀ k, bt t (pt a t r k)
  | 0 => hr
  | k + 1 => by
    unfold pt
    split
    · next h => exact h.1
    · exact pt_ok hr k
theorem pt_lt {a : Nat → Int32} {t r n : Nat} (hr : r < n) : ∀ k, k ≤ n → pt a t r k < n
  | 0, _ => hr
  | k + 1, h => by
    unfold pt
    split
    · omega
    · exact pt_lt hr k (by omega)
def rg (f : Nat → Nat) (r : Nat) : Nat → Nat → Bool
  | 0, u => u == r
  | k + 1, u => if u = r then true else rg f r k (f u)
/-- those of t, below k, that are on a ring -/
def gN (t : Nat) (q : Nat → Bool) : Nat → Nat
  | 0 => 0
  | k + 1 => if bt t k ∧ q k = true then gN t q k + 2 ^ k else gN t q k
theorem gN_ok {t : Nat} {q : Nat → Bool} : ∀ k, k ≤ 4 → gN t q k < 16 ∧ pc4 (gN t q k) ≤ k ∧ ∀ u, u < 4 → (bt (gN t q k) u ↔ (u < k ∧ bt t u ∧ q u = true))
  | 0, _ => ⟨by show 0 < 16; decide, by show pc4 0 ≤ 0; decide, fun u hu => ⟨fun h => by (have h2 : 0 / 2 ^ u % 2 = 1 := h; rw [Nat.zero_div] at h2; cases h2), fun h => absurd h.1 (by omega)⟩⟩
  | k + 1, hk => by
    obtain ⟨h1, h3, h2⟩ := gN_ok (t := t) (q := q) k (by omega)
    unfold gN
    by_cases z : bt t k ∧ q k = true
    · rw [if_pos z]
      have hn : ¬ gN t q k / 2 ^ k % 2 = 1 := fun y => absurd ((h2 k (by omega)).mp y).1 (by omega)
      obtain ⟨g1, g2, -, g4⟩ := tk_ok _ h1 k (by omega) hn
      refine ⟨g1, by omega, fun u hu => ?_⟩
      show (gN t q k + 2 ^ k) / 2 ^ u % 2 = 1 ↔ _
      rw [g4 u hu, show (gN t q k / 2 ^ u % 2 = 1) ↔ _ from h2 u hu]
      refine ⟨fun y => y.elim (fun y => ⟨by omega, y.2⟩) (fun y => by rw [y]; exact ⟨by omega, z⟩), fun y => ?_⟩
      by_cases e : u = k
      · exact Or.inr e
      · exact Or.inl ⟨by omega, y.2⟩
    · rw [if_neg z]
      refine ⟨h1, by omega, fun u hu => (h2 u hu).trans ⟨fun y => ⟨by omega, y.2⟩, fun y => ⟨?_, y.2⟩⟩⟩
      by_cases e : u = k
      · rw [e] at y; exact absurd y.2 z
      · omega
def suB (t g : Nat) : Bool := !((List.range 4).all (fun r => !(g / 2 ^ r % 2 == 1) || t / 2 ^ r % 2 == 1)) || (decide (nI t &&& (nI g ^^^ (-1)) = nI (t - g)) && decide (t - g < 16) && (g == 0 || decide (pc4 (t - g) < pc4 t)) && (List.range 4).all (fun r => ((t - g) / 2 ^ r % 2 == 1) == (t / 2 ^ r % 2 == 1 && !(g / 2 ^ r % 2 == 1))))
theorem su_all : (List.range 16).all (fun t => (List.range 16).all (fun g => suB t g)) = true := by decide +kernel
theorem su_ok {t g : Nat} (ht : t < 16) (hg : g < 16) (h : ∀ r, r < 4 → bt g r → bt t r) : nI t &&& (nI g ^^^ (-1)) = nI (t - g) ∧ t - g < 16 ∧ (g ≠ 0 → pc4 (t - g) < pc4 t) ∧ ∀ r, r < 4 → (bt (t - g) r ↔ (bt t r ∧ ¬ bt g r)) := by
  have h0 := su_all
  rw [List.all_eq_true] at h0
  have h1 := h0 t (List.mem_range.mpr ht)
  rw [List.all_eq_true] at h1
  have h2 := h1 g (List.mem_range.mpr hg)
  unfold suB at h2
  have hp : (List.range 4).all (fun r => !(g / 2 ^ r % 2 == 1) || t / 2 ^ r % 2 == 1) = true := by
    rw [List.all_eq_true]
    intro r hr
    by_cases z : bt g r
    · have := h r (List.mem_range.mp hr) z
      simp only [bt] at z this
      simp [z, this]
    · simp only [bt] at z
      simp [z]
  rw [hp] at h2
  simp only [Bool.not_true, Bool.false_or, Bool.and_eq_true, decide_eq_true_iff, Bool.or_eq_true, beq_iff_eq, List.all_eq_true, List.mem_range] at h2
  obtain ⟨⟨⟨g1, g2⟩, g3⟩, g4⟩ := h2
  refine ⟨g1, g2, fun z => g3.resolve_left z, fun r hr => ?_⟩
  have e := g4 r hr
  rw [Bool.eq_iff_iff] at e
  simp only [beq_iff_eq, Bool.and_eq_true, Bool.not_eq_true', beq_eq_false_iff_ne] at e
  exact e
def rgB (t u : Nat) : Bool := t == 0 || !((List.range 4).all (fun r => !(t / 2 ^ r % 2 == 1) || t / 2 ^ (u / 4 ^ r % 4) % 2 == 1)) || (List.range 4).any (fun r => t / 2 ^ r % 2 == 1 && rg (fun i => u / 4 ^ i % 4) r 4 (u / 4 ^ r % 4))
theorem rg_all : (List.range 16).all (fun t => (List.range 256).all (fun u => rgB t u)) = true := by decide +kernel
theorem rg_cg {f f' : Nat → Nat} {r : Nat} (h : ∀ i, i < 4 → f i = f' i) (hf : ∀ i, i < 4 → f i < 4) : ∀ k u, u < 4 → rg f r k u = rg f' r k u
  | 0, _, _ => rfl
  | k + 1, u, hu => by
    unfold rg
    split
    · rfl
    · rw [rg_cg h hf k (f u) (hf u hu), h u hu]
theorem rg_ex {t : Nat} {f : Nat → Nat} (ht : t < 16) (h0 : t ≠ 0) (hf : ∀ i, i < 4 → f i < 4) (hb : ∀ i, i < 4 → bt t i → bt t (f i)) : ∃ r, r < 4 ∧ bt t r ∧ rg f r 4 (f r) = true := by
  have h := rg_all
  rw [List.all_eq_true] at h
  have h1 := h t (List.mem_range.mpr ht)
  rw [List.all_eq_true] at h1
  have g0 := hf 0 (by decide)
  have g1 := hf 1 (by decide)
  have g2 := hf 2 (by decide)
  have g3 := hf 3 (by decide)
  have h2 := h1 (f 0 + 4 * f 1 + 16 * f 2 + 64 * f 3) (List.mem_range.mpr (by omega))
  have e : ∀ i, i < 4 → f i = (f 0 + 4 * f 1 + 16 * f 2 + 64 * f 3) / 4 ^ i % 4 := by
    intro i hi
    match i, hi with
    | 0, _ => show _ = _ / 1 % 4; omega
    | 1, _ => show _ = _ / 4 % 4; omega
    | 2, _ => show _ = _ / 16 % 4; omega
    | 3, _ => show _ = _ / 64 % 4; omega
  generalize hu : f 0 + 4 * f 1 + 16 * f 2 + 64 * f 3 = u at h2 e
  unfold rgB at h2
  have hp : (List.range 4).all (fun r => !(t / 2 ^ r % 2 == 1) || t / 2 ^ (u / 4 ^ r % 4) % 2 == 1) = true := by
    rw [List.all_eq_true]
    intro r hr
    have hr4 := List.mem_range.mp hr
    rw [← e r hr4]
    by_cases z : bt t r
    · have := hb r hr4 z
      simp only [bt] at z this
      simp [z, this]
    · simp only [bt] at z
      simp [z]
  rw [hp] at h2
  simp only [Bool.not_true, Bool.or_false, Bool.or_eq_true, beq_iff_eq, List.any_eq_true, List.mem_range, Bool.and_eq_true] at h2
  obtain ⟨r, hr, hbr, hrg⟩ := h2.resolve_left h0
  refine ⟨r, hr, hbr, ?_⟩
  rw [rg_cg e hf 4 (f r) (hf r hr), e r hr]
  exact hrg
/-- whose ticket, and when -/
def trD (P : Nat → Nat → Nat) (R : Nat) : Nat → Nat → Nat → Nat → Nat × Nat
  | 0, _, _, _ => (0, 0)
  | f + 1, t, s, r => if rg (P t) r 4 (P t r) = true then (P t r, s) else trD P R f (t - gN t (fun r => rg (P t) r 4 (P t r)) R) (s + 1) r
theorem trD_lt {P : Nat → Nat → Nat} {R : Nat} (h : ∀ t r, r < R → P t r < R) (h0 : 0 < R) : ∀ f t s r, r < R → (trD P R f t s r).1 < R
  | 0, _, _, _, _ => h0
  | f + 1, t, s, r, hr => by
    unfold trD
    split
    · exact h t r hr
    · exact trD_lt h h0 f _ _ r hr
theorem trD_2 {P : Nat → Nat → Nat} {R : Nat} : ∀ f t s r, (trD P R f t s r).2 ≤ s + f
  | 0, _, s, _ => Nat.zero_le _
  | f + 1, t, s, r => by
    unfold trD
    split
    · show s ≤ s + (f + 1); omega
    · have := trD_2 (P := P) (R := R) f (t - gN t (fun r => rg (P t) r 4 (P t r)) R) (s + 1) r; omega
def tb_m_likesOf : List (Nat × Instr × Nat) := [(0, .aload_n 0, 1), (1, .getfield 13, 3), (4, .bipush 12, 2), (6, .iconst 4, 1), (7, .iload_n 1, 1), (8, .imul, 1), (9, .iadd, 1), (10, .aload_n 0, 1), (11, .getfield 13, 3), (14, .bipush 28, 2), (16, .iload_n 2, 1), (17, .iadd, 1), (18, .iaload, 1), (19, .iadd, 1), (20, .iaload, 1), (21, .ireturn, 1)]
theorem tk_m_likesOf : ∀ q ∈ tb_m_likesOf, decode M_m_likesOf.2.1 q.1 = .ok q.2 := by decide +kernel
theorem c_m_likesOf {G : ab_G} {S : ab_S} {a : Nat → Int32} (hm : mSh S) (hA : mA S = a) (ha : aOk a) (r u : Nat) (hr : r < 4) (hu4 : u < 4) : ab_C G 0 M_m_likesOf [.ref 120, .int (nI r), .int (nI u)] (sw S) (fun v w' => v = some (.int (lk a r u)) ∧ w' = sw S) := by
  refine x_enter [some (.ref 120), some (.int (nI r)), some (.int (nI u))] (by decide) (Nat.le_of_ble_eq_true rfl) rfl (fun v w' h => by obtain ⟨rfl, rfl⟩ := h; rfl) ?_
  have hu := (ha.1.2.1 u hu4).2.2
  have hu2 : cN (a (28 + u)) < 4 := hu.2
  replace hu : a (28 + u) = nI (cN (a (28 + u))) ∧ _ := hu
  refine x_aload_n 1 0 (ab_dd tk_m_likesOf 0 rfl) rfl rfl rfl ?_
  refine t_getP 4 121 (ab_dd tk_m_likesOf 1 rfl) rfl F_m_13 (by decide) (Nat.lt_of_lt_of_le (by decide) hm.1) (hm.2.1 0 (by decide)) rfl (hm.2.2 1 (by decide)) ?_
  refine x_bipush 6 12 (ab_dd tk_m_likesOf 2 rfl) rfl (by decide) (x_topn 12 rfl ?_)
  refine x_iconst 7 4 (ab_dd tk_m_likesOf 3 rfl) rfl (by decide) (x_topn 4 rfl ?_)
  refine x_iload_n 8 1 (ab_dd tk_m_likesOf 4 rfl) rfl rfl rfl ?_
  refine x_imul 9 (ab_dd tk_m_likesOf 5 rfl) rfl (x_topn (4 * r) (pk_mul _ _) ?_)
  refine x_iadd 10 (ab_dd tk_m_likesOf 6 rfl) rfl (x_topn (12 + (4 * r)) (nI_add _ _) ?_)
  refine x_aload_n 11 0 (ab_dd tk_m_likesOf 7 rfl) rfl rfl rfl ?_
  refine t_getP 14 121 (ab_dd tk_m_likesOf 8 rfl) rfl F_m_13 (by decide) (Nat.lt_of_lt_of_le (by decide) hm.1) (hm.2.1 0 (by decide)) rfl (hm.2.2 1 (by decide)) ?_
  refine x_bipush 16 28 (ab_dd tk_m_likesOf 9 rfl) rfl (by decide) (x_topn 28 rfl ?_)
  refine x_iload_n 17 2 (ab_dd tk_m_likesOf 10 rfl) rfl rfl rfl ?_
  refine x_iadd 18 (ab_dd tk_m_likesOf 11 rfl) rfl (x_topn (28 + u) (nI_add _ _) ?_)
  refine t_iald 19 (28 + u) (ab_dd tk_m_likesOf 12 rfl) rfl (by decide) (Nat.lt_of_lt_of_le (by decide) hm.1) (hm.2.1 1 (by decide)) rfl (by omega) (by decide) (x_topn (cN (a (28 + u))) ((congrFun hA (28 + u)).trans hu.1) ?_)
  refine x_iadd 20 (ab_dd tk_m_likesOf 13 rfl) rfl (x_topn ((12 + (4 * r)) + (cN (a (28 + u)))) (nI_add _ _) ?_)
  refine t_iald 21 ((12 + (4 * r)) + (cN (a (28 + u)))) (ab_dd tk_m_likesOf 14 rfl) rfl (by decide) (Nat.lt_of_lt_of_le (by decide) hm.1) (hm.2.1 1 (by decide)) rfl (by omega) (by decide) (x_topx (lk a r u) (congrFun hA _) ?_)
  exact x_iret (ab_dd tk_m_likesOf 15 rfl) ⟨rfl, rfl⟩
def tb_m_pointing : List (Nat × Instr × Nat) := [(0, .iload_n 1, 1), (1, .istore_n 3, 1), (2, .iconst 0, 1), (3, .istore 4, 2), (5, .iload 4, 2), (7, .aload_n 0, 1), (8, .getfield 13, 3), (11, .iconst 1, 1), (12, .iaload, 1), (13, .if_icmp .ge 38, 3), (16, .iload_n 2, 1), (17, .i2l, 1), (18, .iload 4, 2), (20, .invokestatic 400, 3), (23, .ifCond .eq 22, 3), (26, .aload_n 0, 1), (27, .iload_n 1, 1), (28, .iload 4, 2), (30, .invokevirtual 408, 3), (33, .aload_n 0, 1), (34, .iload_n 1, 1), (35, .iload_n 3, 1), (36, .invokevirtual 408, 3), (39, .if_icmp .le 6, 3), (42, .iload 4, 2), (44, .istore_n 3, 1), (45, .iinc 4 1, 3), (48, .goto (-43), 3), (51, .iload_n 3, 1), (52, .ireturn, 1)]
theorem tk_m_pointing : ∀ q ∈ tb_m_pointing, decode M_m_pointing.2.1 q.1 = .ok q.2 := by decide +kernel
theorem c_m_pointing {G : ab_G} {S : ab_S} {a : Nat → Int32} (hm : mSh S) (hA : mA S = a) (ha : aOk a) (r t : Nat) (hr : r < aR a) (ht : t < 16) : ab_C G 1 M_m_pointing [.ref 120, .int (nI r), .int (nI t)] (sw S) (fun v w' => v = some (.int (nI (pt a t r (aR a)))) ∧ w' = sw S) := by
  have hR4 := ha.R.2
  refine x_enter [some (.ref 120), some (.int (nI r)), some (.int (nI t)), none, none] (by decide) (Nat.le_of_ble_eq_true rfl) rfl (fun v w' h => by obtain ⟨rfl, rfl⟩ := h; rfl) ?_
  have loop : ∀ (m k : Nat), k + m = aR a → ab_Ex G 1 M_m_pointing 5 [some (.ref 120), some (.int (nI r)), some (.int (nI t)), some (.int (nI (pt a t r k))), some (.int (nI k))] [] (sw S) (fun v w' => v = some (.int (nI (pt a t r (aR a)))) ∧ w' = sw S) := by
    intro m
    induction m with
    | zero =>
      intro k hk
      obtain rfl : k = aR a := by omega
      refine x_iload 7 4 (ab_dd tk_m_pointing 4 rfl) rfl rfl ?_
      refine x_aload_n 8 0 (ab_dd tk_m_pointing 5 rfl) rfl rfl rfl ?_
      refine t_getP 11 121 (ab_dd tk_m_pointing 6 rfl) rfl F_m_13 (by decide) (Nat.lt_of_lt_of_le (by decide) hm.1) (hm.2.1 0 (by decide)) rfl (hm.2.2 1 (by decide)) ?_
      refine x_iconst 12 1 (ab_dd tk_m_pointing 7 rfl) rfl (by decide) (x_topn 1 rfl ?_)
      refine t_iald 13 1 (ab_dd tk_m_pointing 8 rfl) rfl (by decide) (Nat.lt_of_lt_of_le (by decide) hm.1) (hm.2.1 1 (by decide)) rfl (by decide) (by decide) (x_topn (aR a) ((congrFun hA 1).trans ha.R.1) ?_)
      refine x_icmp_ge_t 51 (ab_dd tk_m_pointing 9 rfl) (by decide) ((nI_leI (a := (aR a)) (b := (aR a)) (by omega) (by omega)).mpr (show (aR a) ≤ (aR a) by omega)) ?_
      refine x_iload_n 52 3 (ab_dd tk_m_pointing 28 rfl) rfl rfl rfl ?_
      exact x_iret (ab_dd tk_m_pointing 29 rfl) ⟨rfl, rfl⟩
    | succ m ih =>
      intro k hk
      have hI := ih (k + 1) (by omega)
      have hpl := pt_lt (a := a) (t := t) hr k (by omega)
      refine x_iload 7 4 (ab_dd tk_m_pointing 4 rfl) rfl rfl ?_
      refine x_aload_n 8 0 (ab_dd tk_m_pointing 5 rfl) rfl rfl rfl ?_
      refine t_getP 11 121 (ab_dd tk_m_pointing 6 rfl) rfl F_m_13 (by decide) (Nat.lt_of_lt_of_le (by decide) hm.1) (hm.2.1 0 (by decide)) rfl (hm.2.2 1 (by decide)) ?_
      refine x_iconst 12 1 (ab_dd tk_m_pointing 7 rfl) rfl (by decide) (x_topn 1 rfl ?_)
      refine t_iald 13 1 (ab_dd tk_m_pointing 8 rfl) rfl (by decide) (Nat.lt_of_lt_of_le (by decide) hm.1) (hm.2.1 1 (by decide)) rfl (by decide) (by decide) (x_topn (aR a) ((congrFun hA 1).trans ha.R.1) ?_)
      refine x_icmp_ge_f 16 (ab_dd tk_m_pointing 9 rfl) rfl 51 (by decide) (fun z => absurd ((nI_leI (a := (aR a)) (b := k) (by omega) (by omega)).mp z) (show ¬ ((aR a) ≤ k) by omega)) ?_
      refine x_iload_n 17 2 (ab_dd tk_m_pointing 10 rfl) rfl rfl rfl ?_
      refine x_i2l 18 (ab_dd tk_m_pointing 11 rfl) rfl (x_topL (lN t) (nI_l (by omega)) ?_)
      refine x_iload 20 4 (ab_dd tk_m_pointing 12 rfl) rfl rfl ?_
      refine x_callS 23 M_m_isIn 0 2 [_, _] (ab_dd tk_m_pointing 13 rfl) rfl (by decide) K_m_isIn T_m_isIn L_m_400 rfl (Nat.le_of_ble_eq_true rfl) (c_m_isIn _ k (by omega) (by omega)) (fun v1 w1 h1 => ?_)
      obtain ⟨rfl, rfl⟩ := h1
      refine xb_if_eq 26 45 (ab_dd tk_m_pointing 14 rfl) rfl (by decide) (fun h23 => ?_) (fun h23 => ?_)
      · refine xn_iinc 48 4 (fun y => [some (.ref 120), some (.int (nI r)), some (.int (nI t)), some (.int (nI (pt a t r k))), some (.int y)]) (k + 1) (ab_dd tk_m_pointing 26 rfl) rfl (by decide) rfl (fun _ => rfl) (iinc_p 1) ?_
        refine x_goto 5 (ab_dd tk_m_pointing 27 rfl) (by decide) ?_
        rw [show pt a t r (k + 1) = _ from if_neg (fun z => h23 z.1)] at hI
        exact hI
      · refine x_aload_n 27 0 (ab_dd tk_m_pointing 15 rfl) rfl rfl rfl ?_
        refine x_iload_n 28 1 (ab_dd tk_m_pointing 16 rfl) rfl rfl rfl ?_
        refine x_iload 30 4 (ab_dd tk_m_pointing 17 rfl) rfl rfl ?_
        refine t_callV 33 M_m_likesOf 0 2 [_, _] (ab_dd tk_m_pointing 18 rfl) rfl (by decide) K_m_likesOf V_m_likesOf.1 V_m_likesOf.2 L_m_408 rfl (Nat.le_of_ble_eq_true rfl) (by decide) (Nat.lt_of_lt_of_le (by decide) hm.1) (hm.2.1 0 (by decide)) rfl (c_m_likesOf (by exact hm) (by exact hA) ha r k (by omega) (by omega)) (fun v1 w1 h1 => ?_)
        obtain ⟨rfl, rfl⟩ := h1
        refine x_aload_n 34 0 (ab_dd tk_m_pointing 19 rfl) rfl rfl rfl ?_
        refine x_iload_n 35 1 (ab_dd tk_m_pointing 20 rfl) rfl rfl rfl ?_
        refine x_iload_n 36 3 (ab_dd tk_m_pointing 21 rfl) rfl rfl rfl ?_
        refine t_callV 39 M_m_likesOf 0 2 [_, _] (ab_dd tk_m_pointing 22 rfl) rfl (by decide) K_m_likesOf V_m_likesOf.1 V_m_likesOf.2 L_m_408 rfl (Nat.le_of_ble_eq_true rfl) (by decide) (Nat.lt_of_lt_of_le (by decide) hm.1) (hm.2.1 0 (by decide)) rfl (c_m_likesOf (by exact hm) (by exact hA) ha r (pt a t r k) (by omega) (by omega)) (fun v1 w1 h1 => ?_)
        obtain ⟨rfl, rfl⟩ := h1
        refine x_icmp_le 42 45 (ab_dd tk_m_pointing 23 rfl) rfl (by decide) (fun h39 => ?_) (fun h39 => ?_)
        · refine xn_iinc 48 4 (fun y => [some (.ref 120), some (.int (nI r)), some (.int (nI t)), some (.int (nI (pt a t r k))), some (.int y)]) (k + 1) (ab_dd tk_m_pointing 26 rfl) rfl (by decide) rfl (fun _ => rfl) (iinc_p 1) ?_
          refine x_goto 5 (ab_dd tk_m_pointing 27 rfl) (by decide) ?_
          rw [show pt a t r (k + 1) = _ from if_neg (fun z => absurd h39 (Int32.not_le.mpr z.2))] at hI
          exact hI
        · refine x_iload 44 4 (ab_dd tk_m_pointing 24 rfl) rfl rfl ?_
          refine x_istore_n 45 [some (.ref 120), some (.int (nI r)), some (.int (nI t)), some (.int (nI k)), some (.int (nI k))] 3 (ab_dd tk_m_pointing 25 rfl) rfl rfl (by decide) rfl ?_
          refine xn_iinc 48 4 (fun y => [some (.ref 120), some (.int (nI r)), some (.int (nI t)), some (.int (nI k)), some (.int y)]) (k + 1) (ab_dd tk_m_pointing 26 rfl) rfl (by decide) rfl (fun _ => rfl) (iinc_p 1) ?_
          refine x_goto 5 (ab_dd tk_m_pointing 27 rfl) (by decide) ?_
          rw [show pt a t r (k + 1) = _ from if_pos ⟨h23, Int32.not_le.mp h39⟩] at hI
          exact hI
  refine x_iload_n 1 1 (ab_dd tk_m_pointing 0 rfl) rfl rfl rfl ?_
  refine x_istore_n 2 [some (.ref 120), some (.int (nI r)), some (.int (nI t)), some (.int (nI r)), none] 3 (ab_dd tk_m_pointing 1 rfl) rfl rfl (by decide) rfl ?_
  refine x_iconst 3 0 (ab_dd tk_m_pointing 2 rfl) rfl (by decide) (x_topn 0 rfl ?_)
  refine x_istore 5 [some (.ref 120), some (.int (nI r)), some (.int (nI t)), some (.int (nI r)), some (.int (nI 0))] 4 (ab_dd tk_m_pointing 3 rfl) rfl (by decide) rfl ?_
  exact loop (aR a) 0 (by omega)
def tb_m_isOnRing : List (Nat × Instr × Nat) := [(0, .aload_n 0, 1), (1, .getfield 78, 3), (4, .iload_n 1, 1), (5, .iaload, 1), (6, .istore_n 2, 1), (7, .iconst 0, 1), (8, .istore_n 3, 1), (9, .iload_n 3, 1), (10, .iconst 4, 1), (11, .if_icmp .ge 21, 3), (14, .iload_n 2, 1), (15, .iload_n 1, 1), (16, .if_icmp .eq 16, 3), (19, .aload_n 0, 1), (20, .getfield 78, 3), (23, .iload_n 2, 1), (24, .iaload, 1), (25, .istore_n 2, 1), (26, .iinc 3 1, 3), (29, .goto (-20), 3), (32, .iload_n 2, 1), (33, .iload_n 1, 1), (34, .if_icmp .ne 7, 3), (37, .iconst 1, 1), (38, .goto 4, 3), (41, .iconst 0, 1), (42, .ireturn, 1)]
theorem tk_m_isOnRing : ∀ q ∈ tb_m_isOnRing, decode M_m_isOnRing.2.1 q.1 = .ok q.2 := by decide +kernel
theorem c_m_isOnRing {G : ab_G} {S : ab_S} (hm : mSh S) (t : Nat) (f : Nat → Nat) (hP : ∀ i, i < 4 → bt t i → sI S 140 i = nI (f i)) (hc : ∀ i, i < 4 → bt t i → f i < 4 ∧ bt t (f i)) (r : Nat) (hr : r < 4) (hb : bt t r) : ab_C G 0 M_m_isOnRing [.ref 120, .int (nI r)] (sw S) (fun v w' => v = some (.int (if rg f r 4 (f r) = true then 1 else 0)) ∧ w' = sw S) := by
  refine x_enter [some (.ref 120), some (.int (nI r)), none, none] (by decide) (Nat.le_of_ble_eq_true rfl) rfl (fun v w' h => by obtain ⟨rfl, rfl⟩ := h; split <;> rfl) ?_
  have loop : ∀ (m k u : Nat), k + m = 4 → u < 4 → bt t u → rg f r m u = rg f r 4 (f r) → ab_Ex G 0 M_m_isOnRing 9 [some (.ref 120), some (.int (nI r)), some (.int (nI u)), some (.int (nI k))] [] (sw S) (fun v w' => v = some (.int (if rg f r 4 (f r) = true then 1 else 0)) ∧ w' = sw S) := by
    intro m
    induction m with
    | zero =>
      intro k u hk hu hbu hrg
      obtain rfl : k = 4 := by omega
      refine x_iload_n 10 3 (ab_dd tk_m_isOnRing 7 rfl) rfl rfl rfl ?_
      refine x_iconst 11 4 (ab_dd tk_m_isOnRing 8 rfl) rfl (by decide) (x_topn 4 rfl ?_)
      refine x_icmp_ge_t 32 (ab_dd tk_m_isOnRing 9 rfl) (by decide) ((nI_leI (a := 4) (b := 4) (by omega) (by omega)).mpr (show 4 ≤ 4 by omega)) ?_
      refine x_iload_n 33 2 (ab_dd tk_m_isOnRing 20 rfl) rfl rfl rfl ?_
      refine x_iload_n 34 1 (ab_dd tk_m_isOnRing 21 rfl) rfl rfl rfl ?_
      refine xn_icmp_ne 37 41 (ab_dd tk_m_isOnRing 22 rfl) rfl (by decide) (by omega) (by omega) (fun h34 => ?_) (fun h34 => ?_)
      · refine x_iconst 42 0 (ab_dd tk_m_isOnRing 25 rfl) rfl (by decide) (x_topn 0 rfl ?_)
        exact x_iret (ab_dd tk_m_isOnRing 26 rfl) ⟨rI (if_neg (by rw [← hrg]; show ¬ (u == r) = true; rw [beq_iff_eq]; omega)).symm, rfl⟩
      · refine x_iconst 38 1 (ab_dd tk_m_isOnRing 23 rfl) rfl (by decide) (x_topn 1 rfl ?_)
        refine x_goto 42 (ab_dd tk_m_isOnRing 24 rfl) (by decide) ?_
        exact x_iret (ab_dd tk_m_isOnRing 26 rfl) ⟨rI (if_pos (by rw [← hrg]; show (u == r) = true; rw [beq_iff_eq]; omega)).symm, rfl⟩
    | succ m ih =>
      intro k u hk hu hbu hrg
      obtain ⟨c1, c2⟩ := hc u hu hbu
      by_cases z : u = r
      · refine x_iload_n 10 3 (ab_dd tk_m_isOnRing 7 rfl) rfl rfl rfl ?_
        refine x_iconst 11 4 (ab_dd tk_m_isOnRing 8 rfl) rfl (by decide) (x_topn 4 rfl ?_)
        refine x_icmp_ge_f 14 (ab_dd tk_m_isOnRing 9 rfl) rfl 32 (by decide) (fun z => absurd ((nI_leI (a := 4) (b := k) (by omega) (by omega)).mp z) (show ¬ (4 ≤ k) by omega)) ?_
        refine x_iload_n 15 2 (ab_dd tk_m_isOnRing 10 rfl) rfl rfl rfl ?_
        refine x_iload_n 16 1 (ab_dd tk_m_isOnRing 11 rfl) rfl rfl rfl ?_
        refine x_icmp_eq_t 32 (ab_dd tk_m_isOnRing 12 rfl) (by decide) ((nI_eq (a := u) (b := r) (by omega) (by omega)).mpr (show u = r by omega)) ?_
        refine x_iload_n 33 2 (ab_dd tk_m_isOnRing 20 rfl) rfl rfl rfl ?_
        refine x_iload_n 34 1 (ab_dd tk_m_isOnRing 21 rfl) rfl rfl rfl ?_
        refine x_icmp_ne_f 37 (ab_dd tk_m_isOnRing 22 rfl) rfl 41 (by decide) ((nI_eq (a := u) (b := r) (by omega) (by omega)).mpr (show u = r by omega)) ?_
        refine x_iconst 38 1 (ab_dd tk_m_isOnRing 23 rfl) rfl (by decide) (x_topn 1 rfl ?_)
        refine x_goto 42 (ab_dd tk_m_isOnRing 24 rfl) (by decide) ?_
        exact x_iret (ab_dd tk_m_isOnRing 26 rfl) ⟨rI (if_pos (by rw [← hrg]; exact if_pos z)).symm, rfl⟩
      · refine x_iload_n 10 3 (ab_dd tk_m_isOnRing 7 rfl) rfl rfl rfl ?_
        refine x_iconst 11 4 (ab_dd tk_m_isOnRing 8 rfl) rfl (by decide) (x_topn 4 rfl ?_)
        refine x_icmp_ge_f 14 (ab_dd tk_m_isOnRing 9 rfl) rfl 32 (by decide) (fun z => absurd ((nI_leI (a := 4) (b := k) (by omega) (by omega)).mp z) (show ¬ (4 ≤ k) by omega)) ?_
        refine x_iload_n 15 2 (ab_dd tk_m_isOnRing 10 rfl) rfl rfl rfl ?_
        refine x_iload_n 16 1 (ab_dd tk_m_isOnRing 11 rfl) rfl rfl rfl ?_
        refine x_icmp_eq_f 19 (ab_dd tk_m_isOnRing 12 rfl) rfl 32 (by decide) (fun z => absurd ((nI_eq (a := u) (b := r) (by omega) (by omega)).mp z) (show ¬ (u = r) by omega)) ?_
        refine x_aload_n 20 0 (ab_dd tk_m_isOnRing 13 rfl) rfl rfl rfl ?_
        refine t_getP 23 140 (ab_dd tk_m_isOnRing 14 rfl) rfl F_m_78 (by decide) (Nat.lt_of_lt_of_le (by decide) hm.1) (hm.2.1 0 (by decide)) rfl (hm.2.2 38 (by decide)) ?_
        refine x_iload_n 24 2 (ab_dd tk_m_isOnRing 15 rfl) rfl rfl rfl ?_
        refine t_iald 25 u (ab_dd tk_m_isOnRing 16 rfl) rfl (by decide) (Nat.lt_of_lt_of_le (by decide) hm.1) (hm.2.1 20 (by decide)) rfl (by omega) (by decide) (x_topn (f u) (hP u hu hbu) ?_)
        refine x_istore_n 26 [some (.ref 120), some (.int (nI r)), some (.int (nI (f u))), some (.int (nI k))] 2 (ab_dd tk_m_isOnRing 17 rfl) rfl rfl (by decide) rfl ?_
        refine xn_iinc 29 3 (fun y => [some (.ref 120), some (.int (nI r)), some (.int (nI (f u))), some (.int y)]) (k + 1) (ab_dd tk_m_isOnRing 18 rfl) rfl (by decide) rfl (fun _ => rfl) (iinc_p 1) ?_
        refine x_goto 9 (ab_dd tk_m_isOnRing 19 rfl) (by decide) ?_
        exact ih (k + 1) (f u) (by omega) c1 c2 (by rw [← hrg]; exact (if_neg z).symm)
  refine x_aload_n 1 0 (ab_dd tk_m_isOnRing 0 rfl) rfl rfl rfl ?_
  refine t_getP 4 140 (ab_dd tk_m_isOnRing 1 rfl) rfl F_m_78 (by decide) (Nat.lt_of_lt_of_le (by decide) hm.1) (hm.2.1 0 (by decide)) rfl (hm.2.2 38 (by decide)) ?_
  refine x_iload_n 5 1 (ab_dd tk_m_isOnRing 2 rfl) rfl rfl rfl ?_
  refine t_iald 6 r (ab_dd tk_m_isOnRing 3 rfl) rfl (by decide) (Nat.lt_of_lt_of_le (by decide) hm.1) (hm.2.1 20 (by decide)) rfl (by omega) (by decide) (x_topn (f r) (hP r hr hb) ?_)
  refine x_istore_n 7 [some (.ref 120), some (.int (nI r)), some (.int (nI (f r))), none] 2 (ab_dd tk_m_isOnRing 4 rfl) rfl rfl (by decide) rfl ?_
  refine x_iconst 8 0 (ab_dd tk_m_isOnRing 5 rfl) rfl (by decide) (x_topn 0 rfl ?_)
  refine x_istore_n 9 [some (.ref 120), some (.int (nI r)), some (.int (nI (f r))), some (.int (nI 0))] 3 (ab_dd tk_m_isOnRing 6 rfl) rfl rfl (by decide) rfl ?_
  exact loop 4 0 (f r) (by omega) (hc r hr hb).1 (hc r hr hb).2 rfl
abbrev aPt (a : Nat → Int32) (t r : Nat) : Nat := pt a t r (aR a)
abbrev aRg (a : Nat → Int32) (t r : Nat) : Bool := rg (aPt a t) r 4 (aPt a t r)
def aTd (a : Nat → Int32) (r : Nat) : Nat × Nat := trD (aPt a) (aR a) 4 (2 ^ aR a - 1) 0 r
theorem full_N : ∀ R, R < 5 → (nI 1 <<< (nI R &&& 31) - 1 = nI (2 ^ R - 1)) ∧ 2 ^ R - 1 < 16 ∧ pc4 (2 ^ R - 1) = R ∧ ∀ r, r < 4 → (bt (2 ^ R - 1) r ↔ r < R) := by decide +kernel
def tb_m_laysTrades : List (Nat × Instr × Nat) := [(0, .iconst 1, 1), (1, .aload_n 0, 1), (2, .getfield 13, 3), (5, .iconst 1, 1), (6, .iaload, 1), (7, .ishl, 1), (8, .iconst 1, 1), (9, .isub, 1), (10, .istore_n 1, 1), (11, .iconst 0, 1), (12, .istore_n 2, 1), (13, .iload_n 1, 1), (14, .ifCond .eq 132, 3), (17, .iconst 0, 1), (18, .istore_n 3, 1), (19, .iconst 0, 1), (20, .istore 4, 2), (22, .iload 4, 2), (24, .aload_n 0, 1), (25, .getfield 13, 3), (28, .iconst 1, 1), (29, .iaload, 1), (30, .if_icmp .ge 33, 3), (33, .iload_n 1, 1), (34, .i2l, 1), (35, .iload 4, 2), (37, .invokestatic 400, 3), (40, .ifCond .eq 17, 3), (43, .aload_n 0, 1), (44, .getfield 78, 3), (47, .iload 4, 2), (49, .aload_n 0, 1), (50, .iload 4, 2), (52, .iload_n 1, 1), (53, .invokevirtual 411, 3), (56, .iastore, 1), (57, .iinc 4 1, 3), (60, .goto (-38), 3), (63, .iconst 0, 1), (64, .istore 4, 2), (66, .iload 4, 2), (68, .aload_n 0, 1), (69, .getfield 13, 3), (72, .iconst 1, 1), (73, .iaload, 1), (74, .if_icmp .ge 60, 3), (77, .iload_n 1, 1), (78, .i2l, 1), (79, .iload 4, 2), (81, .invokestatic 400, 3), (84, .ifCond .eq 44, 3), (87, .aload_n 0, 1), (88, .iload 4, 2), (90, .invokevirtual 414, 3), (93, .ifCond .ne 6, 3), (96, .goto 32, 3), (99, .aload_n 0, 1), (100, .getfield 72, 3), (103, .iload 4, 2), (105, .aload_n 0, 1), (106, .getfield 78, 3), (109, .iload 4, 2), (111, .iaload, 1), (112, .iastore, 1), (113, .aload_n 0, 1), (114, .getfield 75, 3), (117, .iload 4, 2), (119, .iload_n 2, 1), (120, .iastore, 1), (121, .iload_n 3, 1), (122, .iconst 1, 1), (123, .iload 4, 2), (125, .ishl, 1), (126, .ior, 1), (127, .istore_n 3, 1), (128, .iinc 4 1, 3), (131, .goto (-65), 3), (134, .iload_n 1, 1), (135, .iload_n 3, 1), (136, .iconst (-1), 1), (137, .ixor, 1), (138, .iand, 1), (139, .istore_n 1, 1), (140, .iinc 2 1, 3), (143, .goto (-130), 3), (146, .return_, 1)]
theorem tk_m_laysTrades : ∀ q ∈ tb_m_laysTrades, decode M_m_laysTrades.2.1 q.1 = .ok q.2 := by decide +kernel
theorem c_m_laysTrades {G : ab_G} {S : ab_S} {a : Nat → Int32} (hm : mSh S) (hA : mA S = a) (ha : aOk a) : ab_C G 2 M_m_laysTrades [.ref 120] (sw S) (fun v w' => v = none ∧ ∃ S', w' = sw S' ∧ mSh S' ∧ mA S' = a ∧ sEq [138, 139, 140] S S' ∧ ∀ r, r < aR a → sI S' 138 r = nI (aTd a r).1 ∧ sI S' 139 r = nI (aTd a r).2) := by
  have hR4 := ha.R.2
  obtain ⟨f1, f2, f3, f4⟩ := full_N (aR a) (by omega)
  refine x_enter [some (.ref 120), none, none, none, none] (by decide) (Nat.le_of_ble_eq_true rfl) rfl (fun v w' h => by obtain ⟨rfl, -⟩ := h; trivial) ?_
  have whil : ∀ (m s t : Nat), s + m = 4 → t < 16 → pc4 t ≤ m → (∀ r, r < 4 → bt t r → r < aR a) → ∀ S1 : ab_S, mSh S1 → mA S1 = a → sEq [138, 139, 140] S S1 → (∀ r, r < aR a → (bt t r → aTd a r = trD (aPt a) (aR a) m t s r) ∧ (¬ bt t r → sI S1 138 r = nI (aTd a r).1 ∧ sI S1 139 r = nI (aTd a r).2)) → ab_Ex G 2 M_m_laysTrades 13 [some (.ref 120), some (.int (nI t)), some (.int (nI s)), none, none] [] (sw S1) (fun v w' => v = none ∧ ∃ S', w' = sw S' ∧ mSh S' ∧ mA S' = a ∧ sEq [138, 139, 140] S S' ∧ ∀ r, r < aR a → sI S' 138 r = nI (aTd a r).1 ∧ sI S' 139 r = nI (aTd a r).2) := by
    intro m
    induction m with
    | zero =>
      intro s t hs ht hpc hbt S1 hm1 hA1 hE1 hI
      obtain rfl : t = 0 := (show ∀ t, t < 16 → pc4 t ≤ 0 → t = 0 by decide +kernel) t ht hpc
      refine x_iload_n 14 1 (ab_dd tk_m_laysTrades 11 rfl) rfl rfl rfl ?_
      refine x_if_eq_t 146 (ab_dd tk_m_laysTrades 12 rfl) (by decide) rfl ?_
      exact x_vret (ab_dd tk_m_laysTrades 85 rfl) ⟨rfl, S1, rfl, hm1, hA1, hE1, fun r hr => (hI r hr).2 (fun z => by have z2 : 0 / 2 ^ r % 2 = 1 := z; rw [Nat.zero_div] at z2; cases z2)⟩
    | succ m ih =>
      intro s t hs ht hpc hbt S1 hm1 hA1 hE1 hI
      by_cases ht0 : t = 0
      · subst ht0
        refine x_iload_n 14 1 (ab_dd tk_m_laysTrades 11 rfl) rfl rfl rfl ?_
        refine x_if_eq_t 146 (ab_dd tk_m_laysTrades 12 rfl) (by decide) rfl ?_
        exact x_vret (ab_dd tk_m_laysTrades 85 rfl) ⟨rfl, S1, rfl, hm1, hA1, hE1, fun r hr => (hI r hr).2 (fun z => by have z2 : 0 / 2 ^ r % 2 = 1 := z; rw [Nat.zero_div] at z2; cases z2)⟩
      · have hcl : ∀ i, i < 4 → bt t i → aPt a t i < 4 ∧ bt t (aPt a t i) := fun i hi hb => ⟨Nat.lt_of_lt_of_le (pt_lt (a := a) (t := t) (hbt i hi hb) (aR a) (Nat.le_refl _)) hR4, pt_ok hb _⟩
        have rings : ∀ (q k : Nat), k + q = aR a → ∀ S2 : ab_S, mSh S2 → mA S2 = a → sEq [138, 139, 140] S S2 → (∀ i, i < 4 → bt t i → sI S2 140 i = nI (aPt a t i)) → (∀ r, r < aR a → (¬ bt t r → sI S2 138 r = nI (aTd a r).1 ∧ sI S2 139 r = nI (aTd a r).2) ∧ (r < k → bt t r → aRg a t r = true → sI S2 138 r = nI (aPt a t r) ∧ sI S2 139 r = nI s)) → ab_Ex G 2 M_m_laysTrades 66 [some (.ref 120), some (.int (nI t)), some (.int (nI s)), some (.int (nI (gN t (fun r => aRg a t r) k))), some (.int (nI k))] [] (sw S2) (fun v w' => v = none ∧ ∃ S', w' = sw S' ∧ mSh S' ∧ mA S' = a ∧ sEq [138, 139, 140] S S' ∧ ∀ r, r < aR a → sI S' 138 r = nI (aTd a r).1 ∧ sI S' 139 r = nI (aTd a r).2) := by
          intro q
          induction q with
          | zero =>
            intro k hk S2 hm2 hA2 hE2 hP hr2
            obtain rfl : k = aR a := by omega
            obtain ⟨g1, g3, g2⟩ := gN_ok (t := t) (q := (fun r => aRg a t r)) (aR a) hR4
            obtain ⟨u1, u2, u3, u4⟩ := su_ok ht g1 (fun r hr hb => ((g2 r hr).mp hb).2.1)
            obtain ⟨r0, hr0, hb0, hg0⟩ := rg_ex (f := fun i => if bt t i then aPt a t i else 0) ht ht0 (fun i hi => by
              show (if bt t i then aPt a t i else 0) < 4
              by_cases z : bt t i
              · rw [if_pos z]; exact (hcl i hi z).1
              · rw [if_neg z]; decide) (fun i hi hb => by show bt t (if bt t i then aPt a t i else 0); rw [if_pos hb]; exact (hcl i hi hb).2)
            have hrgc : ∀ n u, u < 4 → bt t u → rg (fun i => if bt t i then aPt a t i else 0) r0 n u = rg (aPt a t) r0 n u := by
              intro n
              induction n with
              | zero => intro u _ _; rfl
              | succ n ihn =>
                intro u hu hbu
                show (if u = r0 then true else rg _ r0 n (if bt t u then aPt a t u else 0)) = (if u = r0 then true else rg _ r0 n (aPt a t u))
                rw [if_pos hbu, ihn _ (hcl u hu hbu).1 (hcl u hu hbu).2]
            have hg0' : aRg a t r0 = true := by
              rw [if_pos hb0, hrgc 4 _ (hcl r0 hr0 hb0).1 (hcl r0 hr0 hb0).2] at hg0
              exact hg0
            have hgn : gN t (fun r => aRg a t r) (aR a) ≠ 0 := fun e => by
              have := (g2 r0 hr0).mpr ⟨hbt r0 hr0 hb0, hb0, hg0'⟩
              rw [e] at this
              have z2 : 0 / 2 ^ r0 % 2 = 1 := this
              rw [Nat.zero_div] at z2; cases z2
            have hpc2 := u3 hgn
            refine x_iload 68 4 (ab_dd tk_m_laysTrades 40 rfl) rfl rfl ?_
            refine x_aload_n 69 0 (ab_dd tk_m_laysTrades 41 rfl) rfl rfl rfl ?_
            refine t_getP 72 121 (ab_dd tk_m_laysTrades 42 rfl) rfl F_m_13 (by decide) (Nat.lt_of_lt_of_le (by decide) hm2.1) (hm2.2.1 0 (by decide)) rfl (hm2.2.2 1 (by decide)) ?_
            refine x_iconst 73 1 (ab_dd tk_m_laysTrades 43 rfl) rfl (by decide) (x_topn 1 rfl ?_)
            refine t_iald 74 1 (ab_dd tk_m_laysTrades 44 rfl) rfl (by decide) (Nat.lt_of_lt_of_le (by decide) hm2.1) (hm2.2.1 1 (by decide)) rfl (by decide) (by decide) (x_topn (aR a) ((congrFun hA2 1).trans ha.R.1) ?_)
            refine x_icmp_ge_t 134 (ab_dd tk_m_laysTrades 45 rfl) (by decide) ((nI_leI (a := (aR a)) (b := (aR a)) (by omega) (by omega)).mpr (show (aR a) ≤ (aR a) by omega)) ?_
            refine x_iload_n 135 1 (ab_dd tk_m_laysTrades 77 rfl) rfl rfl rfl ?_
            refine x_iload_n 136 3 (ab_dd tk_m_laysTrades 78 rfl) rfl rfl rfl ?_
            refine x_iconst 137 (-1) (ab_dd tk_m_laysTrades 79 rfl) rfl (by decide) ?_
            refine x_ixor 138 (ab_dd tk_m_laysTrades 80 rfl) rfl ?_
            refine x_iand 139 (ab_dd tk_m_laysTrades 81 rfl) rfl (x_topn (t - gN t (fun r => aRg a t r) (aR a)) u1 ?_)
            refine x_istore_n 140 [some (.ref 120), some (.int (nI (t - gN t (fun r => aRg a t r) (aR a)))), some (.int (nI s)), some (.int (nI (gN t (fun r => aRg a t r) (aR a)))), some (.int (nI (aR a)))] 1 (ab_dd tk_m_laysTrades 82 rfl) rfl rfl (by decide) rfl ?_
            refine xn_iinc 143 2 (fun y => [some (.ref 120), some (.int (nI (t - gN t (fun r => aRg a t r) (aR a)))), some (.int y), some (.int (nI (gN t (fun r => aRg a t r) (aR a)))), some (.int (nI (aR a)))]) (s + 1) (ab_dd tk_m_laysTrades 83 rfl) rfl (by decide) rfl (fun _ => rfl) (iinc_p 1) ?_
            refine x_goto 13 (ab_dd tk_m_laysTrades 84 rfl) (by decide) ?_
            refine x_forget 3 (x_forget 4 (ih (s + 1) (t - gN t (fun r => aRg a t r) (aR a)) (by omega) u2 (by omega) (fun r hr hb => hbt r hr ((u4 r hr).mp hb).1) S2 hm2 hA2 hE2 (fun r hr => ?_)))
            have hr4 : r < 4 := by omega
            refine ⟨fun hb => ?_, fun hb => ?_⟩
            · obtain ⟨b1, b2⟩ := (u4 r hr4).mp hb
              rw [(hI r hr).1 b1]
              exact if_neg (fun z => b2 ((g2 r hr4).mpr ⟨hr, b1, z⟩))
            · by_cases b1 : bt t r
              · have b2 : bt (gN t (fun r => aRg a t r) (aR a)) r := Classical.byContradiction (fun z => hb ((u4 r hr4).mpr ⟨b1, z⟩))
                have hz := ((g2 r hr4).mp b2).2.2
                obtain ⟨c1, c2⟩ := (hr2 r hr).2 hr b1 hz
                have hD : aTd a r = (aPt a t r, s) := ((hI r hr).1 b1).trans (if_pos hz)
                rw [hD]; exact ⟨c1, c2⟩
              · exact (hr2 r hr).1 b1
          | succ q ihq =>
            intro k hk S2 hm2 hA2 hE2 hP hr2
            have hkR : k < aR a := by omega
            obtain ⟨g1, g3, g2⟩ := gN_ok (t := t) (q := (fun r => aRg a t r)) k (by omega)
            have hnb : ¬ gN t (fun r => aRg a t r) k / 2 ^ k % 2 = 1 := fun y => absurd ((g2 k (by omega)).mp y).1 (by omega)
            have hI2 := ihq (k + 1) (by omega)
            refine x_iload 68 4 (ab_dd tk_m_laysTrades 40 rfl) rfl rfl ?_
            refine x_aload_n 69 0 (ab_dd tk_m_laysTrades 41 rfl) rfl rfl rfl ?_
            refine t_getP 72 121 (ab_dd tk_m_laysTrades 42 rfl) rfl F_m_13 (by decide) (Nat.lt_of_lt_of_le (by decide) hm2.1) (hm2.2.1 0 (by decide)) rfl (hm2.2.2 1 (by decide)) ?_
            refine x_iconst 73 1 (ab_dd tk_m_laysTrades 43 rfl) rfl (by decide) (x_topn 1 rfl ?_)
            refine t_iald 74 1 (ab_dd tk_m_laysTrades 44 rfl) rfl (by decide) (Nat.lt_of_lt_of_le (by decide) hm2.1) (hm2.2.1 1 (by decide)) rfl (by decide) (by decide) (x_topn (aR a) ((congrFun hA2 1).trans ha.R.1) ?_)
            refine x_icmp_ge_f 77 (ab_dd tk_m_laysTrades 45 rfl) rfl 134 (by decide) (fun z => absurd ((nI_leI (a := (aR a)) (b := k) (by omega) (by omega)).mp z) (show ¬ ((aR a) ≤ k) by omega)) ?_
            refine x_iload_n 78 1 (ab_dd tk_m_laysTrades 46 rfl) rfl rfl rfl ?_
            refine x_i2l 79 (ab_dd tk_m_laysTrades 47 rfl) rfl (x_topL (lN t) (nI_l (by omega)) ?_)
            refine x_iload 81 4 (ab_dd tk_m_laysTrades 48 rfl) rfl rfl ?_
            refine x_callS 84 M_m_isIn 0 2 [_, _] (ab_dd tk_m_laysTrades 49 rfl) rfl (by decide) K_m_isIn T_m_isIn L_m_400 rfl (Nat.le_of_ble_eq_true rfl) (c_m_isIn _ k (by omega) (by omega)) (fun v1 w1 h1 => ?_)
            obtain ⟨rfl, rfl⟩ := h1
            refine xb_if_eq 87 128 (ab_dd tk_m_laysTrades 50 rfl) rfl (by decide) (fun h84 => ?_) (fun h84 => ?_)
            · refine xn_iinc 131 4 (fun y => [some (.ref 120), some (.int (nI t)), some (.int (nI s)), some (.int (nI (gN t (fun r => aRg a t r) k))), some (.int y)]) (k + 1) (ab_dd tk_m_laysTrades 75 rfl) rfl (by decide) rfl (fun _ => rfl) (iinc_p 1) ?_
              refine x_goto 66 (ab_dd tk_m_laysTrades 76 rfl) (by decide) ?_
              rw [show gN t (fun r => aRg a t r) (k + 1) = gN t (fun r => aRg a t r) k from if_neg (fun z => h84 z.1)] at hI2
              refine hI2 S2 hm2 hA2 hE2 hP (fun r hr => ⟨(hr2 r hr).1, fun z1 z2 z3 => ?_⟩)
              by_cases e : r = k
              · subst e; exact absurd z2 h84
              · exact (hr2 r hr).2 (by omega) z2 z3
            · refine x_aload_n 88 0 (ab_dd tk_m_laysTrades 51 rfl) rfl rfl rfl ?_
              refine x_iload 90 4 (ab_dd tk_m_laysTrades 52 rfl) rfl rfl ?_
              refine t_callV 93 M_m_isOnRing 0 1 [_] (ab_dd tk_m_laysTrades 53 rfl) rfl (by decide) K_m_isOnRing V_m_isOnRing.1 V_m_isOnRing.2 L_m_414 rfl (Nat.le_of_ble_eq_true rfl) (by decide) (Nat.lt_of_lt_of_le (by decide) hm2.1) (hm2.2.1 0 (by decide)) rfl (c_m_isOnRing (by exact hm2) t (aPt a t) hP hcl k (by omega) h84) (fun v1 w1 h1 => ?_)
              obtain ⟨rfl, rfl⟩ := h1
              refine xb_if_ne 96 99 (ab_dd tk_m_laysTrades 54 rfl) rfl (by decide) (fun h93 => ?_) (fun h93 => ?_)
              · refine x_aload_n 100 0 (ab_dd tk_m_laysTrades 56 rfl) rfl rfl rfl ?_
                refine t_getP 103 138 (ab_dd tk_m_laysTrades 57 rfl) rfl F_m_72 (by decide) (Nat.lt_of_lt_of_le (by decide) hm2.1) (hm2.2.1 0 (by decide)) rfl (hm2.2.2 36 (by decide)) ?_
                refine x_iload 105 4 (ab_dd tk_m_laysTrades 58 rfl) rfl rfl ?_
                refine x_aload_n 106 0 (ab_dd tk_m_laysTrades 59 rfl) rfl rfl rfl ?_
                refine t_getP 109 140 (ab_dd tk_m_laysTrades 60 rfl) rfl F_m_78 (by decide) (Nat.lt_of_lt_of_le (by decide) hm2.1) (hm2.2.1 0 (by decide)) rfl (hm2.2.2 38 (by decide)) ?_
                refine x_iload 111 4 (ab_dd tk_m_laysTrades 61 rfl) rfl rfl ?_
                refine t_iald 112 k (ab_dd tk_m_laysTrades 62 rfl) rfl (by decide) (Nat.lt_of_lt_of_le (by decide) hm2.1) (hm2.2.1 20 (by decide)) rfl (by omega) (by decide) (x_topn (aPt a t k) (hP k (by omega) h84) ?_)
                refine t_iast 113 k (ab_dd tk_m_laysTrades 63 rfl) rfl (by decide) (Nat.lt_of_lt_of_le (by decide) hm2.1) (hm2.2.1 18 (by decide)) rfl (by omega) (by decide) ?_
                refine x_aload_n 114 0 (ab_dd tk_m_laysTrades 64 rfl) rfl rfl rfl ?_
                refine t_getP 117 139 (ab_dd tk_m_laysTrades 65 rfl) rfl F_m_75 (by decide) (Nat.lt_of_lt_of_le (by decide) hm2.1) (hm2.2.1 0 (by decide)) rfl (hm2.2.2 37 (by decide)) ?_
                refine x_iload 119 4 (ab_dd tk_m_laysTrades 66 rfl) rfl rfl ?_
                refine x_iload_n 120 2 (ab_dd tk_m_laysTrades 67 rfl) rfl rfl rfl ?_
                refine t_iast 121 k (ab_dd tk_m_laysTrades 68 rfl) rfl (by decide) (Nat.lt_of_lt_of_le (by decide) hm2.1) (hm2.2.1 19 (by decide)) rfl (by omega) (by decide) ?_
                refine x_iload_n 122 3 (ab_dd tk_m_laysTrades 69 rfl) rfl rfl rfl ?_
                refine x_iconst 123 1 (ab_dd tk_m_laysTrades 70 rfl) rfl (by decide) (x_topn 1 rfl ?_)
                refine x_iload 125 4 (ab_dd tk_m_laysTrades 71 rfl) rfl rfl ?_
                refine x_ishl 126 (ab_dd tk_m_laysTrades 72 rfl) rfl ?_
                refine x_ior 127 (ab_dd tk_m_laysTrades 73 rfl) rfl (x_topn (gN t (fun r => aRg a t r) k + 2 ^ k) ((tk_ok _ g1 k (by omega) hnb).2.2.1) ?_)
                refine x_istore_n 128 [some (.ref 120), some (.int (nI t)), some (.int (nI s)), some (.int (nI (gN t (fun r => aRg a t r) k + 2 ^ k))), some (.int (nI k))] 3 (ab_dd tk_m_laysTrades 74 rfl) rfl rfl (by decide) rfl ?_
                refine xn_iinc 131 4 (fun y => [some (.ref 120), some (.int (nI t)), some (.int (nI s)), some (.int (nI (gN t (fun r => aRg a t r) k + 2 ^ k))), some (.int y)]) (k + 1) (ab_dd tk_m_laysTrades 75 rfl) rfl (by decide) rfl (fun _ => rfl) (iinc_p 1) ?_
                refine x_goto 66 (ab_dd tk_m_laysTrades 76 rfl) (by decide) ?_
                rw [show gN t (fun r => aRg a t r) (k + 1) = gN t (fun r => aRg a t r) k + 2 ^ k from if_pos ⟨h84, h93⟩] at hI2
                refine hI2 _ hm2 hA2 ((hE2.pI (by decide)).pI (by decide)) hP (fun r hr => ?_)
                have e1 : sI (pI (pI S2 138 k (nI (aPt a t k))) 139 k (nI s)) 138 r = if r = k then nI (aPt a t k) else sI S2 138 r := by
                  show up2 (up2 (sI S2) 138 k (nI (aPt a t k))) 139 k (nI s) 138 r = _
                  rw [up2_a (by decide)]
                  by_cases e : r = k
                  · rw [e, up2_s, if_pos rfl]
                  · rw [up2_k e, if_neg e]
                have e2 : sI (pI (pI S2 138 k (nI (aPt a t k))) 139 k (nI s)) 139 r = if r = k then nI s else sI S2 139 r := by
                  show up2 (up2 (sI S2) 138 k (nI (aPt a t k))) 139 k (nI s) 139 r = _
                  by_cases e : r = k
                  · rw [e, up2_s, if_pos rfl]
                  · rw [up2_k e, if_neg e, up2_a (by decide)]
                rw [e1, e2]
                by_cases e : r = k
                · subst e
                  rw [if_pos rfl, if_pos rfl]
                  exact ⟨fun z => absurd h84 z, fun _ _ _ => ⟨rfl, rfl⟩⟩
                · rw [if_neg e, if_neg e]
                  exact ⟨(hr2 r hr).1, fun z1 => (hr2 r hr).2 (by omega)⟩
              · refine x_goto 128 (ab_dd tk_m_laysTrades 55 rfl) (by decide) ?_
                refine xn_iinc 131 4 (fun y => [some (.ref 120), some (.int (nI t)), some (.int (nI s)), some (.int (nI (gN t (fun r => aRg a t r) k))), some (.int y)]) (k + 1) (ab_dd tk_m_laysTrades 75 rfl) rfl (by decide) rfl (fun _ => rfl) (iinc_p 1) ?_
                refine x_goto 66 (ab_dd tk_m_laysTrades 76 rfl) (by decide) ?_
                rw [show gN t (fun r => aRg a t r) (k + 1) = gN t (fun r => aRg a t r) k from if_neg (fun z => h93 z.2)] at hI2
                refine hI2 S2 hm2 hA2 hE2 hP (fun r hr => ⟨(hr2 r hr).1, fun z1 z2 z3 => ?_⟩)
                by_cases e : r = k
                · subst e; exact absurd z3 h93
                · exact (hr2 r hr).2 (by omega) z2 z3
        have points : ∀ (q k : Nat), k + q = aR a → ∀ S2 : ab_S, mSh S2 → mA S2 = a → sEq [138, 139, 140] S S2 → (∀ i, i < k → bt t i → sI S2 140 i = nI (aPt a t i)) → (∀ r, r < aR a → ¬ bt t r → sI S2 138 r = nI (aTd a r).1 ∧ sI S2 139 r = nI (aTd a r).2) → ab_Ex G 2 M_m_laysTrades 22 [some (.ref 120), some (.int (nI t)), some (.int (nI s)), some (.int (nI 0)), some (.int (nI k))] [] (sw S2) (fun v w' => v = none ∧ ∃ S', w' = sw S' ∧ mSh S' ∧ mA S' = a ∧ sEq [138, 139, 140] S S' ∧ ∀ r, r < aR a → sI S' 138 r = nI (aTd a r).1 ∧ sI S' 139 r = nI (aTd a r).2) := by
          intro q
          induction q with
          | zero =>
            intro k hk S2 hm2 hA2 hE2 hP hr2
            obtain rfl : k = aR a := by omega
            refine x_iload 24 4 (ab_dd tk_m_laysTrades 17 rfl) rfl rfl ?_
            refine x_aload_n 25 0 (ab_dd tk_m_laysTrades 18 rfl) rfl rfl rfl ?_
            refine t_getP 28 121 (ab_dd tk_m_laysTrades 19 rfl) rfl F_m_13 (by decide) (Nat.lt_of_lt_of_le (by decide) hm2.1) (hm2.2.1 0 (by decide)) rfl (hm2.2.2 1 (by decide)) ?_
            refine x_iconst 29 1 (ab_dd tk_m_laysTrades 20 rfl) rfl (by decide) (x_topn 1 rfl ?_)
            refine t_iald 30 1 (ab_dd tk_m_laysTrades 21 rfl) rfl (by decide) (Nat.lt_of_lt_of_le (by decide) hm2.1) (hm2.2.1 1 (by decide)) rfl (by decide) (by decide) (x_topn (aR a) ((congrFun hA2 1).trans ha.R.1) ?_)
            refine x_icmp_ge_t 63 (ab_dd tk_m_laysTrades 22 rfl) (by decide) ((nI_leI (a := (aR a)) (b := (aR a)) (by omega) (by omega)).mpr (show (aR a) ≤ (aR a) by omega)) ?_
            refine x_iconst 64 0 (ab_dd tk_m_laysTrades 38 rfl) rfl (by decide) (x_topn 0 rfl ?_)
            refine x_istore 66 [some (.ref 120), some (.int (nI t)), some (.int (nI s)), some (.int (nI 0)), some (.int (nI 0))] 4 (ab_dd tk_m_laysTrades 39 rfl) rfl (by decide) rfl ?_
            exact rings (aR a) 0 (by omega) S2 hm2 hA2 hE2 (fun i hi hb => hP i (hbt i hi hb) hb) (fun r hr => ⟨hr2 r hr, fun z => absurd z (by omega)⟩)
          | succ q ihq =>
            intro k hk S2 hm2 hA2 hE2 hP hr2
            have hkR : k < aR a := by omega
            refine x_iload 24 4 (ab_dd tk_m_laysTrades 17 rfl) rfl rfl ?_
            refine x_aload_n 25 0 (ab_dd tk_m_laysTrades 18 rfl) rfl rfl rfl ?_
            refine t_getP 28 121 (ab_dd tk_m_laysTrades 19 rfl) rfl F_m_13 (by decide) (Nat.lt_of_lt_of_le (by decide) hm2.1) (hm2.2.1 0 (by decide)) rfl (hm2.2.2 1 (by decide)) ?_
            refine x_iconst 29 1 (ab_dd tk_m_laysTrades 20 rfl) rfl (by decide) (x_topn 1 rfl ?_)
            refine t_iald 30 1 (ab_dd tk_m_laysTrades 21 rfl) rfl (by decide) (Nat.lt_of_lt_of_le (by decide) hm2.1) (hm2.2.1 1 (by decide)) rfl (by decide) (by decide) (x_topn (aR a) ((congrFun hA2 1).trans ha.R.1) ?_)
            refine x_icmp_ge_f 33 (ab_dd tk_m_laysTrades 22 rfl) rfl 63 (by decide) (fun z => absurd ((nI_leI (a := (aR a)) (b := k) (by omega) (by omega)).mp z) (show ¬ ((aR a) ≤ k) by omega)) ?_
            refine x_iload_n 34 1 (ab_dd tk_m_laysTrades 23 rfl) rfl rfl rfl ?_
            refine x_i2l 35 (ab_dd tk_m_laysTrades 24 rfl) rfl (x_topL (lN t) (nI_l (by omega)) ?_)
            refine x_iload 37 4 (ab_dd tk_m_laysTrades 25 rfl) rfl rfl ?_
            refine x_callS 40 M_m_isIn 0 2 [_, _] (ab_dd tk_m_laysTrades 26 rfl) rfl (by decide) K_m_isIn T_m_isIn L_m_400 rfl (Nat.le_of_ble_eq_true rfl) (c_m_isIn _ k (by omega) (by omega)) (fun v1 w1 h1 => ?_)
            obtain ⟨rfl, rfl⟩ := h1
            refine xb_if_eq 43 57 (ab_dd tk_m_laysTrades 27 rfl) rfl (by decide) (fun h40 => ?_) (fun h40 => ?_)
            · refine xn_iinc 60 4 (fun y => [some (.ref 120), some (.int (nI t)), some (.int (nI s)), some (.int (nI 0)), some (.int y)]) (k + 1) (ab_dd tk_m_laysTrades 36 rfl) rfl (by decide) rfl (fun _ => rfl) (iinc_p 1) ?_
              refine x_goto 22 (ab_dd tk_m_laysTrades 37 rfl) (by decide) ?_
              refine ihq (k + 1) (by omega) S2 hm2 hA2 hE2 (fun i hi hb => ?_) hr2
              by_cases e : i = k
              · rw [e] at hb; exact absurd hb h40
              · exact hP i (by omega) hb
            · refine x_aload_n 44 0 (ab_dd tk_m_laysTrades 28 rfl) rfl rfl rfl ?_
              refine t_getP 47 140 (ab_dd tk_m_laysTrades 29 rfl) rfl F_m_78 (by decide) (Nat.lt_of_lt_of_le (by decide) hm2.1) (hm2.2.1 0 (by decide)) rfl (hm2.2.2 38 (by decide)) ?_
              refine x_iload 49 4 (ab_dd tk_m_laysTrades 30 rfl) rfl rfl ?_
              refine x_aload_n 50 0 (ab_dd tk_m_laysTrades 31 rfl) rfl rfl rfl ?_
              refine x_iload 52 4 (ab_dd tk_m_laysTrades 32 rfl) rfl rfl ?_
              refine x_iload_n 53 1 (ab_dd tk_m_laysTrades 33 rfl) rfl rfl rfl ?_
              refine t_callV 56 M_m_pointing 1 2 [_, _] (ab_dd tk_m_laysTrades 34 rfl) rfl (by decide) K_m_pointing V_m_pointing.1 V_m_pointing.2 L_m_411 rfl (Nat.le_of_ble_eq_true rfl) (by decide) (Nat.lt_of_lt_of_le (by decide) hm2.1) (hm2.2.1 0 (by decide)) rfl (c_m_pointing (by exact hm2) (by exact hA2) ha k t hkR ht) (fun v1 w1 h1 => ?_)
              obtain ⟨rfl, rfl⟩ := h1
              refine t_iast 57 k (ab_dd tk_m_laysTrades 35 rfl) rfl (by decide) (Nat.lt_of_lt_of_le (by decide) hm2.1) (hm2.2.1 20 (by decide)) rfl (by omega) (by decide) ?_
              refine xn_iinc 60 4 (fun y => [some (.ref 120), some (.int (nI t)), some (.int (nI s)), some (.int (nI 0)), some (.int y)]) (k + 1) (ab_dd tk_m_laysTrades 36 rfl) rfl (by decide) rfl (fun _ => rfl) (iinc_p 1) ?_
              refine x_goto 22 (ab_dd tk_m_laysTrades 37 rfl) (by decide) ?_
              refine ihq (k + 1) (by omega) _ hm2 hA2 (hE2.pI (by decide)) (fun i hi hb => ?_) hr2
              show up2 (sI S2) 140 k _ 140 i = _
              by_cases e : i = k
              · rw [e, up2_s]
              · rw [up2_k e]; exact hP i (by omega) hb
        refine x_iload_n 14 1 (ab_dd tk_m_laysTrades 11 rfl) rfl rfl rfl ?_
        refine x_if_eq_f 17 (ab_dd tk_m_laysTrades 12 rfl) rfl 146 (by decide) (fun z => absurd ((nI_eq (a := t) (b := 0) (by omega) (by omega)).mp z) (show ¬ (t = 0) by omega)) ?_
        refine x_iconst 18 0 (ab_dd tk_m_laysTrades 13 rfl) rfl (by decide) (x_topn 0 rfl ?_)
        refine x_istore_n 19 [some (.ref 120), some (.int (nI t)), some (.int (nI s)), some (.int (nI 0)), none] 3 (ab_dd tk_m_laysTrades 14 rfl) rfl rfl (by decide) rfl ?_
        refine x_iconst 20 0 (ab_dd tk_m_laysTrades 15 rfl) rfl (by decide) (x_topn 0 rfl ?_)
        refine x_istore 22 [some (.ref 120), some (.int (nI t)), some (.int (nI s)), some (.int (nI 0)), some (.int (nI 0))] 4 (ab_dd tk_m_laysTrades 16 rfl) rfl (by decide) rfl ?_
        exact points (aR a) 0 (by omega) S1 hm1 hA1 hE1 (fun i hi => absurd hi (by omega)) (fun r hr => (hI r hr).2)
  refine x_iconst 1 1 (ab_dd tk_m_laysTrades 0 rfl) rfl (by decide) (x_topn 1 rfl ?_)
  refine x_aload_n 2 0 (ab_dd tk_m_laysTrades 1 rfl) rfl rfl rfl ?_
  refine t_getP 5 121 (ab_dd tk_m_laysTrades 2 rfl) rfl F_m_13 (by decide) (Nat.lt_of_lt_of_le (by decide) hm.1) (hm.2.1 0 (by decide)) rfl (hm.2.2 1 (by decide)) ?_
  refine x_iconst 6 1 (ab_dd tk_m_laysTrades 3 rfl) rfl (by decide) (x_topn 1 rfl ?_)
  refine t_iald 7 1 (ab_dd tk_m_laysTrades 4 rfl) rfl (by decide) (Nat.lt_of_lt_of_le (by decide) hm.1) (hm.2.1 1 (by decide)) rfl (by decide) (by decide) (x_topn (aR a) ((congrFun hA 1).trans ha.R.1) ?_)
  refine x_ishl 8 (ab_dd tk_m_laysTrades 5 rfl) rfl (x_topx (nI 1 <<< (nI (aR a) &&& 31)) rfl ?_)
  refine x_iconst 9 1 (ab_dd tk_m_laysTrades 6 rfl) rfl (by decide) (x_topn 1 rfl ?_)
  refine x_isub 10 (ab_dd tk_m_laysTrades 7 rfl) rfl (x_topn (2 ^ aR a - 1) f1 ?_)
  refine x_istore_n 11 [some (.ref 120), some (.int (nI (2 ^ aR a - 1))), none, none, none] 1 (ab_dd tk_m_laysTrades 8 rfl) rfl rfl (by decide) rfl ?_
  refine x_iconst 12 0 (ab_dd tk_m_laysTrades 9 rfl) rfl (by decide) (x_topn 0 rfl ?_)
  refine x_istore_n 13 [some (.ref 120), some (.int (nI (2 ^ aR a - 1))), some (.int (nI 0)), none, none] 2 (ab_dd tk_m_laysTrades 10 rfl) rfl rfl (by decide) rfl ?_
  exact whil 4 0 (2 ^ aR a - 1) (by omega) f2 (by omega) (fun r hr hb => (f4 r hr).mp hb) S hm hA sEq.rf (fun r hr => ⟨fun _ => rfl, fun z => absurd ((f4 r (by omega)).mpr hr) z⟩)
def tb_m_trades : List (Nat × Instr × Nat) := [(0, .aload_n 0, 1), (1, .iconst 0, 1), (2, .putfield 1, 3), (5, .aload_n 0, 1), (6, .iload_n 1, 1), (7, .i2l, 1), (8, .invokevirtual 258, 3), (11, .ifCond .eq 13, 3), (14, .iload_n 2, 1), (15, .i2l, 1), (16, .lconst 0, 1), (17, .lconst 1, 1), (18, .invokestatic 159, 3), (21, .ifCond .ne 6, 3), (24, .bipush (-2), 2), (26, .ireturn, 1), (27, .aload_n 0, 1), (28, .invokevirtual 417, 3), (31, .iload_n 2, 1), (32, .ifCond .ne 12, 3), (35, .aload_n 0, 1), (36, .getfield 72, 3), (39, .iload_n 1, 1), (40, .iaload, 1), (41, .goto 9, 3), (44, .aload_n 0, 1), (45, .getfield 75, 3), (48, .iload_n 1, 1), (49, .iaload, 1), (50, .ireturn, 1)]
theorem tk_m_trades : ∀ q ∈ tb_m_trades, decode M_m_trades.2.1 q.1 = .ok q.2 := by decide +kernel
theorem c_m_trades {G : ab_G} {S : ab_S} {a : Nat → Int32} (hm : mSh S) (hA : mA S = a) (ha : aOk a) (r x : Int32) : ab_C G 3 M_m_trades [.ref 120, .int r, .int x] (sw S) (pQ S (some (.int (if (0 ≤ r ∧ cN r < aR a) ∧ (0 ≤ x ∧ x ≤ 1) then (if x = 0 then nI (aTd a (cN r)).1 else nI (aTd a (cN r)).2) else -2)))) := by
  refine x_enter [some (.ref 120), some (.int r), some (.int x)] (by decide) (Nat.le_of_ble_eq_true rfl) rfl (fun v w' h => by obtain ⟨rfl, -⟩ := h; rfl) ?_
  have hR4 := ha.R.2
  refine x_aload_n 1 0 (ab_dd tk_m_trades 0 rfl) rfl rfl rfl ?_
  refine x_iconst 2 0 (ab_dd tk_m_trades 1 rfl) rfl (by decide) (x_topn 0 rfl ?_)
  refine t_putI 5 (ab_dd tk_m_trades 2 rfl) rfl F_m_1 (by decide) (Nat.lt_of_lt_of_le (by decide) hm.1) (hm.2.1 0 (by decide)) rfl rfl rfl ?_
  refine x_aload_n 6 0 (ab_dd tk_m_trades 3 rfl) rfl rfl rfl ?_
  refine x_iload_n 7 1 (ab_dd tk_m_trades 4 rfl) rfl rfl rfl ?_
  refine x_i2l 8 (ab_dd tk_m_trades 5 rfl) rfl ?_
  refine t_callV 11 M_m_isRider 1 1 [_] (ab_dd tk_m_trades 6 rfl) rfl (by decide) K_m_isRider V_m_isRider.1 V_m_isRider.2 L_m_258 rfl (Nat.le_of_ble_eq_true rfl) (by decide) (Nat.lt_of_lt_of_le (by decide) hm.1) (hm.2.1 0 (by decide)) rfl (w_isRider (by exact hm) (by exact hA) ha _) (fun v1 w1 h1 => ?_)
  obtain ⟨rfl, rfl⟩ := h1
  refine xb_if_eq 14 24 (ab_dd tk_m_trades 7 rfl) rfl (by decide) (fun h11 => ?_) (fun h11 => ?_)
  · refine x_bipush 26 (-2) (ab_dd tk_m_trades 14 rfl) rfl (by decide) ?_
    exact x_iret (ab_dd tk_m_trades 15 rfl) ⟨rI (if_neg (fun z => h11 z.1)).symm, _, rfl, hm, hA.trans hA.symm, ((sEq.rf (l := qL)).pI (by decide)), (fEq.pI (fEq.rf (S := S)) (Or.inr (by decide)))⟩
  · refine x_iload_n 15 2 (ab_dd tk_m_trades 8 rfl) rfl rfl rfl ?_
    refine x_i2l 16 (ab_dd tk_m_trades 9 rfl) rfl ?_
    refine x_lconst 17 0 (ab_dd tk_m_trades 10 rfl) rfl (by decide) ?_
    refine x_lconst 18 1 (ab_dd tk_m_trades 11 rfl) rfl (by decide) ?_
    refine x_callS 21 M_m_within 0 3 [_, _, _] (ab_dd tk_m_trades 12 rfl) rfl (by decide) K_m_within T_m_within L_m_159 rfl (Nat.le_of_ble_eq_true rfl) (w_inI 0 1 rfl rfl _) (fun v1 w1 h1 => ?_)
    obtain ⟨rfl, rfl⟩ := h1
    refine xb_if_ne 24 27 (ab_dd tk_m_trades 13 rfl) rfl (by decide) (fun h21 => ?_) (fun h21 => ?_)
    · obtain ⟨p, hp, erp, er⟩ := rid_get h11 hR4
      rw [show some (Value.int r) = some (Value.int (nI p)) by rw [erp]]
      refine x_aload_n 28 0 (ab_dd tk_m_trades 16 rfl) rfl rfl rfl ?_
      refine t_callV 31 M_m_laysTrades 2 0 [] (ab_dd tk_m_trades 17 rfl) rfl (by decide) K_m_laysTrades V_m_laysTrades.1 V_m_laysTrades.2 L_m_417 rfl (Nat.le_of_ble_eq_true rfl) (by decide) (Nat.lt_of_lt_of_le (by decide) hm.1) (hm.2.1 0 (by decide)) rfl (c_m_laysTrades (by exact hm) (by exact hA) ha) (fun v1 w1 h1 => ?_)
      obtain ⟨rfl, U1, rfl, um1, uA1, uE1, htr⟩ := h1
      refine x_iload_n 32 2 (ab_dd tk_m_trades 18 rfl) rfl rfl rfl ?_
      refine x_if_ne 35 44 (ab_dd tk_m_trades 19 rfl) rfl (by decide) (fun h32 => ?_) (fun h32 => ?_)
      · refine x_aload_n 45 0 (ab_dd tk_m_trades 25 rfl) rfl rfl rfl ?_
        refine t_getP 48 139 (ab_dd tk_m_trades 26 rfl) rfl F_m_75 (by decide) (Nat.lt_of_lt_of_le (by decide) um1.1) (um1.2.1 0 (by decide)) rfl (um1.2.2 37 (by decide)) ?_
        refine x_iload_n 49 1 (ab_dd tk_m_trades 27 rfl) rfl rfl rfl ?_
        refine t_iald 50 p (ab_dd tk_m_trades 28 rfl) rfl (by decide) (Nat.lt_of_lt_of_le (by decide) um1.1) (um1.2.1 19 (by decide)) rfl (by omega) (by decide) (x_topn ((aTd a p).2) ((htr p hp).2) ?_)
        exact x_iret (ab_dd tk_m_trades 29 rfl) ⟨rI (by rw [if_pos ⟨h11, h21⟩, if_neg h32, er]), _, rfl, um1, uA1.trans hA.symm, (((sEq.rf (l := qL)).pI (by decide)).tr (uE1.mono (by decide))), (fEq.r2 uE1 (by decide) (by exact (fEq.pI (fEq.rf (S := S)) (Or.inr (by decide)))))⟩
      · refine x_aload_n 36 0 (ab_dd tk_m_trades 20 rfl) rfl rfl rfl ?_
        refine t_getP 39 138 (ab_dd tk_m_trades 21 rfl) rfl F_m_72 (by decide) (Nat.lt_of_lt_of_le (by decide) um1.1) (um1.2.1 0 (by decide)) rfl (um1.2.2 36 (by decide)) ?_
        refine x_iload_n 40 1 (ab_dd tk_m_trades 22 rfl) rfl rfl rfl ?_
        refine t_iald 41 p (ab_dd tk_m_trades 23 rfl) rfl (by decide) (Nat.lt_of_lt_of_le (by decide) um1.1) (um1.2.1 18 (by decide)) rfl (by omega) (by decide) (x_topn ((aTd a p).1) ((htr p hp).1) ?_)
        refine x_goto 50 (ab_dd tk_m_trades 24 rfl) (by decide) ?_
        exact x_iret (ab_dd tk_m_trades 29 rfl) ⟨rI (by rw [if_pos ⟨h11, h21⟩, if_pos h32, er]), _, rfl, um1, uA1.trans hA.symm, (((sEq.rf (l := qL)).pI (by decide)).tr (uE1.mono (by decide))), (fEq.r2 uE1 (by decide) (by exact (fEq.pI (fEq.rf (S := S)) (Or.inr (by decide)))))⟩
    · refine x_bipush 26 (-2) (ab_dd tk_m_trades 14 rfl) rfl (by decide) ?_
      exact x_iret (ab_dd tk_m_trades 15 rfl) ⟨rI (if_neg (fun z => h21 z.2)).symm, _, rfl, hm, hA.trans hA.symm, ((sEq.rf (l := qL)).pI (by decide)), (fEq.pI (fEq.rf (S := S)) (Or.inr (by decide)))⟩
def aGl (a : Nat → Int32) : Nat → Nat
  | 0 => 0
  | k + 1 => aGl a k + (if lk a k k < lk a k (aTd a k).1 then 1 else 0)
theorem aGl_le (a : Nat → Int32) : ∀ k, aGl a k ≤ k
  | 0 => Nat.le_refl _
  | k + 1 => by
    have := aGl_le a k
    unfold aGl
    split <;> omega
def tb_m_glad : List (Nat × Instr × Nat) := [(0, .aload_n 0, 1), (1, .iconst 0, 1), (2, .putfield 1, 3), (5, .aload_n 0, 1), (6, .invokevirtual 417, 3), (9, .iconst 0, 1), (10, .istore_n 1, 1), (11, .iconst 0, 1), (12, .istore_n 2, 1), (13, .iload_n 2, 1), (14, .aload_n 0, 1), (15, .getfield 13, 3), (18, .iconst 1, 1), (19, .iaload, 1), (20, .if_icmp .ge 37, 3), (23, .iload_n 1, 1), (24, .aload_n 0, 1), (25, .iload_n 2, 1), (26, .aload_n 0, 1), (27, .getfield 72, 3), (30, .iload_n 2, 1), (31, .iaload, 1), (32, .invokevirtual 408, 3), (35, .aload_n 0, 1), (36, .iload_n 2, 1), (37, .iload_n 2, 1), (38, .invokevirtual 408, 3), (41, .if_icmp .le 7, 3), (44, .iconst 1, 1), (45, .goto 4, 3), (48, .iconst 0, 1), (49, .iadd, 1), (50, .istore_n 1, 1), (51, .iinc 2 1, 3), (54, .goto (-41), 3), (57, .iload_n 1, 1), (58, .ireturn, 1)]
theorem tk_m_glad : ∀ q ∈ tb_m_glad, decode M_m_glad.2.1 q.1 = .ok q.2 := by decide +kernel
theorem c_m_glad {G : ab_G} {S : ab_S} {a : Nat → Int32} (hm : mSh S) (hA : mA S = a) (ha : aOk a) : ab_C G 3 M_m_glad [.ref 120] (sw S) (pQ S (some (.int (nI (aGl a (aR a)))))) := by
  have hR4 := ha.R.2
  have loop : ∀ S1 : ab_S, mSh S1 → mA S1 = a → sEq qL S S1 → fEq S S1 → (∀ r, r < aR a → sI S1 138 r = nI (aTd a r).1 ∧ sI S1 139 r = nI (aTd a r).2) → ∀ (m k : Nat), k + m = aR a → ab_Ex G 3 M_m_glad 13 [some (.ref 120), some (.int (nI (aGl a k))), some (.int (nI k))] [] (sw S1) (pQ S (some (.int (nI (aGl a (aR a)))))) := by
    intro S1 hm1 hA1 hE1 hF1 htr m
    induction m with
    | zero =>
      intro k hk
      obtain rfl : k = aR a := by omega
      refine x_iload_n 14 2 (ab_dd tk_m_glad 9 rfl) rfl rfl rfl ?_
      refine x_aload_n 15 0 (ab_dd tk_m_glad 10 rfl) rfl rfl rfl ?_
      refine t_getP 18 121 (ab_dd tk_m_glad 11 rfl) rfl F_m_13 (by decide) (Nat.lt_of_lt_of_le (by decide) hm1.1) (hm1.2.1 0 (by decide)) rfl (hm1.2.2 1 (by decide)) ?_
      refine x_iconst 19 1 (ab_dd tk_m_glad 12 rfl) rfl (by decide) (x_topn 1 rfl ?_)
      refine t_iald 20 1 (ab_dd tk_m_glad 13 rfl) rfl (by decide) (Nat.lt_of_lt_of_le (by decide) hm1.1) (hm1.2.1 1 (by decide)) rfl (by decide) (by decide) (x_topn (aR a) ((congrFun hA1 1).trans ha.R.1) ?_)
      refine x_icmp_ge_t 57 (ab_dd tk_m_glad 14 rfl) (by decide) ((nI_leI (a := (aR a)) (b := (aR a)) (by omega) (by omega)).mpr (show (aR a) ≤ (aR a) by omega)) ?_
      refine x_iload_n 58 1 (ab_dd tk_m_glad 35 rfl) rfl rfl rfl ?_
      exact x_iret (ab_dd tk_m_glad 36 rfl) ⟨rfl, _, rfl, hm1, hA1.trans hA.symm, hE1, hF1⟩
    | succ m ih =>
      intro k hk
      have hkR : k < aR a := by omega
      have hd := trD_lt (P := aPt a) (R := aR a) (fun t r hr => pt_lt hr _ (Nat.le_refl _)) (by omega) 4 (2 ^ aR a - 1) 0 k hkR
      have hd2 : (aTd a k).1 < aR a := hd
      have hI := ih (k + 1) (by omega)
      rw [show aGl a (k + 1) = aGl a k + (if lk a k k < lk a k (aTd a k).1 then 1 else 0) from rfl] at hI
      refine x_iload_n 14 2 (ab_dd tk_m_glad 9 rfl) rfl rfl rfl ?_
      refine x_aload_n 15 0 (ab_dd tk_m_glad 10 rfl) rfl rfl rfl ?_
      refine t_getP 18 121 (ab_dd tk_m_glad 11 rfl) rfl F_m_13 (by decide) (Nat.lt_of_lt_of_le (by decide) hm1.1) (hm1.2.1 0 (by decide)) rfl (hm1.2.2 1 (by decide)) ?_
      refine x_iconst 19 1 (ab_dd tk_m_glad 12 rfl) rfl (by decide) (x_topn 1 rfl ?_)
      refine t_iald 20 1 (ab_dd tk_m_glad 13 rfl) rfl (by decide) (Nat.lt_of_lt_of_le (by decide) hm1.1) (hm1.2.1 1 (by decide)) rfl (by decide) (by decide) (x_topn (aR a) ((congrFun hA1 1).trans ha.R.1) ?_)
      refine x_icmp_ge_f 23 (ab_dd tk_m_glad 14 rfl) rfl 57 (by decide) (fun z => absurd ((nI_leI (a := (aR a)) (b := k) (by omega) (by omega)).mp z) (show ¬ ((aR a) ≤ k) by omega)) ?_
      refine x_iload_n 24 1 (ab_dd tk_m_glad 15 rfl) rfl rfl rfl ?_
      refine x_aload_n 25 0 (ab_dd tk_m_glad 16 rfl) rfl rfl rfl ?_
      refine x_iload_n 26 2 (ab_dd tk_m_glad 17 rfl) rfl rfl rfl ?_
      refine x_aload_n 27 0 (ab_dd tk_m_glad 18 rfl) rfl rfl rfl ?_
      refine t_getP 30 138 (ab_dd tk_m_glad 19 rfl) rfl F_m_72 (by decide) (Nat.lt_of_lt_of_le (by decide) hm1.1) (hm1.2.1 0 (by decide)) rfl (hm1.2.2 36 (by decide)) ?_
      refine x_iload_n 31 2 (ab_dd tk_m_glad 20 rfl) rfl rfl rfl ?_
      refine t_iald 32 k (ab_dd tk_m_glad 21 rfl) rfl (by decide) (Nat.lt_of_lt_of_le (by decide) hm1.1) (hm1.2.1 18 (by decide)) rfl (by omega) (by decide) (x_topn ((aTd a k).1) ((htr k hkR).1) ?_)
      refine t_callV 35 M_m_likesOf 0 2 [_, _] (ab_dd tk_m_glad 22 rfl) rfl (by decide) K_m_likesOf V_m_likesOf.1 V_m_likesOf.2 L_m_408 rfl (Nat.le_of_ble_eq_true rfl) (by decide) (Nat.lt_of_lt_of_le (by decide) hm1.1) (hm1.2.1 0 (by decide)) rfl (c_m_likesOf (by exact hm1) (by exact hA1) ha k ((aTd a k).1) (by omega) (by omega)) (fun v1 w1 h1 => ?_)
      obtain ⟨rfl, rfl⟩ := h1
      refine x_aload_n 36 0 (ab_dd tk_m_glad 23 rfl) rfl rfl rfl ?_
      refine x_iload_n 37 2 (ab_dd tk_m_glad 24 rfl) rfl rfl rfl ?_
      refine x_iload_n 38 2 (ab_dd tk_m_glad 25 rfl) rfl rfl rfl ?_
      refine t_callV 41 M_m_likesOf 0 2 [_, _] (ab_dd tk_m_glad 26 rfl) rfl (by decide) K_m_likesOf V_m_likesOf.1 V_m_likesOf.2 L_m_408 rfl (Nat.le_of_ble_eq_true rfl) (by decide) (Nat.lt_of_lt_of_le (by decide) hm1.1) (hm1.2.1 0 (by decide)) rfl (c_m_likesOf (by exact hm1) (by exact hA1) ha k k (by omega) (by omega)) (fun v1 w1 h1 => ?_)
      obtain ⟨rfl, rfl⟩ := h1
      refine x_icmp_le 44 48 (ab_dd tk_m_glad 27 rfl) rfl (by decide) (fun h41 => ?_) (fun h41 => ?_)
      · refine x_iconst 49 0 (ab_dd tk_m_glad 30 rfl) rfl (by decide) (x_topn 0 rfl ?_)
        refine x_iadd 50 (ab_dd tk_m_glad 31 rfl) rfl (x_topn ((aGl a k) + 0) (nI_add _ _) ?_)
        refine x_istore_n 51 [some (.ref 120), some (.int (nI ((aGl a k) + 0))), some (.int (nI k))] 1 (ab_dd tk_m_glad 32 rfl) rfl rfl (by decide) rfl ?_
        refine xn_iinc 54 2 (fun y => [some (.ref 120), some (.int (nI ((aGl a k) + 0))), some (.int y)]) (k + 1) (ab_dd tk_m_glad 33 rfl) rfl (by decide) rfl (fun _ => rfl) (iinc_p 1) ?_
        refine x_goto 13 (ab_dd tk_m_glad 34 rfl) (by decide) ?_
        rw [if_neg (fun z => absurd h41 (Int32.not_le.mpr z))] at hI
        exact hI
      · refine x_iconst 45 1 (ab_dd tk_m_glad 28 rfl) rfl (by decide) (x_topn 1 rfl ?_)
        refine x_goto 49 (ab_dd tk_m_glad 29 rfl) (by decide) ?_
        refine x_iadd 50 (ab_dd tk_m_glad 31 rfl) rfl (x_topn ((aGl a k) + 1) (nI_add _ _) ?_)
        refine x_istore_n 51 [some (.ref 120), some (.int (nI ((aGl a k) + 1))), some (.int (nI k))] 1 (ab_dd tk_m_glad 32 rfl) rfl rfl (by decide) rfl ?_
        refine xn_iinc 54 2 (fun y => [some (.ref 120), some (.int (nI ((aGl a k) + 1))), some (.int y)]) (k + 1) (ab_dd tk_m_glad 33 rfl) rfl (by decide) rfl (fun _ => rfl) (iinc_p 1) ?_
        refine x_goto 13 (ab_dd tk_m_glad 34 rfl) (by decide) ?_
        rw [if_pos (Int32.not_le.mp h41)] at hI
        exact hI
  refine x_enter [some (.ref 120), none, none] (by decide) (Nat.le_of_ble_eq_true rfl) rfl (fun v w' h => by obtain ⟨rfl, -⟩ := h; rfl) ?_
  refine x_aload_n 1 0 (ab_dd tk_m_glad 0 rfl) rfl rfl rfl ?_
  refine x_iconst 2 0 (ab_dd tk_m_glad 1 rfl) rfl (by decide) (x_topn 0 rfl ?_)
  refine t_putI 5 (ab_dd tk_m_glad 2 rfl) rfl F_m_1 (by decide) (Nat.lt_of_lt_of_le (by decide) hm.1) (hm.2.1 0 (by decide)) rfl rfl rfl ?_
  refine x_aload_n 6 0 (ab_dd tk_m_glad 3 rfl) rfl rfl rfl ?_
  refine t_callV 9 M_m_laysTrades 2 0 [] (ab_dd tk_m_glad 4 rfl) rfl (by decide) K_m_laysTrades V_m_laysTrades.1 V_m_laysTrades.2 L_m_417 rfl (Nat.le_of_ble_eq_true rfl) (by decide) (Nat.lt_of_lt_of_le (by decide) hm.1) (hm.2.1 0 (by decide)) rfl (c_m_laysTrades (by exact hm) (by exact hA) ha) (fun v1 w1 h1 => ?_)
  obtain ⟨rfl, U1, rfl, um1, uA1, uE1, htr⟩ := h1
  refine x_iconst 10 0 (ab_dd tk_m_glad 5 rfl) rfl (by decide) (x_topn 0 rfl ?_)
  refine x_istore_n 11 [some (.ref 120), some (.int (nI 0)), none] 1 (ab_dd tk_m_glad 6 rfl) rfl rfl (by decide) rfl ?_
  refine x_iconst 12 0 (ab_dd tk_m_glad 7 rfl) rfl (by decide) (x_topn 0 rfl ?_)
  refine x_istore_n 13 [some (.ref 120), some (.int (nI 0)), some (.int (nI 0))] 2 (ab_dd tk_m_glad 8 rfl) rfl rfl (by decide) rfl ?_
  exact loop _ um1 uA1 (((sEq.rf (l := qL)).pI (by decide)).tr (uE1.mono (by decide))) (fEq.r2 uE1 (by decide) (by exact (fEq.pI (fEq.rf (S := S)) (Or.inr (by decide))))) htr (aR a) 0 (by omega)
