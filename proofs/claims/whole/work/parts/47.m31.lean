/-! ===== placing of the reference ===== -/
theorem isIn_N : ∀ t, t < 16 → ∀ k, k < 4 → (lN t >>> ((nI k).toInt64 &&& 63) &&& 1) = lN (t / 2 ^ k % 2) := by decide +kernel
def tb_m_isIn : List (Nat × Instr × Nat) := [(0, .lload_n 0, 1), (1, .iload_n 2, 1), (2, .lshr, 1), (3, .lconst 1, 1), (4, .land, 1), (5, .lconst 1, 1), (6, .lcmp, 1), (7, .ifCond .ne 7, 3), (10, .iconst 1, 1), (11, .goto 4, 3), (14, .iconst 0, 1), (15, .ireturn, 1)]
theorem tk_m_isIn : ∀ q ∈ tb_m_isIn, decode M_m_isIn.2.1 q.1 = .ok q.2 := by decide +kernel
theorem c_m_isIn {G : ab_G} {S : ab_S} (t k : Nat) (ht : t < 16) (hk : k < 4) : ab_C G 0 M_m_isIn [.long (lN t), .int (nI k)] (sw S) (fun v w' => v = some (.int (if t / 2 ^ k % 2 = 1 then 1 else 0)) ∧ w' = sw S) := by
  refine x_enter [some (.long (lN t)), none, some (.int (nI k))] (by decide) (Nat.le_of_ble_eq_true rfl) rfl (fun v w' h => by obtain ⟨rfl, rfl⟩ := h; split <;> rfl) ?_
  by_cases z : t / 2 ^ k % 2 = 1
  · refine x_lload_n 1 0 (ab_dd tk_m_isIn 0 rfl) rfl rfl rfl ?_
    refine x_iload_n 2 2 (ab_dd tk_m_isIn 1 rfl) rfl rfl rfl ?_
    refine x_lshr 3 (ab_dd tk_m_isIn 2 rfl) rfl ?_
    refine x_lconst 4 1 (ab_dd tk_m_isIn 3 rfl) rfl (by decide) ?_
    refine x_land 5 (ab_dd tk_m_isIn 4 rfl) rfl (x_topL (lN 1) ((isIn_N t ht k hk).trans (congrArg lN z)) ?_)
    refine x_lconst 6 1 (ab_dd tk_m_isIn 5 rfl) rfl (by decide) ?_
    refine x_lcmp 7 (ab_dd tk_m_isIn 6 rfl) rfl ?_
    refine x_if_ne_f 10 (ab_dd tk_m_isIn 7 rfl) rfl 14 (by decide) (by decide) ?_
    refine x_iconst 11 1 (ab_dd tk_m_isIn 8 rfl) rfl (by decide) (x_topn 1 rfl ?_)
    refine x_goto 15 (ab_dd tk_m_isIn 9 rfl) (by decide) ?_
    exact x_iret (ab_dd tk_m_isIn 11 rfl) ⟨rI (if_pos z).symm, rfl⟩
  · refine x_lload_n 1 0 (ab_dd tk_m_isIn 0 rfl) rfl rfl rfl ?_
    refine x_iload_n 2 2 (ab_dd tk_m_isIn 1 rfl) rfl rfl rfl ?_
    refine x_lshr 3 (ab_dd tk_m_isIn 2 rfl) rfl ?_
    refine x_lconst 4 1 (ab_dd tk_m_isIn 3 rfl) rfl (by decide) ?_
    refine x_land 5 (ab_dd tk_m_isIn 4 rfl) rfl (x_topL (lN 0) ((isIn_N t ht k hk).trans (congrArg lN (show t / 2 ^ k % 2 = 0 by omega))) ?_)
    refine x_lconst 6 1 (ab_dd tk_m_isIn 5 rfl) rfl (by decide) ?_
    refine x_lcmp 7 (ab_dd tk_m_isIn 6 rfl) rfl ?_
    refine x_if_ne_t 14 (ab_dd tk_m_isIn 7 rfl) (by decide) (by decide) ?_
    refine x_iconst 15 0 (ab_dd tk_m_isIn 10 rfl) rfl (by decide) (x_topn 0 rfl ?_)
    exact x_iret (ab_dd tk_m_isIn 11 rfl) ⟨rI (if_neg z).symm, rfl⟩
/-- all in other seats -/
def aPl (a : Nat → Int32) (p : Nat → Nat) : Nat → Int32 := fun i => if 36 ≤ i ∧ i < 36 + aR a then nI (p (i - 36)) else a i
theorem aPl_o {a : Nat → Int32} {p : Nat → Nat} (hR : aR a ≤ 4) {i : Nat} (h : i < 36 ∨ 40 ≤ i) : aPl a p i = a i := if_neg (by omega)
theorem aPl_s {a : Nat → Int32} {p : Nat → Nat} {r : Nat} (h : r < aR a) : aPl a p (36 + r) = nI (p r) := by
  unfold aPl
  rw [if_pos (by omega), show 36 + r - 36 = r by omega]
theorem aPl_R {a : Nat → Int32} {p : Nat → Nat} (hR : aR a ≤ 4) : aR (aPl a p) = aR a := by unfold aR; rw [aPl_o hR (by omega)]
theorem aPl_ok {a : Nat → Int32} (ha : aOk a) {p : Nat → Nat} (hp : ∀ r, r < aR a → p r < aR a) (hs : ∀ s, s < aR a → ∃ r, r < aR a ∧ p r = s) : aOk (aPl a p) := by
  have hR := ha.R
  have hR4 := hR.2
  have hst : ∀ r, r < aR a → mSt (rwS (aPl a p)) r = p r := fun r hr => by
    show cN (aPl a p (36 + r)) = _
    rw [aPl_s hr, cN_nI (by have := hp r hr; omega)]
  refine ⟨⟨⟨?_, ?_⟩, fun r hr => ⟨?_, ?_, ?_⟩, ?_, ?_⟩, ?_, ?_⟩
  · show aPl a p 1 = nI (aR (aPl a p)); rw [aPl_R hR4, aPl_o hR4 (by omega)]; exact hR.1
  · show aR (aPl a p) ≤ 4; rw [aPl_R hR4]; exact hR.2
  · by_cases z : r < aR a
    · rw [hst r z]; exact ⟨aPl_s z, by have := hp r z; omega⟩
    · have h := (ha.1.2.1 r hr).1
      have e : aPl a p (36 + r) = a (36 + r) := if_neg (by omega)
      refine ⟨?_, ?_⟩
      · show aPl a p (36 + r) = nI (cN (aPl a p (36 + r))); rw [e]; exact h.1
      · show cN (aPl a p (36 + r)) < 4; rw [e]; exact h.2
  · have h := (ha.1.2.1 r hr).2.1
    refine ⟨?_, ?_⟩
    · show aPl a p (32 + r) = nI (cN (aPl a p (32 + r))); rw [aPl_o hR4 (by omega)]; exact h.1
    · show cN (aPl a p (32 + r)) < 5; rw [aPl_o hR4 (by omega)]; exact h.2
  · have h := (ha.1.2.1 r hr).2.2
    refine ⟨?_, ?_⟩
    · show aPl a p (28 + r) = nI (cN (aPl a p (28 + r))); rw [aPl_o hR4 (by omega)]; exact h.1
    · show cN (aPl a p (28 + r)) < 4; rw [aPl_o hR4 (by omega)]; exact h.2
  · show aPl a p 40 = nI (cN (aPl a p 40)); rw [aPl_o hR4 (by omega)]; exact ha.1.2.2.1
  · show cN (aPl a p 40) < 10; rw [aPl_o hR4 (by omega)]; exact ha.1.2.2.2
  · exact mLw_cg (S := rwS a) (S' := rwS (aPl a p)) (fun i hi => aPl_o hR4 (by omega)) ha.2.1
  · refine ⟨fun s h => ?_, fun r h => ?_⟩
    · have h' : s < aR a := by rw [← aPl_R (p := p) hR4]; exact h
      obtain ⟨r, hr, e⟩ := hs s h'
      exact ⟨r, by show r < aR (aPl a p); rw [aPl_R hR4]; exact hr, by rw [hst r hr]; exact e⟩
    · have h' : r < aR a := by rw [← aPl_R (p := p) hR4]; exact h
      rw [hst r h']
      show p r < aR (aPl a p)
      rw [aPl_R hR4]; exact hp r h'
theorem aPl_S {a : Nat → Int32} (ha : aOk a) {p : Nat → Nat} (mo : Int32) (c q : Nat) : aS (aPl a p) mo c q = aS a mo c q := by
  unfold aS
  obtain ⟨h1, h2, h3, -⟩ := spar_cg (S := rwS a) (S' := rwS (aPl a p)) (fun i hi => aPl_o ha.R.2 (by omega)) ha.2.1
  rw [aPl_R ha.R.2, h1, h2, h3]
/-- the stand behind n stops in these seats -/
def plN (a : Nat → Int32) (n : Nat) (p : Nat → Nat) : Nat := aI (aPl a p) (a 40) n
abbrev plB : Type := Int32 × Int32 × (Nat → Int32)
def plU (a : Nat → Int32) (n : Nat) (b : plB) (p : Nat → Nat) : plB := if nI (mLe (plN a n p) (aR a)) < b.1 ∨ (nI (mLe (plN a n p) (aR a)) = b.1 ∧ nI (mSu (plN a n p) (aR a)) ≤ b.2.1) then b else (nI (mLe (plN a n p) (aR a)), nI (mSu (plN a n p) (aR a)), fun k => nI (p k))
/-- the orders, first ones first -/
def plX (R : Nat) : Nat → Nat → Nat → (Nat → Nat) → List (Nat → Nat)
  | 0, _, _, p => [p]
  | m + 1, r, t, p => (List.range R).flatMap (fun s => if t / 2 ^ s % 2 = 1 then [] else plX R m (r + 1) (t + 2 ^ s) (up1 p r s))
def pc4 (t : Nat) : Nat := t % 2 + t / 2 % 2 + t / 4 % 2 + t / 8 % 2
def tkB (t s : Nat) : Bool := t / 2 ^ s % 2 == 1 || (decide (t + 2 ^ s < 16) && (pc4 (t + 2 ^ s) == pc4 t + 1) && decide (nI t ||| (nI 1 <<< (nI s &&& 31)) = nI (t + 2 ^ s)) && (List.range 4).all (fun u => decide ((t + 2 ^ s) / 2 ^ u % 2 = 1 ↔ (t / 2 ^ u % 2 = 1 ∨ u = s))))
theorem tkB_all : (List.range 16).all (fun t => (List.range 4).all (fun s => tkB t s)) = true := by decide +kernel
theorem tk_ok (t : Nat) (ht : t < 16) (s : Nat) (hs : s < 4) (hn : ¬ t / 2 ^ s % 2 = 1) : t + 2 ^ s < 16 ∧ pc4 (t + 2 ^ s) = pc4 t + 1 ∧ nI t ||| (nI 1 <<< (nI s &&& 31)) = nI (t + 2 ^ s) ∧ ∀ u, u < 4 → ((t + 2 ^ s) / 2 ^ u % 2 = 1 ↔ (t / 2 ^ u % 2 = 1 ∨ u = s)) := by
  have h0 := tkB_all
  rw [List.all_eq_true] at h0
  have h1 := h0 t (List.mem_range.mpr ht)
  rw [List.all_eq_true] at h1
  have h2 := h1 s (List.mem_range.mpr hs)
  unfold tkB at h2
  simp only [Bool.or_eq_true, Bool.and_eq_true, decide_eq_true_iff, beq_iff_eq, List.all_eq_true, List.mem_range] at h2
  obtain ⟨⟨⟨g1, g2⟩, g3⟩, g4⟩ := h2.resolve_left hn
  exact ⟨g1, g2, g3, g4⟩
def taB (R t : Nat) : Bool := !(pc4 t == R) || !((List.range 4).all (fun u => !(t / 2 ^ u % 2 == 1) || decide (u < R))) || (List.range R).all (fun s => t / 2 ^ s % 2 == 1)
theorem taB_all : (List.range 5).all (fun R => (List.range 16).all (fun t => taB R t)) = true := by decide +kernel
theorem tk_all (R : Nat) (hR : R < 5) (t : Nat) (ht : t < 16) (hp : pc4 t = R) (hu : ∀ u, u < 4 → t / 2 ^ u % 2 = 1 → u < R) (s : Nat) (hs : s < R) : t / 2 ^ s % 2 = 1 := by
  have h0 := taB_all
  rw [List.all_eq_true] at h0
  have h1 := h0 R (List.mem_range.mpr hR)
  rw [List.all_eq_true] at h1
  have h2 := h1 t (List.mem_range.mpr ht)
  unfold taB at h2
  have h3 : (List.range 4).all (fun u => !(t / 2 ^ u % 2 == 1) || decide (u < R)) = true := by
    rw [List.all_eq_true]
    intro u hm
    by_cases z : t / 2 ^ u % 2 = 1
    · simp [hu u (List.mem_range.mp hm) z]
    · simp [z]
  rw [h3, show (pc4 t == R) = true from beq_iff_eq.mpr hp] at h2
  simp only [Bool.not_true, Bool.false_or, List.all_eq_true, List.mem_range, beq_iff_eq] at h2
  exact h2 s hs
def plI (R r t : Nat) (p : Nat → Nat) : Prop := t < 16 ∧ pc4 t = r ∧ (∀ k, k < r → p k < R) ∧ (∀ u, u < 4 → (t / 2 ^ u % 2 = 1 ↔ ∃ k, k < r ∧ p k = u))
theorem plI_up {R r t s : Nat} {p : Nat → Nat} (hR : R ≤ 4) (h : plI R r t p) (hs : s < R) (hn : ¬ t / 2 ^ s % 2 = 1) : plI R (r + 1) (t + 2 ^ s) (up1 p r s) := by
  obtain ⟨h1, h2, h3, h4⟩ := h
  obtain ⟨g1, g2, -, g4⟩ := tk_ok t h1 s (by omega) hn
  refine ⟨g1, by rw [g2, h2], fun k hk => ?_, fun u hu => ?_⟩
  · by_cases e : k = r
    · rw [e, up1_s]; exact hs
    · rw [up1_o e]; exact h3 k (by omega)
  · rw [g4 u hu, h4 u hu]
    refine ⟨fun z => ?_, fun ⟨k, hk, e⟩ => ?_⟩
    · rcases z with ⟨k, hk, e⟩ | e
      · exact ⟨k, by omega, by rw [up1_o (by omega)]; exact e⟩
      · exact ⟨r, by omega, by rw [up1_s]; exact e.symm⟩
    · by_cases er : k = r
      · rw [er, up1_s] at e; exact Or.inr e.symm
      · rw [up1_o er] at e; exact Or.inl ⟨k, by omega, e⟩
theorem plI_end {R t : Nat} {p : Nat → Nat} (hR : R ≤ 4) (h : plI R R t p) : (∀ r, r < R → p r < R) ∧ ∀ s, s < R → ∃ r, r < R ∧ p r = s := by
  obtain ⟨h1, h2, h3, h4⟩ := h
  refine ⟨h3, fun s hs => (h4 s (by omega)).mp (tk_all R (by omega) t h1 h2 (fun u hu z => ?_) s hs)⟩
  obtain ⟨k, hk, e⟩ := (h4 u hu).mp z
  rw [← e]; exact h3 k hk
def plY (R m r t : Nat) (p : Nat → Nat) (s : Nat) : List (Nat → Nat) := (List.range s).flatMap (fun s => if t / 2 ^ s % 2 = 1 then [] else plX R m (r + 1) (t + 2 ^ s) (up1 p r s))
theorem plY_s {R m r t s : Nat} {p : Nat → Nat} {F : plB → (Nat → Nat) → plB} {b : plB} : (plY R m r t p (s + 1)).foldl F b = (if t / 2 ^ s % 2 = 1 then [] else plX R m (r + 1) (t + 2 ^ s) (up1 p r s)).foldl F ((plY R m r t p s).foldl F b) := by
  unfold plY
  rw [List.range_succ, List.flatMap_append, List.foldl_append]
  simp
def plS (S : ab_S) (R : Nat) (b : plB) : Prop := sI S 120 34 = b.1 ∧ sI S 120 35 = b.2.1 ∧ (∀ k, k < R → sI S 137 k = b.2.2 k)
def plP (S : ab_S) (r : Nat) (p : Nat → Nat) : Prop := ∀ k, k < r → sI S 136 k = nI (p k)
theorem plS.eq {l : List Nat} {S S' : ab_S} {R : Nat} {b : plB} (h : plS S R b) (hE : sEq l S S') (h1 : 120 ∉ l) (h2 : 137 ∉ l) : plS S' R b := by
  unfold plS
  rw [hE.2.2.1 _ h1, hE.2.2.1 _ h2]
  exact h
theorem plP.eq {l : List Nat} {S S' : ab_S} {r : Nat} {p : Nat → Nat} (h : plP S r p) (hE : sEq l S S') (h1 : 136 ∉ l) : plP S' r p := by
  unfold plP
  rw [hE.2.2.1 _ h1]
  exact h
def tb_m_goesPlace : List (Nat × Instr × Nat) := [(0, .iload_n 1, 1), (1, .aload_n 0, 1), (2, .getfield 13, 3), (5, .iconst 1, 1), (6, .iaload, 1), (7, .if_icmp .ne 185, 3), (10, .iconst 0, 1), (11, .istore 4, 2), (13, .iconst 0, 1), (14, .istore 5, 2), (16, .iload 5, 2), (18, .aload_n 0, 1), (19, .getfield 13, 3), (22, .iconst 1, 1), (23, .iaload, 1), (24, .if_icmp .ge 47, 3), (27, .iload 4, 2), (29, .sipush 625, 3), (32, .aload_n 0, 1), (33, .getfield 66, 3), (36, .iload 5, 2), (38, .iaload, 1), (39, .iconst 2, 1), (40, .iload 5, 2), (42, .imul, 1), (43, .ishl, 1), (44, .imul, 1), (45, .iload 5, 2), (47, .invokestatic 225, 3), (50, .aload_n 0, 1), (51, .getfield 13, 3), (54, .bipush 32, 2), (56, .iload 5, 2), (58, .iadd, 1), (59, .iaload, 1), (60, .imul, 1), (61, .iadd, 1), (62, .iadd, 1), (63, .istore 4, 2), (65, .iinc 5 1, 3), (68, .goto (-52), 3), (71, .iconst 0, 1), (72, .istore 5, 2), (74, .iload 5, 2), (76, .iload_n 3, 1), (77, .if_icmp .ge 25, 3), (80, .aload_n 0, 1), (81, .iload 4, 2), (83, .iconst 0, 1), (84, .aload_n 0, 1), (85, .getfield 13, 3), (88, .bipush 40, 2), (90, .iaload, 1), (91, .invokevirtual 273, 3), (94, .istore 4, 2), (96, .iinc 5 1, 3), (99, .goto (-25), 3), (102, .aload_n 0, 1), (103, .iload 4, 2), (105, .invokevirtual 288, 3), (108, .aload_n 0, 1), (109, .getfield 394, 3), (112, .if_icmp .lt 29, 3), (115, .aload_n 0, 1), (116, .iload 4, 2), (118, .invokevirtual 288, 3), (121, .aload_n 0, 1), (122, .getfield 394, 3), (125, .if_icmp .ne 17, 3), (128, .aload_n 0, 1), (129, .iload 4, 2), (131, .invokevirtual 334, 3), (134, .aload_n 0, 1), (135, .getfield 397, 3), (138, .if_icmp .gt 4, 3), (141, .return_, 1), (142, .aload_n 0, 1), (143, .aload_n 0, 1), (144, .iload 4, 2), (146, .invokevirtual 288, 3), (149, .putfield 394, 3), (152, .aload_n 0, 1), (153, .aload_n 0, 1), (154, .iload 4, 2), (156, .invokevirtual 334, 3), (159, .putfield 397, 3), (162, .iconst 0, 1), (163, .istore 5, 2), (165, .iload 5, 2), (167, .iconst 4, 1), (168, .if_icmp .ge 23, 3), (171, .aload_n 0, 1), (172, .getfield 69, 3), (175, .iload 5, 2), (177, .aload_n 0, 1), (178, .getfield 66, 3), (181, .iload 5, 2), (183, .iaload, 1), (184, .iastore, 1), (185, .iinc 5 1, 3), (188, .goto (-23), 3), (191, .return_, 1), (192, .iconst 0, 1), (193, .istore 4, 2), (195, .iload 4, 2), (197, .aload_n 0, 1), (198, .getfield 13, 3), (201, .iconst 1, 1), (202, .iaload, 1), (203, .if_icmp .ge 44, 3), (206, .iload_n 2, 1), (207, .i2l, 1), (208, .iload 4, 2), (210, .invokestatic 400, 3), (213, .ifCond .eq 6, 3), (216, .goto 25, 3), (219, .aload_n 0, 1), (220, .getfield 66, 3), (223, .iload_n 1, 1), (224, .iload 4, 2), (226, .iastore, 1), (227, .aload_n 0, 1), (228, .iload_n 1, 1), (229, .iconst 1, 1), (230, .iadd, 1), (231, .iload_n 2, 1), (232, .iconst 1, 1), (233, .iload 4, 2), (235, .ishl, 1), (236, .ior, 1), (237, .iload_n 3, 1), (238, .invokevirtual 404, 3), (241, .iinc 4 1, 3), (244, .goto (-49), 3), (247, .return_, 1)]
theorem tk_m_goesPlace : ∀ q ∈ tb_m_goesPlace, decode M_m_goesPlace.2.1 q.1 = .ok q.2 := by decide +kernel
theorem c_m_goesPlace {G : ab_G} {a : Nat → Int32} (ha : aOk a) (n : Nat) (hn : n ≤ 20) : ∀ (m r t : Nat) (p : Nat → Nat) (b : plB) (S : ab_S), r + m = aR a → mSh S → mA S = a → plI (aR a) r t p → plP S r p → plS S (aR a) b → ab_C G (5 + m) M_m_goesPlace [.ref 120, .int (nI r), .int (nI t), .int (nI n)] (sw S) (fun v w' => v = none ∧ ∃ S', w' = sw S' ∧ mSh S' ∧ mA S' = a ∧ sEq [120, 125, 126, 136, 137] S S' ∧ fEq S S' ∧ plP S' r p ∧ plS S' (aR a) ((plX (aR a) m r t p).foldl (plU a n) b)) := by
  intro m
  have hR4 := ha.R.2
  induction m with
  | zero =>
    intro r t p b S hrm hm hA hI hP hB
    obtain rfl : r = aR a := by omega
    refine x_enter [some (.ref 120), some (.int (nI (aR a))), some (.int (nI t)), some (.int (nI n)), none, none] (by decide) (Nat.le_of_ble_eq_true rfl) rfl (fun v w' h => by obtain ⟨rfl, -⟩ := h; trivial) ?_
    obtain ⟨hp1, hp2⟩ := plI_end hR4 hI
    have hok := aPl_ok ha hp1 hp2
    have hE1 : sEq [120, 125, 126, 136, 137] S S := sEq.rf
    have fin : ∀ S1 : ab_S, mSh S1 → mA S1 = a → sEq [120, 125, 126, 136, 137] S S1 → fEq S S1 → plP S1 (aR a) p → plS S1 (aR a) b → ab_Ex G (5 + 0) M_m_goesPlace 102 [some (.ref 120), some (.int (nI (aR a))), some (.int (nI t)), some (.int (nI n)), some (.int (nI (plN a n p))), none] [] (sw S1) (fun v w' => v = none ∧ ∃ S', w' = sw S' ∧ mSh S' ∧ mA S' = a ∧ sEq [120, 125, 126, 136, 137] S S' ∧ fEq S S' ∧ plP S' (aR a) p ∧ plS S' (aR a) ((plX (aR a) 0 (aR a) t p).foldl (plU a n) b)) := by
      intro S1 hm1 hA1 hE1 hF1 hP1 hB1
      have hx : (plN a n p) < 160000 := (aI_ok hok (a 40) n).1
      have hl4 := mLe_le (plN a n p) (aR a)
      have hs4 := mSu_le (plN a n p) (aR a)
      have hfold : (plX (aR a) 0 (aR a) t p).foldl (plU a n) b = plU a n b p := rfl
      rw [hfold]
      have cop : ∀ S0 : ab_S, mSh S0 → mA S0 = a → sEq [120, 125, 126, 136, 137] S S0 → fEq S S0 → plP S0 (aR a) p → sI S0 120 34 = nI (mLe (plN a n p) (aR a)) → sI S0 120 35 = nI (mSu (plN a n p) (aR a)) → (¬ (nI (mLe (plN a n p) (aR a)) < b.1 ∨ (nI (mLe (plN a n p) (aR a)) = b.1 ∧ nI (mSu (plN a n p) (aR a)) ≤ b.2.1))) → ab_Ex G (5 + 0) M_m_goesPlace 165 [some (.ref 120), some (.int (nI (aR a))), some (.int (nI t)), some (.int (nI n)), some (.int (nI (plN a n p))), some (.int (nI 0))] [] (sw S0) (fun v w' => v = none ∧ ∃ S', w' = sw S' ∧ mSh S' ∧ mA S' = a ∧ sEq [120, 125, 126, 136, 137] S S' ∧ fEq S S' ∧ plP S' (aR a) p ∧ plS S' (aR a) (plU a n b p)) := by
        intro S0 hm0 hA0 hE0 hF0 hP0 hb1 hb2 hno
        have loop : ∀ (m k : Nat), k + m = 4 → ∀ S1 : ab_S, sEq [137] S0 S1 → (∀ i, sI S1 137 i = if 0 ≤ i ∧ i < 0 + k then (sI S0 136) (i - 0) else sI S0 137 i) → ab_Ex G (5 + 0) M_m_goesPlace 165 [some (.ref 120), some (.int (nI (aR a))), some (.int (nI t)), some (.int (nI n)), some (.int (nI (plN a n p))), some (.int (nI k))] [] (sw S1) (fun v w' => v = none ∧ ∃ S', w' = sw S' ∧ mSh S' ∧ mA S' = a ∧ sEq [120, 125, 126, 136, 137] S S' ∧ fEq S S' ∧ plP S' (aR a) p ∧ plS S' (aR a) (plU a n b p)) := by
          intro m
          induction m with
          | zero =>
            intro k hk S1 hE hV
            have hm1 := hm0.eq hE
            have hkN : k = 4 := by omega
            rw [hkN] at hV ⊢
            refine x_iload 167 5 (ab_dd tk_m_goesPlace 88 rfl) rfl rfl ?_
            refine x_iconst 168 4 (ab_dd tk_m_goesPlace 89 rfl) rfl (by decide) (x_topn 4 rfl ?_)
            refine x_icmp_ge_t 191 (ab_dd tk_m_goesPlace 90 rfl) (by decide) ((nI_leI (a := 4) (b := 4) (by omega) (by omega)).mpr (show 4 ≤ 4 by omega)) ?_
            exact x_vret (ab_dd tk_m_goesPlace 101 rfl) ⟨rfl, S1, rfl, hm1, (hE.2.2.1 121 (by decide)).trans hA0, hE0.tr (hE.mono (by decide)), hF0.tr hE (by decide), hP0.eq hE (by decide), by
              rw [show plU a n b p = _ from if_neg hno]
              refine ⟨by rw [hE.2.2.1 120 (by decide)]; exact hb1, by rw [hE.2.2.1 120 (by decide)]; exact hb2, fun k hk => ?_⟩
              rw [hV k, if_pos ⟨by omega, by omega⟩, Nat.sub_zero]
              exact hP0 k hk⟩
          | succ m ih =>
            intro k hk S1 hE hV
            have hm1 := hm0.eq hE
            refine x_iload 167 5 (ab_dd tk_m_goesPlace 88 rfl) rfl rfl ?_
            refine x_iconst 168 4 (ab_dd tk_m_goesPlace 89 rfl) rfl (by decide) (x_topn 4 rfl ?_)
            refine x_icmp_ge_f 171 (ab_dd tk_m_goesPlace 90 rfl) rfl 191 (by decide) (fun z => absurd ((nI_leI (a := 4) (b := k) (by omega) (by omega)).mp z) (show ¬ (4 ≤ k) by omega)) ?_
            refine x_aload_n 172 0 (ab_dd tk_m_goesPlace 91 rfl) rfl rfl rfl ?_
            refine t_getP 175 137 (ab_dd tk_m_goesPlace 92 rfl) rfl F_m_69 (by decide) (Nat.lt_of_lt_of_le (by decide) hm1.1) (hm1.2.1 0 (by decide)) rfl (hm1.2.2 33 (by decide)) ?_
            refine x_iload 177 5 (ab_dd tk_m_goesPlace 93 rfl) rfl rfl ?_
            refine x_aload_n 178 0 (ab_dd tk_m_goesPlace 94 rfl) rfl rfl rfl ?_
            refine t_getP 181 136 (ab_dd tk_m_goesPlace 95 rfl) rfl F_m_66 (by decide) (Nat.lt_of_lt_of_le (by decide) hm1.1) (hm1.2.1 0 (by decide)) rfl (hm1.2.2 32 (by decide)) ?_
            refine x_iload 183 5 (ab_dd tk_m_goesPlace 96 rfl) rfl rfl ?_
            refine t_iald 184 k (ab_dd tk_m_goesPlace 97 rfl) rfl (by decide) (Nat.lt_of_lt_of_le (by decide) hm1.1) (hm1.2.1 16 (by decide)) rfl (by omega) (by decide) ?_
            refine t_iast 185 k (ab_dd tk_m_goesPlace 98 rfl) rfl (by decide) (Nat.lt_of_lt_of_le (by decide) hm1.1) (hm1.2.1 17 (by decide)) rfl (by omega) (by decide) ?_
            refine xn_iinc 188 5 (fun y => [some (.ref 120), some (.int (nI (aR a))), some (.int (nI t)), some (.int (nI n)), some (.int (nI (plN a n p))), some (.int y)]) (k + 1) (ab_dd tk_m_goesPlace 99 rfl) rfl (by decide) rfl (fun _ => rfl) (iinc_p 1) ?_
            refine x_goto 165 (ab_dd tk_m_goesPlace 100 rfl) (by decide) ?_
            refine ih (k + 1) (by omega) _ ?_ ?_
            · exact hE.pI (by decide)
            · intro i
              show up2 (sI S1) 137 (k) _ 137 i = _
              by_cases hi : i = k
              · rw [hi, up2_s, if_pos ⟨by omega, by omega⟩, show k - 0 = k by omega]
                rw [hE.2.2.1 136 (by decide)]
              · rw [up2_k hi, hV i]
                by_cases h1 : 0 ≤ i ∧ i < 0 + k
                · rw [if_pos h1, if_pos ⟨h1.1, by omega⟩]
                · rw [if_neg h1, if_neg (fun z => h1 ⟨z.1, by omega⟩)]
        exact loop 4 0 (by omega) S0 sEq.rf (fun j => by rw [if_neg (by omega)])
      refine x_aload_n 103 0 (ab_dd tk_m_goesPlace 57 rfl) rfl rfl rfl ?_
      refine x_iload 105 4 (ab_dd tk_m_goesPlace 58 rfl) rfl rfl ?_
      refine t_callV 108 M_m_leastIn 2 1 [_] (ab_dd tk_m_goesPlace 59 rfl) rfl (by decide) K_m_leastIn V_m_leastIn.1 V_m_leastIn.2 L_m_288 rfl (Nat.le_of_ble_eq_true rfl) (by decide) (Nat.lt_of_lt_of_le (by decide) hm1.1) (hm1.2.1 0 (by decide)) rfl (w_leastIn (by exact hm1) (by exact hA1) ha (plN a n p) hx) (fun v1 w1 h1 => ?_)
      obtain ⟨rfl, rfl⟩ := h1
      refine x_aload_n 109 0 (ab_dd tk_m_goesPlace 60 rfl) rfl rfl rfl ?_
      refine t_getI 112 (ab_dd tk_m_goesPlace 61 rfl) rfl F_m_394 (by decide) (Nat.lt_of_lt_of_le (by decide) hm1.1) (hm1.2.1 0 (by decide)) rfl (x_topx b.1 hB1.1 ?_)
      refine x_icmp_lt 115 141 (ab_dd tk_m_goesPlace 62 rfl) rfl (by decide) (fun h112 => ?_) (fun h112 => ?_)
      · exact x_vret (ab_dd tk_m_goesPlace 75 rfl) ⟨rfl, _, rfl, hm1, hA1, hE1, hF1, hP1, by rw [show plU a n b p = b from if_pos (Or.inl h112)]; exact hB1⟩
      · refine x_aload_n 116 0 (ab_dd tk_m_goesPlace 63 rfl) rfl rfl rfl ?_
        refine x_iload 118 4 (ab_dd tk_m_goesPlace 64 rfl) rfl rfl ?_
        refine t_callV 121 M_m_leastIn 2 1 [_] (ab_dd tk_m_goesPlace 65 rfl) rfl (by decide) K_m_leastIn V_m_leastIn.1 V_m_leastIn.2 L_m_288 rfl (Nat.le_of_ble_eq_true rfl) (by decide) (Nat.lt_of_lt_of_le (by decide) hm1.1) (hm1.2.1 0 (by decide)) rfl (w_leastIn (by exact hm1) (by exact hA1) ha (plN a n p) hx) (fun v1 w1 h1 => ?_)
        obtain ⟨rfl, rfl⟩ := h1
        refine x_aload_n 122 0 (ab_dd tk_m_goesPlace 66 rfl) rfl rfl rfl ?_
        refine t_getI 125 (ab_dd tk_m_goesPlace 67 rfl) rfl F_m_394 (by decide) (Nat.lt_of_lt_of_le (by decide) hm1.1) (hm1.2.1 0 (by decide)) rfl (x_topx b.1 hB1.1 ?_)
        refine x_icmp_ne 128 142 (ab_dd tk_m_goesPlace 68 rfl) rfl (by decide) (fun h125 => ?_) (fun h125 => ?_)
        · refine x_aload_n 143 0 (ab_dd tk_m_goesPlace 76 rfl) rfl rfl rfl ?_
          refine x_aload_n 144 0 (ab_dd tk_m_goesPlace 77 rfl) rfl rfl rfl ?_
          refine x_iload 146 4 (ab_dd tk_m_goesPlace 78 rfl) rfl rfl ?_
          refine t_callV 149 M_m_leastIn 2 1 [_] (ab_dd tk_m_goesPlace 79 rfl) rfl (by decide) K_m_leastIn V_m_leastIn.1 V_m_leastIn.2 L_m_288 rfl (Nat.le_of_ble_eq_true rfl) (by decide) (Nat.lt_of_lt_of_le (by decide) hm1.1) (hm1.2.1 0 (by decide)) rfl (w_leastIn (by exact hm1) (by exact hA1) ha (plN a n p) hx) (fun v1 w1 h1 => ?_)
          obtain ⟨rfl, rfl⟩ := h1
          refine t_putI 152 (ab_dd tk_m_goesPlace 80 rfl) rfl F_m_394 (by decide) (Nat.lt_of_lt_of_le (by decide) hm1.1) (hm1.2.1 0 (by decide)) rfl rfl rfl ?_
          refine x_aload_n 153 0 (ab_dd tk_m_goesPlace 81 rfl) rfl rfl rfl ?_
          refine x_aload_n 154 0 (ab_dd tk_m_goesPlace 82 rfl) rfl rfl rfl ?_
          refine x_iload 156 4 (ab_dd tk_m_goesPlace 83 rfl) rfl rfl ?_
          refine t_callV 159 M_m_sumIn 2 1 [_] (ab_dd tk_m_goesPlace 84 rfl) rfl (by decide) K_m_sumIn V_m_sumIn.1 V_m_sumIn.2 L_m_334 rfl (Nat.le_of_ble_eq_true rfl) (by decide) (Nat.lt_of_lt_of_le (by decide) hm1.1) (hm1.2.1 0 (by decide)) rfl (w_sumIn (by exact hm1) (by exact hA1) ha (plN a n p) hx) (fun v1 w1 h1 => ?_)
          obtain ⟨rfl, rfl⟩ := h1
          refine t_putI 162 (ab_dd tk_m_goesPlace 85 rfl) rfl F_m_397 (by decide) (Nat.lt_of_lt_of_le (by decide) hm1.1) (hm1.2.1 0 (by decide)) rfl rfl rfl ?_
          refine x_iconst 163 0 (ab_dd tk_m_goesPlace 86 rfl) rfl (by decide) (x_topn 0 rfl ?_)
          refine x_istore 165 [some (.ref 120), some (.int (nI (aR a))), some (.int (nI t)), some (.int (nI n)), some (.int (nI (plN a n p))), some (.int (nI 0))] 5 (ab_dd tk_m_goesPlace 87 rfl) rfl (by decide) rfl ?_
          exact cop (pI (pI S1 120 34 (nI (mLe (plN a n p) (aR a)))) 120 35 (nI (mSu (plN a n p) (aR a)))) hm1 hA1 ((hE1.pI (by decide)).pI (by decide)) (fEq.pI (fEq.pI hF1 (Or.inr (by decide))) (Or.inr (by decide))) hP1 rfl rfl (fun z => z.elim h112 (fun y => h125 y.1))
        · refine x_aload_n 129 0 (ab_dd tk_m_goesPlace 69 rfl) rfl rfl rfl ?_
          refine x_iload 131 4 (ab_dd tk_m_goesPlace 70 rfl) rfl rfl ?_
          refine t_callV 134 M_m_sumIn 2 1 [_] (ab_dd tk_m_goesPlace 71 rfl) rfl (by decide) K_m_sumIn V_m_sumIn.1 V_m_sumIn.2 L_m_334 rfl (Nat.le_of_ble_eq_true rfl) (by decide) (Nat.lt_of_lt_of_le (by decide) hm1.1) (hm1.2.1 0 (by decide)) rfl (w_sumIn (by exact hm1) (by exact hA1) ha (plN a n p) hx) (fun v1 w1 h1 => ?_)
          obtain ⟨rfl, rfl⟩ := h1
          refine x_aload_n 135 0 (ab_dd tk_m_goesPlace 72 rfl) rfl rfl rfl ?_
          refine t_getI 138 (ab_dd tk_m_goesPlace 73 rfl) rfl F_m_397 (by decide) (Nat.lt_of_lt_of_le (by decide) hm1.1) (hm1.2.1 0 (by decide)) rfl (x_topx b.2.1 hB1.2.1 ?_)
          refine x_icmp_gt 141 142 (ab_dd tk_m_goesPlace 74 rfl) rfl (by decide) (fun h138 => ?_) (fun h138 => ?_)
          · refine x_aload_n 143 0 (ab_dd tk_m_goesPlace 76 rfl) rfl rfl rfl ?_
            refine x_aload_n 144 0 (ab_dd tk_m_goesPlace 77 rfl) rfl rfl rfl ?_
            refine x_iload 146 4 (ab_dd tk_m_goesPlace 78 rfl) rfl rfl ?_
            refine t_callV 149 M_m_leastIn 2 1 [_] (ab_dd tk_m_goesPlace 79 rfl) rfl (by decide) K_m_leastIn V_m_leastIn.1 V_m_leastIn.2 L_m_288 rfl (Nat.le_of_ble_eq_true rfl) (by decide) (Nat.lt_of_lt_of_le (by decide) hm1.1) (hm1.2.1 0 (by decide)) rfl (w_leastIn (by exact hm1) (by exact hA1) ha (plN a n p) hx) (fun v1 w1 h1 => ?_)
            obtain ⟨rfl, rfl⟩ := h1
            refine t_putI 152 (ab_dd tk_m_goesPlace 80 rfl) rfl F_m_394 (by decide) (Nat.lt_of_lt_of_le (by decide) hm1.1) (hm1.2.1 0 (by decide)) rfl rfl rfl ?_
            refine x_aload_n 153 0 (ab_dd tk_m_goesPlace 81 rfl) rfl rfl rfl ?_
            refine x_aload_n 154 0 (ab_dd tk_m_goesPlace 82 rfl) rfl rfl rfl ?_
            refine x_iload 156 4 (ab_dd tk_m_goesPlace 83 rfl) rfl rfl ?_
            refine t_callV 159 M_m_sumIn 2 1 [_] (ab_dd tk_m_goesPlace 84 rfl) rfl (by decide) K_m_sumIn V_m_sumIn.1 V_m_sumIn.2 L_m_334 rfl (Nat.le_of_ble_eq_true rfl) (by decide) (Nat.lt_of_lt_of_le (by decide) hm1.1) (hm1.2.1 0 (by decide)) rfl (w_sumIn (by exact hm1) (by exact hA1) ha (plN a n p) hx) (fun v1 w1 h1 => ?_)
            obtain ⟨rfl, rfl⟩ := h1
            refine t_putI 162 (ab_dd tk_m_goesPlace 85 rfl) rfl F_m_397 (by decide) (Nat.lt_of_lt_of_le (by decide) hm1.1) (hm1.2.1 0 (by decide)) rfl rfl rfl ?_
            refine x_iconst 163 0 (ab_dd tk_m_goesPlace 86 rfl) rfl (by decide) (x_topn 0 rfl ?_)
            refine x_istore 165 [some (.ref 120), some (.int (nI (aR a))), some (.int (nI t)), some (.int (nI n)), some (.int (nI (plN a n p))), some (.int (nI 0))] 5 (ab_dd tk_m_goesPlace 87 rfl) rfl (by decide) rfl ?_
            exact cop (pI (pI S1 120 34 (nI (mLe (plN a n p) (aR a)))) 120 35 (nI (mSu (plN a n p) (aR a)))) hm1 hA1 ((hE1.pI (by decide)).pI (by decide)) (fEq.pI (fEq.pI hF1 (Or.inr (by decide))) (Or.inr (by decide))) hP1 rfl rfl (fun z => z.elim h112 (fun y => absurd y.2 (Int32.not_le.mpr h138)))
          · exact x_vret (ab_dd tk_m_goesPlace 75 rfl) ⟨rfl, _, rfl, hm1, hA1, hE1, hF1, hP1, by rw [show plU a n b p = b from if_pos (Or.inr ⟨h125, Int32.not_lt.mp h138⟩)]; exact hB1⟩
    have run : ∀ (m k : Nat), k + m = n → ∀ S1 : ab_S, mSh S1 → mA S1 = a → sEq [120, 125, 126, 136, 137] S S1 → fEq S S1 → plP S1 (aR a) p → plS S1 (aR a) b → ab_Ex G (5 + 0) M_m_goesPlace 74 [some (.ref 120), some (.int (nI (aR a))), some (.int (nI t)), some (.int (nI n)), some (.int (nI (aI (aPl a p) (a 40) k))), some (.int (nI k))] [] (sw S1) (fun v w' => v = none ∧ ∃ S', w' = sw S' ∧ mSh S' ∧ mA S' = a ∧ sEq [120, 125, 126, 136, 137] S S' ∧ fEq S S' ∧ plP S' (aR a) p ∧ plS S' (aR a) ((plX (aR a) 0 (aR a) t p).foldl (plU a n) b)) := by
      intro m
      induction m with
      | zero =>
        intro k hk S1 hm1 hA1 hE1 hF1 hP1 hB1
        obtain rfl : k = n := by omega
        refine x_iload 76 5 (ab_dd tk_m_goesPlace 43 rfl) rfl rfl ?_
        refine x_iload_n 77 3 (ab_dd tk_m_goesPlace 44 rfl) rfl rfl rfl ?_
        refine x_icmp_ge_t 102 (ab_dd tk_m_goesPlace 45 rfl) (by decide) ((nI_leI (a := k) (b := k) (by omega) (by omega)).mpr (show k ≤ k by omega)) ?_
        exact x_forget 5 (fin S1 hm1 hA1 hE1 hF1 hP1 hB1)
      | succ m ih =>
        intro k hk S1 hm1 hA1 hE1 hF1 hP1 hB1
        have hc : mOk (aR a) (aI (aPl a p) (a 40) k) := by have := aI_ok hok (a 40) k; rw [aPl_R hR4] at this; exact this
        refine x_iload 76 5 (ab_dd tk_m_goesPlace 43 rfl) rfl rfl ?_
        refine x_iload_n 77 3 (ab_dd tk_m_goesPlace 44 rfl) rfl rfl rfl ?_
        refine x_icmp_ge_f 80 (ab_dd tk_m_goesPlace 45 rfl) rfl 102 (by decide) (fun z => absurd ((nI_leI (a := n) (b := k) (by omega) (by omega)).mp z) (show ¬ (n ≤ k) by omega)) ?_
        refine x_aload_n 81 0 (ab_dd tk_m_goesPlace 46 rfl) rfl rfl rfl ?_
        refine x_iload 83 4 (ab_dd tk_m_goesPlace 47 rfl) rfl rfl ?_
        refine x_iconst 84 0 (ab_dd tk_m_goesPlace 48 rfl) rfl (by decide) (x_topn 0 rfl ?_)
        refine x_aload_n 85 0 (ab_dd tk_m_goesPlace 49 rfl) rfl rfl rfl ?_
        refine t_getP 88 121 (ab_dd tk_m_goesPlace 50 rfl) rfl F_m_13 (by decide) (Nat.lt_of_lt_of_le (by decide) hm1.1) (hm1.2.1 0 (by decide)) rfl (hm1.2.2 1 (by decide)) ?_
        refine x_bipush 90 40 (ab_dd tk_m_goesPlace 51 rfl) rfl (by decide) (x_topn 40 rfl ?_)
        refine t_iald 91 40 (ab_dd tk_m_goesPlace 52 rfl) rfl (by decide) (Nat.lt_of_lt_of_le (by decide) hm1.1) (hm1.2.1 1 (by decide)) rfl (by decide) (by decide) (x_topx (a 40) (congrFun hA1 40) ?_)
        refine t_callV 94 M_m_stopTo 4 3 [_, _, _] (ab_dd tk_m_goesPlace 53 rfl) rfl (by decide) K_m_stopTo V_m_stopTo.1 V_m_stopTo.2 L_m_273 rfl (Nat.le_of_ble_eq_true rfl) (by decide) (Nat.lt_of_lt_of_le (by decide) hm1.1) (hm1.2.1 0 (by decide)) rfl (w_stopTo (by exact hm1) (by exact hA1) ha (aI (aPl a p) (a 40) k) 0 _ hc (Or.inr rfl)) (fun v1 w1 h1 => ?_)
        obtain ⟨rfl, U1, rfl, um1, uA1, uE1⟩ := h1
        rw [← aPl_S ha (p := p) (a 40), ← aI_s]
        refine x_istore 96 [some (.ref 120), some (.int (nI (aR a))), some (.int (nI t)), some (.int (nI n)), some (.int (nI (aI (aPl a p) (a 40) (k + 1)))), some (.int (nI k))] 4 (ab_dd tk_m_goesPlace 54 rfl) rfl (by decide) rfl ?_
        refine xn_iinc 99 5 (fun y => [some (.ref 120), some (.int (nI (aR a))), some (.int (nI t)), some (.int (nI n)), some (.int (nI (aI (aPl a p) (a 40) (k + 1)))), some (.int y)]) (k + 1) (ab_dd tk_m_goesPlace 55 rfl) rfl (by decide) rfl (fun _ => rfl) (iinc_p 1) ?_
        refine x_goto 74 (ab_dd tk_m_goesPlace 56 rfl) (by decide) ?_
        exact ih (k + 1) (by omega) _ um1 uA1 (hE1.tr (uE1.mono (by decide))) (fEq.r2 uE1 (by decide) (by exact hF1)) (hP1.eq uE1 (by decide)) (hB1.eq uE1 (by decide) (by decide))
    have sum : ∀ (m k : Nat), k + m = aR a → ab_Ex G (5 + 0) M_m_goesPlace 16 [some (.ref 120), some (.int (nI (aR a))), some (.int (nI t)), some (.int (nI n)), some (.int (nI (mEn (rwS (aPl a p)) k))), some (.int (nI k))] [] (sw S) (fun v w' => v = none ∧ ∃ S', w' = sw S' ∧ mSh S' ∧ mA S' = a ∧ sEq [120, 125, 126, 136, 137] S S' ∧ fEq S S' ∧ plP S' (aR a) p ∧ plS S' (aR a) ((plX (aR a) 0 (aR a) t p).foldl (plU a n) b)) := by
      intro m
      induction m with
      | zero =>
        intro k hk
        obtain rfl : k = aR a := by omega
        have hI0 := run n 0 (by omega) S hm hA hE1 fEq.rf hP hB
        rw [show aI (aPl a p) (a 40) 0 = aE (aPl a p) from rfl, show aE (aPl a p) = mEn (rwS (aPl a p)) (aR (aPl a p)) from rfl, aPl_R hR4] at hI0
        refine x_iload 18 5 (ab_dd tk_m_goesPlace 10 rfl) rfl rfl ?_
        refine x_aload_n 19 0 (ab_dd tk_m_goesPlace 11 rfl) rfl rfl rfl ?_
        refine t_getP 22 121 (ab_dd tk_m_goesPlace 12 rfl) rfl F_m_13 (by decide) (Nat.lt_of_lt_of_le (by decide) hm.1) (hm.2.1 0 (by decide)) rfl (hm.2.2 1 (by decide)) ?_
        refine x_iconst 23 1 (ab_dd tk_m_goesPlace 13 rfl) rfl (by decide) (x_topn 1 rfl ?_)
        refine t_iald 24 1 (ab_dd tk_m_goesPlace 14 rfl) rfl (by decide) (Nat.lt_of_lt_of_le (by decide) hm.1) (hm.2.1 1 (by decide)) rfl (by decide) (by decide) (x_topn (aR a) ((congrFun hA 1).trans ha.R.1) ?_)
        refine x_icmp_ge_t 71 (ab_dd tk_m_goesPlace 15 rfl) (by decide) ((nI_leI (a := (aR a)) (b := (aR a)) (by omega) (by omega)).mpr (show (aR a) ≤ (aR a) by omega)) ?_
        refine x_iconst 72 0 (ab_dd tk_m_goesPlace 41 rfl) rfl (by decide) (x_topn 0 rfl ?_)
        refine x_istore 74 [some (.ref 120), some (.int (nI (aR a))), some (.int (nI t)), some (.int (nI n)), some (.int (nI (mEn (rwS (aPl a p)) (aR a)))), some (.int (nI 0))] 5 (ab_dd tk_m_goesPlace 42 rfl) rfl (by decide) rfl ?_
        exact hI0
      | succ m ih =>
        intro k hk
        have hkR : k < aR a := by omega
        have hpk := hp1 k hkR
        have hsn : mSt (rwS (aPl a p)) k = p k := by
          show cN (aPl a p (36 + k)) = _
          rw [aPl_s hkR, cN_nI (by omega)]
        have hwm : mWm (rwS (aPl a p)) k = cN (a (32 + k)) := by
          show cN (aPl a p (32 + k)) = _
          rw [aPl_o hR4 (by omega)]
        have hwa := (ha.1.2.1 k (by omega)).2.1.1
        have hI0 := ih (k + 1) (by omega)
        rw [show mEn (rwS (aPl a p)) (k + 1) = mEn (rwS (aPl a p)) k + (625 * (mSt (rwS (aPl a p)) k * 4 ^ k) + 5 ^ k * mWm (rwS (aPl a p)) k) from rfl, hsn, hwm] at hI0
        refine x_iload 18 5 (ab_dd tk_m_goesPlace 10 rfl) rfl rfl ?_
        refine x_aload_n 19 0 (ab_dd tk_m_goesPlace 11 rfl) rfl rfl rfl ?_
        refine t_getP 22 121 (ab_dd tk_m_goesPlace 12 rfl) rfl F_m_13 (by decide) (Nat.lt_of_lt_of_le (by decide) hm.1) (hm.2.1 0 (by decide)) rfl (hm.2.2 1 (by decide)) ?_
        refine x_iconst 23 1 (ab_dd tk_m_goesPlace 13 rfl) rfl (by decide) (x_topn 1 rfl ?_)
        refine t_iald 24 1 (ab_dd tk_m_goesPlace 14 rfl) rfl (by decide) (Nat.lt_of_lt_of_le (by decide) hm.1) (hm.2.1 1 (by decide)) rfl (by decide) (by decide) (x_topn (aR a) ((congrFun hA 1).trans ha.R.1) ?_)
        refine x_icmp_ge_f 27 (ab_dd tk_m_goesPlace 15 rfl) rfl 71 (by decide) (fun z => absurd ((nI_leI (a := (aR a)) (b := k) (by omega) (by omega)).mp z) (show ¬ ((aR a) ≤ k) by omega)) ?_
        refine x_iload 29 4 (ab_dd tk_m_goesPlace 16 rfl) rfl rfl ?_
        refine x_sipush 32 625 (ab_dd tk_m_goesPlace 17 rfl) rfl (by decide) (x_topn 625 rfl ?_)
        refine x_aload_n 33 0 (ab_dd tk_m_goesPlace 18 rfl) rfl rfl rfl ?_
        refine t_getP 36 136 (ab_dd tk_m_goesPlace 19 rfl) rfl F_m_66 (by decide) (Nat.lt_of_lt_of_le (by decide) hm.1) (hm.2.1 0 (by decide)) rfl (hm.2.2 32 (by decide)) ?_
        refine x_iload 38 5 (ab_dd tk_m_goesPlace 20 rfl) rfl rfl ?_
        refine t_iald 39 k (ab_dd tk_m_goesPlace 21 rfl) rfl (by decide) (Nat.lt_of_lt_of_le (by decide) hm.1) (hm.2.1 16 (by decide)) rfl (by omega) (by decide) (x_topn (p k) (hP k hkR) ?_)
        refine x_iconst 40 2 (ab_dd tk_m_goesPlace 22 rfl) rfl (by decide) (x_topn 2 rfl ?_)
        refine x_iload 42 5 (ab_dd tk_m_goesPlace 23 rfl) rfl rfl ?_
        refine x_imul 43 (ab_dd tk_m_goesPlace 24 rfl) rfl (x_topn (2 * k) (pk_mul _ _) ?_)
        refine x_ishl 44 (ab_dd tk_m_goesPlace 25 rfl) rfl (x_topn (p k * 4 ^ k) (by rw [← pk_mul]; exact sh_N (show p k < 1000 by omega) k (by omega)) ?_)
        refine x_imul 45 (ab_dd tk_m_goesPlace 26 rfl) rfl (x_topn (625 * (p k * 4 ^ k)) (pk_mul _ _) ?_)
        refine x_iload 47 5 (ab_dd tk_m_goesPlace 27 rfl) rfl rfl ?_
        refine x_callS 50 M_m_placeOf 0 1 [_] (ab_dd tk_m_goesPlace 28 rfl) rfl (by decide) K_m_placeOf T_m_placeOf L_m_225 rfl (Nat.le_of_ble_eq_true rfl) (w_placeOf _ k (by omega)) (fun v1 w1 h1 => ?_)
        obtain ⟨rfl, rfl⟩ := h1
        refine x_aload_n 51 0 (ab_dd tk_m_goesPlace 29 rfl) rfl rfl rfl ?_
        refine t_getP 54 121 (ab_dd tk_m_goesPlace 30 rfl) rfl F_m_13 (by decide) (Nat.lt_of_lt_of_le (by decide) hm.1) (hm.2.1 0 (by decide)) rfl (hm.2.2 1 (by decide)) ?_
        refine x_bipush 56 32 (ab_dd tk_m_goesPlace 31 rfl) rfl (by decide) (x_topn 32 rfl ?_)
        refine x_iload 58 5 (ab_dd tk_m_goesPlace 32 rfl) rfl rfl ?_
        refine x_iadd 59 (ab_dd tk_m_goesPlace 33 rfl) rfl (x_topn (32 + k) (nI_add _ _) ?_)
        refine t_iald 60 (32 + k) (ab_dd tk_m_goesPlace 34 rfl) rfl (by decide) (Nat.lt_of_lt_of_le (by decide) hm.1) (hm.2.1 1 (by decide)) rfl (by omega) (by decide) (x_topn (cN (a (32 + k))) ((congrFun hA (32 + k)).trans hwa) ?_)
        refine x_imul 61 (ab_dd tk_m_goesPlace 35 rfl) rfl (x_topn ((5 ^ k) * (cN (a (32 + k)))) (pk_mul _ _) ?_)
        refine x_iadd 62 (ab_dd tk_m_goesPlace 36 rfl) rfl (x_topn ((625 * (p k * 4 ^ k)) + ((5 ^ k) * (cN (a (32 + k))))) (nI_add _ _) ?_)
        refine x_iadd 63 (ab_dd tk_m_goesPlace 37 rfl) rfl (x_topn ((mEn (rwS (aPl a p)) k) + ((625 * (p k * 4 ^ k)) + ((5 ^ k) * (cN (a (32 + k)))))) (nI_add _ _) ?_)
        refine x_istore 65 [some (.ref 120), some (.int (nI (aR a))), some (.int (nI t)), some (.int (nI n)), some (.int (nI ((mEn (rwS (aPl a p)) k) + ((625 * (p k * 4 ^ k)) + ((5 ^ k) * (cN (a (32 + k)))))))), some (.int (nI k))] 4 (ab_dd tk_m_goesPlace 38 rfl) rfl (by decide) rfl ?_
        refine xn_iinc 68 5 (fun y => [some (.ref 120), some (.int (nI (aR a))), some (.int (nI t)), some (.int (nI n)), some (.int (nI ((mEn (rwS (aPl a p)) k) + ((625 * (p k * 4 ^ k)) + ((5 ^ k) * (cN (a (32 + k)))))))), some (.int y)]) (k + 1) (ab_dd tk_m_goesPlace 39 rfl) rfl (by decide) rfl (fun _ => rfl) (iinc_p 1) ?_
        refine x_goto 16 (ab_dd tk_m_goesPlace 40 rfl) (by decide) ?_
        exact hI0
    refine x_iload_n 1 1 (ab_dd tk_m_goesPlace 0 rfl) rfl rfl rfl ?_
    refine x_aload_n 2 0 (ab_dd tk_m_goesPlace 1 rfl) rfl rfl rfl ?_
    refine t_getP 5 121 (ab_dd tk_m_goesPlace 2 rfl) rfl F_m_13 (by decide) (Nat.lt_of_lt_of_le (by decide) hm.1) (hm.2.1 0 (by decide)) rfl (hm.2.2 1 (by decide)) ?_
    refine x_iconst 6 1 (ab_dd tk_m_goesPlace 3 rfl) rfl (by decide) (x_topn 1 rfl ?_)
    refine t_iald 7 1 (ab_dd tk_m_goesPlace 4 rfl) rfl (by decide) (Nat.lt_of_lt_of_le (by decide) hm.1) (hm.2.1 1 (by decide)) rfl (by decide) (by decide) (x_topn (aR a) ((congrFun hA 1).trans ha.R.1) ?_)
    refine x_icmp_ne_f 10 (ab_dd tk_m_goesPlace 5 rfl) rfl 192 (by decide) ((nI_eq (a := (aR a)) (b := (aR a)) (by omega) (by omega)).mpr (show (aR a) = (aR a) by omega)) ?_
    refine x_iconst 11 0 (ab_dd tk_m_goesPlace 6 rfl) rfl (by decide) (x_topn 0 rfl ?_)
    refine x_istore 13 [some (.ref 120), some (.int (nI (aR a))), some (.int (nI t)), some (.int (nI n)), some (.int (nI 0)), none] 4 (ab_dd tk_m_goesPlace 7 rfl) rfl (by decide) rfl ?_
    refine x_iconst 14 0 (ab_dd tk_m_goesPlace 8 rfl) rfl (by decide) (x_topn 0 rfl ?_)
    refine x_istore 16 [some (.ref 120), some (.int (nI (aR a))), some (.int (nI t)), some (.int (nI n)), some (.int (nI 0)), some (.int (nI 0))] 5 (ab_dd tk_m_goesPlace 9 rfl) rfl (by decide) rfl ?_
    exact sum (aR a) 0 (by omega)
  | succ m ihm =>
    intro r t p b S hrm hm hA hI hP hB
    refine x_enter [some (.ref 120), some (.int (nI r)), some (.int (nI t)), some (.int (nI n)), none, none] (by decide) (Nat.le_of_ble_eq_true rfl) rfl (fun v w' h => by obtain ⟨rfl, -⟩ := h; trivial) ?_
    have ht := hI.1
    have loop : ∀ (q s : Nat), s + q = aR a → ∀ S1 : ab_S, mSh S1 → mA S1 = a → sEq [120, 125, 126, 136, 137] S S1 → fEq S S1 → plP S1 r p → plS S1 (aR a) ((plY (aR a) m r t p s).foldl (plU a n) b) → ab_Ex G (5 + (m + 1)) M_m_goesPlace 195 [some (.ref 120), some (.int (nI r)), some (.int (nI t)), some (.int (nI n)), some (.int (nI s)), none] [] (sw S1) (fun v w' => v = none ∧ ∃ S', w' = sw S' ∧ mSh S' ∧ mA S' = a ∧ sEq [120, 125, 126, 136, 137] S S' ∧ fEq S S' ∧ plP S' r p ∧ plS S' (aR a) ((plX (aR a) (m + 1) r t p).foldl (plU a n) b)) := by
      intro q
      induction q with
      | zero =>
        intro s hs S1 hm1 hA1 hE1 hF1 hP1 hB1
        obtain rfl : s = aR a := by omega
        refine x_iload 197 4 (ab_dd tk_m_goesPlace 104 rfl) rfl rfl ?_
        refine x_aload_n 198 0 (ab_dd tk_m_goesPlace 105 rfl) rfl rfl rfl ?_
        refine t_getP 201 121 (ab_dd tk_m_goesPlace 106 rfl) rfl F_m_13 (by decide) (Nat.lt_of_lt_of_le (by decide) hm1.1) (hm1.2.1 0 (by decide)) rfl (hm1.2.2 1 (by decide)) ?_
        refine x_iconst 202 1 (ab_dd tk_m_goesPlace 107 rfl) rfl (by decide) (x_topn 1 rfl ?_)
        refine t_iald 203 1 (ab_dd tk_m_goesPlace 108 rfl) rfl (by decide) (Nat.lt_of_lt_of_le (by decide) hm1.1) (hm1.2.1 1 (by decide)) rfl (by decide) (by decide) (x_topn (aR a) ((congrFun hA1 1).trans ha.R.1) ?_)
        refine x_icmp_ge_t 247 (ab_dd tk_m_goesPlace 109 rfl) (by decide) ((nI_leI (a := (aR a)) (b := (aR a)) (by omega) (by omega)).mpr (show (aR a) ≤ (aR a) by omega)) ?_
        exact x_vret (ab_dd tk_m_goesPlace 134 rfl) ⟨rfl, S1, rfl, hm1, hA1, hE1, hF1, hP1, hB1⟩
      | succ q ih =>
        intro s hs S1 hm1 hA1 hE1 hF1 hP1 hB1
        have hsR : s < aR a := by omega
        refine x_iload 197 4 (ab_dd tk_m_goesPlace 104 rfl) rfl rfl ?_
        refine x_aload_n 198 0 (ab_dd tk_m_goesPlace 105 rfl) rfl rfl rfl ?_
        refine t_getP 201 121 (ab_dd tk_m_goesPlace 106 rfl) rfl F_m_13 (by decide) (Nat.lt_of_lt_of_le (by decide) hm1.1) (hm1.2.1 0 (by decide)) rfl (hm1.2.2 1 (by decide)) ?_
        refine x_iconst 202 1 (ab_dd tk_m_goesPlace 107 rfl) rfl (by decide) (x_topn 1 rfl ?_)
        refine t_iald 203 1 (ab_dd tk_m_goesPlace 108 rfl) rfl (by decide) (Nat.lt_of_lt_of_le (by decide) hm1.1) (hm1.2.1 1 (by decide)) rfl (by decide) (by decide) (x_topn (aR a) ((congrFun hA1 1).trans ha.R.1) ?_)
        refine x_icmp_ge_f 206 (ab_dd tk_m_goesPlace 109 rfl) rfl 247 (by decide) (fun z => absurd ((nI_leI (a := (aR a)) (b := s) (by omega) (by omega)).mp z) (show ¬ ((aR a) ≤ s) by omega)) ?_
        refine x_iload_n 207 2 (ab_dd tk_m_goesPlace 110 rfl) rfl rfl rfl ?_
        refine x_i2l 208 (ab_dd tk_m_goesPlace 111 rfl) rfl (x_topL (lN t) (nI_l (by omega)) ?_)
        refine x_iload 210 4 (ab_dd tk_m_goesPlace 112 rfl) rfl rfl ?_
        refine x_callS 213 M_m_isIn 0 2 [_, _] (ab_dd tk_m_goesPlace 113 rfl) rfl (by omega) K_m_isIn T_m_isIn L_m_400 rfl (Nat.le_of_ble_eq_true rfl) (c_m_isIn t s ht (by omega)) (fun v1 w1 h1 => ?_)
        obtain ⟨rfl, rfl⟩ := h1
        refine xb_if_eq 216 219 (ab_dd tk_m_goesPlace 114 rfl) rfl (by decide) (fun h213 => ?_) (fun h213 => ?_)
        · refine x_aload_n 220 0 (ab_dd tk_m_goesPlace 116 rfl) rfl rfl rfl ?_
          refine t_getP 223 136 (ab_dd tk_m_goesPlace 117 rfl) rfl F_m_66 (by decide) (Nat.lt_of_lt_of_le (by decide) hm1.1) (hm1.2.1 0 (by decide)) rfl (hm1.2.2 32 (by decide)) ?_
          refine x_iload_n 224 1 (ab_dd tk_m_goesPlace 118 rfl) rfl rfl rfl ?_
          refine x_iload 226 4 (ab_dd tk_m_goesPlace 119 rfl) rfl rfl ?_
          refine t_iast 227 r (ab_dd tk_m_goesPlace 120 rfl) rfl (by decide) (Nat.lt_of_lt_of_le (by decide) hm1.1) (hm1.2.1 16 (by decide)) rfl (by omega) (by decide) ?_
          refine x_aload_n 228 0 (ab_dd tk_m_goesPlace 121 rfl) rfl rfl rfl ?_
          refine x_iload_n 229 1 (ab_dd tk_m_goesPlace 122 rfl) rfl rfl rfl ?_
          refine x_iconst 230 1 (ab_dd tk_m_goesPlace 123 rfl) rfl (by decide) (x_topn 1 rfl ?_)
          refine x_iadd 231 (ab_dd tk_m_goesPlace 124 rfl) rfl (x_topn (r + 1) (nI_add _ _) ?_)
          refine x_iload_n 232 2 (ab_dd tk_m_goesPlace 125 rfl) rfl rfl rfl ?_
          refine x_iconst 233 1 (ab_dd tk_m_goesPlace 126 rfl) rfl (by decide) (x_topn 1 rfl ?_)
          refine x_iload 235 4 (ab_dd tk_m_goesPlace 127 rfl) rfl rfl ?_
          refine x_ishl 236 (ab_dd tk_m_goesPlace 128 rfl) rfl ?_
          refine x_ior 237 (ab_dd tk_m_goesPlace 129 rfl) rfl (x_topn (t + 2 ^ s) ((tk_ok t ht s (by omega) h213).2.2.1) ?_)
          refine x_iload_n 238 3 (ab_dd tk_m_goesPlace 130 rfl) rfl rfl rfl ?_
          have hP2 : plP (pI S1 136 r (nI s)) (r + 1) (up1 p r s) := by
            intro k hk
            show up2 (sI S1) 136 r (nI s) 136 k = _
            by_cases e : k = r
            · rw [e, up2_s, up1_s]
            · rw [up2_k e, up1_o e]; exact hP1 k (by omega)
          refine t_callV 241 M_m_goesPlace (5 + m) 3 [_, _, _] (ab_dd tk_m_goesPlace 131 rfl) rfl (by omega) K_m_goesPlace V_m_goesPlace.1 V_m_goesPlace.2 L_m_404 rfl (Nat.le_of_ble_eq_true rfl) (by decide) (Nat.lt_of_lt_of_le (by decide) hm1.1) (hm1.2.1 0 (by decide)) rfl (ihm (r + 1) (t + 2 ^ s) (up1 p r s) _ (pI S1 136 r (nI s)) (by omega) (by exact hm1) (by exact hA1) (plI_up hR4 hI hsR h213) hP2 (by exact hB1)) (fun v1 w1 h1 => ?_)
          obtain ⟨rfl, U1, rfl, um1, uA1, uE1, uF1, uP, uB⟩ := h1
          refine xn_iinc 244 4 (fun y => [some (.ref 120), some (.int (nI r)), some (.int (nI t)), some (.int (nI n)), some (.int y), none]) (s + 1) (ab_dd tk_m_goesPlace 132 rfl) rfl (by decide) rfl (fun _ => rfl) (iinc_p 1) ?_
          refine x_goto 195 (ab_dd tk_m_goesPlace 133 rfl) (by decide) ?_
          exact ih (s + 1) (by omega) _ um1 uA1 ((hE1.pI (by decide)).tr (uE1.mono (by decide))) (fEq.t2 uF1 (by exact (fEq.pI hF1 (Or.inl (by decide))))) (fun k hk => by rw [uP k (by omega), up1_o (by omega)]) (by rw [plY_s, if_neg h213]; exact uB)
        · refine x_goto 241 (ab_dd tk_m_goesPlace 115 rfl) (by decide) ?_
          refine xn_iinc 244 4 (fun y => [some (.ref 120), some (.int (nI r)), some (.int (nI t)), some (.int (nI n)), some (.int y), none]) (s + 1) (ab_dd tk_m_goesPlace 132 rfl) rfl (by decide) rfl (fun _ => rfl) (iinc_p 1) ?_
          refine x_goto 195 (ab_dd tk_m_goesPlace 133 rfl) (by decide) ?_
          exact ih (s + 1) (by omega) S1 hm1 hA1 hE1 hF1 hP1 (by rw [plY_s, if_pos h213]; exact hB1)
    refine x_iload_n 1 1 (ab_dd tk_m_goesPlace 0 rfl) rfl rfl rfl ?_
    refine x_aload_n 2 0 (ab_dd tk_m_goesPlace 1 rfl) rfl rfl rfl ?_
    refine t_getP 5 121 (ab_dd tk_m_goesPlace 2 rfl) rfl F_m_13 (by decide) (Nat.lt_of_lt_of_le (by decide) hm.1) (hm.2.1 0 (by decide)) rfl (hm.2.2 1 (by decide)) ?_
    refine x_iconst 6 1 (ab_dd tk_m_goesPlace 3 rfl) rfl (by decide) (x_topn 1 rfl ?_)
    refine t_iald 7 1 (ab_dd tk_m_goesPlace 4 rfl) rfl (by decide) (Nat.lt_of_lt_of_le (by decide) hm.1) (hm.2.1 1 (by decide)) rfl (by decide) (by decide) (x_topn (aR a) ((congrFun hA 1).trans ha.R.1) ?_)
    refine x_icmp_ne_t 192 (ab_dd tk_m_goesPlace 5 rfl) (by decide) (fun z => absurd ((nI_eq (a := r) (b := (aR a)) (by omega) (by omega)).mp z) (show ¬ (r = (aR a)) by omega)) ?_
    refine x_iconst 193 0 (ab_dd tk_m_goesPlace 102 rfl) rfl (by decide) (x_topn 0 rfl ?_)
    refine x_istore 195 [some (.ref 120), some (.int (nI r)), some (.int (nI t)), some (.int (nI n)), some (.int (nI 0)), none] 4 (ab_dd tk_m_goesPlace 103 rfl) rfl (by decide) rfl ?_
    exact loop (aR a) 0 (by omega) S hm hA sEq.rf fEq.rf hP hB
