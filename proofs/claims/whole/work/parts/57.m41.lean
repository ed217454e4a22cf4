theorem gI_s {S : ab_S} {a k : Nat} {x : Int32} : sI (pI S a k x) a k = x := up2_s
theorem gI_k {S : ab_S} {a k b j : Nat} {x : Int32} (h : j ≠ k) : sI (pI S a k x) b j = sI S b j := up2_k h
theorem gI_a {S : ab_S} {a k b j : Nat} {x : Int32} (h : b ≠ a) : sI (pI S a k x) b j = sI S b j := up2_a h
theorem gI_o {S : ab_S} {a k b : Nat} {x : Int32} (h : b ≠ a) : sI (pI S a k x) b = sI S b := up2_o h
theorem isBl_i {c : Nat} : isBl c = true ↔ (c = 10 ∨ c = 32) := by
  unfold isBl
  rw [Bool.or_eq_true, beq_iff_eq, beq_iff_eq]
theorem kyF_le (tp : Nat → Nat) (q e : Nat) : ∀ m k, k + m = 21 → kyF tp q e m k < 23
  | 0, _, _ => by show 22 < 23; decide
  | m + 1, k, h => by
    have := kyF_le tp q e m (k + 1) (by omega)
    unfold kyF
    split <;> omega
theorem keyO_ne (tp : Nat → Nat) (q e : Nat) : keyO tp q e ≠ 23 := by
  have := kyF_le tp q e 21 0 rfl
  unfold keyO
  omega
theorem rT.pI {S : ab_S} {tp : Nat → Nat} {a k : Nat} {x : Int32} (h : rT S tp) (ha : a ≠ 123) : rT (pI S a k x) tp := fun i hi => by
  obtain ⟨h1, h2⟩ := h i hi
  exact ⟨(up2_a (Ne.symm ha)).trans h1, h2⟩
/-- the token behind p is the one at hand -/
def tok (S : ab_S) (tp : Nat → Nat) (n p : Nat) : Prop := sI S 120 6 = nI (tS tp n p) ∧ sI S 120 7 = nI (tE tp n p) ∧ sI S 120 9 = nI (tK tp n p) ∧ (tK tp n p = 23 → sI S 120 10 = nI (tN tp n p))
theorem tS_b (tp : Nat → Nat) {n p : Nat} (h : p ≤ n) : p ≤ tS tp n p ∧ tS tp n p ≤ n := by
  have := scn_le isBl tp (n - p) p
  unfold tS
  omega
theorem tE_b (tp : Nat → Nat) {n p : Nat} (h : p ≤ n) : tS tp n p ≤ tE tp n p ∧ tE tp n p ≤ n ∧ (tS tp n p < n → tS tp n p < tE tp n p) := by
  have h1 := tS_b tp h
  unfold tE
  split
  · omega
  · rename_i h2
    have h3 := scn_le isSm tp (n - tS tp n p) (tS tp n p)
    have h4 := scn_le isDg tp (n - tS tp n p) (tS tp n p)
    obtain ⟨m, hm⟩ : ∃ m, n - tS tp n p = m + 1 := ⟨n - tS tp n p - 1, by omega⟩
    split
    · rename_i h5
      have h6 := scn_le isSm tp m (tS tp n p + 1)
      rw [hm, scn_y h5] at h3 ⊢
      omega
    · split
      · rename_i h5
        have h6 := scn_le isDg tp m (tS tp n p + 1)
        rw [hm, scn_y h5] at h4 ⊢
        omega
      · omega
theorem tE_w {tp : Nat → Nat} {n p : Nat} (h : tS tp n p < n) (hs : isSm (tp (tS tp n p)) = true) : tE tp n p = scn isSm tp (n - tS tp n p) (tS tp n p) := by
  unfold tE
  rw [if_neg (by omega), if_pos hs]
theorem tE_d {tp : Nat → Nat} {n p : Nat} (h : tS tp n p < n) (hs : ¬ isSm (tp (tS tp n p)) = true) (hd : isDg (tp (tS tp n p)) = true) : tE tp n p = scn isDg tp (n - tS tp n p) (tS tp n p) := by
  unfold tE
  rw [if_neg (by omega), if_neg hs, if_pos hd]
theorem tE_s {tp : Nat → Nat} {n p : Nat} (h : tS tp n p < n) (hs : ¬ isSm (tp (tS tp n p)) = true) (hd : ¬ isDg (tp (tS tp n p)) = true) : tE tp n p = tS tp n p + 1 := by
  unfold tE
  rw [if_neg (by omega), if_neg hs, if_neg hd]
theorem tE_e {tp : Nat → Nat} {n p : Nat} (h : n ≤ tS tp n p) : tE tp n p = tS tp n p := by
  unfold tE
  rw [if_pos h]
theorem tK_e {tp : Nat → Nat} {n p : Nat} (h : n ≤ tS tp n p) : tK tp n p = 24 := by
  unfold tK
  rw [if_pos h]
theorem tK_w {tp : Nat → Nat} {n p : Nat} (h : tS tp n p < n) (hs : isSm (tp (tS tp n p)) = true) : tK tp n p = keyO tp (tS tp n p) (tE tp n p) := by
  unfold tK
  rw [if_neg (by omega), if_pos hs]
theorem tK_d {tp : Nat → Nat} {n p : Nat} (h : tS tp n p < n) (hs : ¬ isSm (tp (tS tp n p)) = true) (hd : isDg (tp (tS tp n p)) = true) : tK tp n p = if 3 < tE tp n p - tS tp n p then 25 else 23 := by
  unfold tK
  rw [if_neg (by omega), if_neg hs, if_pos hd]
theorem tK_s {tp : Nat → Nat} {n p : Nat} (h : tS tp n p < n) (hs : ¬ isSm (tp (tS tp n p)) = true) (hd : ¬ isDg (tp (tS tp n p)) = true) : tK tp n p = match kIx 0 (tp (tS tp n p)) 12 0 with
  | none => 25
  | some k => 30 + k := by
  unfold tK
  rw [if_neg (by omega), if_neg hs, if_neg hd]
  rfl
theorem tK_sne {tp : Nat → Nat} {n p : Nat} (h : tS tp n p < n) (hs : ¬ isSm (tp (tS tp n p)) = true) (hd : ¬ isDg (tp (tS tp n p)) = true) : tK tp n p ≠ 23 := by
  rw [tK_s h hs hd]
  cases kIx 0 (tp (tS tp n p)) 12 0 with
  | none => decide
  | some k =>
    show 30 + k ≠ 23
    omega
/-- the sign c, among the first k of the signs -/
def sgN (c : Nat) : Nat → Nat
  | 0 => 25
  | k + 1 => if c = kB 0 k then 30 + k else sgN c k
theorem sg_all : (List.range 256).all (fun c => sgN c 12 == (match kIx 0 c 12 0 with
  | none => 25
  | some k => 30 + k)) = true := by decide +kernel
theorem sg_ok {c : Nat} (h : c < 256) : sgN c 12 = match kIx 0 c 12 0 with
  | none => 25
  | some k => 30 + k := by
  have h0 := sg_all
  rw [List.all_eq_true] at h0
  exact beq_iff_eq.mp (h0 c (List.mem_range.mpr h))
theorem dgV_lt {tp : Nat → Nat} {q : Nat} : ∀ m, (∀ i, i < m → isDg (tp (q + i)) = true) → dgV tp q m < 10 ^ m
  | 0, _ => by show 0 < 1; decide
  | m + 1, h => by
    have h1 := dgV_lt m (fun i hi => h i (by omega))
    have h2 := h m (by omega)
    unfold isDg at h2
    rw [decide_eq_true_iff] at h2
    show 10 * dgV tp q m + (tp (q + m) - 48) < 10 ^ (m + 1)
    rw [Nat.pow_succ]
    omega

def tb_m_next : List (Nat × Instr × Nat) := [(0, .aload_n 0, 1), (1, .aload_n 0, 1), (2, .getfield 118, 3), (5, .putfield 115, 3), (8, .aload_n 0, 1), (9, .aload_n 0, 1), (10, .getfield 115, 3), (13, .invokevirtual 121, 3), (16, .bipush 10, 2), (18, .if_icmp .eq 16, 3), (21, .aload_n 0, 1), (22, .aload_n 0, 1), (23, .getfield 115, 3), (26, .invokevirtual 121, 3), (29, .bipush 32, 2), (31, .if_icmp .ne 16, 3), (34, .aload_n 0, 1), (35, .dup, 1), (36, .getfield 115, 3), (39, .iconst 1, 1), (40, .iadd, 1), (41, .putfield 115, 3), (44, .goto (-36), 3), (47, .aload_n 0, 1), (48, .aload_n 0, 1), (49, .getfield 115, 3), (52, .putfield 118, 3), (55, .aload_n 0, 1), (56, .getfield 115, 3), (59, .aload_n 0, 1), (60, .getfield 100, 3), (63, .if_icmp .lt 12, 3), (66, .aload_n 0, 1), (67, .bipush 24, 2), (69, .putfield 125, 3), (72, .goto 222, 3), (75, .aload_n 0, 1), (76, .aload_n 0, 1), (77, .getfield 115, 3), (80, .invokevirtual 121, 3), (83, .invokestatic 128, 3), (86, .ifCond .eq 41, 3), (89, .aload_n 0, 1), (90, .aload_n 0, 1), (91, .getfield 118, 3), (94, .invokevirtual 121, 3), (97, .invokestatic 128, 3), (100, .ifCond .eq 16, 3), (103, .aload_n 0, 1), (104, .dup, 1), (105, .getfield 118, 3), (108, .iconst 1, 1), (109, .iadd, 1), (110, .putfield 118, 3), (113, .goto (-24), 3), (116, .aload_n 0, 1), (117, .aload_n 0, 1), (118, .invokevirtual 132, 3), (121, .putfield 125, 3), (124, .goto 170, 3), (127, .aload_n 0, 1), (128, .aload_n 0, 1), (129, .getfield 115, 3), (132, .invokevirtual 121, 3), (135, .invokestatic 135, 3), (138, .ifCond .eq 98, 3), (141, .aload_n 0, 1), (142, .iconst 0, 1), (143, .putfield 138, 3), (146, .aload_n 0, 1), (147, .aload_n 0, 1), (148, .getfield 118, 3), (151, .invokevirtual 121, 3), (154, .invokestatic 135, 3), (157, .ifCond .eq 52, 3), (160, .aload_n 0, 1), (161, .getfield 118, 3), (164, .aload_n 0, 1), (165, .getfield 115, 3), (168, .isub, 1), (169, .iconst 3, 1), (170, .if_icmp .ge 26, 3), (173, .aload_n 0, 1), (174, .bipush 10, 2), (176, .aload_n 0, 1), (177, .getfield 138, 3), (180, .imul, 1), (181, .aload_n 0, 1), (182, .aload_n 0, 1), (183, .getfield 118, 3), (186, .invokevirtual 121, 3), (189, .iadd, 1), (190, .bipush 48, 2), (192, .isub, 1), (193, .putfield 138, 3), (196, .aload_n 0, 1), (197, .dup, 1), (198, .getfield 118, 3), (201, .iconst 1, 1), (202, .iadd, 1), (203, .putfield 118, 3), (206, .goto (-60), 3), (209, .aload_n 0, 1), (210, .aload_n 0, 1), (211, .getfield 118, 3), (214, .aload_n 0, 1), (215, .getfield 115, 3), (218, .isub, 1), (219, .iconst 3, 1), (220, .if_icmp .le 8, 3), (223, .bipush 25, 2), (225, .goto 5, 3), (228, .bipush 23, 2), (230, .putfield 125, 3), (233, .goto 61, 3), (236, .aload_n 0, 1), (237, .dup, 1), (238, .getfield 118, 3), (241, .iconst 1, 1), (242, .iadd, 1), (243, .putfield 118, 3), (246, .aload_n 0, 1), (247, .bipush 25, 2), (249, .putfield 125, 3), (252, .iconst 0, 1), (253, .istore_n 1, 1), (254, .iload_n 1, 1), (255, .ldc 141, 2), (257, .invokevirtual 105, 3), (260, .if_icmp .ge 34, 3), (263, .aload_n 0, 1), (264, .aload_n 0, 1), (265, .getfield 115, 3), (268, .invokevirtual 121, 3), (271, .ldc 141, 2), (273, .iload_n 1, 1), (274, .invokevirtual 111, 3), (277, .if_icmp .ne 11, 3), (280, .aload_n 0, 1), (281, .bipush 30, 2), (283, .iload_n 1, 1), (284, .iadd, 1), (285, .putfield 125, 3), (288, .iinc 1 1, 3), (291, .goto (-37), 3), (294, .return_, 1)]
theorem tk_m_next : ∀ q ∈ tb_m_next, decode M_m_next.2.1 q.1 = .ok q.2 := by decide +kernel
theorem c_m_next {G : ab_G} {S : ab_S} (hm : mSh S) (kc : kSh S.1) {tp : Nat → Nat} (hT : rT S tp) {n : Nat} (hn : n ≤ 900) (hs : sI S 120 8 = nI n) (p : Nat) (hp : p ≤ n) (hb : sI S 120 7 = nI p) : ab_C G 5 M_m_next [.ref 120] (sw S) (fun v w' => v = none ∧ ∃ S', w' = sw S' ∧ sEq [120] S S' ∧ tok S' tp n p ∧ ∀ j, (j < 6 ∨ j = 8 ∨ 10 < j) → sI S' 120 j = sI S 120 j) := by
  refine x_enter [some (.ref 120), none] (by decide) (Nat.le_of_ble_eq_true rfl) rfl (fun v w' h => by obtain ⟨rfl, -⟩ := h; trivial) ?_
  have ht0 : 0 < 23 := by decide
  have hl0 : kLen 0 = 12 := by decide +kernel
  have hSb := tS_b tp hp
  have hEb := tE_b tp hp
  have sgn : tS tp n p < n → ¬ isSm (tp (tS tp n p)) = true → ¬ isDg (tp (tS tp n p)) = true → ∀ S1, sEq [120] S S1 → (∀ j, (j < 6 ∨ j = 8 ∨ 10 < j) → sI S1 120 j = sI S 120 j) → sI S1 120 6 = nI (tS tp n p) → sI S1 120 7 = nI (tE tp n p) → sI S1 120 9 = nI 25 → ab_Ex G 5 M_m_next 254 [some (.ref 120), some (.int (nI 0))] [] (sw S1) (fun v w' => v = none ∧ ∃ S', w' = sw S' ∧ sEq [120] S S' ∧ tok S' tp n p ∧ ∀ j, (j < 6 ∨ j = 8 ∨ 10 < j) → sI S' 120 j = sI S 120 j) := by
    intro hlt hs1 hd1
    have hq8 := (hT (tS tp n p) (by omega)).2
    have lp : ∀ (m k : Nat), k + m = 12 → ∀ S1 : ab_S, sEq [120] S S1 → (∀ j, (j < 6 ∨ j = 8 ∨ 10 < j) → sI S1 120 j = sI S 120 j) → sI S1 120 6 = nI (tS tp n p) → sI S1 120 7 = nI (tE tp n p) → sI S1 120 9 = nI (sgN (tp (tS tp n p)) k) → ab_Ex G 5 M_m_next 254 [some (.ref 120), some (.int (nI k))] [] (sw S1) (fun v w' => v = none ∧ ∃ S', w' = sw S' ∧ sEq [120] S S' ∧ tok S' tp n p ∧ ∀ j, (j < 6 ∨ j = 8 ∨ 10 < j) → sI S' 120 j = sI S 120 j) := by
      intro m
      induction m with
      | zero =>
        intro k hk  S1 hE hF h6 h7 h9
        have hkN : k = 12 := by omega
        rw [hkN] at h9 ⊢
        refine x_iload_n 255 1 (ab_dd tk_m_next 126 rfl) rfl rfl rfl ?_
        refine x_ldcS 257 0 (ab_dd tk_m_next 127 rfl) rfl (by decide) (List.mem_of_getElem? (i := 23) rfl) ?_
        refine x_callT 260 M_jS_length 1 0 [] (ab_dd tk_m_next 128 rfl) rfl (by decide) K_jS_length V_jS_length.1 V_jS_length.2 (ml_T L_m_105 rfl) rfl (Nat.le_of_ble_eq_true rfl) (by omega) (by rw [sw_old (by omega) (Nat.le_trans (by decide) (hm.eq hE).1), ((show kSh S1.1 by rw [hE.1]; exact kc).1 0 (by decide)).1]) rfl (c_jS_length (by exact (show kSh S1.1 by rw [hE.1]; exact kc)) (by exact (Nat.le_trans (by decide) (hm.eq hE).1)) 0 ht0) (fun v1 w1 h1 => ?_)
        obtain ⟨rfl, rfl⟩ := h1
        rw [hl0]
        refine x_icmp_ge_t 294 (ab_dd tk_m_next 129 rfl) (by decide) (by decide) ?_
        exact x_vret (ab_dd tk_m_next 145 rfl) ⟨rfl, _, rfl, hE, ⟨h6, h7, h9.trans (congrArg nI ((sg_ok hq8).trans (tK_s hlt hs1 hd1).symm)), fun z => absurd z (tK_sne hlt hs1 hd1)⟩, hF⟩
      | succ m ih =>
        intro k hk  S1 hE hF h6 h7 h9
        have hbl := (kByt_ok ht0 (show k < kLen 0 by rw [hl0]; omega)).2.1
        refine x_iload_n 255 1 (ab_dd tk_m_next 126 rfl) rfl rfl rfl ?_
        refine x_ldcS 257 0 (ab_dd tk_m_next 127 rfl) rfl (by decide) (List.mem_of_getElem? (i := 23) rfl) ?_
        refine x_callT 260 M_jS_length 1 0 [] (ab_dd tk_m_next 128 rfl) rfl (by decide) K_jS_length V_jS_length.1 V_jS_length.2 (ml_T L_m_105 rfl) rfl (Nat.le_of_ble_eq_true rfl) (by omega) (by rw [sw_old (by omega) (Nat.le_trans (by decide) (hm.eq hE).1), ((show kSh S1.1 by rw [hE.1]; exact kc).1 0 (by decide)).1]) rfl (c_jS_length (by exact (show kSh S1.1 by rw [hE.1]; exact kc)) (by exact (Nat.le_trans (by decide) (hm.eq hE).1)) 0 ht0) (fun v1 w1 h1 => ?_)
        obtain ⟨rfl, rfl⟩ := h1
        rw [hl0]
        refine x_icmp_ge_f 263 (ab_dd tk_m_next 129 rfl) rfl 294 (by decide) (fun z => absurd ((nI_leI (a := 12) (b := k) (by omega) (by omega)).mp z) (show ¬ (12 ≤ k) by omega)) ?_
        refine x_aload_n 264 0 (ab_dd tk_m_next 130 rfl) rfl rfl rfl ?_
        refine x_aload_n 265 0 (ab_dd tk_m_next 131 rfl) rfl rfl rfl ?_
        refine t_getI 268 (ab_dd tk_m_next 132 rfl) rfl F_m_115 (by decide) (Nat.lt_of_lt_of_le (by decide) (show mSh S1 from hm.eq hE).1) ((show mSh S1 from hm.eq hE).2.1 0 (by decide)) rfl (x_topn (tS tp n p) h6 ?_)
        refine t_callV 271 M_m_see 0 1 [_] (ab_dd tk_m_next 133 rfl) rfl (by decide) K_m_see V_m_see.1 V_m_see.2 L_m_121 rfl (Nat.le_of_ble_eq_true rfl) (by decide) (Nat.lt_of_lt_of_le (by decide) (show mSh S1 from hm.eq hE).1) ((show mSh S1 from hm.eq hE).2.1 0 (by decide)) rfl (c_m_seeL (by exact (show mSh S1 from hm.eq hE)) (by exact (hT.eq hE (by decide))) hn (by exact ((hF 8 (by omega)).trans hs)) (tS tp n p) (by omega)) (fun v1 w1 h1 => ?_)
        obtain ⟨rfl, rfl⟩ := h1
        refine x_ldcS 273 0 (ab_dd tk_m_next 134 rfl) rfl (by decide) (List.mem_of_getElem? (i := 23) rfl) ?_
        refine x_iload_n 274 1 (ab_dd tk_m_next 135 rfl) rfl rfl rfl ?_
        refine x_callT 277 M_jS_charAt 3 1 [_] (ab_dd tk_m_next 136 rfl) rfl (by decide) K_jS_charAt V_jS_charAt.1 V_jS_charAt.2 (ml_T L_m_111 rfl) rfl (Nat.le_of_ble_eq_true rfl) (by omega) (by rw [sw_old (by omega) (Nat.le_trans (by decide) (hm.eq hE).1), ((show kSh S1.1 by rw [hE.1]; exact kc).1 0 (by decide)).1]) rfl (c_jS_charAt (by exact (show kSh S1.1 by rw [hE.1]; exact kc)) (by exact (Nat.le_trans (by decide) (hm.eq hE).1)) 0 ht0 k (by rw [hl0]; omega)) (fun v1 w1 h1 => ?_)
        obtain ⟨rfl, rfl⟩ := h1
        refine xn_icmp_ne 280 288 (ab_dd tk_m_next 137 rfl) rfl (by decide) (by omega) (by omega) (fun h277 => ?_) (fun h277 => ?_)
        · refine xn_iinc 291 1 (fun y => [some (.ref 120), some (.int y)]) (k + 1) (ab_dd tk_m_next 143 rfl) rfl (by decide) rfl (fun _ => rfl) (iinc_p 1) ?_
          refine x_goto 254 (ab_dd tk_m_next 144 rfl) (by decide) ?_
          exact ih (k + 1) (by omega) _ hE (fun j hj => hF j hj) h6 h7 ((h9).trans (congrArg nI (if_neg h277).symm))
        · refine x_aload_n 281 0 (ab_dd tk_m_next 138 rfl) rfl rfl rfl ?_
          refine x_bipush 283 30 (ab_dd tk_m_next 139 rfl) rfl (by decide) (x_topn 30 rfl ?_)
          refine x_iload_n 284 1 (ab_dd tk_m_next 140 rfl) rfl rfl rfl ?_
          refine x_iadd 285 (ab_dd tk_m_next 141 rfl) rfl (x_topn (30 + k) (nI_add _ _) ?_)
          refine t_putI 288 (ab_dd tk_m_next 142 rfl) rfl F_m_125 (by decide) (Nat.lt_of_lt_of_le (by decide) (show mSh S1 from hm.eq hE).1) ((show mSh S1 from hm.eq hE).2.1 0 (by decide)) rfl rfl rfl ?_
          refine xn_iinc 291 1 (fun y => [some (.ref 120), some (.int y)]) (k + 1) (ab_dd tk_m_next 143 rfl) rfl (by decide) rfl (fun _ => rfl) (iinc_p 1) ?_
          refine x_goto 254 (ab_dd tk_m_next 144 rfl) (by decide) ?_
          exact ih (k + 1) (by omega) _ (hE.pI (by decide)) (fun j hj => ((gI_k (by omega)).trans (hF j hj))) ((gI_k (by decide)).trans h6) ((gI_k (by decide)).trans h7) ((gI_s).trans (congrArg nI (if_pos h277).symm))
    intro S1 hE hF h6 h7 h9
    exact lp 12 0 (by omega) S1 hE hF h6 h7 h9
  have dig : tS tp n p < n → ¬ isSm (tp (tS tp n p)) = true → isDg (tp (tS tp n p)) = true → ∀ S1, sEq [120] S S1 → (∀ j, (j < 6 ∨ j = 8 ∨ 10 < j) → sI S1 120 j = sI S 120 j) → sI S1 120 6 = nI (tS tp n p) → sI S1 120 7 = nI (tS tp n p) → sI S1 120 10 = nI 0 → ab_Ex G 5 M_m_next 146 [some (.ref 120), none] [] (sw S1) (fun v w' => v = none ∧ ∃ S', w' = sw S' ∧ sEq [120] S S' ∧ tok S' tp n p ∧ ∀ j, (j < 6 ∨ j = 8 ∨ 10 < j) → sI S' 120 j = sI S 120 j) := by
    intro hlt hs1 hd1
    have hte := tE_d hlt hs1 hd1
    have htk := tK_d hlt hs1 hd1
    have lp : ∀ (m k : Nat), k + m = n → ∀ S1 : ab_S, sEq [120] S S1 → (∀ j, (j < 6 ∨ j = 8 ∨ 10 < j) → sI S1 120 j = sI S 120 j) → sI S1 120 6 = nI (tS tp n p) → sI S1 120 7 = nI k → (tS tp n p) ≤ k → (∀ i, (tS tp n p) ≤ i → i < k → isDg (tp i) = true) → scn isDg tp m k = tE tp n p → sI S1 120 10 = nI (dgV tp (tS tp n p) (if k - (tS tp n p) ≤ 3 then k - (tS tp n p) else 3)) → ab_Ex G 5 M_m_next 146 [some (.ref 120), none] [] (sw S1) (fun v w' => v = none ∧ ∃ S', w' = sw S' ∧ sEq [120] S S' ∧ tok S' tp n p ∧ ∀ j, (j < 6 ∨ j = 8 ∨ 10 < j) → sI S' 120 j = sI S 120 j) := by
      intro m
      induction m with
      | zero =>
        intro k hk S1 hE hF h6 h7 hqk hal hsc h10
        have hke : k = tE tp n p := hsc
        rw [hke] at h7 h10 hal hqk
        have hdl := dgV_lt (tp := tp) (q := tS tp n p) (tE tp n p - tS tp n p) (fun i hi => hal _ (by omega) (by omega))
        refine x_aload_n 147 0 (ab_dd tk_m_next 69 rfl) rfl rfl rfl ?_
        refine x_aload_n 148 0 (ab_dd tk_m_next 70 rfl) rfl rfl rfl ?_
        refine t_getI 151 (ab_dd tk_m_next 71 rfl) rfl F_m_118 (by decide) (Nat.lt_of_lt_of_le (by decide) (show mSh S1 from hm.eq hE).1) ((show mSh S1 from hm.eq hE).2.1 0 (by decide)) rfl (x_topn (tE tp n p) h7 ?_)
        refine t_callV 154 M_m_see 0 1 [_] (ab_dd tk_m_next 72 rfl) rfl (by decide) K_m_see V_m_see.1 V_m_see.2 L_m_121 rfl (Nat.le_of_ble_eq_true rfl) (by decide) (Nat.lt_of_lt_of_le (by decide) (show mSh S1 from hm.eq hE).1) ((show mSh S1 from hm.eq hE).2.1 0 (by decide)) rfl (c_m_seeE (by exact (show mSh S1 from hm.eq hE)) (by exact (hT.eq hE (by decide))) hn (by exact ((hF 8 (by omega)).trans hs)) (tE tp n p) (by omega) (by omega)) (fun v1 w1 h1 => ?_)
        obtain ⟨rfl, rfl⟩ := h1
        refine x_callS 157 M_m_isDigit 0 1 [_] (ab_dd tk_m_next 73 rfl) rfl (by decide) K_m_isDigit T_m_isDigit L_m_135 rfl (Nat.le_of_ble_eq_true rfl) (c_m_isDigitE) (fun v1 w1 h1 => ?_)
        obtain ⟨rfl, rfl⟩ := h1
        refine x_if_eq_t 209 (ab_dd tk_m_next 74 rfl) (by decide) rfl ?_
        refine x_aload_n 210 0 (ab_dd tk_m_next 102 rfl) rfl rfl rfl ?_
        refine x_aload_n 211 0 (ab_dd tk_m_next 103 rfl) rfl rfl rfl ?_
        refine t_getI 214 (ab_dd tk_m_next 104 rfl) rfl F_m_118 (by decide) (Nat.lt_of_lt_of_le (by decide) (show mSh S1 from hm.eq hE).1) ((show mSh S1 from hm.eq hE).2.1 0 (by decide)) rfl (x_topn (tE tp n p) h7 ?_)
        refine x_aload_n 215 0 (ab_dd tk_m_next 105 rfl) rfl rfl rfl ?_
        refine t_getI 218 (ab_dd tk_m_next 106 rfl) rfl F_m_115 (by decide) (Nat.lt_of_lt_of_le (by decide) (show mSh S1 from hm.eq hE).1) ((show mSh S1 from hm.eq hE).2.1 0 (by decide)) rfl (x_topn (tS tp n p) h6 ?_)
        refine x_isub 219 (ab_dd tk_m_next 107 rfl) rfl (x_topn ((tE tp n p) - (tS tp n p)) (pk_sub (by omega)) ?_)
        refine x_iconst 220 3 (ab_dd tk_m_next 108 rfl) rfl (by decide) (x_topn 3 rfl ?_)
        refine xn_icmp_le 223 228 (ab_dd tk_m_next 109 rfl) rfl (by decide) (by omega) (by omega) (fun h220 => ?_) (fun h220 => ?_)
        · refine x_bipush 230 23 (ab_dd tk_m_next 112 rfl) rfl (by decide) (x_topn 23 rfl ?_)
          refine t_putI 233 (ab_dd tk_m_next 113 rfl) rfl F_m_125 (by decide) (Nat.lt_of_lt_of_le (by decide) (show mSh S1 from hm.eq hE).1) ((show mSh S1 from hm.eq hE).2.1 0 (by decide)) rfl rfl rfl ?_
          refine x_goto 294 (ab_dd tk_m_next 114 rfl) (by decide) ?_
          exact x_vret (ab_dd tk_m_next 145 rfl) ⟨rfl, _, rfl, (hE.pI (by decide)), ⟨((gI_k (by decide)).trans h6), ((gI_k (by decide)).trans h7), (gI_s).trans (congrArg nI (htk.trans (if_neg (by omega))).symm), fun _ => (((gI_k (by decide)).trans h10)).trans (by rw [if_pos (by omega)]; rfl)⟩, fun j hj => ((gI_k (by omega)).trans (hF j hj))⟩
        · refine x_bipush 225 25 (ab_dd tk_m_next 110 rfl) rfl (by decide) (x_topn 25 rfl ?_)
          refine x_goto 230 (ab_dd tk_m_next 111 rfl) (by decide) ?_
          refine t_putI 233 (ab_dd tk_m_next 113 rfl) rfl F_m_125 (by decide) (Nat.lt_of_lt_of_le (by decide) (show mSh S1 from hm.eq hE).1) ((show mSh S1 from hm.eq hE).2.1 0 (by decide)) rfl rfl rfl ?_
          refine x_goto 294 (ab_dd tk_m_next 114 rfl) (by decide) ?_
          exact x_vret (ab_dd tk_m_next 145 rfl) ⟨rfl, _, rfl, (hE.pI (by decide)), ⟨((gI_k (by decide)).trans h6), ((gI_k (by decide)).trans h7), (gI_s).trans (congrArg nI (htk.trans (if_pos (by omega))).symm), fun z => absurd z (by rw [htk, if_pos (by omega)]; decide)⟩, fun j hj => ((gI_k (by omega)).trans (hF j hj))⟩
      | succ m ih =>
        intro k hk S1 hE hF h6 h7 hqk hal hsc h10
        have hk8 := (hT k (by omega)).2
        have hk9 : isDg (tp k) = true → 48 ≤ tp k ∧ tp k ≤ 57 := fun z => by unfold isDg at z; exact of_decide_eq_true z
        have hdl0 := dgV_lt (tp := tp) (q := tS tp n p) (k - tS tp n p) (fun i hi => hal _ (by omega) (by omega))
        by_cases hdk : isDg (tp k) = true
        · have hk10 := hk9 hdk
          refine x_aload_n 147 0 (ab_dd tk_m_next 69 rfl) rfl rfl rfl ?_
          refine x_aload_n 148 0 (ab_dd tk_m_next 70 rfl) rfl rfl rfl ?_
          refine t_getI 151 (ab_dd tk_m_next 71 rfl) rfl F_m_118 (by decide) (Nat.lt_of_lt_of_le (by decide) (show mSh S1 from hm.eq hE).1) ((show mSh S1 from hm.eq hE).2.1 0 (by decide)) rfl (x_topn k h7 ?_)
          refine t_callV 154 M_m_see 0 1 [_] (ab_dd tk_m_next 72 rfl) rfl (by decide) K_m_see V_m_see.1 V_m_see.2 L_m_121 rfl (Nat.le_of_ble_eq_true rfl) (by decide) (Nat.lt_of_lt_of_le (by decide) (show mSh S1 from hm.eq hE).1) ((show mSh S1 from hm.eq hE).2.1 0 (by decide)) rfl (c_m_seeL (by exact (show mSh S1 from hm.eq hE)) (by exact (hT.eq hE (by decide))) hn (by exact ((hF 8 (by omega)).trans hs)) k (by omega)) (fun v1 w1 h1 => ?_)
          obtain ⟨rfl, rfl⟩ := h1
          refine x_callS 157 M_m_isDigit 0 1 [_] (ab_dd tk_m_next 73 rfl) rfl (by decide) K_m_isDigit T_m_isDigit L_m_135 rfl (Nat.le_of_ble_eq_true rfl) (c_m_isDigit (tp k) (by omega)) (fun v1 w1 h1 => ?_)
          obtain ⟨rfl, rfl⟩ := h1
          refine x_if_eq_f 160 (ab_dd tk_m_next 74 rfl) rfl 209 (by decide) (by rw [if_pos hdk]; decide) ?_
          refine x_aload_n 161 0 (ab_dd tk_m_next 75 rfl) rfl rfl rfl ?_
          refine t_getI 164 (ab_dd tk_m_next 76 rfl) rfl F_m_118 (by decide) (Nat.lt_of_lt_of_le (by decide) (show mSh S1 from hm.eq hE).1) ((show mSh S1 from hm.eq hE).2.1 0 (by decide)) rfl (x_topn k h7 ?_)
          refine x_aload_n 165 0 (ab_dd tk_m_next 77 rfl) rfl rfl rfl ?_
          refine t_getI 168 (ab_dd tk_m_next 78 rfl) rfl F_m_115 (by decide) (Nat.lt_of_lt_of_le (by decide) (show mSh S1 from hm.eq hE).1) ((show mSh S1 from hm.eq hE).2.1 0 (by decide)) rfl (x_topn (tS tp n p) h6 ?_)
          refine x_isub 169 (ab_dd tk_m_next 79 rfl) rfl (x_topn (k - (tS tp n p)) (pk_sub (by omega)) ?_)
          refine x_iconst 170 3 (ab_dd tk_m_next 80 rfl) rfl (by decide) (x_topn 3 rfl ?_)
          refine xn_icmp_ge 173 196 (ab_dd tk_m_next 81 rfl) rfl (by decide) (by omega) (by omega) (fun h170 => ?_) (fun h170 => ?_)
          · refine x_aload_n 197 0 (ab_dd tk_m_next 95 rfl) rfl rfl rfl ?_
            refine x_dup 198 (ab_dd tk_m_next 96 rfl) rfl rfl ?_
            refine t_getI 201 (ab_dd tk_m_next 97 rfl) rfl F_m_118 (by decide) (Nat.lt_of_lt_of_le (by decide) (show mSh S1 from hm.eq hE).1) ((show mSh S1 from hm.eq hE).2.1 0 (by decide)) rfl (x_topn k h7 ?_)
            refine x_iconst 202 1 (ab_dd tk_m_next 98 rfl) rfl (by decide) (x_topn 1 rfl ?_)
            refine x_iadd 203 (ab_dd tk_m_next 99 rfl) rfl (x_topn (k + 1) (nI_add _ _) ?_)
            refine t_putI 206 (ab_dd tk_m_next 100 rfl) rfl F_m_118 (by decide) (Nat.lt_of_lt_of_le (by decide) (show mSh S1 from hm.eq hE).1) ((show mSh S1 from hm.eq hE).2.1 0 (by decide)) rfl rfl rfl ?_
            refine x_goto 146 (ab_dd tk_m_next 101 rfl) (by decide) ?_
            exact ih (k + 1) (by omega) _ (hE.pI (by decide)) (fun j hj => ((gI_k (by omega)).trans (hF j hj))) ((gI_k (by decide)).trans h6) gI_s (by omega) (fun i h1 h2 => by by_cases z : i = k; (· rw [z]; exact hdk); (· exact hal i h1 (by omega))) ((scn_y hdk).symm.trans hsc) ((((gI_k (by decide)).trans h10)).trans (congrArg nI (by rw [show (if k + 1 - (tS tp n p) ≤ 3 then k + 1 - (tS tp n p) else 3) = 3 from if_neg (by omega)]; by_cases z : k - (tS tp n p) ≤ 3; (· rw [if_pos z, show k - (tS tp n p) = 3 by omega]); (· rw [if_neg z]))))
          · have hk83 : k - tS tp n p ≤ 3 := by omega
            have hpw : 10 ^ (k - tS tp n p) ≤ 100 := Nat.le_trans (Nat.pow_le_pow_right (by decide) (show k - tS tp n p ≤ 2 by omega)) (by decide)
            rw [if_pos hk83] at h10
            refine x_aload_n 174 0 (ab_dd tk_m_next 82 rfl) rfl rfl rfl ?_
            refine x_bipush 176 10 (ab_dd tk_m_next 83 rfl) rfl (by decide) (x_topn 10 rfl ?_)
            refine x_aload_n 177 0 (ab_dd tk_m_next 84 rfl) rfl rfl rfl ?_
            refine t_getI 180 (ab_dd tk_m_next 85 rfl) rfl F_m_138 (by decide) (Nat.lt_of_lt_of_le (by decide) (show mSh S1 from hm.eq hE).1) ((show mSh S1 from hm.eq hE).2.1 0 (by decide)) rfl (x_topn (dgV tp (tS tp n p) (k - (tS tp n p))) h10 ?_)
            refine x_imul 181 (ab_dd tk_m_next 86 rfl) rfl (x_topn (10 * (dgV tp (tS tp n p) (k - (tS tp n p)))) (pk_mul _ _) ?_)
            refine x_aload_n 182 0 (ab_dd tk_m_next 87 rfl) rfl rfl rfl ?_
            refine x_aload_n 183 0 (ab_dd tk_m_next 88 rfl) rfl rfl rfl ?_
            refine t_getI 186 (ab_dd tk_m_next 89 rfl) rfl F_m_118 (by decide) (Nat.lt_of_lt_of_le (by decide) (show mSh S1 from hm.eq hE).1) ((show mSh S1 from hm.eq hE).2.1 0 (by decide)) rfl (x_topn k h7 ?_)
            refine t_callV 189 M_m_see 0 1 [_] (ab_dd tk_m_next 90 rfl) rfl (by decide) K_m_see V_m_see.1 V_m_see.2 L_m_121 rfl (Nat.le_of_ble_eq_true rfl) (by decide) (Nat.lt_of_lt_of_le (by decide) (show mSh S1 from hm.eq hE).1) ((show mSh S1 from hm.eq hE).2.1 0 (by decide)) rfl (c_m_seeL (by exact (show mSh S1 from hm.eq hE)) (by exact (hT.eq hE (by decide))) hn (by exact ((hF 8 (by omega)).trans hs)) k (by omega)) (fun v1 w1 h1 => ?_)
            obtain ⟨rfl, rfl⟩ := h1
            refine x_iadd 190 (ab_dd tk_m_next 91 rfl) rfl (x_topn ((10 * (dgV tp (tS tp n p) (k - (tS tp n p)))) + (tp k)) (nI_add _ _) ?_)
            refine x_bipush 192 48 (ab_dd tk_m_next 92 rfl) rfl (by decide) (x_topn 48 rfl ?_)
            refine x_isub 193 (ab_dd tk_m_next 93 rfl) rfl (x_topn (((10 * (dgV tp (tS tp n p) (k - (tS tp n p)))) + (tp k)) - 48) (pk_sub (by omega)) ?_)
            refine t_putI 196 (ab_dd tk_m_next 94 rfl) rfl F_m_138 (by decide) (Nat.lt_of_lt_of_le (by decide) (show mSh S1 from hm.eq hE).1) ((show mSh S1 from hm.eq hE).2.1 0 (by decide)) rfl rfl rfl ?_
            refine x_aload_n 197 0 (ab_dd tk_m_next 95 rfl) rfl rfl rfl ?_
            refine x_dup 198 (ab_dd tk_m_next 96 rfl) rfl rfl ?_
            refine t_getI 201 (ab_dd tk_m_next 97 rfl) rfl F_m_118 (by decide) (Nat.lt_of_lt_of_le (by decide) (show mSh S1 from hm.eq hE).1) ((show mSh S1 from hm.eq hE).2.1 0 (by decide)) rfl (x_topn k ((gI_k (by decide)).trans h7) ?_)
            refine x_iconst 202 1 (ab_dd tk_m_next 98 rfl) rfl (by decide) (x_topn 1 rfl ?_)
            refine x_iadd 203 (ab_dd tk_m_next 99 rfl) rfl (x_topn (k + 1) (nI_add _ _) ?_)
            refine t_putI 206 (ab_dd tk_m_next 100 rfl) rfl F_m_118 (by decide) (Nat.lt_of_lt_of_le (by decide) (show mSh S1 from hm.eq hE).1) ((show mSh S1 from hm.eq hE).2.1 0 (by decide)) rfl rfl rfl ?_
            refine x_goto 146 (ab_dd tk_m_next 101 rfl) (by decide) ?_
            exact ih (k + 1) (by omega) _ ((hE.pI (by decide)).pI (by decide)) (fun j hj => ((gI_k (by omega)).trans (((gI_k (by omega)).trans (hF j hj))))) ((gI_k (by decide)).trans ((gI_k (by decide)).trans h6)) gI_s (by omega) (fun i h1 h2 => by by_cases z : i = k; (· rw [z]; exact hdk); (· exact hal i h1 (by omega))) ((scn_y hdk).symm.trans hsc) ((((gI_k (by decide)).trans gI_s)).trans (congrArg nI (by rw [if_pos (by omega), show k + 1 - (tS tp n p) = (k - (tS tp n p)) + 1 by omega]; show _ = 10 * dgV tp (tS tp n p) (k - (tS tp n p)) + (tp ((tS tp n p) + (k - (tS tp n p))) - 48); rw [show (tS tp n p) + (k - (tS tp n p)) = k by omega]; omega)))
        · have hke : k = tE tp n p := ((scn_n hdk).symm.trans hsc)
          rw [hke] at h7 h10 hal hqk hdk hk8
          have hdl := dgV_lt (tp := tp) (q := tS tp n p) (tE tp n p - tS tp n p) (fun i hi => hal _ (by omega) (by omega))
          refine x_aload_n 147 0 (ab_dd tk_m_next 69 rfl) rfl rfl rfl ?_
          refine x_aload_n 148 0 (ab_dd tk_m_next 70 rfl) rfl rfl rfl ?_
          refine t_getI 151 (ab_dd tk_m_next 71 rfl) rfl F_m_118 (by decide) (Nat.lt_of_lt_of_le (by decide) (show mSh S1 from hm.eq hE).1) ((show mSh S1 from hm.eq hE).2.1 0 (by decide)) rfl (x_topn (tE tp n p) h7 ?_)
          refine t_callV 154 M_m_see 0 1 [_] (ab_dd tk_m_next 72 rfl) rfl (by decide) K_m_see V_m_see.1 V_m_see.2 L_m_121 rfl (Nat.le_of_ble_eq_true rfl) (by decide) (Nat.lt_of_lt_of_le (by decide) (show mSh S1 from hm.eq hE).1) ((show mSh S1 from hm.eq hE).2.1 0 (by decide)) rfl (c_m_seeL (by exact (show mSh S1 from hm.eq hE)) (by exact (hT.eq hE (by decide))) hn (by exact ((hF 8 (by omega)).trans hs)) (tE tp n p) (by omega)) (fun v1 w1 h1 => ?_)
          obtain ⟨rfl, rfl⟩ := h1
          refine x_callS 157 M_m_isDigit 0 1 [_] (ab_dd tk_m_next 73 rfl) rfl (by decide) K_m_isDigit T_m_isDigit L_m_135 rfl (Nat.le_of_ble_eq_true rfl) (c_m_isDigit (tp (tE tp n p)) (by omega)) (fun v1 w1 h1 => ?_)
          obtain ⟨rfl, rfl⟩ := h1
          refine x_if_eq_t 209 (ab_dd tk_m_next 74 rfl) (by decide) (if_neg hdk) ?_
          refine x_aload_n 210 0 (ab_dd tk_m_next 102 rfl) rfl rfl rfl ?_
          refine x_aload_n 211 0 (ab_dd tk_m_next 103 rfl) rfl rfl rfl ?_
          refine t_getI 214 (ab_dd tk_m_next 104 rfl) rfl F_m_118 (by decide) (Nat.lt_of_lt_of_le (by decide) (show mSh S1 from hm.eq hE).1) ((show mSh S1 from hm.eq hE).2.1 0 (by decide)) rfl (x_topn (tE tp n p) h7 ?_)
          refine x_aload_n 215 0 (ab_dd tk_m_next 105 rfl) rfl rfl rfl ?_
          refine t_getI 218 (ab_dd tk_m_next 106 rfl) rfl F_m_115 (by decide) (Nat.lt_of_lt_of_le (by decide) (show mSh S1 from hm.eq hE).1) ((show mSh S1 from hm.eq hE).2.1 0 (by decide)) rfl (x_topn (tS tp n p) h6 ?_)
          refine x_isub 219 (ab_dd tk_m_next 107 rfl) rfl (x_topn ((tE tp n p) - (tS tp n p)) (pk_sub (by omega)) ?_)
          refine x_iconst 220 3 (ab_dd tk_m_next 108 rfl) rfl (by decide) (x_topn 3 rfl ?_)
          refine xn_icmp_le 223 228 (ab_dd tk_m_next 109 rfl) rfl (by decide) (by omega) (by omega) (fun h220 => ?_) (fun h220 => ?_)
          · refine x_bipush 230 23 (ab_dd tk_m_next 112 rfl) rfl (by decide) (x_topn 23 rfl ?_)
            refine t_putI 233 (ab_dd tk_m_next 113 rfl) rfl F_m_125 (by decide) (Nat.lt_of_lt_of_le (by decide) (show mSh S1 from hm.eq hE).1) ((show mSh S1 from hm.eq hE).2.1 0 (by decide)) rfl rfl rfl ?_
            refine x_goto 294 (ab_dd tk_m_next 114 rfl) (by decide) ?_
            exact x_vret (ab_dd tk_m_next 145 rfl) ⟨rfl, _, rfl, (hE.pI (by decide)), ⟨((gI_k (by decide)).trans h6), ((gI_k (by decide)).trans h7), (gI_s).trans (congrArg nI (htk.trans (if_neg (by omega))).symm), fun _ => (((gI_k (by decide)).trans h10)).trans (by rw [if_pos (by omega)]; rfl)⟩, fun j hj => ((gI_k (by omega)).trans (hF j hj))⟩
          · refine x_bipush 225 25 (ab_dd tk_m_next 110 rfl) rfl (by decide) (x_topn 25 rfl ?_)
            refine x_goto 230 (ab_dd tk_m_next 111 rfl) (by decide) ?_
            refine t_putI 233 (ab_dd tk_m_next 113 rfl) rfl F_m_125 (by decide) (Nat.lt_of_lt_of_le (by decide) (show mSh S1 from hm.eq hE).1) ((show mSh S1 from hm.eq hE).2.1 0 (by decide)) rfl rfl rfl ?_
            refine x_goto 294 (ab_dd tk_m_next 114 rfl) (by decide) ?_
            exact x_vret (ab_dd tk_m_next 145 rfl) ⟨rfl, _, rfl, (hE.pI (by decide)), ⟨((gI_k (by decide)).trans h6), ((gI_k (by decide)).trans h7), (gI_s).trans (congrArg nI (htk.trans (if_pos (by omega))).symm), fun z => absurd z (by rw [htk, if_pos (by omega)]; decide)⟩, fun j hj => ((gI_k (by omega)).trans (hF j hj))⟩
    intro S1 hE hF h6 h7 h10
    exact lp (n - (tS tp n p)) (tS tp n p) (by omega) S1 hE hF h6 h7 (by omega) (fun i h1 h2 => absurd h2 (by omega)) hte.symm (h10.trans (by rw [if_pos (by omega), Nat.sub_self]; rfl))
  have wrd : tS tp n p < n → isSm (tp (tS tp n p)) = true → ∀ S1, sEq [120] S S1 → (∀ j, (j < 6 ∨ j = 8 ∨ 10 < j) → sI S1 120 j = sI S 120 j) → sI S1 120 6 = nI (tS tp n p) → sI S1 120 7 = nI (tS tp n p) → ab_Ex G 5 M_m_next 89 [some (.ref 120), none] [] (sw S1) (fun v w' => v = none ∧ ∃ S', w' = sw S' ∧ sEq [120] S S' ∧ tok S' tp n p ∧ ∀ j, (j < 6 ∨ j = 8 ∨ 10 < j) → sI S' 120 j = sI S 120 j) := by
    intro hlt hs1
    have hte := tE_w hlt hs1
    have htk := tK_w hlt hs1
    have lp : ∀ (m k : Nat), k + m = n → ∀ S1 : ab_S, sEq [120] S S1 → (∀ j, (j < 6 ∨ j = 8 ∨ 10 < j) → sI S1 120 j = sI S 120 j) → sI S1 120 6 = nI (tS tp n p) → sI S1 120 7 = nI k → (tS tp n p) ≤ k → scn isSm tp m k = tE tp n p → ab_Ex G 5 M_m_next 89 [some (.ref 120), none] [] (sw S1) (fun v w' => v = none ∧ ∃ S', w' = sw S' ∧ sEq [120] S S' ∧ tok S' tp n p ∧ ∀ j, (j < 6 ∨ j = 8 ∨ 10 < j) → sI S' 120 j = sI S 120 j) := by
      intro m
      induction m with
      | zero =>
        intro k hk S1 hE hF h6 h7 hqk hsc
        have hke : k = tE tp n p := hsc
        rw [hke] at h7 hqk
        refine x_aload_n 90 0 (ab_dd tk_m_next 42 rfl) rfl rfl rfl ?_
        refine x_aload_n 91 0 (ab_dd tk_m_next 43 rfl) rfl rfl rfl ?_
        refine t_getI 94 (ab_dd tk_m_next 44 rfl) rfl F_m_118 (by decide) (Nat.lt_of_lt_of_le (by decide) (show mSh S1 from hm.eq hE).1) ((show mSh S1 from hm.eq hE).2.1 0 (by decide)) rfl (x_topn (tE tp n p) h7 ?_)
        refine t_callV 97 M_m_see 0 1 [_] (ab_dd tk_m_next 45 rfl) rfl (by decide) K_m_see V_m_see.1 V_m_see.2 L_m_121 rfl (Nat.le_of_ble_eq_true rfl) (by decide) (Nat.lt_of_lt_of_le (by decide) (show mSh S1 from hm.eq hE).1) ((show mSh S1 from hm.eq hE).2.1 0 (by decide)) rfl (c_m_seeE (by exact (show mSh S1 from hm.eq hE)) (by exact (hT.eq hE (by decide))) hn (by exact ((hF 8 (by omega)).trans hs)) (tE tp n p) (by omega) (by omega)) (fun v1 w1 h1 => ?_)
        obtain ⟨rfl, rfl⟩ := h1
        refine x_callS 100 M_m_isSmall 0 1 [_] (ab_dd tk_m_next 46 rfl) rfl (by decide) K_m_isSmall T_m_isSmall L_m_128 rfl (Nat.le_of_ble_eq_true rfl) (c_m_isSmallE) (fun v1 w1 h1 => ?_)
        obtain ⟨rfl, rfl⟩ := h1
        refine x_if_eq_t 116 (ab_dd tk_m_next 47 rfl) (by decide) rfl ?_
        refine x_aload_n 117 0 (ab_dd tk_m_next 55 rfl) rfl rfl rfl ?_
        refine x_aload_n 118 0 (ab_dd tk_m_next 56 rfl) rfl rfl rfl ?_
        refine t_callV 121 M_m_keyAt 4 0 [] (ab_dd tk_m_next 57 rfl) rfl (by decide) K_m_keyAt V_m_keyAt.1 V_m_keyAt.2 L_m_132 rfl (Nat.le_of_ble_eq_true rfl) (by decide) (Nat.lt_of_lt_of_le (by decide) (show mSh S1 from hm.eq hE).1) ((show mSh S1 from hm.eq hE).2.1 0 (by decide)) rfl (c_m_keyAt (by exact (show mSh S1 from hm.eq hE)) (by exact (hT.eq hE (by decide))) hn (by exact ((hF 8 (by omega)).trans hs)) (by exact (show kSh S1.1 by rw [hE.1]; exact kc)) (tS tp n p) (tE tp n p) (by omega) (by omega) (by exact h6) (by exact h7)) (fun v1 w1 h1 => ?_)
        obtain ⟨rfl, rfl⟩ := h1
        refine t_putI 124 (ab_dd tk_m_next 58 rfl) rfl F_m_125 (by decide) (Nat.lt_of_lt_of_le (by decide) (show mSh S1 from hm.eq hE).1) ((show mSh S1 from hm.eq hE).2.1 0 (by decide)) rfl rfl rfl ?_
        refine x_goto 294 (ab_dd tk_m_next 59 rfl) (by decide) ?_
        exact x_vret (ab_dd tk_m_next 145 rfl) ⟨rfl, _, rfl, (hE.pI (by decide)), ⟨((gI_k (by decide)).trans h6), ((gI_k (by decide)).trans h7), (gI_s).trans (congrArg nI htk.symm), fun z => absurd z (by rw [htk]; exact keyO_ne _ _ _)⟩, fun j hj => ((gI_k (by omega)).trans (hF j hj))⟩
      | succ m ih =>
        intro k hk S1 hE hF h6 h7 hqk hsc
        have hk8 := (hT k (by omega)).2
        by_cases hdk : isSm (tp k) = true
        · refine x_aload_n 90 0 (ab_dd tk_m_next 42 rfl) rfl rfl rfl ?_
          refine x_aload_n 91 0 (ab_dd tk_m_next 43 rfl) rfl rfl rfl ?_
          refine t_getI 94 (ab_dd tk_m_next 44 rfl) rfl F_m_118 (by decide) (Nat.lt_of_lt_of_le (by decide) (show mSh S1 from hm.eq hE).1) ((show mSh S1 from hm.eq hE).2.1 0 (by decide)) rfl (x_topn k h7 ?_)
          refine t_callV 97 M_m_see 0 1 [_] (ab_dd tk_m_next 45 rfl) rfl (by decide) K_m_see V_m_see.1 V_m_see.2 L_m_121 rfl (Nat.le_of_ble_eq_true rfl) (by decide) (Nat.lt_of_lt_of_le (by decide) (show mSh S1 from hm.eq hE).1) ((show mSh S1 from hm.eq hE).2.1 0 (by decide)) rfl (c_m_seeL (by exact (show mSh S1 from hm.eq hE)) (by exact (hT.eq hE (by decide))) hn (by exact ((hF 8 (by omega)).trans hs)) k (by omega)) (fun v1 w1 h1 => ?_)
          obtain ⟨rfl, rfl⟩ := h1
          refine x_callS 100 M_m_isSmall 0 1 [_] (ab_dd tk_m_next 46 rfl) rfl (by decide) K_m_isSmall T_m_isSmall L_m_128 rfl (Nat.le_of_ble_eq_true rfl) (c_m_isSmall (tp k) (by omega)) (fun v1 w1 h1 => ?_)
          obtain ⟨rfl, rfl⟩ := h1
          refine x_if_eq_f 103 (ab_dd tk_m_next 47 rfl) rfl 116 (by decide) (by rw [if_pos hdk]; decide) ?_
          refine x_aload_n 104 0 (ab_dd tk_m_next 48 rfl) rfl rfl rfl ?_
          refine x_dup 105 (ab_dd tk_m_next 49 rfl) rfl rfl ?_
          refine t_getI 108 (ab_dd tk_m_next 50 rfl) rfl F_m_118 (by decide) (Nat.lt_of_lt_of_le (by decide) (show mSh S1 from hm.eq hE).1) ((show mSh S1 from hm.eq hE).2.1 0 (by decide)) rfl (x_topn k h7 ?_)
          refine x_iconst 109 1 (ab_dd tk_m_next 51 rfl) rfl (by decide) (x_topn 1 rfl ?_)
          refine x_iadd 110 (ab_dd tk_m_next 52 rfl) rfl (x_topn (k + 1) (nI_add _ _) ?_)
          refine t_putI 113 (ab_dd tk_m_next 53 rfl) rfl F_m_118 (by decide) (Nat.lt_of_lt_of_le (by decide) (show mSh S1 from hm.eq hE).1) ((show mSh S1 from hm.eq hE).2.1 0 (by decide)) rfl rfl rfl ?_
          refine x_goto 89 (ab_dd tk_m_next 54 rfl) (by decide) ?_
          exact ih (k + 1) (by omega) _ (hE.pI (by decide)) (fun j hj => ((gI_k (by omega)).trans (hF j hj))) ((gI_k (by decide)).trans h6) gI_s (by omega) ((scn_y hdk).symm.trans hsc)
        · have hke : k = tE tp n p := ((scn_n hdk).symm.trans hsc)
          rw [hke] at h7 hqk hdk hk8
          refine x_aload_n 90 0 (ab_dd tk_m_next 42 rfl) rfl rfl rfl ?_
          refine x_aload_n 91 0 (ab_dd tk_m_next 43 rfl) rfl rfl rfl ?_
          refine t_getI 94 (ab_dd tk_m_next 44 rfl) rfl F_m_118 (by decide) (Nat.lt_of_lt_of_le (by decide) (show mSh S1 from hm.eq hE).1) ((show mSh S1 from hm.eq hE).2.1 0 (by decide)) rfl (x_topn (tE tp n p) h7 ?_)
          refine t_callV 97 M_m_see 0 1 [_] (ab_dd tk_m_next 45 rfl) rfl (by decide) K_m_see V_m_see.1 V_m_see.2 L_m_121 rfl (Nat.le_of_ble_eq_true rfl) (by decide) (Nat.lt_of_lt_of_le (by decide) (show mSh S1 from hm.eq hE).1) ((show mSh S1 from hm.eq hE).2.1 0 (by decide)) rfl (c_m_seeL (by exact (show mSh S1 from hm.eq hE)) (by exact (hT.eq hE (by decide))) hn (by exact ((hF 8 (by omega)).trans hs)) (tE tp n p) (by omega)) (fun v1 w1 h1 => ?_)
          obtain ⟨rfl, rfl⟩ := h1
          refine x_callS 100 M_m_isSmall 0 1 [_] (ab_dd tk_m_next 46 rfl) rfl (by decide) K_m_isSmall T_m_isSmall L_m_128 rfl (Nat.le_of_ble_eq_true rfl) (c_m_isSmall (tp (tE tp n p)) (by omega)) (fun v1 w1 h1 => ?_)
          obtain ⟨rfl, rfl⟩ := h1
          refine x_if_eq_t 116 (ab_dd tk_m_next 47 rfl) (by decide) (if_neg hdk) ?_
          refine x_aload_n 117 0 (ab_dd tk_m_next 55 rfl) rfl rfl rfl ?_
          refine x_aload_n 118 0 (ab_dd tk_m_next 56 rfl) rfl rfl rfl ?_
          refine t_callV 121 M_m_keyAt 4 0 [] (ab_dd tk_m_next 57 rfl) rfl (by decide) K_m_keyAt V_m_keyAt.1 V_m_keyAt.2 L_m_132 rfl (Nat.le_of_ble_eq_true rfl) (by decide) (Nat.lt_of_lt_of_le (by decide) (show mSh S1 from hm.eq hE).1) ((show mSh S1 from hm.eq hE).2.1 0 (by decide)) rfl (c_m_keyAt (by exact (show mSh S1 from hm.eq hE)) (by exact (hT.eq hE (by decide))) hn (by exact ((hF 8 (by omega)).trans hs)) (by exact (show kSh S1.1 by rw [hE.1]; exact kc)) (tS tp n p) (tE tp n p) (by omega) (by omega) (by exact h6) (by exact h7)) (fun v1 w1 h1 => ?_)
          obtain ⟨rfl, rfl⟩ := h1
          refine t_putI 124 (ab_dd tk_m_next 58 rfl) rfl F_m_125 (by decide) (Nat.lt_of_lt_of_le (by decide) (show mSh S1 from hm.eq hE).1) ((show mSh S1 from hm.eq hE).2.1 0 (by decide)) rfl rfl rfl ?_
          refine x_goto 294 (ab_dd tk_m_next 59 rfl) (by decide) ?_
          exact x_vret (ab_dd tk_m_next 145 rfl) ⟨rfl, _, rfl, (hE.pI (by decide)), ⟨((gI_k (by decide)).trans h6), ((gI_k (by decide)).trans h7), (gI_s).trans (congrArg nI htk.symm), fun z => absurd z (by rw [htk]; exact keyO_ne _ _ _)⟩, fun j hj => ((gI_k (by omega)).trans (hF j hj))⟩
    intro S1 hE hF h6 h7
    exact lp (n - (tS tp n p)) (tS tp n p) (by omega) S1 hE hF h6 h7 (by omega) hte.symm
  have fin : ∀ S1, sEq [120] S S1 → (∀ j, (j < 6 ∨ j = 8 ∨ 10 < j) → sI S1 120 j = sI S 120 j) → sI S1 120 6 = nI (tS tp n p) → ab_Ex G 5 M_m_next 47 [some (.ref 120), none] [] (sw S1) (fun v w' => v = none ∧ ∃ S', w' = sw S' ∧ sEq [120] S S' ∧ tok S' tp n p ∧ ∀ j, (j < 6 ∨ j = 8 ∨ 10 < j) → sI S' 120 j = sI S 120 j) := by
    intro S1 hE hF h6
    refine x_aload_n 48 0 (ab_dd tk_m_next 23 rfl) rfl rfl rfl ?_
    refine x_aload_n 49 0 (ab_dd tk_m_next 24 rfl) rfl rfl rfl ?_
    refine t_getI 52 (ab_dd tk_m_next 25 rfl) rfl F_m_115 (by decide) (Nat.lt_of_lt_of_le (by decide) (show mSh S1 from hm.eq hE).1) ((show mSh S1 from hm.eq hE).2.1 0 (by decide)) rfl (x_topn (tS tp n p) h6 ?_)
    refine t_putI 55 (ab_dd tk_m_next 26 rfl) rfl F_m_118 (by decide) (Nat.lt_of_lt_of_le (by decide) (show mSh S1 from hm.eq hE).1) ((show mSh S1 from hm.eq hE).2.1 0 (by decide)) rfl rfl rfl ?_
    refine x_aload_n 56 0 (ab_dd tk_m_next 27 rfl) rfl rfl rfl ?_
    refine t_getI 59 (ab_dd tk_m_next 28 rfl) rfl F_m_115 (by decide) (Nat.lt_of_lt_of_le (by decide) (show mSh S1 from hm.eq hE).1) ((show mSh S1 from hm.eq hE).2.1 0 (by decide)) rfl (x_topn (tS tp n p) ((gI_k (by decide)).trans h6) ?_)
    refine x_aload_n 60 0 (ab_dd tk_m_next 29 rfl) rfl rfl rfl ?_
    refine t_getI 63 (ab_dd tk_m_next 30 rfl) rfl F_m_100 (by decide) (Nat.lt_of_lt_of_le (by decide) (show mSh S1 from hm.eq hE).1) ((show mSh S1 from hm.eq hE).2.1 0 (by decide)) rfl (x_topn n ((gI_k (by decide)).trans ((hF 8 (by omega)).trans hs)) ?_)
    refine xn_icmp_lt 66 75 (ab_dd tk_m_next 31 rfl) rfl (by decide) (by omega) (by omega) (fun h63 => ?_) (fun h63 => ?_)
    · have hq8 := (hT (tS tp n p) (by omega)).2
      refine x_aload_n 76 0 (ab_dd tk_m_next 36 rfl) rfl rfl rfl ?_
      refine x_aload_n 77 0 (ab_dd tk_m_next 37 rfl) rfl rfl rfl ?_
      refine t_getI 80 (ab_dd tk_m_next 38 rfl) rfl F_m_115 (by decide) (Nat.lt_of_lt_of_le (by decide) (show mSh S1 from hm.eq hE).1) ((show mSh S1 from hm.eq hE).2.1 0 (by decide)) rfl (x_topn (tS tp n p) ((gI_k (by decide)).trans h6) ?_)
      refine t_callV 83 M_m_see 0 1 [_] (ab_dd tk_m_next 39 rfl) rfl (by decide) K_m_see V_m_see.1 V_m_see.2 L_m_121 rfl (Nat.le_of_ble_eq_true rfl) (by decide) (Nat.lt_of_lt_of_le (by decide) (show mSh S1 from hm.eq hE).1) ((show mSh S1 from hm.eq hE).2.1 0 (by decide)) rfl (c_m_seeL (by exact (show mSh S1 from hm.eq hE)) (by exact (rT.pI (hT.eq hE (by decide)) (by decide))) hn (by exact ((gI_k (by decide)).trans ((hF 8 (by omega)).trans hs))) (tS tp n p) (by omega)) (fun v1 w1 h1 => ?_)
      obtain ⟨rfl, rfl⟩ := h1
      refine x_callS 86 M_m_isSmall 0 1 [_] (ab_dd tk_m_next 40 rfl) rfl (by decide) K_m_isSmall T_m_isSmall L_m_128 rfl (Nat.le_of_ble_eq_true rfl) (c_m_isSmall (tp (tS tp n p)) (by omega)) (fun v1 w1 h1 => ?_)
      obtain ⟨rfl, rfl⟩ := h1
      refine xb_if_eq 89 127 (ab_dd tk_m_next 41 rfl) rfl (by decide) (fun h86 => ?_) (fun h86 => ?_)
      · refine x_aload_n 128 0 (ab_dd tk_m_next 60 rfl) rfl rfl rfl ?_
        refine x_aload_n 129 0 (ab_dd tk_m_next 61 rfl) rfl rfl rfl ?_
        refine t_getI 132 (ab_dd tk_m_next 62 rfl) rfl F_m_115 (by decide) (Nat.lt_of_lt_of_le (by decide) (show mSh S1 from hm.eq hE).1) ((show mSh S1 from hm.eq hE).2.1 0 (by decide)) rfl (x_topn (tS tp n p) ((gI_k (by decide)).trans h6) ?_)
        refine t_callV 135 M_m_see 0 1 [_] (ab_dd tk_m_next 63 rfl) rfl (by decide) K_m_see V_m_see.1 V_m_see.2 L_m_121 rfl (Nat.le_of_ble_eq_true rfl) (by decide) (Nat.lt_of_lt_of_le (by decide) (show mSh S1 from hm.eq hE).1) ((show mSh S1 from hm.eq hE).2.1 0 (by decide)) rfl (c_m_seeL (by exact (show mSh S1 from hm.eq hE)) (by exact (rT.pI (hT.eq hE (by decide)) (by decide))) hn (by exact ((gI_k (by decide)).trans ((hF 8 (by omega)).trans hs))) (tS tp n p) (by omega)) (fun v1 w1 h1 => ?_)
        obtain ⟨rfl, rfl⟩ := h1
        refine x_callS 138 M_m_isDigit 0 1 [_] (ab_dd tk_m_next 64 rfl) rfl (by decide) K_m_isDigit T_m_isDigit L_m_135 rfl (Nat.le_of_ble_eq_true rfl) (c_m_isDigit (tp (tS tp n p)) (by omega)) (fun v1 w1 h1 => ?_)
        obtain ⟨rfl, rfl⟩ := h1
        refine xb_if_eq 141 236 (ab_dd tk_m_next 65 rfl) rfl (by decide) (fun h138 => ?_) (fun h138 => ?_)
        · have hts := tE_s (show tS tp n p < n by omega) h86 h138
          refine x_aload_n 237 0 (ab_dd tk_m_next 115 rfl) rfl rfl rfl ?_
          refine x_dup 238 (ab_dd tk_m_next 116 rfl) rfl rfl ?_
          refine t_getI 241 (ab_dd tk_m_next 117 rfl) rfl F_m_118 (by decide) (Nat.lt_of_lt_of_le (by decide) (show mSh S1 from hm.eq hE).1) ((show mSh S1 from hm.eq hE).2.1 0 (by decide)) rfl (x_topn (tS tp n p) gI_s ?_)
          refine x_iconst 242 1 (ab_dd tk_m_next 118 rfl) rfl (by decide) (x_topn 1 rfl ?_)
          refine x_iadd 243 (ab_dd tk_m_next 119 rfl) rfl (x_topn ((tS tp n p) + 1) (nI_add _ _) ?_)
          refine t_putI 246 (ab_dd tk_m_next 120 rfl) rfl F_m_118 (by decide) (Nat.lt_of_lt_of_le (by decide) (show mSh S1 from hm.eq hE).1) ((show mSh S1 from hm.eq hE).2.1 0 (by decide)) rfl rfl rfl ?_
          refine x_aload_n 247 0 (ab_dd tk_m_next 121 rfl) rfl rfl rfl ?_
          refine x_bipush 249 25 (ab_dd tk_m_next 122 rfl) rfl (by decide) (x_topn 25 rfl ?_)
          refine t_putI 252 (ab_dd tk_m_next 123 rfl) rfl F_m_125 (by decide) (Nat.lt_of_lt_of_le (by decide) (show mSh S1 from hm.eq hE).1) ((show mSh S1 from hm.eq hE).2.1 0 (by decide)) rfl rfl rfl ?_
          refine x_iconst 253 0 (ab_dd tk_m_next 124 rfl) rfl (by decide) (x_topn 0 rfl ?_)
          refine x_istore_n 254 [some (.ref 120), some (.int (nI 0))] 1 (ab_dd tk_m_next 125 rfl) rfl rfl (by decide) rfl ?_
          exact sgn (by omega) h86 h138 _ (((hE.pI (by decide)).pI (by decide)).pI (by decide)) (fun j hj => ((gI_k (by omega)).trans (((gI_k (by omega)).trans (((gI_k (by omega)).trans (hF j hj))))))) ((gI_k (by decide)).trans ((gI_k (by decide)).trans ((gI_k (by decide)).trans h6))) ((((gI_k (by decide)).trans gI_s)).trans (congrArg nI hts.symm)) gI_s
        · refine x_aload_n 142 0 (ab_dd tk_m_next 66 rfl) rfl rfl rfl ?_
          refine x_iconst 143 0 (ab_dd tk_m_next 67 rfl) rfl (by decide) (x_topn 0 rfl ?_)
          refine t_putI 146 (ab_dd tk_m_next 68 rfl) rfl F_m_138 (by decide) (Nat.lt_of_lt_of_le (by decide) (show mSh S1 from hm.eq hE).1) ((show mSh S1 from hm.eq hE).2.1 0 (by decide)) rfl rfl rfl ?_
          exact dig (by omega) h86 h138 _ ((hE.pI (by decide)).pI (by decide)) (fun j hj => ((gI_k (by omega)).trans (((gI_k (by omega)).trans (hF j hj))))) ((gI_k (by decide)).trans ((gI_k (by decide)).trans h6)) ((gI_k (by decide)).trans gI_s) gI_s
      · exact wrd (by omega) h86 _ (hE.pI (by decide)) (fun j hj => ((gI_k (by omega)).trans (hF j hj))) ((gI_k (by decide)).trans h6) gI_s
    · refine x_aload_n 67 0 (ab_dd tk_m_next 32 rfl) rfl rfl rfl ?_
      refine x_bipush 69 24 (ab_dd tk_m_next 33 rfl) rfl (by decide) (x_topn 24 rfl ?_)
      refine t_putI 72 (ab_dd tk_m_next 34 rfl) rfl F_m_125 (by decide) (Nat.lt_of_lt_of_le (by decide) (show mSh S1 from hm.eq hE).1) ((show mSh S1 from hm.eq hE).2.1 0 (by decide)) rfl rfl rfl ?_
      refine x_goto 294 (ab_dd tk_m_next 35 rfl) (by decide) ?_
      exact x_vret (ab_dd tk_m_next 145 rfl) ⟨rfl, _, rfl, ((hE.pI (by decide)).pI (by decide)), ⟨((gI_k (by decide)).trans ((gI_k (by decide)).trans h6)), (((gI_k (by decide)).trans gI_s)).trans (congrArg nI (tE_e (by omega)).symm), (gI_s).trans (congrArg nI (tK_e (by omega)).symm), fun z => absurd z (by rw [tK_e (by omega)]; decide)⟩, fun j hj => ((gI_k (by omega)).trans (((gI_k (by omega)).trans (hF j hj))))⟩
  have bl : ∀ (m k : Nat), k + m = n → ∀ S1 : ab_S, sEq [120] S S1 → (∀ j, (j < 6 ∨ j = 8 ∨ 10 < j) → sI S1 120 j = sI S 120 j) → sI S1 120 6 = nI k → scn isBl tp m k = (tS tp n p) → ab_Ex G 5 M_m_next 8 [some (.ref 120), none] [] (sw S1) (fun v w' => v = none ∧ ∃ S', w' = sw S' ∧ sEq [120] S S' ∧ tok S' tp n p ∧ ∀ j, (j < 6 ∨ j = 8 ∨ 10 < j) → sI S' 120 j = sI S 120 j) := by
    intro m
    induction m with
    | zero =>
      intro k hk S1 hE hF h6 hsc
      refine x_aload_n 9 0 (ab_dd tk_m_next 4 rfl) rfl rfl rfl ?_
      refine x_aload_n 10 0 (ab_dd tk_m_next 5 rfl) rfl rfl rfl ?_
      refine t_getI 13 (ab_dd tk_m_next 6 rfl) rfl F_m_115 (by decide) (Nat.lt_of_lt_of_le (by decide) (show mSh S1 from hm.eq hE).1) ((show mSh S1 from hm.eq hE).2.1 0 (by decide)) rfl (x_topn k h6 ?_)
      refine t_callV 16 M_m_see 0 1 [_] (ab_dd tk_m_next 7 rfl) rfl (by decide) K_m_see V_m_see.1 V_m_see.2 L_m_121 rfl (Nat.le_of_ble_eq_true rfl) (by decide) (Nat.lt_of_lt_of_le (by decide) (show mSh S1 from hm.eq hE).1) ((show mSh S1 from hm.eq hE).2.1 0 (by decide)) rfl (c_m_seeE (by exact (show mSh S1 from hm.eq hE)) (by exact (hT.eq hE (by decide))) hn (by exact ((hF 8 (by omega)).trans hs)) k (by omega) (by omega)) (fun v1 w1 h1 => ?_)
      obtain ⟨rfl, rfl⟩ := h1
      refine x_bipush 18 10 (ab_dd tk_m_next 8 rfl) rfl (by decide) (x_topn 10 rfl ?_)
      refine x_icmp_eq_f 21 (ab_dd tk_m_next 9 rfl) rfl 34 (by decide) (by decide) ?_
      refine x_aload_n 22 0 (ab_dd tk_m_next 10 rfl) rfl rfl rfl ?_
      refine x_aload_n 23 0 (ab_dd tk_m_next 11 rfl) rfl rfl rfl ?_
      refine t_getI 26 (ab_dd tk_m_next 12 rfl) rfl F_m_115 (by decide) (Nat.lt_of_lt_of_le (by decide) (show mSh S1 from hm.eq hE).1) ((show mSh S1 from hm.eq hE).2.1 0 (by decide)) rfl (x_topn k h6 ?_)
      refine t_callV 29 M_m_see 0 1 [_] (ab_dd tk_m_next 13 rfl) rfl (by decide) K_m_see V_m_see.1 V_m_see.2 L_m_121 rfl (Nat.le_of_ble_eq_true rfl) (by decide) (Nat.lt_of_lt_of_le (by decide) (show mSh S1 from hm.eq hE).1) ((show mSh S1 from hm.eq hE).2.1 0 (by decide)) rfl (c_m_seeE (by exact (show mSh S1 from hm.eq hE)) (by exact (hT.eq hE (by decide))) hn (by exact ((hF 8 (by omega)).trans hs)) k (by omega) (by omega)) (fun v1 w1 h1 => ?_)
      obtain ⟨rfl, rfl⟩ := h1
      refine x_bipush 31 32 (ab_dd tk_m_next 14 rfl) rfl (by decide) (x_topn 32 rfl ?_)
      refine x_icmp_ne_t 47 (ab_dd tk_m_next 15 rfl) (by decide) (by decide) ?_
      exact fin S1 hE hF (h6.trans (congrArg nI hsc))
    | succ m ih =>
      intro k hk S1 hE hF h6 hsc
      have hk8 := (hT k (by omega)).2
      refine x_aload_n 9 0 (ab_dd tk_m_next 4 rfl) rfl rfl rfl ?_
      refine x_aload_n 10 0 (ab_dd tk_m_next 5 rfl) rfl rfl rfl ?_
      refine t_getI 13 (ab_dd tk_m_next 6 rfl) rfl F_m_115 (by decide) (Nat.lt_of_lt_of_le (by decide) (show mSh S1 from hm.eq hE).1) ((show mSh S1 from hm.eq hE).2.1 0 (by decide)) rfl (x_topn k h6 ?_)
      refine t_callV 16 M_m_see 0 1 [_] (ab_dd tk_m_next 7 rfl) rfl (by decide) K_m_see V_m_see.1 V_m_see.2 L_m_121 rfl (Nat.le_of_ble_eq_true rfl) (by decide) (Nat.lt_of_lt_of_le (by decide) (show mSh S1 from hm.eq hE).1) ((show mSh S1 from hm.eq hE).2.1 0 (by decide)) rfl (c_m_seeL (by exact (show mSh S1 from hm.eq hE)) (by exact (hT.eq hE (by decide))) hn (by exact ((hF 8 (by omega)).trans hs)) k (by omega)) (fun v1 w1 h1 => ?_)
      obtain ⟨rfl, rfl⟩ := h1
      refine x_bipush 18 10 (ab_dd tk_m_next 8 rfl) rfl (by decide) (x_topn 10 rfl ?_)
      refine xn_icmp_eq 21 34 (ab_dd tk_m_next 9 rfl) rfl (by decide) (by omega) (by omega) (fun h18 => ?_) (fun h18 => ?_)
      · refine x_aload_n 35 0 (ab_dd tk_m_next 16 rfl) rfl rfl rfl ?_
        refine x_dup 36 (ab_dd tk_m_next 17 rfl) rfl rfl ?_
        refine t_getI 39 (ab_dd tk_m_next 18 rfl) rfl F_m_115 (by decide) (Nat.lt_of_lt_of_le (by decide) (show mSh S1 from hm.eq hE).1) ((show mSh S1 from hm.eq hE).2.1 0 (by decide)) rfl (x_topn k h6 ?_)
        refine x_iconst 40 1 (ab_dd tk_m_next 19 rfl) rfl (by decide) (x_topn 1 rfl ?_)
        refine x_iadd 41 (ab_dd tk_m_next 20 rfl) rfl (x_topn (k + 1) (nI_add _ _) ?_)
        refine t_putI 44 (ab_dd tk_m_next 21 rfl) rfl F_m_115 (by decide) (Nat.lt_of_lt_of_le (by decide) (show mSh S1 from hm.eq hE).1) ((show mSh S1 from hm.eq hE).2.1 0 (by decide)) rfl rfl rfl ?_
        refine x_goto 8 (ab_dd tk_m_next 22 rfl) (by decide) ?_
        exact ih (k + 1) (by omega) _ (hE.pI (by decide)) (fun j hj => ((gI_k (by omega)).trans (hF j hj))) gI_s ((scn_y (isBl_i.mpr (Or.inl h18))).symm.trans hsc)
      · refine x_aload_n 22 0 (ab_dd tk_m_next 10 rfl) rfl rfl rfl ?_
        refine x_aload_n 23 0 (ab_dd tk_m_next 11 rfl) rfl rfl rfl ?_
        refine t_getI 26 (ab_dd tk_m_next 12 rfl) rfl F_m_115 (by decide) (Nat.lt_of_lt_of_le (by decide) (show mSh S1 from hm.eq hE).1) ((show mSh S1 from hm.eq hE).2.1 0 (by decide)) rfl (x_topn k h6 ?_)
        refine t_callV 29 M_m_see 0 1 [_] (ab_dd tk_m_next 13 rfl) rfl (by decide) K_m_see V_m_see.1 V_m_see.2 L_m_121 rfl (Nat.le_of_ble_eq_true rfl) (by decide) (Nat.lt_of_lt_of_le (by decide) (show mSh S1 from hm.eq hE).1) ((show mSh S1 from hm.eq hE).2.1 0 (by decide)) rfl (c_m_seeL (by exact (show mSh S1 from hm.eq hE)) (by exact (hT.eq hE (by decide))) hn (by exact ((hF 8 (by omega)).trans hs)) k (by omega)) (fun v1 w1 h1 => ?_)
        obtain ⟨rfl, rfl⟩ := h1
        refine x_bipush 31 32 (ab_dd tk_m_next 14 rfl) rfl (by decide) (x_topn 32 rfl ?_)
        refine xn_icmp_ne 34 47 (ab_dd tk_m_next 15 rfl) rfl (by decide) (by omega) (by omega) (fun h31 => ?_) (fun h31 => ?_)
        · exact fin S1 hE hF (h6.trans (congrArg nI ((scn_n (fun z => (isBl_i.mp z).elim h18 h31)).symm.trans hsc)))
        · refine x_aload_n 35 0 (ab_dd tk_m_next 16 rfl) rfl rfl rfl ?_
          refine x_dup 36 (ab_dd tk_m_next 17 rfl) rfl rfl ?_
          refine t_getI 39 (ab_dd tk_m_next 18 rfl) rfl F_m_115 (by decide) (Nat.lt_of_lt_of_le (by decide) (show mSh S1 from hm.eq hE).1) ((show mSh S1 from hm.eq hE).2.1 0 (by decide)) rfl (x_topn k h6 ?_)
          refine x_iconst 40 1 (ab_dd tk_m_next 19 rfl) rfl (by decide) (x_topn 1 rfl ?_)
          refine x_iadd 41 (ab_dd tk_m_next 20 rfl) rfl (x_topn (k + 1) (nI_add _ _) ?_)
          refine t_putI 44 (ab_dd tk_m_next 21 rfl) rfl F_m_115 (by decide) (Nat.lt_of_lt_of_le (by decide) (show mSh S1 from hm.eq hE).1) ((show mSh S1 from hm.eq hE).2.1 0 (by decide)) rfl rfl rfl ?_
          refine x_goto 8 (ab_dd tk_m_next 22 rfl) (by decide) ?_
          exact ih (k + 1) (by omega) _ (hE.pI (by decide)) (fun j hj => ((gI_k (by omega)).trans (hF j hj))) gI_s ((scn_y (isBl_i.mpr (Or.inr h31))).symm.trans hsc)
  refine x_aload_n 1 0 (ab_dd tk_m_next 0 rfl) rfl rfl rfl ?_
  refine x_aload_n 2 0 (ab_dd tk_m_next 1 rfl) rfl rfl rfl ?_
  refine t_getI 5 (ab_dd tk_m_next 2 rfl) rfl F_m_118 (by decide) (Nat.lt_of_lt_of_le (by decide) hm.1) (hm.2.1 0 (by decide)) rfl (x_topn p hb ?_)
  refine t_putI 8 (ab_dd tk_m_next 3 rfl) rfl F_m_115 (by decide) (Nat.lt_of_lt_of_le (by decide) hm.1) (hm.2.1 0 (by decide)) rfl rfl rfl ?_
  exact bl (n - p) p (by omega) _ ((sEq.rf (l := [120])).pI (by decide)) (fun j hj => ((gI_k (by omega)).trans (rfl))) gI_s rfl
