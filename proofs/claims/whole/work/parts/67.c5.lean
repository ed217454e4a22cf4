theorem pk_m2 {n : Nat} (h : 2 ≤ n) : nI n + Int32.ofInt (-2) = nI (n - 2) := nI_dec (Int32.ofInt (-2)) 2 (by decide) h
/-- codes of these forms alone -/
def lwCd (cd : Nat → Int32) (n : Nat) : Prop := ∀ j, j < n → ∃ y, cd j = nI y ∧ (y < 1009 ∨ (3000 ≤ y ∧ y ≤ 3009))
/-- the pile never passes 80, and what is chosen by is a truth -/
def lwT (cd : Nat → Int32) (n : Nat) : Prop := ∀ j, j < n → ∀ (wd f : Nat → Int32), (lwE wd cd j (0, f)).1 ≤ 80 ∧ (cd j < 3000 → (lwE wd cd j (0, f)).1 < 80) ∧ (cd j = 3009 → (lwE wd cd j (0, f)).2 ((lwE wd cd j (0, f)).1 - 3) = 0 ∨ (lwE wd cd j (0, f)).2 ((lwE wd cd j (0, f)).1 - 3) = 1)
def lawOk (u : Int32) (cd : Nat → Int32) (n : Nat) : Prop := lwW u cd n ∧ lwCd cd n ∧ lwT cd n ∧ n ≤ 900
theorem nI_l3 {y : Nat} (h : y < 2 ^ 31) : (nI y < (3000 : Int32)) ↔ y < 3000 := nI_ltI h (b := 3000) (by decide)
theorem nI_l1 {y : Nat} (h : y < 2 ^ 31) : (nI y < (1000 : Int32)) ↔ y < 1000 := nI_ltI h (b := 1000) (by decide)
theorem nI_e6 {y : Nat} (h : y < 2 ^ 31) : (nI y = (3006 : Int32)) ↔ y = 3006 := nI_eq h (b := 3006) (by decide)
theorem nI_e9 {y : Nat} (h : y < 2 ^ 31) : (nI y = (3009 : Int32)) ↔ y = 3009 := nI_eq h (b := 3009) (by decide)
theorem lwS_A {wd : Nat → Int32} {y : Nat} {st : Nat × (Nat → Int32)} (h : y < 1000) : lwS wd (nI y) st = (st.1 + 1, upd st.2 st.1 (nI y)) := by
  unfold lwS
  rw [if_pos ((nI_l3 (by omega)).mpr (by omega)), if_pos ((nI_l1 (by omega)).mpr h)]
theorem lwS_B {wd : Nat → Int32} {y : Nat} {st : Nat × (Nat → Int32)} (h : 1000 ≤ y) (h2 : y < 1009) : lwS wd (nI y) st = (st.1 + 1, upd st.2 st.1 (wd (y - 1000))) := by
  unfold lwS
  rw [if_pos ((nI_l3 (by omega)).mpr (by omega)), if_neg (fun z => absurd ((nI_l1 (by omega)).mp z) (by omega))]
  rw [show nI y - 1000 = nI (y - 1000) from pk_sub (by omega), cN_nI (by omega)]
theorem lwS_C {wd : Nat → Int32} {st : Nat × (Nat → Int32)} : lwS wd (nI 3009) st = (st.1 - 2, upd st.2 (st.1 - 3) (if st.2 (st.1 - 3) = 1 then st.2 (st.1 - 2) else st.2 (st.1 - 1))) := rfl
theorem lwS_D {wd : Nat → Int32} {st : Nat × (Nat → Int32)} : lwS wd (nI 3006) st = (st.1, upd st.2 (st.1 - 1) (1 - st.2 (st.1 - 1))) := rfl
theorem lwS_E {wd : Nat → Int32} {y : Nat} {st : Nat × (Nat → Int32)} (h : 3000 ≤ y) (h2 : y ≤ 3008) (h6 : y ≠ 3006) : lwS wd (nI y) st = (st.1 - 1, upd st.2 (st.1 - 2) (lwB (nI y) (st.2 (st.1 - 2)) (st.2 (st.1 - 1)))) := by
  have hy : y = 3000 ∨ y = 3001 ∨ y = 3002 ∨ y = 3003 ∨ y = 3004 ∨ y = 3005 ∨ y = 3007 ∨ y = 3008 := by omega
  rcases hy with rfl | rfl | rfl | rfl | rfl | rfl | rfl | rfl <;> rfl
theorem cvt_all : (List.range 1009).all (fun y => decide (¬ cvt (nI y) ≤ -10) && (decide (1000 ≤ y) || (decide (cvt (nI y) = nI y) && decide (¬ cvt (nI y) < 0))) && (decide (y < 1000) || (decide (cvt (nI y) < 0) && decide (0 - cvt (nI y) = nI (y - 999))))) = true := by decide +kernel
theorem cvt_lo {y : Nat} (h : y < 1009) : ¬ cvt (nI y) ≤ -10 ∧ (y < 1000 → cvt (nI y) = nI y ∧ ¬ cvt (nI y) < 0) ∧ (1000 ≤ y → cvt (nI y) < 0 ∧ 0 - cvt (nI y) = nI (y - 999)) := by
  have h0 := cvt_all
  rw [List.all_eq_true] at h0
  have h1 := h0 y (List.mem_range.mpr h)
  simp only [Bool.and_eq_true, Bool.or_eq_true, decide_eq_true_iff] at h1
  obtain ⟨⟨h1, h2⟩, h3⟩ := h1
  refine ⟨h1, fun z => ?_, fun z => ?_⟩
  · rcases h2 with h2 | h2
    · omega
    · exact h2
  · rcases h3 with h3 | h3
    · omega
    · exact h3
theorem cvt_hi {y : Nat} (h : 3000 ≤ y) (h2 : y ≤ 3009) : cvt (nI y) ≤ -10 ∧ (y ≠ 3009 → cvt (nI y) ≠ -19) ∧ (y = 3009 → cvt (nI y) = -19) ∧ (y ≠ 3006 → cvt (nI y) ≠ -16) ∧ (y = 3006 → cvt (nI y) = -16) := by
  have hy : y = 3000 ∨ y = 3001 ∨ y = 3002 ∨ y = 3003 ∨ y = 3004 ∨ y = 3005 ∨ y = 3006 ∨ y = 3007 ∨ y = 3008 ∨ y = 3009 := by omega
  rcases hy with rfl | rfl | rfl | rfl | rfl | rfl | rfl | rfl | rfl | rfl <;> decide
theorem upd_row {S : ab_S} {F : Nat → Int32} {a : Nat} (j : Nat) (v : Int32) (h : sI S a = F) : sI (pI S a j v) a = upd F j v := by
  rw [← h]
  funext i
  show up2 (sI S) a j v a i = _
  unfold up2 upd
  rw [if_pos rfl]
def tb_cl_worked : List (Nat × Instr × Nat) := [(0, .iconst 0, 1), (1, .istore_n 2, 1), (2, .iconst 0, 1), (3, .istore_n 3, 1), (4, .aload_n 1, 1), (5, .ifnull 192, 3), (8, .iload_n 3, 1), (9, .aload_n 1, 1), (10, .arraylength, 1), (11, .if_icmp .ge 186, 3), (14, .aload_n 1, 1), (15, .iload_n 3, 1), (16, .iaload, 1), (17, .istore 4, 2), (19, .iload 4, 2), (21, .bipush (-10), 2), (23, .if_icmp .le 42, 3), (26, .iload_n 2, 1), (27, .aload_n 0, 1), (28, .getfield 44, 3), (31, .arraylength, 1), (32, .if_icmp .ge 159, 3), (35, .aload_n 0, 1), (36, .getfield 44, 3), (39, .iload_n 2, 1), (40, .iload 4, 2), (42, .ifCond .lt 8, 3), (45, .iload 4, 2), (47, .goto 11, 3), (50, .aload_n 0, 1), (51, .getfield 41, 3), (54, .iload 4, 2), (56, .ineg, 1), (57, .iaload, 1), (58, .iastore, 1), (59, .iinc 2 1, 3), (62, .goto 129, 3), (65, .iload 4, 2), (67, .bipush (-19), 2), (69, .if_icmp .ne 52, 3), (72, .iload_n 2, 1), (73, .iconst 3, 1), (74, .if_icmp .lt 47, 3), (77, .aload_n 0, 1), (78, .getfield 44, 3), (81, .iload_n 2, 1), (82, .iconst 3, 1), (83, .isub, 1), (84, .aload_n 0, 1), (85, .getfield 44, 3), (88, .iload_n 2, 1), (89, .iconst 3, 1), (90, .isub, 1), (91, .iaload, 1), (92, .ifCond .eq 14, 3), (95, .aload_n 0, 1), (96, .getfield 44, 3), (99, .iload_n 2, 1), (100, .iconst 2, 1), (101, .isub, 1), (102, .iaload, 1), (103, .goto 11, 3), (106, .aload_n 0, 1), (107, .getfield 44, 3), (110, .iload_n 2, 1), (111, .iconst 1, 1), (112, .isub, 1), (113, .iaload, 1), (114, .iastore, 1), (115, .iinc 2 (-2), 3), (118, .goto 73, 3), (121, .iload 4, 2), (123, .bipush (-16), 2), (125, .if_icmp .ne 29, 3), (128, .iload_n 2, 1), (129, .iconst 1, 1), (130, .if_icmp .lt 24, 3), (133, .aload_n 0, 1), (134, .getfield 44, 3), (137, .iload_n 2, 1), (138, .iconst 1, 1), (139, .isub, 1), (140, .iconst 1, 1), (141, .aload_n 0, 1), (142, .getfield 44, 3), (145, .iload_n 2, 1), (146, .iconst 1, 1), (147, .isub, 1), (148, .iaload, 1), (149, .isub, 1), (150, .iastore, 1), (151, .goto 40, 3), (154, .iload_n 2, 1), (155, .iconst 2, 1), (156, .if_icmp .lt 35, 3), (159, .aload_n 0, 1), (160, .getfield 44, 3), (163, .iload_n 2, 1), (164, .iconst 2, 1), (165, .isub, 1), (166, .iload 4, 2), (168, .aload_n 0, 1), (169, .getfield 44, 3), (172, .iload_n 2, 1), (173, .iconst 2, 1), (174, .isub, 1), (175, .iaload, 1), (176, .aload_n 0, 1), (177, .getfield 44, 3), (180, .iload_n 2, 1), (181, .iconst 1, 1), (182, .isub, 1), (183, .iaload, 1), (184, .invokestatic 113, 3), (187, .iastore, 1), (188, .iinc 2 (-1), 3), (191, .iinc 3 1, 3), (194, .goto (-190), 3), (197, .iload_n 2, 1), (198, .ifCond .le 12, 3), (201, .aload_n 0, 1), (202, .getfield 44, 3), (205, .iconst 0, 1), (206, .iaload, 1), (207, .goto 4, 3), (210, .iconst 0, 1), (211, .ireturn, 1)]
theorem tk_cl_worked : ∀ q ∈ tb_cl_worked, decode M_cl_worked.2.1 q.1 = .ok q.2 := by decide +kernel
theorem c_cl_worked {G : ab_G} {S : ab_S} {x : Nat} (hK : clK S x) {b n : Nat} (hb1 : 50 ≤ b) (hb2 : b < sn S) (hb3 : sK S b = .inl (.int, n)) (hbx : b ≠ x + 9) {u : Int32} {cd : Nat → Int32} (hL : lawOk u cd n) (hbv : ∀ j, j < n → sI S b j = cvt (cd j)) {wd : Nat → Int32} (hwd : ∀ i, i < 9 → sI S (x + 8) (i + 1) = wd i) : ab_C G 1 M_cl_worked [.ref x, .ref b] (sw S) (fun v w' => v = some (.int (lvV wd cd n)) ∧ ∃ S', w' = sw S' ∧ sEq [x + 9] S S') := by
  refine x_enter [some (.ref x), some (.ref b), none, none, none] (by decide) (Nat.le_of_ble_eq_true rfl) rfl (fun v w' h => by obtain ⟨rfl, -⟩ := h; rfl) ?_
  obtain ⟨hW, hC, hT, hn9⟩ := hL
  have lp : ∀ (m j : Nat), j + m = n → ∀ (S1 : ab_S) (y : Option Value), sEq [x + 9] S S1 → sI S1 (x + 9) = (lwE wd cd j (0, sI S (x + 9))).2 → ab_Ex G 1 M_cl_worked 4 [some (.ref x), some (.ref b), some (.int (nI (lwE wd cd j (0, sI S (x + 9))).1)), some (.int (nI j)), y] [] (sw S1) (fun v w' => v = some (.int (lvV wd cd n)) ∧ ∃ S', w' = sw S' ∧ sEq [x + 9] S S') := by
    intro m
    induction m with
    | zero =>
      intro j hj S1 y hE hf
      obtain rfl : n = j := by omega
      refine x_forget 4 ?_
      have hK1 : clK S1 x := hK.eq hE
      have hb2b : b < sn S1 := by rw [hE.2.2.2.2.2.1]; exact hb2
      have hb3b : sK S1 b = .inl (.int, n) := by rw [hE.2.1]; exact hb3
      have hht := lwE_ht wd cd (sI S (x + 9)) n
      have hpos := hW.2
      have hle := lwE_h wd cd (sI S (x + 9)) n
      have hv := lvV_ok (wd := wd) hW (sI S (x + 9))
      refine x_aload_n 5 1 (ab_dd tk_cl_worked 4 rfl) rfl rfl rfl ?_
      refine x_ifnull_f 8 (ab_dd tk_cl_worked 5 rfl) rfl ?_
      refine x_iload_n 9 3 (ab_dd tk_cl_worked 6 rfl) rfl rfl rfl ?_
      refine x_aload_n 10 1 (ab_dd tk_cl_worked 7 rfl) rfl rfl rfl ?_
      refine t_alen 11 0 (ab_dd tk_cl_worked 8 rfl) rfl hb1 hb2b rfl hb3b ?_
      refine x_icmp_ge_t 197 (ab_dd tk_cl_worked 9 rfl) (by decide) ((nI_leI (a := n) (b := n) (by omega) (by omega)).mpr (show n ≤ n by omega)) ?_
      refine x_iload_n 198 2 (ab_dd tk_cl_worked 118 rfl) rfl rfl rfl ?_
      refine x_if_le_f 201 (ab_dd tk_cl_worked 119 rfl) rfl 210 (by decide) (fun z => absurd ((nI_leI (a := ((lwE wd cd n (0, sI S (x + 9))).1)) (b := 0) (by omega) (by omega)).mp z) (show ¬ (((lwE wd cd n (0, sI S (x + 9))).1) ≤ 0) by omega)) ?_
      refine x_aload_n 202 0 (ab_dd tk_cl_worked 120 rfl) rfl rfl rfl ?_
      refine t_getP 205 (x + 9) (ab_dd tk_cl_worked 121 rfl) rfl F_cl_44 (by rcases hK1.1 with z | z <;> omega) (Nat.lt_of_le_of_lt (Nat.le_add_right x 9) hK1.2.1) hK1.2.2.1 rfl hK1.2.2.2.2.2.2.2.2.2.2.2.2.2 ?_
      refine x_iconst 206 0 (ab_dd tk_cl_worked 122 rfl) rfl (by decide) (x_topn 0 rfl ?_)
      refine t_iald 207 0 (ab_dd tk_cl_worked 123 rfl) rfl (by rcases hK1.1 with z | z <;> omega) (Nat.lt_of_le_of_lt (Nat.add_le_add_left (by decide) x) hK1.2.1) hK1.2.2.2.2.2.2.2.1 rfl (by decide) (by decide) (x_topx (lvV wd cd n) ((congrFun hf 0).trans hv) ?_)
      refine x_goto 211 (ab_dd tk_cl_worked 124 rfl) (by decide) ?_
      exact x_iret (ab_dd tk_cl_worked 126 rfl) ⟨rfl, _, rfl, hE⟩
    | succ m ih =>
      intro j hj S1 y hE hf
      refine x_forget 4 ?_
      have hjn : j < n := by omega
      have hK1 : clK S1 x := hK.eq hE
      have hb2b : b < sn S1 := by rw [hE.2.2.2.2.2.1]; exact hb2
      have hb3b : sK S1 b = .inl (.int, n) := by rw [hE.2.1]; exact hb3
      have hbj : sI S1 b j = cvt (cd j) := by rw [hE.2.2.1 b (fun z => hbx (List.mem_singleton.mp z))]; exact hbv j hjn
      have hle := lwE_h wd cd (sI S (x + 9)) j
      have hht := lwE_ht wd cd (sI S (x + 9)) j
      obtain ⟨hk, -⟩ := hW.1 j hjn
      rw [← hht] at hk
      obtain ⟨ht0, ht1, ht2⟩ := hT j hjn wd (sI S (x + 9))
      obtain ⟨yc, hcy, hyr⟩ := hC j hjn
      have hun : lwE wd cd (j + 1) (0, sI S (x + 9)) = lwS wd (cd j) (lwE wd cd j (0, sI S (x + 9))) := rfl
      rw [hcy] at hbj hk ht1 ht2 hun
      generalize (lwE wd cd j (0, sI S (x + 9))) = L at hf hle hk ht0 ht1 ht2 hun ⊢
      rcases Nat.lt_or_ge yc 1000 with hA | hA
      · have hcl := cvt_lo (show yc < 1009 by omega)
        have hc1 := (hcl.2.1 hA).1
        have h80 := ht1 ((nI_l3 (by omega)).mpr (by omega))
        refine x_aload_n 5 1 (ab_dd tk_cl_worked 4 rfl) rfl rfl rfl ?_
        refine x_ifnull_f 8 (ab_dd tk_cl_worked 5 rfl) rfl ?_
        refine x_iload_n 9 3 (ab_dd tk_cl_worked 6 rfl) rfl rfl rfl ?_
        refine x_aload_n 10 1 (ab_dd tk_cl_worked 7 rfl) rfl rfl rfl ?_
        refine t_alen 11 0 (ab_dd tk_cl_worked 8 rfl) rfl hb1 hb2b rfl hb3b ?_
        refine x_icmp_ge_f 14 (ab_dd tk_cl_worked 9 rfl) rfl 197 (by decide) (fun z => absurd ((nI_leI (a := n) (b := j) (by omega) (by omega)).mp z) (show ¬ (n ≤ j) by omega)) ?_
        refine x_aload_n 15 1 (ab_dd tk_cl_worked 10 rfl) rfl rfl rfl ?_
        refine x_iload_n 16 3 (ab_dd tk_cl_worked 11 rfl) rfl rfl rfl ?_
        refine t_iald 17 j (ab_dd tk_cl_worked 12 rfl) rfl hb1 hb2b hb3b rfl (by omega) (by omega) (x_topx (cvt (nI yc)) hbj ?_)
        refine x_istore 19 [some (.ref x), some (.ref b), some (.int (nI L.1)), some (.int (nI j)), some (.int ((cvt (nI yc))))] 4 (ab_dd tk_cl_worked 13 rfl) rfl (by decide) rfl ?_
        refine x_iload 21 4 (ab_dd tk_cl_worked 14 rfl) rfl rfl ?_
        refine x_bipush 23 (-10) (ab_dd tk_cl_worked 15 rfl) rfl (by decide) ?_
        refine x_icmp_le_f 26 (ab_dd tk_cl_worked 16 rfl) rfl 65 (by decide) hcl.1 ?_
        refine x_iload_n 27 2 (ab_dd tk_cl_worked 17 rfl) rfl rfl rfl ?_
        refine x_aload_n 28 0 (ab_dd tk_cl_worked 18 rfl) rfl rfl rfl ?_
        refine t_getP 31 (x + 9) (ab_dd tk_cl_worked 19 rfl) rfl F_cl_44 (by rcases hK1.1 with z | z <;> omega) (Nat.lt_of_le_of_lt (Nat.le_add_right x 9) hK1.2.1) hK1.2.2.1 rfl hK1.2.2.2.2.2.2.2.2.2.2.2.2.2 ?_
        refine t_alen 32 0 (ab_dd tk_cl_worked 20 rfl) rfl (by rcases hK1.1 with z | z <;> omega) (Nat.lt_of_le_of_lt (Nat.add_le_add_left (by decide) x) hK1.2.1) rfl hK1.2.2.2.2.2.2.2.1 ?_
        refine x_icmp_ge_f 35 (ab_dd tk_cl_worked 21 rfl) rfl 191 (by decide) (fun z => absurd ((nI_leI (a := 80) (b := L.1) (by omega) (by omega)).mp z) (show ¬ (80 ≤ L.1) by omega)) ?_
        refine x_aload_n 36 0 (ab_dd tk_cl_worked 22 rfl) rfl rfl rfl ?_
        refine t_getP 39 (x + 9) (ab_dd tk_cl_worked 23 rfl) rfl F_cl_44 (by rcases hK1.1 with z | z <;> omega) (Nat.lt_of_le_of_lt (Nat.le_add_right x 9) hK1.2.1) hK1.2.2.1 rfl hK1.2.2.2.2.2.2.2.2.2.2.2.2.2 ?_
        refine x_iload_n 40 2 (ab_dd tk_cl_worked 24 rfl) rfl rfl rfl ?_
        refine x_iload 42 4 (ab_dd tk_cl_worked 25 rfl) rfl rfl ?_
        refine x_if_lt_f 45 (ab_dd tk_cl_worked 26 rfl) rfl 50 (by decide) (hcl.2.1 hA).2 ?_
        refine x_iload 47 4 (ab_dd tk_cl_worked 27 rfl) rfl rfl ?_
        refine x_goto 58 (ab_dd tk_cl_worked 28 rfl) (by decide) ?_
        refine t_iast 59 L.1 (ab_dd tk_cl_worked 34 rfl) rfl (by rcases hK1.1 with z | z <;> omega) (Nat.lt_of_le_of_lt (Nat.add_le_add_left (by decide) x) hK1.2.1) hK1.2.2.2.2.2.2.2.1 rfl (by omega) (by decide) ?_
        refine xn_iinc 62 2 (fun y => [some (.ref x), some (.ref b), some (.int y), some (.int (nI j)), some (.int ((cvt (nI yc))))]) (L.1 + 1) (ab_dd tk_cl_worked 35 rfl) rfl (by decide) rfl (fun _ => rfl) (iinc_p 1) ?_
        refine x_goto 191 (ab_dd tk_cl_worked 36 rfl) (by decide) ?_
        refine xn_iinc 194 3 (fun y => [some (.ref x), some (.ref b), some (.int (nI (L.1 + 1))), some (.int y), some (.int ((cvt (nI yc))))]) (j + 1) (ab_dd tk_cl_worked 116 rfl) rfl (by decide) rfl (fun _ => rfl) (iinc_p 1) ?_
        refine x_goto 4 (ab_dd tk_cl_worked 117 rfl) (by decide) ?_
        refine ih (j + 1) (by omega) _ _ (hE.pI (List.Mem.head _)) ?_ |> (fun z => by
          rw [hun, lwS_A hA] at z
          exact z)
        rw [hun, lwS_A hA]
        exact (upd_row L.1 _ hf).trans (by rw [hc1])
      · rcases Nat.lt_or_ge yc 1009 with hB | hB
        · have hcl := cvt_lo hB
          have h80 := ht1 ((nI_l3 (by omega)).mpr (by omega))
          have hwv : sI S1 (x + 8) (yc - 999) = wd (yc - 1000) := by
            rw [hE.2.2.1 (x + 8) (by intro z; have := List.mem_singleton.mp z; omega), ← hwd (yc - 1000) (by omega), show yc - 1000 + 1 = yc - 999 by omega]
          refine x_aload_n 5 1 (ab_dd tk_cl_worked 4 rfl) rfl rfl rfl ?_
          refine x_ifnull_f 8 (ab_dd tk_cl_worked 5 rfl) rfl ?_
          refine x_iload_n 9 3 (ab_dd tk_cl_worked 6 rfl) rfl rfl rfl ?_
          refine x_aload_n 10 1 (ab_dd tk_cl_worked 7 rfl) rfl rfl rfl ?_
          refine t_alen 11 0 (ab_dd tk_cl_worked 8 rfl) rfl hb1 hb2b rfl hb3b ?_
          refine x_icmp_ge_f 14 (ab_dd tk_cl_worked 9 rfl) rfl 197 (by decide) (fun z => absurd ((nI_leI (a := n) (b := j) (by omega) (by omega)).mp z) (show ¬ (n ≤ j) by omega)) ?_
          refine x_aload_n 15 1 (ab_dd tk_cl_worked 10 rfl) rfl rfl rfl ?_
          refine x_iload_n 16 3 (ab_dd tk_cl_worked 11 rfl) rfl rfl rfl ?_
          refine t_iald 17 j (ab_dd tk_cl_worked 12 rfl) rfl hb1 hb2b hb3b rfl (by omega) (by omega) (x_topx (cvt (nI yc)) hbj ?_)
          refine x_istore 19 [some (.ref x), some (.ref b), some (.int (nI L.1)), some (.int (nI j)), some (.int ((cvt (nI yc))))] 4 (ab_dd tk_cl_worked 13 rfl) rfl (by decide) rfl ?_
          refine x_iload 21 4 (ab_dd tk_cl_worked 14 rfl) rfl rfl ?_
          refine x_bipush 23 (-10) (ab_dd tk_cl_worked 15 rfl) rfl (by decide) ?_
          refine x_icmp_le_f 26 (ab_dd tk_cl_worked 16 rfl) rfl 65 (by decide) hcl.1 ?_
          refine x_iload_n 27 2 (ab_dd tk_cl_worked 17 rfl) rfl rfl rfl ?_
          refine x_aload_n 28 0 (ab_dd tk_cl_worked 18 rfl) rfl rfl rfl ?_
          refine t_getP 31 (x + 9) (ab_dd tk_cl_worked 19 rfl) rfl F_cl_44 (by rcases hK1.1 with z | z <;> omega) (Nat.lt_of_le_of_lt (Nat.le_add_right x 9) hK1.2.1) hK1.2.2.1 rfl hK1.2.2.2.2.2.2.2.2.2.2.2.2.2 ?_
          refine t_alen 32 0 (ab_dd tk_cl_worked 20 rfl) rfl (by rcases hK1.1 with z | z <;> omega) (Nat.lt_of_le_of_lt (Nat.add_le_add_left (by decide) x) hK1.2.1) rfl hK1.2.2.2.2.2.2.2.1 ?_
          refine x_icmp_ge_f 35 (ab_dd tk_cl_worked 21 rfl) rfl 191 (by decide) (fun z => absurd ((nI_leI (a := 80) (b := L.1) (by omega) (by omega)).mp z) (show ¬ (80 ≤ L.1) by omega)) ?_
          refine x_aload_n 36 0 (ab_dd tk_cl_worked 22 rfl) rfl rfl rfl ?_
          refine t_getP 39 (x + 9) (ab_dd tk_cl_worked 23 rfl) rfl F_cl_44 (by rcases hK1.1 with z | z <;> omega) (Nat.lt_of_le_of_lt (Nat.le_add_right x 9) hK1.2.1) hK1.2.2.1 rfl hK1.2.2.2.2.2.2.2.2.2.2.2.2.2 ?_
          refine x_iload_n 40 2 (ab_dd tk_cl_worked 24 rfl) rfl rfl rfl ?_
          refine x_iload 42 4 (ab_dd tk_cl_worked 25 rfl) rfl rfl ?_
          refine x_if_lt_t 50 (ab_dd tk_cl_worked 26 rfl) (by decide) (hcl.2.2 hA).1 ?_
          refine x_aload_n 51 0 (ab_dd tk_cl_worked 29 rfl) rfl rfl rfl ?_
          refine t_getP 54 (x + 8) (ab_dd tk_cl_worked 30 rfl) rfl F_cl_41 (by rcases hK1.1 with z | z <;> omega) (Nat.lt_of_le_of_lt (Nat.le_add_right x 9) hK1.2.1) hK1.2.2.1 rfl hK1.2.2.2.2.2.2.2.2.2.2.2.2.1 ?_
          refine x_iload 56 4 (ab_dd tk_cl_worked 31 rfl) rfl rfl ?_
          refine x_ineg 57 (ab_dd tk_cl_worked 32 rfl) rfl ?_
          refine t_iald 58 (yc - 999) (ab_dd tk_cl_worked 33 rfl) rfl (by rcases hK1.1 with z | z <;> omega) (Nat.lt_of_le_of_lt (Nat.add_le_add_left (by decide) x) hK1.2.1) hK1.2.2.2.2.2.2.1 (by first | exact (hcl.2.2 hA).2 | (rw [← (hcl.2.2 hA).2]; exact (Int32.zero_sub _).symm)) (by omega) (by decide) (x_topx (wd (yc - 1000)) hwv ?_)
          refine t_iast 59 L.1 (ab_dd tk_cl_worked 34 rfl) rfl (by rcases hK1.1 with z | z <;> omega) (Nat.lt_of_le_of_lt (Nat.add_le_add_left (by decide) x) hK1.2.1) hK1.2.2.2.2.2.2.2.1 rfl (by omega) (by decide) ?_
          refine xn_iinc 62 2 (fun y => [some (.ref x), some (.ref b), some (.int y), some (.int (nI j)), some (.int ((cvt (nI yc))))]) (L.1 + 1) (ab_dd tk_cl_worked 35 rfl) rfl (by decide) rfl (fun _ => rfl) (iinc_p 1) ?_
          refine x_goto 191 (ab_dd tk_cl_worked 36 rfl) (by decide) ?_
          refine xn_iinc 194 3 (fun y => [some (.ref x), some (.ref b), some (.int (nI (L.1 + 1))), some (.int y), some (.int ((cvt (nI yc))))]) (j + 1) (ab_dd tk_cl_worked 116 rfl) rfl (by decide) rfl (fun _ => rfl) (iinc_p 1) ?_
          refine x_goto 4 (ab_dd tk_cl_worked 117 rfl) (by decide) ?_
          refine ih (j + 1) (by omega) _ _ (hE.pI (List.Mem.head _)) ?_ |> (fun z => by
            rw [hun, lwS_B hA hB] at z
            exact z)
          rw [hun, lwS_B hA hB]
          exact (upd_row L.1 _ hf).trans (by rfl)
        · have hch := cvt_hi (show 3000 ≤ yc by omega) (by omega)
          rcases Nat.lt_or_ge yc 3009 with hD | hD
          · by_cases h6 : yc = 3006
            · rw [h6] at hbj hk hun hch
              have h1 : 1 ≤ L.1 := hk
              refine x_aload_n 5 1 (ab_dd tk_cl_worked 4 rfl) rfl rfl rfl ?_
              refine x_ifnull_f 8 (ab_dd tk_cl_worked 5 rfl) rfl ?_
              refine x_iload_n 9 3 (ab_dd tk_cl_worked 6 rfl) rfl rfl rfl ?_
              refine x_aload_n 10 1 (ab_dd tk_cl_worked 7 rfl) rfl rfl rfl ?_
              refine t_alen 11 0 (ab_dd tk_cl_worked 8 rfl) rfl hb1 hb2b rfl hb3b ?_
              refine x_icmp_ge_f 14 (ab_dd tk_cl_worked 9 rfl) rfl 197 (by decide) (fun z => absurd ((nI_leI (a := n) (b := j) (by omega) (by omega)).mp z) (show ¬ (n ≤ j) by omega)) ?_
              refine x_aload_n 15 1 (ab_dd tk_cl_worked 10 rfl) rfl rfl rfl ?_
              refine x_iload_n 16 3 (ab_dd tk_cl_worked 11 rfl) rfl rfl rfl ?_
              refine t_iald 17 j (ab_dd tk_cl_worked 12 rfl) rfl hb1 hb2b hb3b rfl (by omega) (by omega) (x_topx (cvt (nI 3006)) hbj ?_)
              refine x_istore 19 [some (.ref x), some (.ref b), some (.int (nI L.1)), some (.int (nI j)), some (.int ((cvt (nI 3006))))] 4 (ab_dd tk_cl_worked 13 rfl) rfl (by decide) rfl ?_
              refine x_iload 21 4 (ab_dd tk_cl_worked 14 rfl) rfl rfl ?_
              refine x_bipush 23 (-10) (ab_dd tk_cl_worked 15 rfl) rfl (by decide) ?_
              refine x_icmp_le_t 65 (ab_dd tk_cl_worked 16 rfl) (by decide) hch.1 ?_
              refine x_iload 67 4 (ab_dd tk_cl_worked 37 rfl) rfl rfl ?_
              refine x_bipush 69 (-19) (ab_dd tk_cl_worked 38 rfl) rfl (by decide) ?_
              refine x_icmp_ne_t 121 (ab_dd tk_cl_worked 39 rfl) (by decide) (hch.2.1 (by decide)) ?_
              refine x_iload 123 4 (ab_dd tk_cl_worked 71 rfl) rfl rfl ?_
              refine x_bipush 125 (-16) (ab_dd tk_cl_worked 72 rfl) rfl (by decide) ?_
              refine x_icmp_ne_f 128 (ab_dd tk_cl_worked 73 rfl) rfl 154 (by decide) (hch.2.2.2.2 rfl) ?_
              refine x_iload_n 129 2 (ab_dd tk_cl_worked 74 rfl) rfl rfl rfl ?_
              refine x_iconst 130 1 (ab_dd tk_cl_worked 75 rfl) rfl (by decide) (x_topn 1 rfl ?_)
              refine x_icmp_lt_f 133 (ab_dd tk_cl_worked 76 rfl) rfl 154 (by decide) (fun z => absurd ((nI_ltI (a := L.1) (b := 1) (by omega) (by omega)).mp z) (show ¬ (L.1 < 1) by omega)) ?_
              refine x_aload_n 134 0 (ab_dd tk_cl_worked 77 rfl) rfl rfl rfl ?_
              refine t_getP 137 (x + 9) (ab_dd tk_cl_worked 78 rfl) rfl F_cl_44 (by rcases hK1.1 with z | z <;> omega) (Nat.lt_of_le_of_lt (Nat.le_add_right x 9) hK1.2.1) hK1.2.2.1 rfl hK1.2.2.2.2.2.2.2.2.2.2.2.2.2 ?_
              refine x_iload_n 138 2 (ab_dd tk_cl_worked 79 rfl) rfl rfl rfl ?_
              refine x_iconst 139 1 (ab_dd tk_cl_worked 80 rfl) rfl (by decide) (x_topn 1 rfl ?_)
              refine x_isub 140 (ab_dd tk_cl_worked 81 rfl) rfl (x_topn (L.1 - 1) (pk_sub (by omega)) ?_)
              refine x_iconst 141 1 (ab_dd tk_cl_worked 82 rfl) rfl (by decide) (x_topn 1 rfl ?_)
              refine x_aload_n 142 0 (ab_dd tk_cl_worked 83 rfl) rfl rfl rfl ?_
              refine t_getP 145 (x + 9) (ab_dd tk_cl_worked 84 rfl) rfl F_cl_44 (by rcases hK1.1 with z | z <;> omega) (Nat.lt_of_le_of_lt (Nat.le_add_right x 9) hK1.2.1) hK1.2.2.1 rfl hK1.2.2.2.2.2.2.2.2.2.2.2.2.2 ?_
              refine x_iload_n 146 2 (ab_dd tk_cl_worked 85 rfl) rfl rfl rfl ?_
              refine x_iconst 147 1 (ab_dd tk_cl_worked 86 rfl) rfl (by decide) (x_topn 1 rfl ?_)
              refine x_isub 148 (ab_dd tk_cl_worked 87 rfl) rfl (x_topn (L.1 - 1) (pk_sub (by omega)) ?_)
              refine t_iald 149 (L.1 - 1) (ab_dd tk_cl_worked 88 rfl) rfl (by rcases hK1.1 with z | z <;> omega) (Nat.lt_of_le_of_lt (Nat.add_le_add_left (by decide) x) hK1.2.1) hK1.2.2.2.2.2.2.2.1 rfl (by omega) (by decide) (x_topx (L.2 (L.1 - 1)) (congrFun hf (L.1 - 1)) ?_)
              refine x_isub 150 (ab_dd tk_cl_worked 89 rfl) rfl ?_
              refine t_iast 151 (L.1 - 1) (ab_dd tk_cl_worked 90 rfl) rfl (by rcases hK1.1 with z | z <;> omega) (Nat.lt_of_le_of_lt (Nat.add_le_add_left (by decide) x) hK1.2.1) hK1.2.2.2.2.2.2.2.1 rfl (by omega) (by decide) ?_
              refine x_goto 191 (ab_dd tk_cl_worked 91 rfl) (by decide) ?_
              refine xn_iinc 194 3 (fun y => [some (.ref x), some (.ref b), some (.int (nI L.1)), some (.int y), some (.int ((cvt (nI 3006))))]) (j + 1) (ab_dd tk_cl_worked 116 rfl) rfl (by decide) rfl (fun _ => rfl) (iinc_p 1) ?_
              refine x_goto 4 (ab_dd tk_cl_worked 117 rfl) (by decide) ?_
              refine ih (j + 1) (by omega) _ _ (hE.pI (List.Mem.head _)) ?_ |> (fun z => by
                rw [hun, lwS_D] at z
                exact z)
              rw [hun, lwS_D]
              exact (upd_row (L.1 - 1) _ hf).trans (by rfl)
            · have h2 : 2 ≤ L.1 := by
                have z := hk
                unfold lwK at z
                rw [if_neg (fun q => absurd ((nI_l3 (by omega)).mp q) (by omega)), if_neg (fun q => h6 ((nI_e6 (by omega)).mp q)), if_neg (fun q => absurd ((nI_e9 (by omega)).mp q) (by omega))] at z
                exact z
              refine x_aload_n 5 1 (ab_dd tk_cl_worked 4 rfl) rfl rfl rfl ?_
              refine x_ifnull_f 8 (ab_dd tk_cl_worked 5 rfl) rfl ?_
              refine x_iload_n 9 3 (ab_dd tk_cl_worked 6 rfl) rfl rfl rfl ?_
              refine x_aload_n 10 1 (ab_dd tk_cl_worked 7 rfl) rfl rfl rfl ?_
              refine t_alen 11 0 (ab_dd tk_cl_worked 8 rfl) rfl hb1 hb2b rfl hb3b ?_
              refine x_icmp_ge_f 14 (ab_dd tk_cl_worked 9 rfl) rfl 197 (by decide) (fun z => absurd ((nI_leI (a := n) (b := j) (by omega) (by omega)).mp z) (show ¬ (n ≤ j) by omega)) ?_
              refine x_aload_n 15 1 (ab_dd tk_cl_worked 10 rfl) rfl rfl rfl ?_
              refine x_iload_n 16 3 (ab_dd tk_cl_worked 11 rfl) rfl rfl rfl ?_
              refine t_iald 17 j (ab_dd tk_cl_worked 12 rfl) rfl hb1 hb2b hb3b rfl (by omega) (by omega) (x_topx (cvt (nI yc)) hbj ?_)
              refine x_istore 19 [some (.ref x), some (.ref b), some (.int (nI L.1)), some (.int (nI j)), some (.int ((cvt (nI yc))))] 4 (ab_dd tk_cl_worked 13 rfl) rfl (by decide) rfl ?_
              refine x_iload 21 4 (ab_dd tk_cl_worked 14 rfl) rfl rfl ?_
              refine x_bipush 23 (-10) (ab_dd tk_cl_worked 15 rfl) rfl (by decide) ?_
              refine x_icmp_le_t 65 (ab_dd tk_cl_worked 16 rfl) (by decide) hch.1 ?_
              refine x_iload 67 4 (ab_dd tk_cl_worked 37 rfl) rfl rfl ?_
              refine x_bipush 69 (-19) (ab_dd tk_cl_worked 38 rfl) rfl (by decide) ?_
              refine x_icmp_ne_t 121 (ab_dd tk_cl_worked 39 rfl) (by decide) (hch.2.1 (by omega)) ?_
              refine x_iload 123 4 (ab_dd tk_cl_worked 71 rfl) rfl rfl ?_
              refine x_bipush 125 (-16) (ab_dd tk_cl_worked 72 rfl) rfl (by decide) ?_
              refine x_icmp_ne_t 154 (ab_dd tk_cl_worked 73 rfl) (by decide) (hch.2.2.2.1 h6) ?_
              refine x_iload_n 155 2 (ab_dd tk_cl_worked 92 rfl) rfl rfl rfl ?_
              refine x_iconst 156 2 (ab_dd tk_cl_worked 93 rfl) rfl (by decide) (x_topn 2 rfl ?_)
              refine x_icmp_lt_f 159 (ab_dd tk_cl_worked 94 rfl) rfl 191 (by decide) (fun z => absurd ((nI_ltI (a := L.1) (b := 2) (by omega) (by omega)).mp z) (show ¬ (L.1 < 2) by omega)) ?_
              refine x_aload_n 160 0 (ab_dd tk_cl_worked 95 rfl) rfl rfl rfl ?_
              refine t_getP 163 (x + 9) (ab_dd tk_cl_worked 96 rfl) rfl F_cl_44 (by rcases hK1.1 with z | z <;> omega) (Nat.lt_of_le_of_lt (Nat.le_add_right x 9) hK1.2.1) hK1.2.2.1 rfl hK1.2.2.2.2.2.2.2.2.2.2.2.2.2 ?_
              refine x_iload_n 164 2 (ab_dd tk_cl_worked 97 rfl) rfl rfl rfl ?_
              refine x_iconst 165 2 (ab_dd tk_cl_worked 98 rfl) rfl (by decide) (x_topn 2 rfl ?_)
              refine x_isub 166 (ab_dd tk_cl_worked 99 rfl) rfl (x_topn (L.1 - 2) (pk_sub (by omega)) ?_)
              refine x_iload 168 4 (ab_dd tk_cl_worked 100 rfl) rfl rfl ?_
              refine x_aload_n 169 0 (ab_dd tk_cl_worked 101 rfl) rfl rfl rfl ?_
              refine t_getP 172 (x + 9) (ab_dd tk_cl_worked 102 rfl) rfl F_cl_44 (by rcases hK1.1 with z | z <;> omega) (Nat.lt_of_le_of_lt (Nat.le_add_right x 9) hK1.2.1) hK1.2.2.1 rfl hK1.2.2.2.2.2.2.2.2.2.2.2.2.2 ?_
              refine x_iload_n 173 2 (ab_dd tk_cl_worked 103 rfl) rfl rfl rfl ?_
              refine x_iconst 174 2 (ab_dd tk_cl_worked 104 rfl) rfl (by decide) (x_topn 2 rfl ?_)
              refine x_isub 175 (ab_dd tk_cl_worked 105 rfl) rfl (x_topn (L.1 - 2) (pk_sub (by omega)) ?_)
              refine t_iald 176 (L.1 - 2) (ab_dd tk_cl_worked 106 rfl) rfl (by rcases hK1.1 with z | z <;> omega) (Nat.lt_of_le_of_lt (Nat.add_le_add_left (by decide) x) hK1.2.1) hK1.2.2.2.2.2.2.2.1 rfl (by omega) (by decide) (x_topx (L.2 (L.1 - 2)) (congrFun hf (L.1 - 2)) ?_)
              refine x_aload_n 177 0 (ab_dd tk_cl_worked 107 rfl) rfl rfl rfl ?_
              refine t_getP 180 (x + 9) (ab_dd tk_cl_worked 108 rfl) rfl F_cl_44 (by rcases hK1.1 with z | z <;> omega) (Nat.lt_of_le_of_lt (Nat.le_add_right x 9) hK1.2.1) hK1.2.2.1 rfl hK1.2.2.2.2.2.2.2.2.2.2.2.2.2 ?_
              refine x_iload_n 181 2 (ab_dd tk_cl_worked 109 rfl) rfl rfl rfl ?_
              refine x_iconst 182 1 (ab_dd tk_cl_worked 110 rfl) rfl (by decide) (x_topn 1 rfl ?_)
              refine x_isub 183 (ab_dd tk_cl_worked 111 rfl) rfl (x_topn (L.1 - 1) (pk_sub (by omega)) ?_)
              refine t_iald 184 (L.1 - 1) (ab_dd tk_cl_worked 112 rfl) rfl (by rcases hK1.1 with z | z <;> omega) (Nat.lt_of_le_of_lt (Nat.add_le_add_left (by decide) x) hK1.2.1) hK1.2.2.2.2.2.2.2.1 rfl (by omega) (by decide) (x_topx (L.2 (L.1 - 1)) (congrFun hf (L.1 - 1)) ?_)
              refine x_callS 187 M_cl_workedBoth 0 3 [_, _, _] (ab_dd tk_cl_worked 113 rfl) rfl (by first | decide | omega) K_cl_workedBoth T_cl_workedBoth L_cl_113 rfl (Nat.le_of_ble_eq_true rfl) (c_cl_workedBoth _ _ _) (fun v1 w1 h1 => ?_)
              obtain ⟨rfl, rfl⟩ := h1
              refine t_iast 188 (L.1 - 2) (ab_dd tk_cl_worked 114 rfl) rfl (by rcases hK1.1 with z | z <;> omega) (Nat.lt_of_le_of_lt (Nat.add_le_add_left (by decide) x) hK1.2.1) hK1.2.2.2.2.2.2.2.1 rfl (by omega) (by decide) ?_
              refine xn_iinc 191 2 (fun y => [some (.ref x), some (.ref b), some (.int y), some (.int (nI j)), some (.int ((cvt (nI yc))))]) (L.1 - 1) (ab_dd tk_cl_worked 115 rfl) rfl (by decide) rfl (fun _ => rfl) (iinc_m (by omega)) ?_
              refine xn_iinc 194 3 (fun y => [some (.ref x), some (.ref b), some (.int (nI (L.1 - 1))), some (.int y), some (.int ((cvt (nI yc))))]) (j + 1) (ab_dd tk_cl_worked 116 rfl) rfl (by decide) rfl (fun _ => rfl) (iinc_p 1) ?_
              refine x_goto 4 (ab_dd tk_cl_worked 117 rfl) (by decide) ?_
              refine ih (j + 1) (by omega) _ _ (hE.pI (List.Mem.head _)) ?_ |> (fun z => by
                rw [hun, lwS_E (by omega) (by omega) h6] at z
                exact z)
              rw [hun, lwS_E (by omega) (by omega) h6]
              exact (upd_row (L.1 - 2) _ hf).trans (by rw [wkB_ok (by omega) (by omega) h6])
          · have h9 : yc = 3009 := by omega
            rw [h9] at hbj hk hun hch ht2
            have h3 : 3 ≤ L.1 := hk
            refine x_aload_n 5 1 (ab_dd tk_cl_worked 4 rfl) rfl rfl rfl ?_
            refine x_ifnull_f 8 (ab_dd tk_cl_worked 5 rfl) rfl ?_
            refine x_iload_n 9 3 (ab_dd tk_cl_worked 6 rfl) rfl rfl rfl ?_
            refine x_aload_n 10 1 (ab_dd tk_cl_worked 7 rfl) rfl rfl rfl ?_
            refine t_alen 11 0 (ab_dd tk_cl_worked 8 rfl) rfl hb1 hb2b rfl hb3b ?_
            refine x_icmp_ge_f 14 (ab_dd tk_cl_worked 9 rfl) rfl 197 (by decide) (fun z => absurd ((nI_leI (a := n) (b := j) (by omega) (by omega)).mp z) (show ¬ (n ≤ j) by omega)) ?_
            refine x_aload_n 15 1 (ab_dd tk_cl_worked 10 rfl) rfl rfl rfl ?_
            refine x_iload_n 16 3 (ab_dd tk_cl_worked 11 rfl) rfl rfl rfl ?_
            refine t_iald 17 j (ab_dd tk_cl_worked 12 rfl) rfl hb1 hb2b hb3b rfl (by omega) (by omega) (x_topx (cvt (nI 3009)) hbj ?_)
            refine x_istore 19 [some (.ref x), some (.ref b), some (.int (nI L.1)), some (.int (nI j)), some (.int ((cvt (nI 3009))))] 4 (ab_dd tk_cl_worked 13 rfl) rfl (by decide) rfl ?_
            refine x_iload 21 4 (ab_dd tk_cl_worked 14 rfl) rfl rfl ?_
            refine x_bipush 23 (-10) (ab_dd tk_cl_worked 15 rfl) rfl (by decide) ?_
            refine x_icmp_le_t 65 (ab_dd tk_cl_worked 16 rfl) (by decide) hch.1 ?_
            refine x_iload 67 4 (ab_dd tk_cl_worked 37 rfl) rfl rfl ?_
            refine x_bipush 69 (-19) (ab_dd tk_cl_worked 38 rfl) rfl (by decide) ?_
            refine x_icmp_ne_f 72 (ab_dd tk_cl_worked 39 rfl) rfl 121 (by decide) (hch.2.2.1 rfl) ?_
            refine x_iload_n 73 2 (ab_dd tk_cl_worked 40 rfl) rfl rfl rfl ?_
            refine x_iconst 74 3 (ab_dd tk_cl_worked 41 rfl) rfl (by decide) (x_topn 3 rfl ?_)
            refine x_icmp_lt_f 77 (ab_dd tk_cl_worked 42 rfl) rfl 121 (by decide) (fun z => absurd ((nI_ltI (a := L.1) (b := 3) (by omega) (by omega)).mp z) (show ¬ (L.1 < 3) by omega)) ?_
            refine x_aload_n 78 0 (ab_dd tk_cl_worked 43 rfl) rfl rfl rfl ?_
            refine t_getP 81 (x + 9) (ab_dd tk_cl_worked 44 rfl) rfl F_cl_44 (by rcases hK1.1 with z | z <;> omega) (Nat.lt_of_le_of_lt (Nat.le_add_right x 9) hK1.2.1) hK1.2.2.1 rfl hK1.2.2.2.2.2.2.2.2.2.2.2.2.2 ?_
            refine x_iload_n 82 2 (ab_dd tk_cl_worked 45 rfl) rfl rfl rfl ?_
            refine x_iconst 83 3 (ab_dd tk_cl_worked 46 rfl) rfl (by decide) (x_topn 3 rfl ?_)
            refine x_isub 84 (ab_dd tk_cl_worked 47 rfl) rfl (x_topn (L.1 - 3) (pk_sub (by omega)) ?_)
            refine x_aload_n 85 0 (ab_dd tk_cl_worked 48 rfl) rfl rfl rfl ?_
            refine t_getP 88 (x + 9) (ab_dd tk_cl_worked 49 rfl) rfl F_cl_44 (by rcases hK1.1 with z | z <;> omega) (Nat.lt_of_le_of_lt (Nat.le_add_right x 9) hK1.2.1) hK1.2.2.1 rfl hK1.2.2.2.2.2.2.2.2.2.2.2.2.2 ?_
            refine x_iload_n 89 2 (ab_dd tk_cl_worked 50 rfl) rfl rfl rfl ?_
            refine x_iconst 90 3 (ab_dd tk_cl_worked 51 rfl) rfl (by decide) (x_topn 3 rfl ?_)
            refine x_isub 91 (ab_dd tk_cl_worked 52 rfl) rfl (x_topn (L.1 - 3) (pk_sub (by omega)) ?_)
            refine t_iald 92 (L.1 - 3) (ab_dd tk_cl_worked 53 rfl) rfl (by rcases hK1.1 with z | z <;> omega) (Nat.lt_of_le_of_lt (Nat.add_le_add_left (by decide) x) hK1.2.1) hK1.2.2.2.2.2.2.2.1 rfl (by omega) (by decide) (x_topx (L.2 (L.1 - 3)) (congrFun hf (L.1 - 3)) ?_)
            refine x_if_eq 95 106 (ab_dd tk_cl_worked 54 rfl) rfl (by decide) (fun h92 => ?_) (fun h92 => ?_)
            · refine x_aload_n 107 0 (ab_dd tk_cl_worked 62 rfl) rfl rfl rfl ?_
              refine t_getP 110 (x + 9) (ab_dd tk_cl_worked 63 rfl) rfl F_cl_44 (by rcases hK1.1 with z | z <;> omega) (Nat.lt_of_le_of_lt (Nat.le_add_right x 9) hK1.2.1) hK1.2.2.1 rfl hK1.2.2.2.2.2.2.2.2.2.2.2.2.2 ?_
              refine x_iload_n 111 2 (ab_dd tk_cl_worked 64 rfl) rfl rfl rfl ?_
              refine x_iconst 112 1 (ab_dd tk_cl_worked 65 rfl) rfl (by decide) (x_topn 1 rfl ?_)
              refine x_isub 113 (ab_dd tk_cl_worked 66 rfl) rfl (x_topn (L.1 - 1) (pk_sub (by omega)) ?_)
              refine t_iald 114 (L.1 - 1) (ab_dd tk_cl_worked 67 rfl) rfl (by rcases hK1.1 with z | z <;> omega) (Nat.lt_of_le_of_lt (Nat.add_le_add_left (by decide) x) hK1.2.1) hK1.2.2.2.2.2.2.2.1 rfl (by omega) (by decide) (x_topx (L.2 (L.1 - 1)) (congrFun hf (L.1 - 1)) ?_)
              refine t_iast 115 (L.1 - 3) (ab_dd tk_cl_worked 68 rfl) rfl (by rcases hK1.1 with z | z <;> omega) (Nat.lt_of_le_of_lt (Nat.add_le_add_left (by decide) x) hK1.2.1) hK1.2.2.2.2.2.2.2.1 rfl (by omega) (by decide) ?_
              refine xn_iinc 118 2 (fun y => [some (.ref x), some (.ref b), some (.int y), some (.int (nI j)), some (.int ((cvt (nI 3009))))]) (L.1 - 2) (ab_dd tk_cl_worked 69 rfl) rfl (by decide) rfl (fun _ => rfl) (pk_m2 (by omega)) ?_
              refine x_goto 191 (ab_dd tk_cl_worked 70 rfl) (by decide) ?_
              refine xn_iinc 194 3 (fun y => [some (.ref x), some (.ref b), some (.int (nI (L.1 - 2))), some (.int y), some (.int ((cvt (nI 3009))))]) (j + 1) (ab_dd tk_cl_worked 116 rfl) rfl (by decide) rfl (fun _ => rfl) (iinc_p 1) ?_
              refine x_goto 4 (ab_dd tk_cl_worked 117 rfl) (by decide) ?_
              refine ih (j + 1) (by omega) _ _ (hE.pI (List.Mem.head _)) ?_ |> (fun z => by
                rw [hun, lwS_C] at z
                exact z)
              rw [hun, lwS_C]
              exact (upd_row (L.1 - 3) _ hf).trans (by rw [if_neg (by rw [h92]; decide)])
            · refine x_aload_n 96 0 (ab_dd tk_cl_worked 55 rfl) rfl rfl rfl ?_
              refine t_getP 99 (x + 9) (ab_dd tk_cl_worked 56 rfl) rfl F_cl_44 (by rcases hK1.1 with z | z <;> omega) (Nat.lt_of_le_of_lt (Nat.le_add_right x 9) hK1.2.1) hK1.2.2.1 rfl hK1.2.2.2.2.2.2.2.2.2.2.2.2.2 ?_
              refine x_iload_n 100 2 (ab_dd tk_cl_worked 57 rfl) rfl rfl rfl ?_
              refine x_iconst 101 2 (ab_dd tk_cl_worked 58 rfl) rfl (by decide) (x_topn 2 rfl ?_)
              refine x_isub 102 (ab_dd tk_cl_worked 59 rfl) rfl (x_topn (L.1 - 2) (pk_sub (by omega)) ?_)
              refine t_iald 103 (L.1 - 2) (ab_dd tk_cl_worked 60 rfl) rfl (by rcases hK1.1 with z | z <;> omega) (Nat.lt_of_le_of_lt (Nat.add_le_add_left (by decide) x) hK1.2.1) hK1.2.2.2.2.2.2.2.1 rfl (by omega) (by decide) (x_topx (L.2 (L.1 - 2)) (congrFun hf (L.1 - 2)) ?_)
              refine x_goto 114 (ab_dd tk_cl_worked 61 rfl) (by decide) ?_
              refine t_iast 115 (L.1 - 3) (ab_dd tk_cl_worked 68 rfl) rfl (by rcases hK1.1 with z | z <;> omega) (Nat.lt_of_le_of_lt (Nat.add_le_add_left (by decide) x) hK1.2.1) hK1.2.2.2.2.2.2.2.1 rfl (by omega) (by decide) ?_
              refine xn_iinc 118 2 (fun y => [some (.ref x), some (.ref b), some (.int y), some (.int (nI j)), some (.int ((cvt (nI 3009))))]) (L.1 - 2) (ab_dd tk_cl_worked 69 rfl) rfl (by decide) rfl (fun _ => rfl) (pk_m2 (by omega)) ?_
              refine x_goto 191 (ab_dd tk_cl_worked 70 rfl) (by decide) ?_
              refine xn_iinc 194 3 (fun y => [some (.ref x), some (.ref b), some (.int (nI (L.1 - 2))), some (.int y), some (.int ((cvt (nI 3009))))]) (j + 1) (ab_dd tk_cl_worked 116 rfl) rfl (by decide) rfl (fun _ => rfl) (iinc_p 1) ?_
              refine x_goto 4 (ab_dd tk_cl_worked 117 rfl) (by decide) ?_
              refine ih (j + 1) (by omega) _ _ (hE.pI (List.Mem.head _)) ?_ |> (fun z => by
                rw [hun, lwS_C] at z
                exact z)
              rw [hun, lwS_C]
              exact (upd_row (L.1 - 3) _ hf).trans (by rw [if_pos ((ht2 rfl).resolve_left h92)])
  refine x_iconst 1 0 (ab_dd tk_cl_worked 0 rfl) rfl (by decide) (x_topn 0 rfl ?_)
  refine x_istore_n 2 [some (.ref x), some (.ref b), some (.int (nI 0)), none, none] 2 (ab_dd tk_cl_worked 1 rfl) rfl rfl (by decide) rfl ?_
  refine x_iconst 3 0 (ab_dd tk_cl_worked 2 rfl) rfl (by decide) (x_topn 0 rfl ?_)
  refine x_istore_n 4 [some (.ref x), some (.ref b), some (.int (nI 0)), some (.int (nI 0)), none] 3 (ab_dd tk_cl_worked 3 rfl) rfl rfl (by decide) rfl ?_
  exact lp n 0 (by omega) S none sEq.rf rfl
