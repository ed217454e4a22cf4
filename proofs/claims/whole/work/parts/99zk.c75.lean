/-! ===== the class made ===== -/
theorem c_cl_enter0 {G : ab_G} {S : ab_S} {im : Nat → Prop} {x bh nb st : Nat} {b : Nat → Int32} (kc : kSh S.1) (h119 : sn S = 119 ∨ (sn S = 120 ∧ sI S x 1 = 0)) (hK : clK S x) (him : imO im) (hil : ∀ y, im y → y < sn S) (hcl : sI S x 5 = nI st ∧ (1 ≤ st ∧ st < 2 ^ 20) ∧ sP S x 6 = some bh ∧ (50 ≤ bh ∧ bh < sn S) ∧ sK S bh = .inl (.int, nb) ∧ nb < 2 ^ 26 ∧ ¬ im bh ∧ (bh = x + 4 ∨ bh = 119 ∨ 145 ≤ bh) ∧ chE S bh nb st 1024 (bK b) ∧ chE S (x + 5) 2160 st 8 (wK b) ∧ chE S (x + 6) 80 st 2 (mK b)) (hst : st + 1 < 2 ^ 20) {d : Nat} {b1 : Nat → Int32} (hb1 : aOk b1) (hca : caI S im d b1) (h3 : sI S d 3 = nI (seaC b1)) (h2 : sI S d 2 = b1 40) : ab_C G 0 M_cl_enter [.ref x, .ref d] (sw S) (fun v w' => v = none ∧ ∃ S' bh' nb', w' = sw S' ∧ gF (fun y => y = x) S S' ∧ clI S' im x d b1 bh' nb' (st + 1) ∧ sI S' x 1 = sI S x 1 ∧ (∀ k, k ≠ 2 → k ≠ 6 → sP S' x k = sP S x k) ∧ (((sI S x 1 = 0 ∨ (kFc (aR b1) * 5 ^ aR b1) ≤ nb) ∧ bh' = bh ∧ nb' = nb ∧ sn S' = sn S ∧ sz S' = sz S) ∨ (¬ sI S x 1 = 0 ∧ nb < (kFc (aR b1) * 5 ^ aR b1) ∧ bh' = sn S ∧ nb' = (kFc (aR b1) * 5 ^ aR b1) ∧ sn S' = sn S + 1 ∧ sz S' = sz S + (kFc (aR b1) * 5 ^ aR b1)))) := by
  refine x_enter [some (.ref x), some (.ref d), none] (by decide) (Nat.le_of_ble_eq_true rfl) rfl (fun v w' h => by obtain ⟨rfl, -⟩ := h; trivial) ?_
  obtain ⟨a5, a6, a7, a8, a9, a10, a11, a12, b1', b2, b3⟩ := hcl
  have hxx := hK.1
  have hx50 : 50 ≤ x ∧ x < 100 := by omega
  have hnx : ¬ im x := fun z => by have := him x z; omega
  have hk := hca.1
  have hdx : d ≠ x := fun z => hnx (z ▸ hk.2.2.2.2.2.2.2.1)
  have hR := hb1.R.2
  have hsl := seaC_lt hb1
  have hN15 : (kFc (aR b1) * 5 ^ aR b1) ≤ 15000 := kFc_15 hR
  have h50 : 50 ≤ sn S := by omega
  refine x_aload_n 1 0 (ab_dd tk_cl_enter 0 rfl) rfl rfl rfl ?_
  refine x_aload_n 2 1 (ab_dd tk_cl_enter 1 rfl) rfl rfl rfl ?_
  refine t_putP 5 (ab_dd tk_cl_enter 2 rfl) rfl F_cl_12 (by rcases hK.1 with z | z <;> omega) (Nat.lt_of_le_of_lt (Nat.le_add_right x 9) hK.2.1) hK.2.2.1 rfl ?_
  refine x_aload_n 6 0 (ab_dd tk_cl_enter 3 rfl) rfl rfl rfl ?_
  refine x_aload_n 7 1 (ab_dd tk_cl_enter 4 rfl) rfl rfl rfl ?_
  refine t_getI 10 (ab_dd tk_cl_enter 5 rfl) rfl F_cl_55 hk.1 (Nat.lt_of_le_of_lt (Nat.le_add_right d 2) hk.2.1) hk.2.2.1 rfl (x_topn (seaC b1) h3 ?_)
  refine t_putI 13 (ab_dd tk_cl_enter 6 rfl) rfl F_cl_18 (by rcases hK.1 with z | z <;> omega) (Nat.lt_of_le_of_lt (Nat.le_add_right x 9) hK.2.1) hK.2.2.1 rfl rfl rfl ?_
  refine x_aload_n 14 0 (ab_dd tk_cl_enter 7 rfl) rfl rfl rfl ?_
  refine x_aload_n 15 1 (ab_dd tk_cl_enter 8 rfl) rfl rfl rfl ?_
  refine t_getI 18 (ab_dd tk_cl_enter 9 rfl) rfl F_cl_56 hk.1 (Nat.lt_of_le_of_lt (Nat.le_add_right d 2) hk.2.1) hk.2.2.1 rfl (x_topx (b1 40) ((gI_a (by omega)).trans h2) ?_)
  refine t_putI 21 (ab_dd tk_cl_enter 10 rfl) rfl F_cl_22 (by rcases hK.1 with z | z <;> omega) (Nat.lt_of_le_of_lt (Nat.le_add_right x 9) hK.2.1) hK.2.2.1 rfl rfl rfl ?_
  refine x_aload_n 22 0 (ab_dd tk_cl_enter 11 rfl) rfl rfl rfl ?_
  refine x_dup 23 (ab_dd tk_cl_enter 12 rfl) rfl rfl ?_
  refine t_getI 26 (ab_dd tk_cl_enter 13 rfl) rfl F_cl_25 (by rcases hK.1 with z | z <;> omega) (Nat.lt_of_le_of_lt (Nat.le_add_right x 9) hK.2.1) hK.2.2.1 rfl (x_topn st ((gI_k (by decide)).trans ((gI_k (by decide)).trans a5)) ?_)
  refine x_iconst 27 1 (ab_dd tk_cl_enter 14 rfl) rfl (by decide) (x_topn 1 rfl ?_)
  refine x_iadd 28 (ab_dd tk_cl_enter 15 rfl) rfl (x_topn (st + 1) (nI_add _ _) ?_)
  refine t_putI 31 (ab_dd tk_cl_enter 16 rfl) rfl F_cl_25 (by rcases hK.1 with z | z <;> omega) (Nat.lt_of_le_of_lt (Nat.le_add_right x 9) hK.2.1) hK.2.2.1 rfl rfl rfl ?_
  obtain ⟨S5, hS5⟩ : ∃ S5, S5 = (pI (pI (pI (pP S x 2 (some d)) x 3 (nI (seaC b1))) x 4 (b1 40)) x 5 (nI (st + 1))) := ⟨_, rfl⟩
  rw [← hS5]
  have g5 : gF (fun y => y = x) S S5 := by rw [hS5]; exact (((gF.rf (l := fun y => y = x)).pP (a := x) rfl |>.pI (a := x) rfl).pI (a := x) rfl).pI (a := x) rfl
  have n5 : sn S5 = sn S := by rw [hS5]; rfl
  have z5 : sz S5 = sz S := by rw [hS5]; rfl
  have k5 : sK S5 = sK S := by rw [hS5]; rfl
  have kc5 : kSh S5.1 := by rw [g5.1]; exact kc
  have h505 : 50 ≤ sn S5 := by omega
  have r5 : sI S5 x 1 = sI S x 1 := by rw [hS5]; exact (gI_k (by decide)).trans ((gI_k (by decide)).trans (gI_k (by decide)))
  have p5 : ∀ k, k ≠ 2 → sP S5 x k = sP S x k := fun k hk => by rw [hS5]; exact gP_k hk
  have p52 : sP S5 x 2 = some d := by rw [hS5]; exact gP_s
  have i53 : sI S5 x 3 = nI (seaC b1) := by rw [hS5]; exact (gI_k (by decide)).trans ((gI_k (by decide)).trans gI_s)
  have i54 : sI S5 x 4 = b1 40 := by rw [hS5]; exact (gI_k (by decide)).trans gI_s
  have i55 : sI S5 x 5 = nI (st + 1) := by rw [hS5]; exact gI_s
  have o5 : ∀ y, y < sn S → y ≠ x → sI S5 y = sI S y := fun y h1 h2 => (g5.2.2.2 y h1 h2).1
  have hcl5 : clI S5 im x d b1 bh nb (st + 1) := ⟨hca.im (g5.im (fun y z w => hnx (w ▸ z))) (fun _ z => z), p52, i53, i54, i55, ⟨by omega, hst⟩, (p5 6 (by decide)).trans a7, ⟨a8.1, by omega⟩, by rw [k5]; exact a9, a10, a11, a12, b1'.next (o5 _ a8.2 (by omega)), b2.next (o5 _ (by have := hK.2.1; omega) (by omega)), b3.next (o5 _ (by have := hK.2.1; omega) (by omega))⟩
  obtain ⟨hk5, c15, -⟩ := hcl5.1
  have hx5 : x < sn S5 := by have := hK.2.1; omega
  have hK5 : sK S5 x = .inr 1 := by rw [k5]; exact hK.2.2.1
  refine x_getsN 34 (ab_dd tk_cl_enter 17 rfl) rfl (List.mem_of_getElem? (i := 0) rfl) F_cl_57 ?_
  refine x_aload_n 35 1 (ab_dd tk_cl_enter 18 rfl) rfl rfl rfl ?_
  refine t_getI 38 (ab_dd tk_cl_enter 19 rfl) rfl F_cl_60 hk5.1 (Nat.lt_of_le_of_lt (Nat.le_add_right d 2) hk5.2.1) hk5.2.2.1 rfl (x_topn (aR b1) c15 ?_)
  refine t_ialdK 39 (aR b1) (ab_dd tk_cl_enter 20 rfl) rfl (by decide) h505 (kc5.2.1) rfl (by omega) (by decide) (x_topn (kPw (aR b1)) (kPw_N (aR b1) (by omega)) ?_)
  refine x_getsN 42 (ab_dd tk_cl_enter 21 rfl) rfl (List.mem_of_getElem? (i := 1) rfl) F_cl_63 ?_
  refine x_aload_n 43 1 (ab_dd tk_cl_enter 22 rfl) rfl rfl rfl ?_
  refine t_getI 46 (ab_dd tk_cl_enter 23 rfl) rfl F_cl_60 hk5.1 (Nat.lt_of_le_of_lt (Nat.le_add_right d 2) hk5.2.1) hk5.2.2.1 rfl (x_topn (aR b1) c15 ?_)
  refine t_ialdK 47 (aR b1) (ab_dd tk_cl_enter 24 rfl) rfl (by decide) h505 (kc5.2.2) rfl (by omega) (by decide) (x_topn (kFc (aR b1)) (kFc_N (aR b1) (by omega)) ?_)
  refine x_imul 48 (ab_dd tk_cl_enter 25 rfl) rfl (x_topn (kFc (aR b1) * 5 ^ aR b1) (by rw [pk_mul, Nat.mul_comm]; rfl) ?_)
  refine x_istore_n 49 [some (.ref x), some (.ref d), some (.int (nI (kFc (aR b1) * 5 ^ aR b1)))] 2 (ab_dd tk_cl_enter 26 rfl) rfl rfl (by decide) rfl ?_
  refine x_aload_n 50 0 (ab_dd tk_cl_enter 27 rfl) rfl rfl rfl ?_
  refine t_getI 53 (ab_dd tk_cl_enter 28 rfl) rfl F_cl_51 (Nat.le_trans (by decide) hx50.1) hx5 hK5 rfl (x_topx (sI S x 1) r5 ?_)
  refine x_if_eq 56 72 (ab_dd tk_cl_enter 29 rfl) rfl (by decide) (fun h53 => ?_) (fun h53 => ?_)
  · exact x_vret (ab_dd tk_cl_enter 39 rfl) ⟨rfl, S5, bh, nb, rfl, g5, hcl5, r5, fun k y1 _ => p5 k y1, Or.inl ⟨Or.inl h53, rfl, rfl, n5, z5⟩⟩
  · refine x_aload_n 57 0 (ab_dd tk_cl_enter 30 rfl) rfl rfl rfl ?_
    refine t_getP 60 bh (ab_dd tk_cl_enter 31 rfl) rfl F_cl_28 (Nat.le_trans (by decide) hx50.1) hx5 hK5 rfl hcl5.2.2.2.2.2.2.1 ?_
    refine t_alen 61 0 (ab_dd tk_cl_enter 32 rfl) rfl hcl5.2.2.2.2.2.2.2.1.1 hcl5.2.2.2.2.2.2.2.1.2 rfl hcl5.2.2.2.2.2.2.2.2.1 ?_
    refine x_iload_n 62 2 (ab_dd tk_cl_enter 33 rfl) rfl rfl rfl ?_
    refine xn_icmp_ge 65 72 (ab_dd tk_cl_enter 34 rfl) rfl (by decide) (by omega) (by omega) (fun h62 => ?_) (fun h62 => ?_)
    · exact x_vret (ab_dd tk_cl_enter 39 rfl) ⟨rfl, S5, bh, nb, rfl, g5, hcl5, r5, fun k y1 _ => p5 k y1, Or.inl ⟨Or.inr (by omega), rfl, rfl, n5, z5⟩⟩
    · refine x_aload_n 66 0 (ab_dd tk_cl_enter 35 rfl) rfl rfl rfl ?_
      refine x_iload_n 67 2 (ab_dd tk_cl_enter 36 rfl) rfl rfl rfl ?_
      refine t_newI 69 (kFc (aR b1) * 5 ^ aR b1) (ab_dd tk_cl_enter 37 rfl) rfl (show 50 ≤ sn S5 + 0 by omega) A_int rfl (by omega) ?_
      refine t_putP 72 (ab_dd tk_cl_enter 38 rfl) rfl F_cl_28 (Nat.le_trans (by decide) hx50.1) (Nat.lt_succ_of_lt hx5) ((up1_o (Nat.ne_of_lt hx5)).trans hK5) rfl ?_
      obtain ⟨S6, hS6⟩ : ∃ S6, S6 = pP (pN S5 (.inl (.int, (kFc (aR b1) * 5 ^ aR b1))) (kFc (aR b1) * 5 ^ aR b1)) x 6 (some (sn S5)) := ⟨_, rfl⟩
      rw [← hS6]
      have hne : ∀ y, y < sn S → y ≠ sn S5 := fun y z => by omega
      have g6 : gF (fun y => y = x) S5 S6 := by
        rw [hS6]
        refine gF.pP ⟨rfl, Nat.le_succ _, fun y z => up1_o (by omega), fun y z _ => ⟨up1_o (by omega), up1_o (by omega), up1_o (by omega)⟩⟩ rfl
      have e6 : sI S6 x = sI S5 x := by rw [hS6]; exact up1_o (by omega)
      have q6 : ∀ k, k ≠ 6 → sP S6 x k = sP S5 x k := fun k hk => by rw [hS6]; exact (gP_k hk).trans (congrFun (up1_o (by omega)) k)
      have z6 : sI S6 (sn S5) = fun _ => 0 := by rw [hS6]; exact up1_s
      have f2 := (g6.2.2.2 (x + 5) (by have := hK.2.1; omega) (by omega)).1
      have f3 := (g6.2.2.2 (x + 6) (by have := hK.2.1; omega) (by omega)).1
      exact x_vret (ab_dd tk_cl_enter 39 rfl) ⟨rfl, S6, sn S5, (kFc (aR b1) * 5 ^ aR b1), rfl, g5.tr g6, ⟨hcl5.1.im (g6.im (fun y z w => hnx (w ▸ z))) (fun _ z => z), (q6 2 (by decide)).trans p52, by rw [e6]; exact i53, by rw [e6]; exact i54, by rw [e6]; exact i55, ⟨by omega, hst⟩, by rw [hS6]; exact gP_s, ⟨h505, by rw [hS6]; exact Nat.lt_succ_self _⟩, by rw [hS6]; exact up1_s, by omega, fun z => by have := hil _ z; omega, Or.inr (Or.inl (by rcases h119 with z | z; omega; exact absurd z.2 h53)), fun i hi => ⟨0, by rw [z6]; rfl, by decide, by omega, fun z => absurd z (by omega)⟩, hcl5.2.2.2.2.2.2.2.2.2.2.2.2.2.1.eq f2, hcl5.2.2.2.2.2.2.2.2.2.2.2.2.2.2.eq f3⟩, by rw [e6]; exact r5, fun k y1 y2 => (q6 k y2).trans (p5 k y1), Or.inr ⟨h53, by omega, n5, rfl, by rw [hS6]; show sn S5 + 1 = _; omega, by rw [hS6]; show sz S5 + _ = _; omega⟩⟩
theorem x_stt {G : ab_G} {d : Nat} {M : ab_M} {pc : Nat} {ls : ab_L} {st : List Value} {S : ab_S} {Q : Option Value → ab_H → Prop} (S2 : ab_S) (h : S = S2) (k : ab_Ex G d M pc ls st (sw S2) Q) : ab_Ex G d M pc ls st (sw S) Q := by rw [h]; exact k
def tb_s_init : List (Nat × Instr × Nat) := [(0, .aload_n 0, 1), (1, .invokespecial 1, 3), (4, .aload_n 0, 1), (5, .sipush 900, 3), (8, .newarray .byte, 2), (10, .putfield 9, 3), (13, .aload_n 0, 1), (14, .iconst 0, 1), (15, .putfield 13, 3), (18, .aload_n 0, 1), (19, .new 17, 3), (22, .dup, 1), (23, .invokespecial 19, 3), (26, .putfield 20, 3), (29, .aload_n 0, 1), (30, .new 24, 3), (33, .dup, 1), (34, .invokespecial 26, 3), (37, .putfield 27, 3), (40, .aload_n 0, 1), (41, .new 24, 3), (44, .dup, 1), (45, .invokespecial 26, 3), (48, .putfield 31, 3), (51, .aload_n 0, 1), (52, .new 34, 3), (55, .dup, 1), (56, .invokespecial 36, 3), (59, .putfield 37, 3), (62, .aload_n 0, 1), (63, .iconst 0, 1), (64, .putfield 41, 3), (67, .aload_n 0, 1), (68, .iconst 4, 1), (69, .anewarray 44, 3), (72, .putfield 46, 3), (75, .aload_n 0, 1), (76, .iconst 2, 1), (77, .anewarray 17, 3), (80, .putfield 50, 3), (83, .aload_n 0, 1), (84, .iconst 2, 1), (85, .anewarray 24, 3), (88, .putfield 54, 3), (91, .aload_n 0, 1), (92, .new 58, 3), (95, .dup, 1), (96, .invokespecial 60, 3), (99, .putfield 61, 3), (102, .aload_n 0, 1), (103, .new 65, 3), (106, .dup, 1), (107, .invokespecial 67, 3), (110, .putfield 68, 3), (113, .aload_n 0, 1), (114, .new 72, 3), (117, .dup, 1), (118, .aload_n 0, 1), (119, .getfield 68, 3), (122, .iconst 1, 1), (123, .invokespecial 74, 3), (126, .putfield 77, 3), (129, .aload_n 0, 1), (130, .new 72, 3), (133, .dup, 1), (134, .aload_n 0, 1), (135, .getfield 68, 3), (138, .iconst 0, 1), (139, .invokespecial 74, 3), (142, .putfield 81, 3), (145, .aload_n 0, 1), (146, .new 84, 3), (149, .dup, 1), (150, .invokespecial 86, 3), (153, .putfield 87, 3), (156, .aload_n 0, 1), (157, .aconst_null, 1), (158, .putfield 91, 3), (161, .aload_n 0, 1), (162, .aconst_null, 1), (163, .putfield 95, 3), (166, .iconst 0, 1), (167, .istore_n 1, 1), (168, .iload_n 1, 1), (169, .aload_n 0, 1), (170, .getfield 46, 3), (173, .arraylength, 1), (174, .if_icmp .ge 22, 3), (177, .aload_n 0, 1), (178, .getfield 46, 3), (181, .iload_n 1, 1), (182, .new 44, 3), (185, .dup, 1), (186, .invokespecial 99, 3), (189, .aastore, 1), (190, .iinc 1 1, 3), (193, .goto (-25), 3), (196, .iconst 0, 1), (197, .istore_n 1, 1), (198, .iload_n 1, 1), (199, .aload_n 0, 1), (200, .getfield 54, 3), (203, .arraylength, 1), (204, .if_icmp .ge 22, 3), (207, .aload_n 0, 1), (208, .getfield 54, 3), (211, .iload_n 1, 1), (212, .new 24, 3), (215, .dup, 1), (216, .invokespecial 26, 3), (219, .aastore, 1), (220, .iinc 1 1, 3), (223, .goto (-25), 3), (226, .aload_n 0, 1), (227, .getfield 77, 3), (230, .aload_n 0, 1), (231, .getfield 20, 3), (234, .invokevirtual 100, 3), (237, .aload_n 0, 1), (238, .getfield 81, 3), (241, .aload_n 0, 1), (242, .getfield 20, 3), (245, .invokevirtual 100, 3), (248, .return_, 1)]
theorem tk_s_init : ∀ q ∈ tb_s_init, decode M_s_init.2.1 q.1 = .ok q.2 := by decide +kernel
def X_sA (S : ab_S) : ab_S := (pP (X_sd_56 (pN (pP (X_sd_55 (pN (pP (X_ca_52 (pN (pI (pP (pN S (.inl (.byte, 900)) 900) 50 0 (some 51)) 50 1 (nI 0)) (.inr 0) 9)) 50 2 (some 52)) (.inr 8) 5)) 50 3 (some 55)) (.inr 8) 5)) 50 4 (some 56))
def X_sP (S : ab_S) : ab_S := (pP (X_pa_57 (pN S (.inr 4) 3)) 50 5 (some 57))
def X_sB (S : ab_S) : ab_S := (pN (pP (X_re_72 (pN (pP (pN (pP (pN (pP (pN (pI S 50 6 (nI 0)) (.inl (.object "SeasonSeat$Tray", 4)) 4) 50 7 (some 69)) (.inl (.object "SeasonSeat$Carriage", 2)) 2) 50 8 (some 70)) (.inl (.object "SeasonSeat$Stand", 2)) 2) 50 9 (some 71)) (.inr 5) 13)) 50 10 (some 72)) (.inr 7) 4)
def X_sC (S : ab_S) : ab_S := (pP (X_cl_94 (pN (pP (X_cl_84 (pN (pP S 50 11 (some 78)) (.inr 1) 12)) 50 12 (some 84)) (.inr 1) 12)) 50 13 (some 94))
def X_sD (S : ab_S) : ab_S := (pP (X_sd_118 (pN (pP (X_sd_117 (pN (pP (X_ty_115 (pN (pP (X_ty_113 (pN (pP (X_ty_111 (pN (pP (X_ty_109 (pN (pP (pP (pP (X_id_104 (pN S (.inr 3) 7)) 50 14 (some 104)) 50 15 none) 50 16 none) (.inr 10) 3)) 69 0 (some 109)) (.inr 10) 3)) 69 1 (some 111)) (.inr 10) 3)) 69 2 (some 113)) (.inr 10) 3)) 69 3 (some 115)) (.inr 8) 5)) 71 0 (some 117)) (.inr 8) 5)) 71 1 (some 118))
def im0 (y : Nat) : Prop := y = 52 ∨ y = 53 ∨ y = 54
def a0 : Nat → Int32 := fun _ => 0
theorem a0_good : aGood a0 := row_ok (p := 0) (by decide) ⟨0, 0, rfl, by decide, rfl, Nat.le_refl _, fun i _ => by rw [if_neg (Nat.not_lt_zero i)]; rfl, ⟨0, by decide, rfl⟩, Or.inl ⟨rfl, rfl, rfl⟩, Or.inl ⟨rfl, rfl, rfl⟩⟩ (fun i _ => ⟨0, rfl, by decide⟩) (fun i _ => ⟨0, rfl, by decide⟩)
theorem im0_O : imO im0 := fun y z => by
  rcases z with z | z | z
  · exact Or.inl z
  · exact Or.inr (Or.inl z)
  · exact Or.inr (Or.inr (Or.inl z))
theorem c_s_init {G : ab_G} {S : ab_S} (kc : kSh S.1) (hn : sn S = 51) (hK : sK S 50 = .inr 11) : ab_C G 4 M_s_init [.ref 50] (sw S) (fun v w' => v = none ∧ ∃ S', w' = sw S' ∧ xSh S' ∧ seOk S' ∧ S'.1 = S.1 ∧ sn S' = 120 ∧ sz S' ≤ sz S + 20000 ∧ sP S' 50 2 = some 52 ∧ clI S' im0 84 52 a0 119 1 2 ∧ clI S' im0 94 52 a0 98 0 2 ∧ (sI S' 84 1 = 1 ∧ sI S' 94 1 = 0) ∧ idR S' ∧ (sP S' 50 15 = none ∧ sP S' 50 16 = none) ∧ sdE S' 55 ((0, 0, 0, 0, 0) : sT) ∧ paI S' 0 0 (fun _ => ((0, 0, 0, 0, 0) : sT)) ∧ (∀ t, t < 4 → sI S' (109 + 2 * t) 2 = -1) ∧ (∀ i, i < 2 → sP S' 70 i = none) ∧ (∀ i, i < 900 → sI S' 51 i = 0) ∧ sI S' 50 1 = nI 0 ∧ (sI S' 72 6 = nI 0 ∧ sI S' 72 7 = -1 ∧ sI S' 72 12 = nI 0)) := by
  obtain ⟨k, K, I, J, P, n, z⟩ := S
  have hn2 : n = 51 := hn
  subst hn2
  replace hK : K 50 = .inr 11 := hK
  replace kc : kSh k := kc
  refine x_enter [some (.ref 50), none] (by decide) (Nat.le_of_ble_eq_true rfl) rfl (fun v w' h => by obtain ⟨rfl, -⟩ := h; trivial) ?_
  refine x_aload_n 1 0 (ab_dd tk_s_init 0 rfl) rfl rfl rfl ?_
  refine x_objInit 4 (ab_dd tk_s_init 1 rfl) rfl (by omega) L_s_1 O_inst O_code (Nat.le_of_ble_eq_true rfl) ?_
  refine x_aload_n 5 0 (ab_dd tk_s_init 2 rfl) rfl rfl rfl ?_
  refine x_sipush 8 900 (ab_dd tk_s_init 3 rfl) rfl (by decide) (x_topn 900 rfl ?_)
  refine t_newB 10 900 (ab_dd tk_s_init 4 rfl) rfl (Nat.le_of_ble_eq_true rfl) A_byte rfl (by decide) (x_topR 51 rfl ?_)
  refine t_putPF 13 (ab_dd tk_s_init 5 rfl) rfl F_s_9 rfl (no_nest (by decide +kernel)) (by decide) (Nat.le_of_ble_eq_true rfl) hK rfl ?_
  refine x_aload_n 14 0 (ab_dd tk_s_init 6 rfl) rfl rfl rfl ?_
  refine x_iconst 15 0 (ab_dd tk_s_init 7 rfl) rfl (by decide) (x_topn 0 rfl ?_)
  refine t_putI 18 (ab_dd tk_s_init 8 rfl) rfl F_s_13 (by decide) (Nat.le_of_ble_eq_true rfl) hK rfl rfl rfl ?_
  refine x_aload_n 19 0 (ab_dd tk_s_init 9 rfl) rfl rfl rfl ?_
  refine t_newO (ci := 0) 22 (ab_dd tk_s_init 10 rfl) rfl (Nat.le_of_ble_eq_true rfl) rfl Q_s_17 N_ca.1 N_ca.2 (x_topR 52 rfl ?_)
  refine x_dup 23 (ab_dd tk_s_init 11 rfl) rfl rfl ?_
  refine x_callI 26 M_ca_init 1 0 [] (ab_dd tk_s_init 12 rfl) rfl (by first | decide | omega) K_ca_init rfl rfl V_ca_init L_s_19 rfl (Nat.le_of_ble_eq_true rfl) (c_X_ca_52 rfl rfl) (fun v1 w1 h1 => ?_)
  obtain ⟨rfl, rfl⟩ := h1
  refine t_putP 29 (ab_dd tk_s_init 13 rfl) rfl F_s_20 (by decide) (Nat.le_of_ble_eq_true rfl) hK rfl ?_
  refine x_aload_n 30 0 (ab_dd tk_s_init 14 rfl) rfl rfl rfl ?_
  refine t_newO (ci := 8) 33 (ab_dd tk_s_init 15 rfl) rfl (Nat.le_of_ble_eq_true rfl) rfl Q_s_24 N_sd.1 N_sd.2 (x_topR 55 rfl ?_)
  refine x_dup 34 (ab_dd tk_s_init 16 rfl) rfl rfl ?_
  refine x_callI 37 M_sd_init 1 0 [] (ab_dd tk_s_init 17 rfl) rfl (by first | decide | omega) K_sd_init rfl rfl V_sd_init L_s_26 rfl (Nat.le_of_ble_eq_true rfl) (c_X_sd_55 rfl rfl) (fun v1 w1 h1 => ?_)
  obtain ⟨rfl, rfl⟩ := h1
  refine t_putPF 40 (ab_dd tk_s_init 18 rfl) rfl F_s_27 rfl (no_nest (by decide +kernel)) (by decide) (Nat.le_of_ble_eq_true rfl) hK rfl ?_
  refine x_aload_n 41 0 (ab_dd tk_s_init 19 rfl) rfl rfl rfl ?_
  refine t_newO (ci := 8) 44 (ab_dd tk_s_init 20 rfl) rfl (Nat.le_of_ble_eq_true rfl) rfl Q_s_24 N_sd.1 N_sd.2 (x_topR 56 rfl ?_)
  refine x_dup 45 (ab_dd tk_s_init 21 rfl) rfl rfl ?_
  refine x_callI 48 M_sd_init 1 0 [] (ab_dd tk_s_init 22 rfl) rfl (by first | decide | omega) K_sd_init rfl rfl V_sd_init L_s_26 rfl (Nat.le_of_ble_eq_true rfl) (c_X_sd_56 rfl rfl) (fun v1 w1 h1 => ?_)
  obtain ⟨rfl, rfl⟩ := h1
  refine t_putPF 51 (ab_dd tk_s_init 23 rfl) rfl F_s_31 rfl (no_nest (by decide +kernel)) (by decide) (Nat.le_of_ble_eq_true rfl) hK rfl ?_
  refine x_stt (X_sA (k, K, I, J, P, 51, z)) rfl ?_
  generalize hS1 : X_sA (k, K, I, J, P, 51, z) = S1
  obtain ⟨k1, K1, I1, J1, P1, n1, z1⟩ := S1
  have hn1 : 57 = n1 := congrArg sn hS1
  subst hn1
  have e1k : k1 = (X_sA (k, K, I, J, P, 51, z)).1 := (congrArg (fun S => S.1) hS1).symm
  have e1K : K1 = sK (X_sA (k, K, I, J, P, 51, z)) := (congrArg sK hS1).symm
  have e1I : I1 = sI (X_sA (k, K, I, J, P, 51, z)) := (congrArg sI hS1).symm
  have e1P : P1 = sP (X_sA (k, K, I, J, P, 51, z)) := (congrArg sP hS1).symm
  have e1z : z1 = sz (X_sA (k, K, I, J, P, 51, z)) := (congrArg sz hS1).symm
  have hk150 : K1 50 = .inr 11 := (congrFun e1K 50).trans hK
  refine x_aload_n 52 0 (ab_dd tk_s_init 24 rfl) rfl rfl rfl ?_
  refine t_newO (ci := 4) 55 (ab_dd tk_s_init 25 rfl) rfl (Nat.le_of_ble_eq_true rfl) rfl Q_s_34 N_pa.1 N_pa.2 (x_topR 57 rfl ?_)
  refine x_dup 56 (ab_dd tk_s_init 26 rfl) rfl rfl ?_
  refine x_callI 59 M_pa_init 2 0 [] (ab_dd tk_s_init 27 rfl) rfl (by first | decide | omega) K_pa_init rfl rfl V_pa_init L_s_36 rfl (Nat.le_of_ble_eq_true rfl) (c_X_pa_57 rfl rfl) (fun v1 w1 h1 => ?_)
  obtain ⟨rfl, rfl⟩ := h1
  refine t_putPF 62 (ab_dd tk_s_init 28 rfl) rfl F_s_37 rfl (no_nest (by decide +kernel)) (by decide) (Nat.le_of_ble_eq_true rfl) hk150 rfl ?_
  refine x_stt (X_sP (k1, K1, I1, J1, P1, 57, z1)) rfl ?_
  generalize hS5 : X_sP (k1, K1, I1, J1, P1, 57, z1) = S5
  obtain ⟨k5, K5, I5, J5, P5, n5, z5⟩ := S5
  have hn5 : 69 = n5 := congrArg sn hS5
  subst hn5
  have e5k : k5 = (X_sP (k1, K1, I1, J1, P1, 57, z1)).1 := (congrArg (fun S => S.1) hS5).symm
  have e5K : K5 = sK (X_sP (k1, K1, I1, J1, P1, 57, z1)) := (congrArg sK hS5).symm
  have e5I : I5 = sI (X_sP (k1, K1, I1, J1, P1, 57, z1)) := (congrArg sI hS5).symm
  have e5P : P5 = sP (X_sP (k1, K1, I1, J1, P1, 57, z1)) := (congrArg sP hS5).symm
  have e5z : z5 = sz (X_sP (k1, K1, I1, J1, P1, 57, z1)) := (congrArg sz hS5).symm
  have hk550 : K5 50 = .inr 11 := (congrFun e5K 50).trans hk150
  refine x_aload_n 63 0 (ab_dd tk_s_init 29 rfl) rfl rfl rfl ?_
  refine x_iconst 64 0 (ab_dd tk_s_init 30 rfl) rfl (by decide) (x_topn 0 rfl ?_)
  refine t_putI 67 (ab_dd tk_s_init 31 rfl) rfl F_s_41 (by decide) (Nat.le_of_ble_eq_true rfl) hk550 rfl rfl rfl ?_
  refine x_aload_n 68 0 (ab_dd tk_s_init 32 rfl) rfl rfl rfl ?_
  refine x_iconst 69 4 (ab_dd tk_s_init 33 rfl) rfl (by decide) (x_topn 4 rfl ?_)
  refine t_anew 72 4 4 (ab_dd tk_s_init 34 rfl) rfl (Nat.le_of_ble_eq_true rfl) rfl (by decide) Q_s_44 rfl (by decide) (x_topR 69 rfl ?_)
  refine t_putPF 75 (ab_dd tk_s_init 35 rfl) rfl F_s_46 rfl (no_nest (by decide +kernel)) (by decide) (Nat.le_of_ble_eq_true rfl) hk550 rfl ?_
  refine x_aload_n 76 0 (ab_dd tk_s_init 36 rfl) rfl rfl rfl ?_
  refine x_iconst 77 2 (ab_dd tk_s_init 37 rfl) rfl (by decide) (x_topn 2 rfl ?_)
  refine t_anew 80 5 2 (ab_dd tk_s_init 38 rfl) rfl (Nat.le_of_ble_eq_true rfl) rfl (by decide) Q_s_17 rfl (by decide) (x_topR 70 rfl ?_)
  refine t_putPF 83 (ab_dd tk_s_init 39 rfl) rfl F_s_50 rfl (no_nest (by decide +kernel)) (by decide) (Nat.le_of_ble_eq_true rfl) hk550 rfl ?_
  refine x_aload_n 84 0 (ab_dd tk_s_init 40 rfl) rfl rfl rfl ?_
  refine x_iconst 85 2 (ab_dd tk_s_init 41 rfl) rfl (by decide) (x_topn 2 rfl ?_)
  refine t_anew 88 6 2 (ab_dd tk_s_init 42 rfl) rfl (Nat.le_of_ble_eq_true rfl) rfl (by decide) Q_s_24 rfl (by decide) (x_topR 71 rfl ?_)
  refine t_putPF 91 (ab_dd tk_s_init 43 rfl) rfl F_s_54 rfl (no_nest (by decide +kernel)) (by decide) (Nat.le_of_ble_eq_true rfl) hk550 rfl ?_
  refine x_aload_n 92 0 (ab_dd tk_s_init 44 rfl) rfl rfl rfl ?_
  refine t_newO (ci := 5) 95 (ab_dd tk_s_init 45 rfl) rfl (Nat.le_of_ble_eq_true rfl) rfl Q_s_58 N_re.1 N_re.2 (x_topR 72 rfl ?_)
  refine x_dup 96 (ab_dd tk_s_init 46 rfl) rfl rfl ?_
  refine x_callI 99 M_re_init 2 0 [] (ab_dd tk_s_init 47 rfl) rfl (by first | decide | omega) K_re_init rfl rfl V_re_init L_s_60 rfl (Nat.le_of_ble_eq_true rfl) (c_X_re_72 rfl rfl) (fun v1 w1 h1 => ?_)
  obtain ⟨rfl, rfl⟩ := h1
  refine t_putPF 102 (ab_dd tk_s_init 48 rfl) rfl F_s_61 rfl (no_nest (by decide +kernel)) (by decide) (Nat.le_of_ble_eq_true rfl) hk550 rfl ?_
  refine x_aload_n 103 0 (ab_dd tk_s_init 49 rfl) rfl rfl rfl ?_
  refine t_newO (ci := 7) 106 (ab_dd tk_s_init 50 rfl) rfl (Nat.le_of_ble_eq_true rfl) rfl Q_s_65 N_se.1 N_se.2 (x_topR 78 rfl ?_)
  refine x_dup 107 (ab_dd tk_s_init 51 rfl) rfl rfl ?_
  refine x_callI 110 M_se_init 2 0 [] (ab_dd tk_s_init 52 rfl) rfl (by first | decide | omega) K_se_init rfl rfl V_se_init L_s_67 rfl (Nat.le_of_ble_eq_true rfl) (c_se_init (S := X_sB (k5, K5, I5, J5, P5, 69, z5)) (a := 78) (by decide) rfl rfl) (fun v1 w1 h1 => ?_)
  obtain ⟨rfl, S2, rfl, hN, hSK, hS83, hSF⟩ := h1
  obtain ⟨k2, K2, I2, J2, P2, n2, z2⟩ := S2
  have hn2 : n2 = 84 := hN.2.1
  subst hn2
  have e2k : k2 = k5 := hN.1
  have eK : ∀ b, b < 79 → K2 b = sK (X_sB (k5, K5, I5, J5, P5, 69, z5)) b := fun b hb => hN.2.2.2.1 b hb
  have eV : ∀ b, b < 79 → b ≠ 78 → I2 b = sI (X_sB (k5, K5, I5, J5, P5, 69, z5)) b ∧ J2 b = sJ (X_sB (k5, K5, I5, J5, P5, 69, z5)) b ∧ P2 b = sP (X_sB (k5, K5, I5, J5, P5, 69, z5)) b := fun b hb hne => hN.2.2.2.2 b hb hne
  have hk250 : K2 50 = .inr 11 := (eK 50 (by decide)).trans hk550
  have e2z : z2 = sz (X_sB (k5, K5, I5, J5, P5, 69, z5)) + (0 + 96 + 96 + 96 + 24 + 256) := hN.2.2.1
  refine t_putPF 113 (ab_dd tk_s_init 53 rfl) rfl F_s_68 rfl (no_nest (by decide +kernel)) (by decide) (Nat.le_of_ble_eq_true rfl) hk250 rfl ?_
  refine x_aload_n 114 0 (ab_dd tk_s_init 54 rfl) rfl rfl rfl ?_
  refine t_newO (ci := 1) 117 (ab_dd tk_s_init 55 rfl) rfl (Nat.le_of_ble_eq_true rfl) rfl Q_s_72 N_cl.1 N_cl.2 (x_topR 84 rfl ?_)
  refine x_dup 118 (ab_dd tk_s_init 56 rfl) rfl rfl ?_
  refine x_aload_n 119 0 (ab_dd tk_s_init 57 rfl) rfl rfl rfl ?_
  refine t_getP 122 78 (ab_dd tk_s_init 58 rfl) rfl F_s_68 (by decide) (Nat.le_of_ble_eq_true rfl) hk250 rfl rfl ?_
  refine x_iconst 123 1 (ab_dd tk_s_init 59 rfl) rfl (by decide) (x_topn 1 rfl ?_)
  refine x_callI 126 M_cl_init 2 2 [_, _] (ab_dd tk_s_init 60 rfl) rfl (by first | decide | omega) K_cl_init rfl rfl V_cl_init L_s_74 rfl (Nat.le_of_ble_eq_true rfl) (c_X_cl_84 rfl rfl) (fun v1 w1 h1 => ?_)
  obtain ⟨rfl, rfl⟩ := h1
  refine t_putPF 129 (ab_dd tk_s_init 61 rfl) rfl F_s_77 rfl (no_nest (by decide +kernel)) (by decide) (Nat.le_of_ble_eq_true rfl) hk250 rfl ?_
  refine x_aload_n 130 0 (ab_dd tk_s_init 62 rfl) rfl rfl rfl ?_
  refine t_newO (ci := 1) 133 (ab_dd tk_s_init 63 rfl) rfl (Nat.le_of_ble_eq_true rfl) rfl Q_s_72 N_cl.1 N_cl.2 (x_topR 94 rfl ?_)
  refine x_dup 134 (ab_dd tk_s_init 64 rfl) rfl rfl ?_
  refine x_aload_n 135 0 (ab_dd tk_s_init 65 rfl) rfl rfl rfl ?_
  refine t_getP 138 78 (ab_dd tk_s_init 66 rfl) rfl F_s_68 (by decide) (Nat.le_of_ble_eq_true rfl) hk250 rfl rfl ?_
  refine x_iconst 139 0 (ab_dd tk_s_init 67 rfl) rfl (by decide) (x_topn 0 rfl ?_)
  refine x_callI 142 M_cl_init 2 2 [_, _] (ab_dd tk_s_init 68 rfl) rfl (by first | decide | omega) K_cl_init rfl rfl V_cl_init L_s_74 rfl (Nat.le_of_ble_eq_true rfl) (c_X_cl_94 rfl rfl) (fun v1 w1 h1 => ?_)
  obtain ⟨rfl, rfl⟩ := h1
  refine t_putPF 145 (ab_dd tk_s_init 69 rfl) rfl F_s_81 rfl (no_nest (by decide +kernel)) (by decide) (Nat.le_of_ble_eq_true rfl) hk250 rfl ?_
  refine x_stt (X_sC (k2, K2, I2, J2, P2, 84, z2)) rfl ?_
  generalize hS3 : X_sC (k2, K2, I2, J2, P2, 84, z2) = S3
  obtain ⟨k3, K3, I3, J3, P3, n3, z3⟩ := S3
  have hn3 : 104 = n3 := congrArg sn hS3
  subst hn3
  have e3k : k3 = (X_sC (k2, K2, I2, J2, P2, 84, z2)).1 := (congrArg (fun S => S.1) hS3).symm
  have e3K : K3 = sK (X_sC (k2, K2, I2, J2, P2, 84, z2)) := (congrArg sK hS3).symm
  have e3I : I3 = sI (X_sC (k2, K2, I2, J2, P2, 84, z2)) := (congrArg sI hS3).symm
  have e3P : P3 = sP (X_sC (k2, K2, I2, J2, P2, 84, z2)) := (congrArg sP hS3).symm
  have e3z : z3 = sz (X_sC (k2, K2, I2, J2, P2, 84, z2)) := (congrArg sz hS3).symm
  have hk350 : K3 50 = .inr 11 := (congrFun e3K 50).trans hk250
  have hk69 : K3 69 = .inl (.object "SeasonSeat$Tray", 4) := ((congrFun e3K 69).trans (eK 69 (by decide)))
  have hk71 : K3 71 = .inl (.object "SeasonSeat$Stand", 2) := ((congrFun e3K 71).trans (eK 71 (by decide)))
  have g2P : P2 50 = sP (X_sB (k5, K5, I5, J5, P5, 69, z5)) 50 := (eV 50 (by decide) (by decide)).2.2
  have hp7 : P3 50 7 = some 69 := (congrFun (congrFun e3P 50) 7).trans (congrFun g2P 7)
  have hp9 : P3 50 9 = some 71 := (congrFun (congrFun e3P 50) 9).trans (congrFun g2P 9)
  have hp2 : P3 50 2 = some 52 := (congrFun (congrFun e3P 50) 2).trans ((congrFun g2P 2).trans ((congrFun (congrFun e5P 50) 2).trans (congrFun (congrFun e1P 50) 2)))
  have hp12 : P3 50 12 = some 84 := congrFun (congrFun e3P 50) 12
  have hp13 : P3 50 13 = some 94 := congrFun (congrFun e3P 50) 13
  refine x_aload_n 146 0 (ab_dd tk_s_init 70 rfl) rfl rfl rfl ?_
  refine t_newO (ci := 3) 149 (ab_dd tk_s_init 71 rfl) rfl (Nat.le_of_ble_eq_true rfl) rfl Q_s_84 N_id.1 N_id.2 (x_topR 104 rfl ?_)
  refine x_dup 150 (ab_dd tk_s_init 72 rfl) rfl rfl ?_
  refine x_callI 153 M_id_init 1 0 [] (ab_dd tk_s_init 73 rfl) rfl (by first | decide | omega) K_id_init rfl rfl V_id_init L_s_86 rfl (Nat.le_of_ble_eq_true rfl) (c_X_id_104 rfl rfl) (fun v1 w1 h1 => ?_)
  obtain ⟨rfl, rfl⟩ := h1
  refine t_putPF 156 (ab_dd tk_s_init 74 rfl) rfl F_s_87 rfl (no_nest (by decide +kernel)) (by decide) (Nat.le_of_ble_eq_true rfl) hk350 rfl ?_
  refine x_aload_n 157 0 (ab_dd tk_s_init 75 rfl) rfl rfl rfl ?_
  refine x_null 158 (ab_dd tk_s_init 76 rfl) rfl ?_
  refine t_putPN 161 (ab_dd tk_s_init 77 rfl) rfl F_s_91 (by decide) (Nat.le_of_ble_eq_true rfl) hk350 rfl ?_
  refine x_aload_n 162 0 (ab_dd tk_s_init 78 rfl) rfl rfl rfl ?_
  refine x_null 163 (ab_dd tk_s_init 79 rfl) rfl ?_
  refine t_putPN 166 (ab_dd tk_s_init 80 rfl) rfl F_s_95 (by decide) (Nat.le_of_ble_eq_true rfl) hk350 rfl ?_
  refine x_iconst 167 0 (ab_dd tk_s_init 81 rfl) rfl (by decide) (x_topn 0 rfl ?_)
  refine x_istore_n 168 [some (.ref 50), some (.int (nI 0))] 1 (ab_dd tk_s_init 82 rfl) rfl rfl (by decide) rfl ?_
  refine x_iload_n 169 1 (ab_dd tk_s_init 83 rfl) rfl rfl rfl ?_
  refine x_aload_n 170 0 (ab_dd tk_s_init 84 rfl) rfl rfl rfl ?_
  refine t_getP 173 69 (ab_dd tk_s_init 85 rfl) rfl F_s_46 (by decide) (Nat.le_of_ble_eq_true rfl) hk350 rfl hp7 ?_
  refine t_alen 174 4 (ab_dd tk_s_init 86 rfl) rfl (by decide) (Nat.le_of_ble_eq_true rfl) rfl hk69 ?_
  refine x_icmp_ge_f 177 (ab_dd tk_s_init 87 rfl) rfl 196 (by decide) (fun z => absurd ((nI_leI (a := 4) (b := 0) (by omega) (by omega)).mp z) (show ¬ (4 ≤ 0) by omega)) ?_
  refine x_aload_n 178 0 (ab_dd tk_s_init 88 rfl) rfl rfl rfl ?_
  refine t_getP 181 69 (ab_dd tk_s_init 89 rfl) rfl F_s_46 (by decide) (Nat.le_of_ble_eq_true rfl) hk350 rfl hp7 ?_
  refine x_iload_n 182 1 (ab_dd tk_s_init 90 rfl) rfl rfl rfl ?_
  refine t_newO (ci := 10) 185 (ab_dd tk_s_init 91 rfl) rfl (Nat.le_of_ble_eq_true rfl) rfl Q_s_44 N_ty.1 N_ty.2 (x_topR 109 rfl ?_)
  refine x_dup 186 (ab_dd tk_s_init 92 rfl) rfl rfl ?_
  refine x_callI 189 M_ty_init 1 0 [] (ab_dd tk_s_init 93 rfl) rfl (by first | decide | omega) K_ty_init rfl rfl V_ty_init L_s_99 rfl (Nat.le_of_ble_eq_true rfl) (c_X_ty_109 rfl rfl) (fun v1 w1 h1 => ?_)
  obtain ⟨rfl, rfl⟩ := h1
  refine t_aast 190 4 0 (ab_dd tk_s_init 94 rfl) rfl (by decide) (Nat.le_of_ble_eq_true rfl) rfl hk69 (by decide) (Nat.le_of_ble_eq_true rfl) rfl rfl rfl (by omega) (by decide) ?_
  refine xn_iinc 193 1 (fun y => [some (.ref 50), some (.int y)]) 1 (ab_dd tk_s_init 95 rfl) rfl (by decide) rfl (fun _ => rfl) (by decide) ?_
  refine x_goto 168 (ab_dd tk_s_init 96 rfl) (by decide) ?_
  refine x_iload_n 169 1 (ab_dd tk_s_init 83 rfl) rfl rfl rfl ?_
  refine x_aload_n 170 0 (ab_dd tk_s_init 84 rfl) rfl rfl rfl ?_
  refine t_getP 173 69 (ab_dd tk_s_init 85 rfl) rfl F_s_46 (by decide) (Nat.le_of_ble_eq_true rfl) hk350 rfl hp7 ?_
  refine t_alen 174 4 (ab_dd tk_s_init 86 rfl) rfl (by decide) (Nat.le_of_ble_eq_true rfl) rfl hk69 ?_
  refine x_icmp_ge_f 177 (ab_dd tk_s_init 87 rfl) rfl 196 (by decide) (fun z => absurd ((nI_leI (a := 4) (b := 1) (by omega) (by omega)).mp z) (show ¬ (4 ≤ 1) by omega)) ?_
  refine x_aload_n 178 0 (ab_dd tk_s_init 88 rfl) rfl rfl rfl ?_
  refine t_getP 181 69 (ab_dd tk_s_init 89 rfl) rfl F_s_46 (by decide) (Nat.le_of_ble_eq_true rfl) hk350 rfl hp7 ?_
  refine x_iload_n 182 1 (ab_dd tk_s_init 90 rfl) rfl rfl rfl ?_
  refine t_newO (ci := 10) 185 (ab_dd tk_s_init 91 rfl) rfl (Nat.le_of_ble_eq_true rfl) rfl Q_s_44 N_ty.1 N_ty.2 (x_topR 111 rfl ?_)
  refine x_dup 186 (ab_dd tk_s_init 92 rfl) rfl rfl ?_
  refine x_callI 189 M_ty_init 1 0 [] (ab_dd tk_s_init 93 rfl) rfl (by first | decide | omega) K_ty_init rfl rfl V_ty_init L_s_99 rfl (Nat.le_of_ble_eq_true rfl) (c_X_ty_111 rfl rfl) (fun v1 w1 h1 => ?_)
  obtain ⟨rfl, rfl⟩ := h1
  refine t_aast 190 4 1 (ab_dd tk_s_init 94 rfl) rfl (by decide) (Nat.le_of_ble_eq_true rfl) rfl hk69 (by decide) (Nat.le_of_ble_eq_true rfl) rfl rfl rfl (by omega) (by decide) ?_
  refine xn_iinc 193 1 (fun y => [some (.ref 50), some (.int y)]) 2 (ab_dd tk_s_init 95 rfl) rfl (by decide) rfl (fun _ => rfl) (by decide) ?_
  refine x_goto 168 (ab_dd tk_s_init 96 rfl) (by decide) ?_
  refine x_iload_n 169 1 (ab_dd tk_s_init 83 rfl) rfl rfl rfl ?_
  refine x_aload_n 170 0 (ab_dd tk_s_init 84 rfl) rfl rfl rfl ?_
  refine t_getP 173 69 (ab_dd tk_s_init 85 rfl) rfl F_s_46 (by decide) (Nat.le_of_ble_eq_true rfl) hk350 rfl hp7 ?_
  refine t_alen 174 4 (ab_dd tk_s_init 86 rfl) rfl (by decide) (Nat.le_of_ble_eq_true rfl) rfl hk69 ?_
  refine x_icmp_ge_f 177 (ab_dd tk_s_init 87 rfl) rfl 196 (by decide) (fun z => absurd ((nI_leI (a := 4) (b := 2) (by omega) (by omega)).mp z) (show ¬ (4 ≤ 2) by omega)) ?_
  refine x_aload_n 178 0 (ab_dd tk_s_init 88 rfl) rfl rfl rfl ?_
  refine t_getP 181 69 (ab_dd tk_s_init 89 rfl) rfl F_s_46 (by decide) (Nat.le_of_ble_eq_true rfl) hk350 rfl hp7 ?_
  refine x_iload_n 182 1 (ab_dd tk_s_init 90 rfl) rfl rfl rfl ?_
  refine t_newO (ci := 10) 185 (ab_dd tk_s_init 91 rfl) rfl (Nat.le_of_ble_eq_true rfl) rfl Q_s_44 N_ty.1 N_ty.2 (x_topR 113 rfl ?_)
  refine x_dup 186 (ab_dd tk_s_init 92 rfl) rfl rfl ?_
  refine x_callI 189 M_ty_init 1 0 [] (ab_dd tk_s_init 93 rfl) rfl (by first | decide | omega) K_ty_init rfl rfl V_ty_init L_s_99 rfl (Nat.le_of_ble_eq_true rfl) (c_X_ty_113 rfl rfl) (fun v1 w1 h1 => ?_)
  obtain ⟨rfl, rfl⟩ := h1
  refine t_aast 190 4 2 (ab_dd tk_s_init 94 rfl) rfl (by decide) (Nat.le_of_ble_eq_true rfl) rfl hk69 (by decide) (Nat.le_of_ble_eq_true rfl) rfl rfl rfl (by omega) (by decide) ?_
  refine xn_iinc 193 1 (fun y => [some (.ref 50), some (.int y)]) 3 (ab_dd tk_s_init 95 rfl) rfl (by decide) rfl (fun _ => rfl) (by decide) ?_
  refine x_goto 168 (ab_dd tk_s_init 96 rfl) (by decide) ?_
  refine x_iload_n 169 1 (ab_dd tk_s_init 83 rfl) rfl rfl rfl ?_
  refine x_aload_n 170 0 (ab_dd tk_s_init 84 rfl) rfl rfl rfl ?_
  refine t_getP 173 69 (ab_dd tk_s_init 85 rfl) rfl F_s_46 (by decide) (Nat.le_of_ble_eq_true rfl) hk350 rfl hp7 ?_
  refine t_alen 174 4 (ab_dd tk_s_init 86 rfl) rfl (by decide) (Nat.le_of_ble_eq_true rfl) rfl hk69 ?_
  refine x_icmp_ge_f 177 (ab_dd tk_s_init 87 rfl) rfl 196 (by decide) (fun z => absurd ((nI_leI (a := 4) (b := 3) (by omega) (by omega)).mp z) (show ¬ (4 ≤ 3) by omega)) ?_
  refine x_aload_n 178 0 (ab_dd tk_s_init 88 rfl) rfl rfl rfl ?_
  refine t_getP 181 69 (ab_dd tk_s_init 89 rfl) rfl F_s_46 (by decide) (Nat.le_of_ble_eq_true rfl) hk350 rfl hp7 ?_
  refine x_iload_n 182 1 (ab_dd tk_s_init 90 rfl) rfl rfl rfl ?_
  refine t_newO (ci := 10) 185 (ab_dd tk_s_init 91 rfl) rfl (Nat.le_of_ble_eq_true rfl) rfl Q_s_44 N_ty.1 N_ty.2 (x_topR 115 rfl ?_)
  refine x_dup 186 (ab_dd tk_s_init 92 rfl) rfl rfl ?_
  refine x_callI 189 M_ty_init 1 0 [] (ab_dd tk_s_init 93 rfl) rfl (by first | decide | omega) K_ty_init rfl rfl V_ty_init L_s_99 rfl (Nat.le_of_ble_eq_true rfl) (c_X_ty_115 rfl rfl) (fun v1 w1 h1 => ?_)
  obtain ⟨rfl, rfl⟩ := h1
  refine t_aast 190 4 3 (ab_dd tk_s_init 94 rfl) rfl (by decide) (Nat.le_of_ble_eq_true rfl) rfl hk69 (by decide) (Nat.le_of_ble_eq_true rfl) rfl rfl rfl (by omega) (by decide) ?_
  refine xn_iinc 193 1 (fun y => [some (.ref 50), some (.int y)]) 4 (ab_dd tk_s_init 95 rfl) rfl (by decide) rfl (fun _ => rfl) (by decide) ?_
  refine x_goto 168 (ab_dd tk_s_init 96 rfl) (by decide) ?_
  refine x_iload_n 169 1 (ab_dd tk_s_init 83 rfl) rfl rfl rfl ?_
  refine x_aload_n 170 0 (ab_dd tk_s_init 84 rfl) rfl rfl rfl ?_
  refine t_getP 173 69 (ab_dd tk_s_init 85 rfl) rfl F_s_46 (by decide) (Nat.le_of_ble_eq_true rfl) hk350 rfl hp7 ?_
  refine t_alen 174 4 (ab_dd tk_s_init 86 rfl) rfl (by decide) (Nat.le_of_ble_eq_true rfl) rfl hk69 ?_
  refine x_icmp_ge_t 196 (ab_dd tk_s_init 87 rfl) (by decide) ((nI_leI (a := 4) (b := 4) (by omega) (by omega)).mpr (show 4 ≤ 4 by omega)) ?_
  refine x_iconst 197 0 (ab_dd tk_s_init 97 rfl) rfl (by decide) (x_topn 0 rfl ?_)
  refine x_istore_n 198 [some (.ref 50), some (.int (nI 0))] 1 (ab_dd tk_s_init 98 rfl) rfl rfl (by decide) rfl ?_
  refine x_iload_n 199 1 (ab_dd tk_s_init 99 rfl) rfl rfl rfl ?_
  refine x_aload_n 200 0 (ab_dd tk_s_init 100 rfl) rfl rfl rfl ?_
  refine t_getP 203 71 (ab_dd tk_s_init 101 rfl) rfl F_s_54 (by decide) (Nat.le_of_ble_eq_true rfl) hk350 rfl hp9 ?_
  refine t_alen 204 6 (ab_dd tk_s_init 102 rfl) rfl (by decide) (Nat.le_of_ble_eq_true rfl) rfl hk71 ?_
  refine x_icmp_ge_f 207 (ab_dd tk_s_init 103 rfl) rfl 226 (by decide) (fun z => absurd ((nI_leI (a := 2) (b := 0) (by omega) (by omega)).mp z) (show ¬ (2 ≤ 0) by omega)) ?_
  refine x_aload_n 208 0 (ab_dd tk_s_init 104 rfl) rfl rfl rfl ?_
  refine t_getP 211 71 (ab_dd tk_s_init 105 rfl) rfl F_s_54 (by decide) (Nat.le_of_ble_eq_true rfl) hk350 rfl hp9 ?_
  refine x_iload_n 212 1 (ab_dd tk_s_init 106 rfl) rfl rfl rfl ?_
  refine t_newO (ci := 8) 215 (ab_dd tk_s_init 107 rfl) rfl (Nat.le_of_ble_eq_true rfl) rfl Q_s_24 N_sd.1 N_sd.2 (x_topR 117 rfl ?_)
  refine x_dup 216 (ab_dd tk_s_init 108 rfl) rfl rfl ?_
  refine x_callI 219 M_sd_init 1 0 [] (ab_dd tk_s_init 109 rfl) rfl (by first | decide | omega) K_sd_init rfl rfl V_sd_init L_s_26 rfl (Nat.le_of_ble_eq_true rfl) (c_X_sd_117 rfl rfl) (fun v1 w1 h1 => ?_)
  obtain ⟨rfl, rfl⟩ := h1
  refine t_aast 220 6 0 (ab_dd tk_s_init 110 rfl) rfl (by decide) (Nat.le_of_ble_eq_true rfl) rfl hk71 (by decide) (Nat.le_of_ble_eq_true rfl) rfl rfl rfl (by omega) (by decide) ?_
  refine xn_iinc 223 1 (fun y => [some (.ref 50), some (.int y)]) 1 (ab_dd tk_s_init 111 rfl) rfl (by decide) rfl (fun _ => rfl) (by decide) ?_
  refine x_goto 198 (ab_dd tk_s_init 112 rfl) (by decide) ?_
  refine x_iload_n 199 1 (ab_dd tk_s_init 99 rfl) rfl rfl rfl ?_
  refine x_aload_n 200 0 (ab_dd tk_s_init 100 rfl) rfl rfl rfl ?_
  refine t_getP 203 71 (ab_dd tk_s_init 101 rfl) rfl F_s_54 (by decide) (Nat.le_of_ble_eq_true rfl) hk350 rfl hp9 ?_
  refine t_alen 204 6 (ab_dd tk_s_init 102 rfl) rfl (by decide) (Nat.le_of_ble_eq_true rfl) rfl hk71 ?_
  refine x_icmp_ge_f 207 (ab_dd tk_s_init 103 rfl) rfl 226 (by decide) (fun z => absurd ((nI_leI (a := 2) (b := 1) (by omega) (by omega)).mp z) (show ¬ (2 ≤ 1) by omega)) ?_
  refine x_aload_n 208 0 (ab_dd tk_s_init 104 rfl) rfl rfl rfl ?_
  refine t_getP 211 71 (ab_dd tk_s_init 105 rfl) rfl F_s_54 (by decide) (Nat.le_of_ble_eq_true rfl) hk350 rfl hp9 ?_
  refine x_iload_n 212 1 (ab_dd tk_s_init 106 rfl) rfl rfl rfl ?_
  refine t_newO (ci := 8) 215 (ab_dd tk_s_init 107 rfl) rfl (Nat.le_of_ble_eq_true rfl) rfl Q_s_24 N_sd.1 N_sd.2 (x_topR 118 rfl ?_)
  refine x_dup 216 (ab_dd tk_s_init 108 rfl) rfl rfl ?_
  refine x_callI 219 M_sd_init 1 0 [] (ab_dd tk_s_init 109 rfl) rfl (by first | decide | omega) K_sd_init rfl rfl V_sd_init L_s_26 rfl (Nat.le_of_ble_eq_true rfl) (c_X_sd_118 rfl rfl) (fun v1 w1 h1 => ?_)
  obtain ⟨rfl, rfl⟩ := h1
  refine t_aast 220 6 1 (ab_dd tk_s_init 110 rfl) rfl (by decide) (Nat.le_of_ble_eq_true rfl) rfl hk71 (by decide) (Nat.le_of_ble_eq_true rfl) rfl rfl rfl (by omega) (by decide) ?_
  refine xn_iinc 223 1 (fun y => [some (.ref 50), some (.int y)]) 2 (ab_dd tk_s_init 111 rfl) rfl (by decide) rfl (fun _ => rfl) (by decide) ?_
  refine x_goto 198 (ab_dd tk_s_init 112 rfl) (by decide) ?_
  refine x_iload_n 199 1 (ab_dd tk_s_init 99 rfl) rfl rfl rfl ?_
  refine x_aload_n 200 0 (ab_dd tk_s_init 100 rfl) rfl rfl rfl ?_
  refine t_getP 203 71 (ab_dd tk_s_init 101 rfl) rfl F_s_54 (by decide) (Nat.le_of_ble_eq_true rfl) hk350 rfl hp9 ?_
  refine t_alen 204 6 (ab_dd tk_s_init 102 rfl) rfl (by decide) (Nat.le_of_ble_eq_true rfl) rfl hk71 ?_
  refine x_icmp_ge_t 226 (ab_dd tk_s_init 103 rfl) (by decide) ((nI_leI (a := 2) (b := 2) (by omega) (by omega)).mpr (show 2 ≤ 2 by omega)) ?_
  refine x_aload_n 227 0 (ab_dd tk_s_init 113 rfl) rfl rfl rfl ?_
  refine t_getP 230 84 (ab_dd tk_s_init 114 rfl) rfl F_s_77 (by decide) (Nat.le_of_ble_eq_true rfl) hk350 rfl hp12 ?_
  refine x_aload_n 231 0 (ab_dd tk_s_init 115 rfl) rfl rfl rfl ?_
  refine t_getP 234 52 (ab_dd tk_s_init 116 rfl) rfl F_s_20 (by decide) (Nat.le_of_ble_eq_true rfl) hk350 rfl hp2 ?_
  have ek : k3 = k := e3k.trans (e2k.trans (e5k.trans e1k))
  have kcT : kSh (X_sD (k3, K3, I3, J3, P3, 104, z3)).1 := by show kSh k3; rw [ek]; exact kc
  have kd52 : K3 52 = _ := ((congrFun e3K 52).trans ((eK 52 (by decide)).trans ((congrFun e5K 52).trans (congrFun e1K 52))))
  have kd53 : K3 53 = _ := ((congrFun e3K 53).trans ((eK 53 (by decide)).trans ((congrFun e5K 53).trans (congrFun e1K 53))))
  have kd54 : K3 54 = _ := ((congrFun e3K 54).trans ((eK 54 (by decide)).trans ((congrFun e5K 54).trans (congrFun e1K 54))))
  have i52 : I3 52 = sI (X_sA (k, K, I, J, P, 51, z)) 52 := ((congrFun e3I 52).trans ((eV 52 (by decide) (by decide)).1.trans ((congrFun e5I 52).trans (congrFun e1I 52))))
  have i53 : I3 53 = sI (X_sA (k, K, I, J, P, 51, z)) 53 := ((congrFun e3I 53).trans ((eV 53 (by decide) (by decide)).1.trans ((congrFun e5I 53).trans (congrFun e1I 53))))
  have i54 : I3 54 = sI (X_sA (k, K, I, J, P, 51, z)) 54 := ((congrFun e3I 54).trans ((eV 54 (by decide) (by decide)).1.trans ((congrFun e5I 54).trans (congrFun e1I 54))))
  have p52 : P3 52 = sP (X_sA (k, K, I, J, P, 51, z)) 52 := ((congrFun e3P 52).trans ((eV 52 (by decide) (by decide)).2.2.trans ((congrFun e5P 52).trans (congrFun e1P 52))))
  have hca : caI (X_sD (k3, K3, I3, J3, P3, 104, z3)) im0 52 a0 := ⟨⟨by decide, Nat.le_of_ble_eq_true rfl, kd52, kd53, kd54, congrFun p52 5, congrFun p52 6, Or.inl rfl, Or.inr (Or.inl rfl), Or.inr (Or.inr rfl)⟩, congrFun i52 0, congrFun i52 1, fun r _ => congrFun i53 r, fun r _ => congrFun i54 r, congrFun p52 7, congrFun p52 8, 0, 0, congrFun i52 3, by decide, congrFun i52 2, by decide⟩
  have hch : ∀ (X : ab_S) (y len Q : Nat) (v : Nat → Nat), (sI X y = fun _ => 0) → chE X y len 1 Q v := fun X y len Q v e i _ => ⟨0, by rw [e]; rfl, by decide, by rw [Nat.zero_div]; decide, fun z => by rw [Nat.zero_div] at z; exact absurd z (by decide)⟩
  have hce : ∀ (X : ab_S) (y st Q : Nat) (v : Nat → Nat), chE X y 0 st Q v := fun X y st Q v i hi => absurd hi (Nat.not_lt_zero i)
  have i84 : I3 84 = sI (X_sC (k2, K2, I2, J2, P2, 84, z2)) 84 := congrFun e3I 84
  have p84 : P3 84 = sP (X_sC (k2, K2, I2, J2, P2, 84, z2)) 84 := congrFun e3P 84
  have hcK : clK (X_sD (k3, K3, I3, J3, P3, 104, z3)) 84 := ⟨Or.inl rfl, Nat.le_of_ble_eq_true rfl, (congrFun e3K 84), (congrFun e3K 89), (congrFun e3K 90), (congrFun e3K 91), (congrFun e3K 92), (congrFun e3K 93), congrFun p84 0, congrFun p84 7, congrFun p84 8, congrFun p84 9, congrFun p84 10, congrFun p84 11⟩
  refine t_callV 237 M_cl_enter 0 1 [_] (ab_dd tk_s_init 117 rfl) rfl (by first | decide | omega) K_cl_enter V_cl_enter.1 V_cl_enter.2 L_s_100 rfl (Nat.le_of_ble_eq_true rfl) (by decide) (Nat.le_of_ble_eq_true rfl) (congrFun e3K 84) rfl (c_cl_enter0 (S := (X_sD (k3, K3, I3, J3, P3, 104, z3))) (im := im0) (x := 84) (bh := 88) (nb := 0) (st := 1) (b := a0) kcT (Or.inl rfl) hcK im0_O (fun y z => by rcases z with z | z | z <;> rw [z] <;> exact Nat.le_of_ble_eq_true rfl) ⟨congrFun i84 5, ⟨by decide, by decide⟩, congrFun p84 6, ⟨by decide, Nat.le_of_ble_eq_true rfl⟩, (congrFun e3K 88), by decide, fun z => (by rcases z with z | z | z <;> cases z), Or.inl rfl, hce _ _ _ _ _, hch _ _ _ _ _ (congrFun e3I 89), hch _ _ _ _ _ (congrFun e3I 90)⟩ (by decide) a0_good.1 hca (congrFun i52 3) (congrFun i52 2)) (fun v1 w1 h1 => ?_)
  obtain ⟨rfl, S16, bh1, nb1, rfl, g16, hcl16, r16, q16, hgr⟩ := h1
  have hgr2 : bh1 = 119 ∧ nb1 = 1 ∧ sn S16 = 120 ∧ sz S16 = sz (X_sD (k3, K3, I3, J3, P3, 104, z3)) + 1 := by
    rcases hgr with ⟨z, -⟩ | ⟨-, -, z3, z4, z5, z6⟩
    · exfalso
      rcases z with z | z
      · exact absurd (show (nI 1 : Int32) = 0 from (congrFun i84 1).symm.trans z) (by decide)
      · exact absurd z (by decide)
    · exact ⟨z3, z4, z5, z6⟩
  obtain ⟨rfl, rfl, n16, z16⟩ := hgr2
  have b16 : ∀ y, y < 119 → y ≠ 84 → sI S16 y = sI (X_sD (k3, K3, I3, J3, P3, 104, z3)) y ∧ sJ S16 y = sJ (X_sD (k3, K3, I3, J3, P3, 104, z3)) y ∧ sP S16 y = sP (X_sD (k3, K3, I3, J3, P3, 104, z3)) y := fun y h1 h2 => g16.2.2.2 y h1 h2
  have k16 : ∀ y, y < 119 → sK S16 y = sK (X_sD (k3, K3, I3, J3, P3, 104, z3)) y := fun y h1 => g16.2.2.1 y h1
  have kc16 : kSh S16.1 := by rw [g16.1]; exact kcT
  have kd50 : sK S16 50 = .inr 11 := (k16 50 (by decide)).trans hk350
  have kd94 : sK S16 94 = .inr 1 := (k16 94 (by decide)).trans (congrFun e3K 94)
  have pp13 : sP S16 50 13 = some 94 := (congrFun (b16 50 (by decide) (by decide)).2.2 13).trans hp13
  have pp2 : sP S16 50 2 = some 52 := (congrFun (b16 50 (by decide) (by decide)).2.2 2).trans hp2
  have hca16 : caI S16 im0 52 a0 := hca.im (g16.im (fun y z w => by rcases z with z | z | z <;> (have w : y = 84 := w; omega))) (fun _ z => z)
  have e94 := b16 94 (by decide) (by decide)
  have i94 : sI S16 94 = sI (X_sC (k2, K2, I2, J2, P2, 84, z2)) 94 := e94.1.trans (congrFun e3I 94)
  have p94 : sP S16 94 = sP (X_sC (k2, K2, I2, J2, P2, 84, z2)) 94 := e94.2.2.trans (congrFun e3P 94)
  have hcK2 : clK S16 94 := ⟨Or.inr rfl, by rw [n16]; decide, kd94, (k16 99 (by decide)).trans (congrFun e3K 99), (k16 100 (by decide)).trans (congrFun e3K 100), (k16 101 (by decide)).trans (congrFun e3K 101), (k16 102 (by decide)).trans (congrFun e3K 102), (k16 103 (by decide)).trans (congrFun e3K 103), congrFun p94 0, congrFun p94 7, congrFun p94 8, congrFun p94 9, congrFun p94 10, congrFun p94 11⟩
  have c52 := (b16 52 (by decide) (by decide)).1
  refine x_aload_n 238 0 (ab_dd tk_s_init 118 rfl) rfl rfl rfl ?_
  refine t_getP 241 94 (ab_dd tk_s_init 119 rfl) rfl F_s_81 (by decide) (by rw [n16]; decide) kd50 rfl pp13 ?_
  refine x_aload_n 242 0 (ab_dd tk_s_init 120 rfl) rfl rfl rfl ?_
  refine t_getP 245 52 (ab_dd tk_s_init 121 rfl) rfl F_s_20 (by decide) (by rw [n16]; decide) kd50 rfl pp2 ?_
  refine t_callV 248 M_cl_enter 0 1 [_] (ab_dd tk_s_init 122 rfl) rfl (by first | decide | omega) K_cl_enter V_cl_enter.1 V_cl_enter.2 L_s_100 rfl (Nat.le_of_ble_eq_true rfl) (by decide) (by rw [n16]; decide) kd94 rfl (c_cl_enter0 (S := S16) (im := im0) (x := 94) (bh := 98) (nb := 0) (st := 1) (b := a0) kc16 (Or.inr ⟨n16, congrFun i94 1⟩) hcK2 im0_O (fun y z => by rw [n16]; rcases z with z | z | z <;> omega) ⟨congrFun i94 5, ⟨by decide, by decide⟩, congrFun p94 6, ⟨by decide, by rw [n16]; decide⟩, (k16 98 (by decide)).trans (congrFun e3K 98), by decide, fun z => (by rcases z with z | z | z <;> cases z), Or.inl rfl, hce _ _ _ _ _, hch _ _ _ _ _ ((b16 99 (by decide) (by decide)).1.trans (congrFun e3I 99)), hch _ _ _ _ _ ((b16 100 (by decide) (by decide)).1.trans (congrFun e3I 100))⟩ (by decide) a0_good.1 hca16 ((congrFun c52 3).trans (congrFun i52 3)) ((congrFun c52 2).trans (congrFun i52 2))) (fun v1 w1 h1 => ?_)
  obtain ⟨rfl, S17, bh2, nb2, rfl, g17, hcl17, r17, q17, hgr⟩ := h1
  have hgr2 : bh2 = 98 ∧ nb2 = 0 ∧ sn S17 = 120 ∧ sz S17 = sz S16 := by
    rcases hgr with ⟨-, z1, z2, z3, z4⟩ | ⟨z, -⟩
    · exact ⟨z1, z2, z3.trans n16, z4⟩
    · exact absurd (congrFun i94 1) z
  obtain ⟨rfl, rfl, n17, z17⟩ := hgr2
  have b17 : ∀ y, y < 119 → y ≠ 84 → y ≠ 94 → sI S17 y = sI (X_sD (k3, K3, I3, J3, P3, 104, z3)) y ∧ sJ S17 y = sJ (X_sD (k3, K3, I3, J3, P3, 104, z3)) y ∧ sP S17 y = sP (X_sD (k3, K3, I3, J3, P3, 104, z3)) y := fun y h1 h2 h3 => by
    obtain ⟨x1, x2, x3⟩ := g17.2.2.2 y (by rw [n16]; omega) h3
    obtain ⟨y1, y2, y3⟩ := b16 y h1 h2
    exact ⟨x1.trans y1, x2.trans y2, x3.trans y3⟩
  have k17 : ∀ y, y < 119 → sK S17 y = sK (X_sD (k3, K3, I3, J3, P3, 104, z3)) y := fun y h1 => (g17.2.2.1 y (by rw [n16]; omega)).trans (k16 y h1)
  have hXK : ∀ q, q < 70 → sK S17 (50 + q) = xKd q := fun q hq => match q, hq with
    | 0, _ => (k17 50 (by decide)).trans hk350
    | 1, _ => (k17 51 (by decide)).trans ((congrFun e3K 51).trans ((eK 51 (by decide)).trans ((congrFun e5K 51).trans (congrFun e1K 51))))
    | 2, _ => (k17 52 (by decide)).trans ((congrFun e3K 52).trans ((eK 52 (by decide)).trans ((congrFun e5K 52).trans (congrFun e1K 52))))
    | 3, _ => (k17 53 (by decide)).trans ((congrFun e3K 53).trans ((eK 53 (by decide)).trans ((congrFun e5K 53).trans (congrFun e1K 53))))
    | 4, _ => (k17 54 (by decide)).trans ((congrFun e3K 54).trans ((eK 54 (by decide)).trans ((congrFun e5K 54).trans (congrFun e1K 54))))
    | 5, _ => (k17 55 (by decide)).trans ((congrFun e3K 55).trans ((eK 55 (by decide)).trans ((congrFun e5K 55).trans (congrFun e1K 55))))
    | 6, _ => (k17 56 (by decide)).trans ((congrFun e3K 56).trans ((eK 56 (by decide)).trans ((congrFun e5K 56).trans (congrFun e1K 56))))
    | 7, _ => (k17 57 (by decide)).trans ((congrFun e3K 57).trans ((eK 57 (by decide)).trans (congrFun e5K 57)))
    | 8, _ => (k17 58 (by decide)).trans ((congrFun e3K 58).trans ((eK 58 (by decide)).trans (congrFun e5K 58)))
    | 9, _ => (k17 59 (by decide)).trans ((congrFun e3K 59).trans ((eK 59 (by decide)).trans (congrFun e5K 59)))
    | 10, _ => (k17 60 (by decide)).trans ((congrFun e3K 60).trans ((eK 60 (by decide)).trans (congrFun e5K 60)))
    | 11, _ => (k17 61 (by decide)).trans ((congrFun e3K 61).trans ((eK 61 (by decide)).trans (congrFun e5K 61)))
    | 12, _ => (k17 62 (by decide)).trans ((congrFun e3K 62).trans ((eK 62 (by decide)).trans (congrFun e5K 62)))
    | 13, _ => (k17 63 (by decide)).trans ((congrFun e3K 63).trans ((eK 63 (by decide)).trans (congrFun e5K 63)))
    | 14, _ => (k17 64 (by decide)).trans ((congrFun e3K 64).trans ((eK 64 (by decide)).trans (congrFun e5K 64)))
    | 15, _ => (k17 65 (by decide)).trans ((congrFun e3K 65).trans ((eK 65 (by decide)).trans (congrFun e5K 65)))
    | 16, _ => (k17 66 (by decide)).trans ((congrFun e3K 66).trans ((eK 66 (by decide)).trans (congrFun e5K 66)))
    | 17, _ => (k17 67 (by decide)).trans ((congrFun e3K 67).trans ((eK 67 (by decide)).trans (congrFun e5K 67)))
    | 18, _ => (k17 68 (by decide)).trans ((congrFun e3K 68).trans ((eK 68 (by decide)).trans (congrFun e5K 68)))
    | 19, _ => (k17 69 (by decide)).trans ((congrFun e3K 69).trans (eK 69 (by decide)))
    | 20, _ => (k17 70 (by decide)).trans ((congrFun e3K 70).trans (eK 70 (by decide)))
    | 21, _ => (k17 71 (by decide)).trans ((congrFun e3K 71).trans (eK 71 (by decide)))
    | 22, _ => (k17 72 (by decide)).trans ((congrFun e3K 72).trans (eK 72 (by decide)))
    | 23, _ => (k17 73 (by decide)).trans ((congrFun e3K 73).trans (eK 73 (by decide)))
    | 24, _ => (k17 74 (by decide)).trans ((congrFun e3K 74).trans (eK 74 (by decide)))
    | 25, _ => (k17 75 (by decide)).trans ((congrFun e3K 75).trans (eK 75 (by decide)))
    | 26, _ => (k17 76 (by decide)).trans ((congrFun e3K 76).trans (eK 76 (by decide)))
    | 27, _ => (k17 77 (by decide)).trans ((congrFun e3K 77).trans (eK 77 (by decide)))
    | 28, _ => (k17 78 (by decide)).trans ((congrFun e3K 78).trans (eK 78 (by decide)))
    | 29, _ => (k17 79 (by decide)).trans ((congrFun e3K 79).trans hSK.2.2.2.1)
    | 30, _ => (k17 80 (by decide)).trans ((congrFun e3K 80).trans hSK.2.2.2.2.1)
    | 31, _ => (k17 81 (by decide)).trans ((congrFun e3K 81).trans hSK.2.2.2.2.2.1)
    | 32, _ => (k17 82 (by decide)).trans ((congrFun e3K 82).trans hSK.2.2.2.2.2.2.1)
    | 33, _ => (k17 83 (by decide)).trans ((congrFun e3K 83).trans hS83)
    | 34, _ => (k17 84 (by decide)).trans (congrFun e3K 84)
    | 35, _ => (k17 85 (by decide)).trans (congrFun e3K 85)
    | 36, _ => (k17 86 (by decide)).trans (congrFun e3K 86)
    | 37, _ => (k17 87 (by decide)).trans (congrFun e3K 87)
    | 38, _ => (k17 88 (by decide)).trans (congrFun e3K 88)
    | 39, _ => (k17 89 (by decide)).trans (congrFun e3K 89)
    | 40, _ => (k17 90 (by decide)).trans (congrFun e3K 90)
    | 41, _ => (k17 91 (by decide)).trans (congrFun e3K 91)
    | 42, _ => (k17 92 (by decide)).trans (congrFun e3K 92)
    | 43, _ => (k17 93 (by decide)).trans (congrFun e3K 93)
    | 44, _ => (k17 94 (by decide)).trans (congrFun e3K 94)
    | 45, _ => (k17 95 (by decide)).trans (congrFun e3K 95)
    | 46, _ => (k17 96 (by decide)).trans (congrFun e3K 96)
    | 47, _ => (k17 97 (by decide)).trans (congrFun e3K 97)
    | 48, _ => (k17 98 (by decide)).trans (congrFun e3K 98)
    | 49, _ => (k17 99 (by decide)).trans (congrFun e3K 99)
    | 50, _ => (k17 100 (by decide)).trans (congrFun e3K 100)
    | 51, _ => (k17 101 (by decide)).trans (congrFun e3K 101)
    | 52, _ => (k17 102 (by decide)).trans (congrFun e3K 102)
    | 53, _ => (k17 103 (by decide)).trans (congrFun e3K 103)
    | 54, _ => (k17 104 (by decide)).trans rfl
    | 55, _ => (k17 105 (by decide)).trans rfl
    | 56, _ => (k17 106 (by decide)).trans rfl
    | 57, _ => (k17 107 (by decide)).trans rfl
    | 58, _ => (k17 108 (by decide)).trans rfl
    | 59, _ => (k17 109 (by decide)).trans rfl
    | 60, _ => (k17 110 (by decide)).trans rfl
    | 61, _ => (k17 111 (by decide)).trans rfl
    | 62, _ => (k17 112 (by decide)).trans rfl
    | 63, _ => (k17 113 (by decide)).trans rfl
    | 64, _ => (k17 114 (by decide)).trans rfl
    | 65, _ => (k17 115 (by decide)).trans rfl
    | 66, _ => (k17 116 (by decide)).trans rfl
    | 67, _ => (k17 117 (by decide)).trans rfl
    | 68, _ => (k17 118 (by decide)).trans rfl
    | 69, _ => (g17.2.2.1 119 (by rw [n16]; decide)).trans hcl16.2.2.2.2.2.2.2.2.1
    | q + 70, h => absurd h (by omega)
  have hXP : ∀ t ∈ xPl, sP S17 t.1 t.2.1 = some t.2.2 := by
    intro t ht
    simp only [xPl, List.mem_cons, List.not_mem_nil, or_false] at ht
    rcases ht with rfl | rfl | rfl | rfl | rfl | rfl | rfl | rfl | rfl | rfl | rfl | rfl | rfl | rfl | rfl | rfl | rfl | rfl | rfl | rfl | rfl | rfl | rfl | rfl | rfl | rfl | rfl | rfl | rfl | rfl | rfl | rfl | rfl | rfl | rfl | rfl | rfl | rfl | rfl | rfl | rfl | rfl | rfl | rfl | rfl | rfl | rfl | rfl | rfl | rfl | rfl | rfl | rfl
    · exact ((congrFun (b17 50 (by decide) (by decide) (by decide)).2.2 0).trans ((congrFun (congrFun e3P 50) 0).trans ((congrFun g2P 0).trans ((congrFun (congrFun e5P 50) 0).trans (congrFun (congrFun e1P 50) 0)))))
    · exact ((congrFun (b17 50 (by decide) (by decide) (by decide)).2.2 3).trans ((congrFun (congrFun e3P 50) 3).trans ((congrFun g2P 3).trans ((congrFun (congrFun e5P 50) 3).trans (congrFun (congrFun e1P 50) 3)))))
    · exact ((congrFun (b17 50 (by decide) (by decide) (by decide)).2.2 4).trans ((congrFun (congrFun e3P 50) 4).trans ((congrFun g2P 4).trans ((congrFun (congrFun e5P 50) 4).trans (congrFun (congrFun e1P 50) 4)))))
    · exact ((congrFun (b17 50 (by decide) (by decide) (by decide)).2.2 5).trans ((congrFun (congrFun e3P 50) 5).trans ((congrFun g2P 5).trans (congrFun (congrFun e5P 50) 5))))
    · exact ((congrFun (b17 50 (by decide) (by decide) (by decide)).2.2 7).trans ((congrFun (congrFun e3P 50) 7).trans (congrFun g2P 7)))
    · exact ((congrFun (b17 50 (by decide) (by decide) (by decide)).2.2 8).trans ((congrFun (congrFun e3P 50) 8).trans (congrFun g2P 8)))
    · exact ((congrFun (b17 50 (by decide) (by decide) (by decide)).2.2 9).trans ((congrFun (congrFun e3P 50) 9).trans (congrFun g2P 9)))
    · exact ((congrFun (b17 50 (by decide) (by decide) (by decide)).2.2 10).trans ((congrFun (congrFun e3P 50) 10).trans (congrFun g2P 10)))
    · exact ((congrFun (b17 50 (by decide) (by decide) (by decide)).2.2 11).trans (congrFun (congrFun e3P 50) 11))
    · exact ((congrFun (b17 50 (by decide) (by decide) (by decide)).2.2 12).trans (congrFun (congrFun e3P 50) 12))
    · exact ((congrFun (b17 50 (by decide) (by decide) (by decide)).2.2 13).trans (congrFun (congrFun e3P 50) 13))
    · exact ((congrFun (b17 50 (by decide) (by decide) (by decide)).2.2 14).trans rfl)
    · exact ((congrFun (b17 57 (by decide) (by decide) (by decide)).2.2 0).trans (congrFun ((congrFun e3P 57).trans ((eV 57 (by decide) (by decide)).2.2.trans (congrFun e5P 57))) 0))
    · exact ((congrFun (b17 72 (by decide) (by decide) (by decide)).2.2 11).trans (congrFun ((congrFun e3P 72).trans (eV 72 (by decide) (by decide)).2.2) 11))
    · exact ((congrFun (b17 78 (by decide) (by decide) (by decide)).2.2 0).trans ((congrFun (congrFun e3P 78) 0).trans hSK.2.2.2.2.2.2.2.1))
    · exact ((congrFun (b17 78 (by decide) (by decide) (by decide)).2.2 1).trans ((congrFun (congrFun e3P 78) 1).trans hSK.2.2.2.2.2.2.2.2.1))
    · exact ((congrFun (b17 78 (by decide) (by decide) (by decide)).2.2 2).trans ((congrFun (congrFun e3P 78) 2).trans hSK.2.2.2.2.2.2.2.2.2.1))
    · exact ((congrFun (b17 78 (by decide) (by decide) (by decide)).2.2 3).trans ((congrFun (congrFun e3P 78) 3).trans hSK.2.2.2.2.2.2.2.2.2.2))
    · exact ((congrFun (g17.2.2.2 84 (by rw [n16]; decide) (by decide)).2.2 0).trans ((q16 0 (by decide) (by decide)).trans (congrFun p84 0)))
    · exact ((congrFun (g17.2.2.2 84 (by rw [n16]; decide) (by decide)).2.2 7).trans ((q16 7 (by decide) (by decide)).trans (congrFun p84 7)))
    · exact ((congrFun (g17.2.2.2 84 (by rw [n16]; decide) (by decide)).2.2 8).trans ((q16 8 (by decide) (by decide)).trans (congrFun p84 8)))
    · exact ((congrFun (g17.2.2.2 84 (by rw [n16]; decide) (by decide)).2.2 9).trans ((q16 9 (by decide) (by decide)).trans (congrFun p84 9)))
    · exact ((congrFun (g17.2.2.2 84 (by rw [n16]; decide) (by decide)).2.2 10).trans ((q16 10 (by decide) (by decide)).trans (congrFun p84 10)))
    · exact ((congrFun (g17.2.2.2 84 (by rw [n16]; decide) (by decide)).2.2 11).trans ((q16 11 (by decide) (by decide)).trans (congrFun p84 11)))
    · exact ((q17 0 (by decide) (by decide)).trans (congrFun p94 0))
    · exact ((q17 7 (by decide) (by decide)).trans (congrFun p94 7))
    · exact ((q17 8 (by decide) (by decide)).trans (congrFun p94 8))
    · exact ((q17 9 (by decide) (by decide)).trans (congrFun p94 9))
    · exact ((q17 10 (by decide) (by decide)).trans (congrFun p94 10))
    · exact ((q17 11 (by decide) (by decide)).trans (congrFun p94 11))
    · exact hcl17.2.2.2.2.2.2.1
    · exact ((congrFun (b17 104 (by decide) (by decide) (by decide)).2.2 0).trans rfl)
    · exact ((congrFun (b17 104 (by decide) (by decide) (by decide)).2.2 1).trans rfl)
    · exact ((congrFun (b17 109 (by decide) (by decide) (by decide)).2.2 0).trans rfl)
    · exact ((congrFun (b17 111 (by decide) (by decide) (by decide)).2.2 0).trans rfl)
    · exact ((congrFun (b17 113 (by decide) (by decide) (by decide)).2.2 0).trans rfl)
    · exact ((congrFun (b17 115 (by decide) (by decide) (by decide)).2.2 0).trans rfl)
    · exact ((congrFun (b17 58 (by decide) (by decide) (by decide)).2.2 0).trans (congrFun ((congrFun e3P 58).trans ((eV 58 (by decide) (by decide)).2.2.trans (congrFun e5P 58))) 0))
    · exact ((congrFun (b17 58 (by decide) (by decide) (by decide)).2.2 1).trans (congrFun ((congrFun e3P 58).trans ((eV 58 (by decide) (by decide)).2.2.trans (congrFun e5P 58))) 1))
    · exact ((congrFun (b17 58 (by decide) (by decide) (by decide)).2.2 2).trans (congrFun ((congrFun e3P 58).trans ((eV 58 (by decide) (by decide)).2.2.trans (congrFun e5P 58))) 2))
    · exact ((congrFun (b17 58 (by decide) (by decide) (by decide)).2.2 3).trans (congrFun ((congrFun e3P 58).trans ((eV 58 (by decide) (by decide)).2.2.trans (congrFun e5P 58))) 3))
    · exact ((congrFun (b17 58 (by decide) (by decide) (by decide)).2.2 4).trans (congrFun ((congrFun e3P 58).trans ((eV 58 (by decide) (by decide)).2.2.trans (congrFun e5P 58))) 4))
    · exact ((congrFun (b17 58 (by decide) (by decide) (by decide)).2.2 5).trans (congrFun ((congrFun e3P 58).trans ((eV 58 (by decide) (by decide)).2.2.trans (congrFun e5P 58))) 5))
    · exact ((congrFun (b17 58 (by decide) (by decide) (by decide)).2.2 6).trans (congrFun ((congrFun e3P 58).trans ((eV 58 (by decide) (by decide)).2.2.trans (congrFun e5P 58))) 6))
    · exact ((congrFun (b17 58 (by decide) (by decide) (by decide)).2.2 7).trans (congrFun ((congrFun e3P 58).trans ((eV 58 (by decide) (by decide)).2.2.trans (congrFun e5P 58))) 7))
    · exact ((congrFun (b17 58 (by decide) (by decide) (by decide)).2.2 8).trans (congrFun ((congrFun e3P 58).trans ((eV 58 (by decide) (by decide)).2.2.trans (congrFun e5P 58))) 8))
    · exact ((congrFun (b17 58 (by decide) (by decide) (by decide)).2.2 9).trans (congrFun ((congrFun e3P 58).trans ((eV 58 (by decide) (by decide)).2.2.trans (congrFun e5P 58))) 9))
    · exact ((congrFun (b17 69 (by decide) (by decide) (by decide)).2.2 0).trans rfl)
    · exact ((congrFun (b17 69 (by decide) (by decide) (by decide)).2.2 1).trans rfl)
    · exact ((congrFun (b17 69 (by decide) (by decide) (by decide)).2.2 2).trans rfl)
    · exact ((congrFun (b17 69 (by decide) (by decide) (by decide)).2.2 3).trans rfl)
    · exact ((congrFun (b17 71 (by decide) (by decide) (by decide)).2.2 0).trans rfl)
    · exact ((congrFun (b17 71 (by decide) (by decide) (by decide)).2.2 1).trans rfl)
  have hx17 : xSh S17 := ⟨by rw [n17]; decide, hXK, hXP⟩
  have e79 : sI S17 79 = I2 79 := (b17 79 (by decide) (by decide) (by decide)).1.trans (congrFun e3I 79)
  have e80 : sI S17 80 = I2 80 := (b17 80 (by decide) (by decide) (by decide)).1.trans (congrFun e3I 80)
  have e81 : sI S17 81 = I2 81 := (b17 81 (by decide) (by decide) (by decide)).1.trans (congrFun e3I 81)
  have e82 : sI S17 82 = I2 82 := (b17 82 (by decide) (by decide) (by decide)).1.trans (congrFun e3I 82)
  have hse : seOk S17 := by
    unfold seOk
    rw [e79, e80, e81, e82]
    exact hSF
  have e50 := b17 50 (by decide) (by decide) (by decide)
  have e84 := g17.2.2.2 84 (by rw [n16]; decide) (by decide)
  have hcl84 : clI S17 im0 84 52 a0 119 1 2 := hcl16.gf g17 (by rw [n16]; decide) (fun y z w => by rcases z with z | z | z <;> (have w : y = 94 := w; omega)) (by decide) (by decide) (by decide) (by decide)
  have s55 : sI S17 55 = sI (X_sA (k, K, I, J, P, 51, z)) 55 := (b17 55 (by decide) (by decide) (by decide)).1.trans ((congrFun e3I 55).trans ((eV 55 (by decide) (by decide)).1.trans ((congrFun e5I 55).trans (congrFun e1I 55))))
  have s57 : ∀ y, 57 ≤ y → y ≤ 68 → sI S17 y = sI (X_sP (k1, K1, I1, J1, P1, 57, z1)) y := fun y h1 h2 => by
    rcases (by omega : y = 57 ∨ y = 58 ∨ y = 59 ∨ y = 60 ∨ y = 61 ∨ y = 62 ∨ y = 63 ∨ y = 64 ∨ y = 65 ∨ y = 66 ∨ y = 67 ∨ y = 68) with e | e | e | e | e | e | e | e | e | e | e | e
    · rw [e]; exact (b17 57 (by decide) (by decide) (by decide)).1.trans ((congrFun e3I 57).trans ((eV 57 (by decide) (by decide)).1.trans (congrFun e5I 57)))
    · rw [e]; exact (b17 58 (by decide) (by decide) (by decide)).1.trans ((congrFun e3I 58).trans ((eV 58 (by decide) (by decide)).1.trans (congrFun e5I 58)))
    · rw [e]; exact (b17 59 (by decide) (by decide) (by decide)).1.trans ((congrFun e3I 59).trans ((eV 59 (by decide) (by decide)).1.trans (congrFun e5I 59)))
    · rw [e]; exact (b17 60 (by decide) (by decide) (by decide)).1.trans ((congrFun e3I 60).trans ((eV 60 (by decide) (by decide)).1.trans (congrFun e5I 60)))
    · rw [e]; exact (b17 61 (by decide) (by decide) (by decide)).1.trans ((congrFun e3I 61).trans ((eV 61 (by decide) (by decide)).1.trans (congrFun e5I 61)))
    · rw [e]; exact (b17 62 (by decide) (by decide) (by decide)).1.trans ((congrFun e3I 62).trans ((eV 62 (by decide) (by decide)).1.trans (congrFun e5I 62)))
    · rw [e]; exact (b17 63 (by decide) (by decide) (by decide)).1.trans ((congrFun e3I 63).trans ((eV 63 (by decide) (by decide)).1.trans (congrFun e5I 63)))
    · rw [e]; exact (b17 64 (by decide) (by decide) (by decide)).1.trans ((congrFun e3I 64).trans ((eV 64 (by decide) (by decide)).1.trans (congrFun e5I 64)))
    · rw [e]; exact (b17 65 (by decide) (by decide) (by decide)).1.trans ((congrFun e3I 65).trans ((eV 65 (by decide) (by decide)).1.trans (congrFun e5I 65)))
    · rw [e]; exact (b17 66 (by decide) (by decide) (by decide)).1.trans ((congrFun e3I 66).trans ((eV 66 (by decide) (by decide)).1.trans (congrFun e5I 66)))
    · rw [e]; exact (b17 67 (by decide) (by decide) (by decide)).1.trans ((congrFun e3I 67).trans ((eV 67 (by decide) (by decide)).1.trans (congrFun e5I 67)))
    · rw [e]; exact (b17 68 (by decide) (by decide) (by decide)).1.trans ((congrFun e3I 68).trans ((eV 68 (by decide) (by decide)).1.trans (congrFun e5I 68)))
  have s72 : sI S17 72 = sI (X_sB (k5, K5, I5, J5, P5, 69, z5)) 72 := (b17 72 (by decide) (by decide) (by decide)).1.trans ((congrFun e3I 72).trans (eV 72 (by decide) (by decide)).1)
  have hpa : paI S17 0 0 (fun _ => ((0, 0, 0, 0, 0) : sT)) := ⟨congrFun (s57 57 (by decide) (by decide)) 1, by decide, congrFun (s57 57 (by decide) (by decide)) 2, by decide, fun i hi => by
    unfold sdE
    rw [s57 (59 + i) (by omega) (by omega)]
    rcases (by omega : i = 0 ∨ i = 1 ∨ i = 2 ∨ i = 3 ∨ i = 4 ∨ i = 5 ∨ i = 6 ∨ i = 7 ∨ i = 8 ∨ i = 9) with e | e | e | e | e | e | e | e | e | e <;> rw [e] <;> exact ⟨rfl, rfl, rfl, rfl, rfl⟩⟩
  have htr : ∀ t, t < 4 → sI S17 (109 + 2 * t) 2 = -1 := fun t ht => by
    rw [(b17 (109 + 2 * t) (by omega) (by omega) (by omega)).1]
    rcases (by omega : t = 0 ∨ t = 1 ∨ t = 2 ∨ t = 3) with e | e | e | e <;> rw [e] <;> rfl
  have him : ∀ i, i < 2 → sP S17 70 i = none := fun i hi => (congrFun (b17 70 (by decide) (by decide) (by decide)).2.2 i).trans (congrFun ((congrFun e3P 70).trans (eV 70 (by decide) (by decide)).2.2) i)
  have htp : ∀ i, i < 900 → sI S17 51 i = 0 := fun i hi => (congrFun (b17 51 (by decide) (by decide) (by decide)).1 i).trans (congrFun ((congrFun e3I 51).trans ((eV 51 (by decide) (by decide)).1.trans ((congrFun e5I 51).trans (congrFun e1I 51)))) i)
  have hsz : sz S17 ≤ z + 20000 := by
    have q3 : sz (X_sD (k3, K3, I3, J3, P3, 104, z3)) = z3 + 2690 := rfl
    have q2 : z3 = z2 + 4750 := e3z.trans rfl
    have q1 : sz (X_sB (k5, K5, I5, J5, P5, 69, z5)) = z5 + 954 := rfl
    have q4 : z5 = z1 + 63 := e5z.trans rfl
    have q0 : z1 = z + 939 := e1z.trans rfl
    omega
  exact x_vret (ab_dd tk_s_init 123 rfl) ⟨rfl, S17, rfl, hx17, hse, g17.1.trans (g16.1.trans ek), n17, hsz, (congrFun e50.2.2 2).trans hp2, hcl84, hcl17, ⟨(congrFun e84.1 1).trans (r16.trans (congrFun i84 1)), r17.trans (congrFun i94 1)⟩, ⟨107, 108, (congrFun (b17 104 (by decide) (by decide) (by decide)).2.2 4).trans rfl, (congrFun (b17 104 (by decide) (by decide) (by decide)).2.2 5).trans rfl, Or.inl ⟨rfl, rfl⟩⟩, ⟨(congrFun e50.2.2 15).trans rfl, (congrFun e50.2.2 16).trans rfl⟩, ⟨congrFun s55 0, congrFun s55 1, congrFun s55 2, congrFun s55 3, congrFun s55 4⟩, hpa, htr, him, htp, (congrFun e50.1 1).trans ((congrFun (congrFun e3I 50) 1).trans ((congrFun (eV 50 (by decide) (by decide)).1 1).trans ((congrFun (congrFun e5I 50) 1).trans (congrFun (congrFun e1I 50) 1)))), ⟨congrFun s72 6, congrFun s72 7, congrFun s72 12⟩⟩
