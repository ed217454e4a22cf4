/-! ===== a climate enters a carriage ===== -/
def tb_cl_enter : List (Nat × Instr × Nat) := [(0, .aload_n 0, 1), (1, .aload_n 1, 1), (2, .putfield 12, 3), (5, .aload_n 0, 1), (6, .aload_n 1, 1), (7, .getfield 55, 3), (10, .putfield 18, 3), (13, .aload_n 0, 1), (14, .aload_n 1, 1), (15, .getfield 56, 3), (18, .putfield 22, 3), (21, .aload_n 0, 1), (22, .dup, 1), (23, .getfield 25, 3), (26, .iconst 1, 1), (27, .iadd, 1), (28, .putfield 25, 3), (31, .getstatic 57, 3), (34, .aload_n 1, 1), (35, .getfield 60, 3), (38, .iaload, 1), (39, .getstatic 63, 3), (42, .aload_n 1, 1), (43, .getfield 60, 3), (46, .iaload, 1), (47, .imul, 1), (48, .istore_n 2, 1), (49, .aload_n 0, 1), (50, .getfield 51, 3), (53, .ifCond .eq 19, 3), (56, .aload_n 0, 1), (57, .getfield 28, 3), (60, .arraylength, 1), (61, .iload_n 2, 1), (62, .if_icmp .ge 10, 3), (65, .aload_n 0, 1), (66, .iload_n 2, 1), (67, .newarray .int, 2), (69, .putfield 28, 3), (72, .return_, 1)]
theorem tk_cl_enter : ∀ q ∈ tb_cl_enter, decode M_cl_enter.2.1 q.1 = .ok q.2 := by decide +kernel
theorem c_cl_enter {G : ab_G} {S : ab_S} {im : Nat → Prop} {x c bh nb st : Nat} {b : Nat → Int32} (kc : kSh S.1) (h145 : 145 ≤ sn S) (hK : clK S x) (him : imO im) (hil : ∀ y, im y → y < sn S) (hcl : clI S im x c b bh nb st) (hst : st + 1 < 2 ^ 20) {d : Nat} {b1 : Nat → Int32} (hb1 : aOk b1) (hca : caI S im d b1) (h3 : sI S d 3 = nI (seaC b1)) (h2 : sI S d 2 = b1 40) : ab_C G 0 M_cl_enter [.ref x, .ref d] (sw S) (fun v w' => v = none ∧ ∃ S' bh' nb', w' = sw S' ∧ gF (fun y => y = x) S S' ∧ clI S' im x d b1 bh' nb' (st + 1) ∧ sI S' x 1 = sI S x 1 ∧ (∀ k, k ≠ 2 → k ≠ 6 → sP S' x k = sP S x k) ∧ ((bh' = bh ∧ nb' = nb ∧ sn S' = sn S ∧ sz S' = sz S) ∨ (¬ sI S x 1 = 0 ∧ nb < (kFc (aR b1) * 5 ^ aR b1) ∧ bh' = sn S ∧ nb' = (kFc (aR b1) * 5 ^ aR b1) ∧ sn S' = sn S + 1 ∧ sz S' = sz S + (kFc (aR b1) * 5 ^ aR b1)))) := by
  refine x_enter [some (.ref x), some (.ref d), none] (by decide) (Nat.le_of_ble_eq_true rfl) rfl (fun v w' h => by obtain ⟨rfl, -⟩ := h; trivial) ?_
  obtain ⟨a1, a2, a3, a4, a5, a6, a7, a8, a9, a10, a11, a12, b1', b2, b3⟩ := hcl
  have hxx := hK.1
  have hx50 : 50 ≤ x ∧ x < 100 := by omega
  have hnx : ¬ im x := fun z => by have := him x z; omega
  have hk := hca.1
  have hdx : d ≠ x := fun z => hnx (z ▸ hk.2.2.2.2.2.2.2.1)
  have hR := hb1.R.2
  have hsl := seaC_lt hb1
  have hN15 : (kFc (aR b1) * 5 ^ aR b1) ≤ 15000 := kFc_15 hR
  have h50 : 50 ≤ sn S := by omega
  refine x_aload_n 1 0 (ab_dd tk_cl_enter 0 rfl) rfl rfl rfl ?_
  refine x_aload_n 2 1 (ab_dd tk_cl_enter 1 rfl) rfl rfl rfl ?_
  refine t_putP 5 (ab_dd tk_cl_enter 2 rfl) rfl F_cl_12 (by rcases hK.1 with z | z <;> omega) (Nat.lt_of_le_of_lt (Nat.le_add_right x 9) hK.2.1) hK.2.2.1 rfl ?_
  refine x_aload_n 6 0 (ab_dd tk_cl_enter 3 rfl) rfl rfl rfl ?_
  refine x_aload_n 7 1 (ab_dd tk_cl_enter 4 rfl) rfl rfl rfl ?_
  refine t_getI 10 (ab_dd tk_cl_enter 5 rfl) rfl F_cl_55 hk.1 (Nat.lt_of_le_of_lt (Nat.le_add_right d 2) hk.2.1) hk.2.2.1 rfl (x_topn (seaC b1) h3 ?_)
  refine t_putI 13 (ab_dd tk_cl_enter 6 rfl) rfl F_cl_18 (by rcases hK.1 with z | z <;> omega) (Nat.lt_of_le_of_lt (Nat.le_add_right x 9) hK.2.1) hK.2.2.1 rfl rfl rfl ?_
  refine x_aload_n 14 0 (ab_dd tk_cl_enter 7 rfl) rfl rfl rfl ?_
  refine x_aload_n 15 1 (ab_dd tk_cl_enter 8 rfl) rfl rfl rfl ?_
  refine t_getI 18 (ab_dd tk_cl_enter 9 rfl) rfl F_cl_56 hk.1 (Nat.lt_of_le_of_lt (Nat.le_add_right d 2) hk.2.1) hk.2.2.1 rfl (x_topx (b1 40) ((gI_a (by omega)).trans h2) ?_)
  refine t_putI 21 (ab_dd tk_cl_enter 10 rfl) rfl F_cl_22 (by rcases hK.1 with z | z <;> omega) (Nat.lt_of_le_of_lt (Nat.le_add_right x 9) hK.2.1) hK.2.2.1 rfl rfl rfl ?_
  refine x_aload_n 22 0 (ab_dd tk_cl_enter 11 rfl) rfl rfl rfl ?_
  refine x_dup 23 (ab_dd tk_cl_enter 12 rfl) rfl rfl ?_
  refine t_getI 26 (ab_dd tk_cl_enter 13 rfl) rfl F_cl_25 (by rcases hK.1 with z | z <;> omega) (Nat.lt_of_le_of_lt (Nat.le_add_right x 9) hK.2.1) hK.2.2.1 rfl (x_topn st ((gI_k (by decide)).trans ((gI_k (by decide)).trans a5)) ?_)
  refine x_iconst 27 1 (ab_dd tk_cl_enter 14 rfl) rfl (by decide) (x_topn 1 rfl ?_)
  refine x_iadd 28 (ab_dd tk_cl_enter 15 rfl) rfl (x_topn (st + 1) (nI_add _ _) ?_)
  refine t_putI 31 (ab_dd tk_cl_enter 16 rfl) rfl F_cl_25 (by rcases hK.1 with z | z <;> omega) (Nat.lt_of_le_of_lt (Nat.le_add_right x 9) hK.2.1) hK.2.2.1 rfl rfl rfl ?_
  obtain ⟨S5, hS5⟩ : ∃ S5, S5 = (pI (pI (pI (pP S x 2 (some d)) x 3 (nI (seaC b1))) x 4 (b1 40)) x 5 (nI (st + 1))) := ⟨_, rfl⟩
  rw [← hS5]
  have g5 : gF (fun y => y = x) S S5 := by rw [hS5]; exact (((gF.rf (l := fun y => y = x)).pP (a := x) rfl |>.pI (a := x) rfl).pI (a := x) rfl).pI (a := x) rfl
  have n5 : sn S5 = sn S := by rw [hS5]; rfl
  have z5 : sz S5 = sz S := by rw [hS5]; rfl
  have k5 : sK S5 = sK S := by rw [hS5]; rfl
  have kc5 : kSh S5.1 := by rw [g5.1]; exact kc
  have h505 : 50 ≤ sn S5 := by omega
  have r5 : sI S5 x 1 = sI S x 1 := by rw [hS5]; exact (gI_k (by decide)).trans ((gI_k (by decide)).trans (gI_k (by decide)))
  have p5 : ∀ k, k ≠ 2 → sP S5 x k = sP S x k := fun k hk => by rw [hS5]; exact gP_k hk
  have p52 : sP S5 x 2 = some d := by rw [hS5]; exact gP_s
  have i53 : sI S5 x 3 = nI (seaC b1) := by rw [hS5]; exact (gI_k (by decide)).trans ((gI_k (by decide)).trans gI_s)
  have i54 : sI S5 x 4 = b1 40 := by rw [hS5]; exact (gI_k (by decide)).trans gI_s
  have i55 : sI S5 x 5 = nI (st + 1) := by rw [hS5]; exact gI_s
  have o5 : ∀ y, y < sn S → y ≠ x → sI S5 y = sI S y := fun y h1 h2 => (g5.2.2.2 y h1 h2).1
  have hcl5 : clI S5 im x d b1 bh nb (st + 1) := ⟨hca.im (g5.im (fun y z w => hnx (w ▸ z))) (fun _ z => z), p52, i53, i54, i55, ⟨by omega, hst⟩, (p5 6 (by decide)).trans a7, ⟨a8.1, by omega⟩, by rw [k5]; exact a9, a10, a11, a12, b1'.next (o5 _ a8.2 (by omega)), b2.next (o5 _ (by have := hK.2.1; omega) (by omega)), b3.next (o5 _ (by have := hK.2.1; omega) (by omega))⟩
  obtain ⟨hk5, c15, -⟩ := hcl5.1
  have hx5 : x < sn S5 := by have := hK.2.1; omega
  have hK5 : sK S5 x = .inr 1 := by rw [k5]; exact hK.2.2.1
  refine x_getsN 34 (ab_dd tk_cl_enter 17 rfl) rfl (List.mem_of_getElem? (i := 0) rfl) F_cl_57 ?_
  refine x_aload_n 35 1 (ab_dd tk_cl_enter 18 rfl) rfl rfl rfl ?_
  refine t_getI 38 (ab_dd tk_cl_enter 19 rfl) rfl F_cl_60 hk5.1 (Nat.lt_of_le_of_lt (Nat.le_add_right d 2) hk5.2.1) hk5.2.2.1 rfl (x_topn (aR b1) c15 ?_)
  refine t_ialdK 39 (aR b1) (ab_dd tk_cl_enter 20 rfl) rfl (by decide) h505 (kc5.2.1) rfl (by omega) (by decide) (x_topn (kPw (aR b1)) (kPw_N (aR b1) (by omega)) ?_)
  refine x_getsN 42 (ab_dd tk_cl_enter 21 rfl) rfl (List.mem_of_getElem? (i := 1) rfl) F_cl_63 ?_
  refine x_aload_n 43 1 (ab_dd tk_cl_enter 22 rfl) rfl rfl rfl ?_
  refine t_getI 46 (ab_dd tk_cl_enter 23 rfl) rfl F_cl_60 hk5.1 (Nat.lt_of_le_of_lt (Nat.le_add_right d 2) hk5.2.1) hk5.2.2.1 rfl (x_topn (aR b1) c15 ?_)
  refine t_ialdK 47 (aR b1) (ab_dd tk_cl_enter 24 rfl) rfl (by decide) h505 (kc5.2.2) rfl (by omega) (by decide) (x_topn (kFc (aR b1)) (kFc_N (aR b1) (by omega)) ?_)
  refine x_imul 48 (ab_dd tk_cl_enter 25 rfl) rfl (x_topn (kFc (aR b1) * 5 ^ aR b1) (by rw [pk_mul, Nat.mul_comm]; rfl) ?_)
  refine x_istore_n 49 [some (.ref x), some (.ref d), some (.int (nI (kFc (aR b1) * 5 ^ aR b1)))] 2 (ab_dd tk_cl_enter 26 rfl) rfl rfl (by decide) rfl ?_
  refine x_aload_n 50 0 (ab_dd tk_cl_enter 27 rfl) rfl rfl rfl ?_
  refine t_getI 53 (ab_dd tk_cl_enter 28 rfl) rfl F_cl_51 (Nat.le_trans (by decide) hx50.1) hx5 hK5 rfl (x_topx (sI S x 1) r5 ?_)
  refine x_if_eq 56 72 (ab_dd tk_cl_enter 29 rfl) rfl (by decide) (fun h53 => ?_) (fun h53 => ?_)
  · exact x_vret (ab_dd tk_cl_enter 39 rfl) ⟨rfl, S5, bh, nb, rfl, g5, hcl5, r5, fun k y1 _ => p5 k y1, Or.inl ⟨rfl, rfl, n5, z5⟩⟩
  · refine x_aload_n 57 0 (ab_dd tk_cl_enter 30 rfl) rfl rfl rfl ?_
    refine t_getP 60 bh (ab_dd tk_cl_enter 31 rfl) rfl F_cl_28 (Nat.le_trans (by decide) hx50.1) hx5 hK5 rfl hcl5.2.2.2.2.2.2.1 ?_
    refine t_alen 61 0 (ab_dd tk_cl_enter 32 rfl) rfl hcl5.2.2.2.2.2.2.2.1.1 hcl5.2.2.2.2.2.2.2.1.2 rfl hcl5.2.2.2.2.2.2.2.2.1 ?_
    refine x_iload_n 62 2 (ab_dd tk_cl_enter 33 rfl) rfl rfl rfl ?_
    refine xn_icmp_ge 65 72 (ab_dd tk_cl_enter 34 rfl) rfl (by decide) (by omega) (by omega) (fun h62 => ?_) (fun h62 => ?_)
    · exact x_vret (ab_dd tk_cl_enter 39 rfl) ⟨rfl, S5, bh, nb, rfl, g5, hcl5, r5, fun k y1 _ => p5 k y1, Or.inl ⟨rfl, rfl, n5, z5⟩⟩
    · refine x_aload_n 66 0 (ab_dd tk_cl_enter 35 rfl) rfl rfl rfl ?_
      refine x_iload_n 67 2 (ab_dd tk_cl_enter 36 rfl) rfl rfl rfl ?_
      refine t_newI 69 (kFc (aR b1) * 5 ^ aR b1) (ab_dd tk_cl_enter 37 rfl) rfl (show 50 ≤ sn S5 + 0 by omega) A_int rfl (by omega) ?_
      refine t_putP 72 (ab_dd tk_cl_enter 38 rfl) rfl F_cl_28 (Nat.le_trans (by decide) hx50.1) (Nat.lt_succ_of_lt hx5) ((up1_o (Nat.ne_of_lt hx5)).trans hK5) rfl ?_
      obtain ⟨S6, hS6⟩ : ∃ S6, S6 = pP (pN S5 (.inl (.int, (kFc (aR b1) * 5 ^ aR b1))) (kFc (aR b1) * 5 ^ aR b1)) x 6 (some (sn S5)) := ⟨_, rfl⟩
      rw [← hS6]
      have hne : ∀ y, y < sn S → y ≠ sn S5 := fun y z => by omega
      have g6 : gF (fun y => y = x) S5 S6 := by
        rw [hS6]
        refine gF.pP ⟨rfl, Nat.le_succ _, fun y z => up1_o (by omega), fun y z _ => ⟨up1_o (by omega), up1_o (by omega), up1_o (by omega)⟩⟩ rfl
      have e6 : sI S6 x = sI S5 x := by rw [hS6]; exact up1_o (by omega)
      have q6 : ∀ k, k ≠ 6 → sP S6 x k = sP S5 x k := fun k hk => by rw [hS6]; exact (gP_k hk).trans (congrFun (up1_o (by omega)) k)
      have z6 : sI S6 (sn S5) = fun _ => 0 := by rw [hS6]; exact up1_s
      have f2 := (g6.2.2.2 (x + 5) (by have := hK.2.1; omega) (by omega)).1
      have f3 := (g6.2.2.2 (x + 6) (by have := hK.2.1; omega) (by omega)).1
      exact x_vret (ab_dd tk_cl_enter 39 rfl) ⟨rfl, S6, sn S5, (kFc (aR b1) * 5 ^ aR b1), rfl, g5.tr g6, ⟨hcl5.1.im (g6.im (fun y z w => hnx (w ▸ z))) (fun _ z => z), (q6 2 (by decide)).trans p52, by rw [e6]; exact i53, by rw [e6]; exact i54, by rw [e6]; exact i55, ⟨by omega, hst⟩, by rw [hS6]; exact gP_s, ⟨h505, by rw [hS6]; exact Nat.lt_succ_self _⟩, by rw [hS6]; exact up1_s, by omega, fun z => by have := hil _ z; omega, Or.inr (Or.inr (by omega)), fun i hi => ⟨0, by rw [z6]; rfl, by decide, by omega, fun z => absurd z (by omega)⟩, hcl5.2.2.2.2.2.2.2.2.2.2.2.2.2.1.eq f2, hcl5.2.2.2.2.2.2.2.2.2.2.2.2.2.2.eq f3⟩, by rw [e6]; exact r5, fun k y1 y2 => (q6 k y2).trans (p5 k y1), Or.inr ⟨h53, by omega, n5, rfl, by rw [hS6]; show sn S5 + 1 = _; omega, by rw [hS6]; show sz S5 + _ = _; omega⟩⟩
