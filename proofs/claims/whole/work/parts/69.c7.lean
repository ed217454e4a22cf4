theorem nI_mask {e : Nat} (he : e < 2 ^ 31) {m : Int32} (k : Nat) (hm : m.toBitVec.toNat = 2 ^ k - 1) : nI e &&& m = nI (e % 2 ^ k) := by
  rw [pk_and _ k hm, pk_tn (by omega)]
theorem lvV_c2 {u n : Nat} {cd wd wd' : Nat → Int32} (hu : u ≤ 9) (h : lawOk (nI (1000 + u)) cd n) (hw : ∀ i, i < u → wd i = wd' i) : lvV wd cd n = lvV wd' cd n := by
  unfold lvV
  rw [lvE_cg hu hw (fun j hj => (h.1.1 j hj).2) n (Nat.le_refl n)]
theorem mK_pl (a : Nat → Int32) {r wa seat : Nat} (hwa : wa < 5) (hs : seat < 4) : mK a ((r * 5 + wa) * 4 + seat) = mV1 a r wa seat := by
  unfold mK
  rw [show ((r * 5 + wa) * 4 + seat) / 20 = r by omega, show ((r * 5 + wa) * 4 + seat) / 4 % 5 = wa by omega, show ((r * 5 + wa) * 4 + seat) % 4 = seat by omega]
theorem mV1_01 (a : Nat → Int32) (r wa seat : Nat) : mV1 a r wa seat < 2 := by
  unfold mV1
  split
  · decide
  · split <;> decide
theorem aOk.sea {b : Nat → Int32} {r : Nat} (hr : r < 4) : mSea (rwS b) r = b (28 + r) := if_pos hr
theorem aOk.cls {b : Nat → Int32} {r : Nat} (hr : r < 4) : mCls (rwS b) r = b (8 + r) := if_pos hr
def tb_cl_mayGo : List (Nat × Instr × Nat) := [(0, .iload_n 1, 1), (1, .iconst 5, 1), (2, .imul, 1), (3, .iload_n 2, 1), (4, .iadd, 1), (5, .iconst 4, 1), (6, .imul, 1), (7, .iload_n 3, 1), (8, .iadd, 1), (9, .istore 4, 2), (11, .iload 4, 2), (13, .ifCond .lt 13, 3), (16, .iload 4, 2), (18, .aload_n 0, 1), (19, .getfield 35, 3), (22, .arraylength, 1), (23, .if_icmp .lt 5, 3), (26, .iconst 0, 1), (27, .ireturn, 1), (28, .aload_n 0, 1), (29, .getfield 35, 3), (32, .iload 4, 2), (34, .iaload, 1), (35, .iconst 1, 1), (36, .ishr, 1), (37, .aload_n 0, 1), (38, .getfield 25, 3), (41, .if_icmp .eq 43, 3), (44, .aload_n 0, 1), (45, .iload_n 1, 1), (46, .iload_n 2, 1), (47, .iload_n 3, 1), (48, .invokevirtual 82, 3), (51, .aload_n 0, 1), (52, .getfield 35, 3), (55, .iload 4, 2), (57, .aload_n 0, 1), (58, .getfield 25, 3), (61, .iconst 1, 1), (62, .ishl, 1), (63, .aload_n 0, 1), (64, .aload_n 0, 1), (65, .getfield 12, 3), (68, .getfield 66, 3), (71, .invokevirtual 86, 3), (74, .ifCond .eq 7, 3), (77, .iconst 1, 1), (78, .goto 4, 3), (81, .iconst 0, 1), (82, .ior, 1), (83, .iastore, 1), (84, .aload_n 0, 1), (85, .getfield 35, 3), (88, .iload 4, 2), (90, .iaload, 1), (91, .iconst 1, 1), (92, .iand, 1), (93, .ifCond .eq 7, 3), (96, .iconst 1, 1), (97, .goto 4, 3), (100, .iconst 0, 1), (101, .ireturn, 1)]
theorem tk_cl_mayGo : ∀ q ∈ tb_cl_mayGo, decode M_cl_mayGo.2.1 q.1 = .ok q.2 := by decide +kernel
theorem c_cl_mayGo {G : ab_G} {S : ab_S} {im : Nat → Prop} {x c bh nb st : Nat} {a : Nat → Int32} (hK : clK S x) (him : imO im) (hcl : clI S im x c a bh nb st) (ha : aGood a) {n : Nat} {cd : Nat → Int32} (hml : mMl (rwS a) = some (n, cd)) (r wa seat : Nat) (hr : r < 4) (hwa : wa < 5) (hseat : seat < 4) : ab_C G 2 M_cl_mayGo [.ref x, .int (nI r), .int (nI wa), .int (nI seat)] (sw S) (fun v w' => v = some (.int (if mV1 a r wa seat = 1 then 1 else 0)) ∧ ∃ S', w' = sw S' ∧ sEq [x + 6, x + 8, x + 9] S S' ∧ clI S' im x c a bh nb st) := by
  refine x_enter [some (.ref x), some (.int (nI r)), some (.int (nI wa)), some (.int (nI seat)), none] (by decide) (Nat.le_of_ble_eq_true rfl) rfl (fun v w' h => by obtain ⟨rfl, -⟩ := h; show narrow _ _ = _; split <;> rfl) ?_
  have g := hcl
  obtain ⟨a1, a2, a3, a4, a5, a6, a7, a8, a9, a10, a11, a12, b1, b2, b3⟩ := g
  have hxx := hK.1
  have g1 := a1
  obtain ⟨hk, c1, c2, c3, c4, c5, c6, c7⟩ := g1
  have hci := him c hk.2.2.2.2.2.2.2.1
  have hci1 := him (c + 1) hk.2.2.2.2.2.2.2.2.1
  have hci2 := him (c + 2) hk.2.2.2.2.2.2.2.2.2
  have hnim : ∀ k, k ≤ 9 → ¬ im (x + k) := fun k hk z => by have := him _ z; omega
  rw [hml] at c6
  obtain ⟨lb, l1, l2, l3, l4, l5, l6, l7⟩ := c6
  have hlb := him lb l6
  obtain ⟨e, he1, he2, he3, he4⟩ := b3 ((r * 5 + wa) * 4 + seat) (by omega)
  rw [mK_pl a hwa hseat] at he4
  have hm01 := mV1_01 a r wa seat
  have hlaw := ha.2.2 n cd hml
  refine x_iload_n 1 1 (ab_dd tk_cl_mayGo 0 rfl) rfl rfl rfl ?_
  refine x_iconst 2 5 (ab_dd tk_cl_mayGo 1 rfl) rfl (by decide) (x_topn 5 rfl ?_)
  refine x_imul 3 (ab_dd tk_cl_mayGo 2 rfl) rfl (x_topn (r * 5) (pk_mul _ _) ?_)
  refine x_iload_n 4 2 (ab_dd tk_cl_mayGo 3 rfl) rfl rfl rfl ?_
  refine x_iadd 5 (ab_dd tk_cl_mayGo 4 rfl) rfl (x_topn ((r * 5) + wa) (nI_add _ _) ?_)
  refine x_iconst 6 4 (ab_dd tk_cl_mayGo 5 rfl) rfl (by decide) (x_topn 4 rfl ?_)
  refine x_imul 7 (ab_dd tk_cl_mayGo 6 rfl) rfl (x_topn (((r * 5) + wa) * 4) (pk_mul _ _) ?_)
  refine x_iload_n 8 3 (ab_dd tk_cl_mayGo 7 rfl) rfl rfl rfl ?_
  refine x_iadd 9 (ab_dd tk_cl_mayGo 8 rfl) rfl (x_topn ((((r * 5) + wa) * 4) + seat) (nI_add _ _) ?_)
  refine x_istore 11 [some (.ref x), some (.int (nI r)), some (.int (nI wa)), some (.int (nI seat)), some (.int (nI ((((r * 5) + wa) * 4) + seat)))] 4 (ab_dd tk_cl_mayGo 9 rfl) rfl (by decide) rfl ?_
  refine x_iload 13 4 (ab_dd tk_cl_mayGo 10 rfl) rfl rfl ?_
  refine xn_if_lt 16 26 (ab_dd tk_cl_mayGo 11 rfl) rfl (by decide) (by omega) ?_
  refine x_iload 18 4 (ab_dd tk_cl_mayGo 12 rfl) rfl rfl ?_
  refine x_aload_n 19 0 (ab_dd tk_cl_mayGo 13 rfl) rfl rfl rfl ?_
  refine t_getP 22 (x + 6) (ab_dd tk_cl_mayGo 14 rfl) rfl F_cl_35 (by rcases hK.1 with z | z <;> omega) (Nat.lt_of_le_of_lt (Nat.le_add_right x 9) hK.2.1) hK.2.2.1 rfl hK.2.2.2.2.2.2.2.2.2.2.1 ?_
  refine t_alen 23 0 (ab_dd tk_cl_mayGo 15 rfl) rfl (by rcases hK.1 with z | z <;> omega) (Nat.lt_of_le_of_lt (Nat.add_le_add_left (by decide) x) hK.2.1) rfl hK.2.2.2.2.1 ?_
  refine x_icmp_lt_t 28 (ab_dd tk_cl_mayGo 16 rfl) (by decide) ((nI_ltI (a := ((((r * 5) + wa) * 4) + seat)) (b := 80) (by omega) (by omega)).mpr (show ((((r * 5) + wa) * 4) + seat) < 80 by omega)) ?_
  refine x_aload_n 29 0 (ab_dd tk_cl_mayGo 19 rfl) rfl rfl rfl ?_
  refine t_getP 32 (x + 6) (ab_dd tk_cl_mayGo 20 rfl) rfl F_cl_35 (by rcases hK.1 with z | z <;> omega) (Nat.lt_of_le_of_lt (Nat.le_add_right x 9) hK.2.1) hK.2.2.1 rfl hK.2.2.2.2.2.2.2.2.2.2.1 ?_
  refine x_iload 34 4 (ab_dd tk_cl_mayGo 21 rfl) rfl rfl ?_
  refine t_iald 35 ((((r * 5) + wa) * 4) + seat) (ab_dd tk_cl_mayGo 22 rfl) rfl (by rcases hK.1 with z | z <;> omega) (Nat.lt_of_le_of_lt (Nat.add_le_add_left (by decide) x) hK.2.1) hK.2.2.2.2.1 rfl (by omega) (by decide) (x_topn e he1 ?_)
  refine x_iconst 36 1 (ab_dd tk_cl_mayGo 23 rfl) rfl (by decide) (x_topn 1 rfl ?_)
  refine x_ishr 37 (ab_dd tk_cl_mayGo 24 rfl) rfl (x_topn (e / 2) (pk_shrN he2 _ 1 (by decide)) ?_)
  refine x_aload_n 38 0 (ab_dd tk_cl_mayGo 25 rfl) rfl rfl rfl ?_
  refine t_getI 41 (ab_dd tk_cl_mayGo 26 rfl) rfl F_cl_25 (by rcases hK.1 with z | z <;> omega) (Nat.lt_of_le_of_lt (Nat.le_add_right x 9) hK.2.1) hK.2.2.1 rfl (x_topn st a5 ?_)
  refine xn_icmp_eq 44 84 (ab_dd tk_cl_mayGo 27 rfl) rfl (by decide) (by omega) (by omega) (fun h41 => ?_) (fun h41 => ?_)
  · refine x_aload_n 85 0 (ab_dd tk_cl_mayGo 51 rfl) rfl rfl rfl ?_
    refine t_getP 88 (x + 6) (ab_dd tk_cl_mayGo 52 rfl) rfl F_cl_35 (by rcases hK.1 with z | z <;> omega) (Nat.lt_of_le_of_lt (Nat.le_add_right x 9) hK.2.1) hK.2.2.1 rfl hK.2.2.2.2.2.2.2.2.2.2.1 ?_
    refine x_iload 90 4 (ab_dd tk_cl_mayGo 53 rfl) rfl rfl ?_
    refine t_iald 91 ((((r * 5) + wa) * 4) + seat) (ab_dd tk_cl_mayGo 54 rfl) rfl (by rcases hK.1 with z | z <;> omega) (Nat.lt_of_le_of_lt (Nat.add_le_add_left (by decide) x) hK.2.1) hK.2.2.2.2.1 rfl (by omega) (by decide) (x_topn e he1 ?_)
    refine x_iconst 92 1 (ab_dd tk_cl_mayGo 55 rfl) rfl (by decide) (x_topn 1 rfl ?_)
    refine x_iand 93 (ab_dd tk_cl_mayGo 56 rfl) rfl (x_topn (e % 2) (nI_mask he2 1 (by decide)) ?_)
    refine xn_if_eq 96 100 (ab_dd tk_cl_mayGo 57 rfl) rfl (by decide) (by omega) (fun h93 => ?_) (fun h93 => ?_)
    · refine x_iconst 101 0 (ab_dd tk_cl_mayGo 60 rfl) rfl (by decide) (x_topn 0 rfl ?_)
      rw [he4 h41] at h93
      exact x_iret (ab_dd tk_cl_mayGo 61 rfl) ⟨rI ((if_neg (by omega)).symm), S, rfl, sEq.rf, hcl⟩
    · refine x_iconst 97 1 (ab_dd tk_cl_mayGo 58 rfl) rfl (by decide) (x_topn 1 rfl ?_)
      refine x_goto 101 (ab_dd tk_cl_mayGo 59 rfl) (by decide) ?_
      rw [he4 h41] at h93
      exact x_iret (ab_dd tk_cl_mayGo 61 rfl) ⟨rI ((if_pos (by omega)).symm), S, rfl, sEq.rf, hcl⟩
  · refine x_aload_n 45 0 (ab_dd tk_cl_mayGo 28 rfl) rfl rfl rfl ?_
    refine x_iload_n 46 1 (ab_dd tk_cl_mayGo 29 rfl) rfl rfl rfl ?_
    refine x_iload_n 47 2 (ab_dd tk_cl_mayGo 30 rfl) rfl rfl rfl ?_
    refine x_iload_n 48 3 (ab_dd tk_cl_mayGo 31 rfl) rfl rfl rfl ?_
    refine t_callV 51 M_cl_nameRider 1 3 [_, _, _] (ab_dd tk_cl_mayGo 32 rfl) rfl (by first | decide | omega) K_cl_nameRider V_cl_nameRider.1 V_cl_nameRider.2 L_cl_82 rfl (Nat.le_of_ble_eq_true rfl) (by rcases hK.1 with z | z <;> omega) (Nat.lt_of_le_of_lt (Nat.le_add_right x 9) hK.2.1) hK.2.2.1 rfl (c_cl_nameRider (by exact hK) him (by exact hcl) ha.1 r wa seat hr hwa hseat) (fun v1 w1 h1 => ?_)
    obtain ⟨rfl, S1, rfl, hE1, n1, n2, n3, n4, n5, n6, n7⟩ := h1
    have hK1 : clK S1 x := hK.eq hE1
    have p5 : sI S1 x 5 = nI st := by rw [hE1.2.2.1 x (by simp only [List.mem_cons, List.not_mem_nil, or_false, not_or]; omega)]; exact a5
    have p2 : sP S1 x 2 = some c := by rw [hE1.2.2.2.2.1]; exact a2
    have pl1 : sP S1 c 8 = some lb := by rw [hE1.2.2.2.2.1]; exact l1
    have hcs1 : c < sn S1 := by rw [hE1.2.2.2.2.2.1]; exact Nat.lt_of_le_of_lt (Nat.le_add_right c 2) hk.2.1
    have hck1 : sK S1 c = .inr 0 := by rw [hE1.2.1]; exact hk.2.2.1
    refine x_aload_n 52 0 (ab_dd tk_cl_mayGo 33 rfl) rfl rfl rfl ?_
    refine t_getP 55 (x + 6) (ab_dd tk_cl_mayGo 34 rfl) rfl F_cl_35 (by rcases hK1.1 with z | z <;> omega) (Nat.lt_of_le_of_lt (Nat.le_add_right x 9) hK1.2.1) hK1.2.2.1 rfl hK1.2.2.2.2.2.2.2.2.2.2.1 ?_
    refine x_iload 57 4 (ab_dd tk_cl_mayGo 35 rfl) rfl rfl ?_
    refine x_aload_n 58 0 (ab_dd tk_cl_mayGo 36 rfl) rfl rfl rfl ?_
    refine t_getI 61 (ab_dd tk_cl_mayGo 37 rfl) rfl F_cl_25 (by rcases hK1.1 with z | z <;> omega) (Nat.lt_of_le_of_lt (Nat.le_add_right x 9) hK1.2.1) hK1.2.2.1 rfl (x_topn st p5 ?_)
    refine x_iconst 62 1 (ab_dd tk_cl_mayGo 38 rfl) rfl (by decide) (x_topn 1 rfl ?_)
    refine x_ishl 63 (ab_dd tk_cl_mayGo 39 rfl) rfl (x_topn (2 ^ 1 * st) (by rw [pk_shlN _ 1 (by decide) (by omega)]; congr 1; omega) ?_)
    refine x_aload_n 64 0 (ab_dd tk_cl_mayGo 40 rfl) rfl rfl rfl ?_
    refine x_aload_n 65 0 (ab_dd tk_cl_mayGo 41 rfl) rfl rfl rfl ?_
    refine t_getP 68 c (ab_dd tk_cl_mayGo 42 rfl) rfl F_cl_12 (by rcases hK1.1 with z | z <;> omega) (Nat.lt_of_le_of_lt (Nat.le_add_right x 9) hK1.2.1) hK1.2.2.1 rfl p2 ?_
    refine t_getP 71 lb (ab_dd tk_cl_mayGo 43 rfl) rfl F_cl_66 hk.1 hcs1 hck1 rfl pl1 ?_
    refine t_callV 74 M_cl_worked 1 1 [_] (ab_dd tk_cl_mayGo 44 rfl) rfl (by first | decide | omega) K_cl_worked V_cl_worked.1 V_cl_worked.2 L_cl_86 rfl (Nat.le_of_ble_eq_true rfl) (by rcases hK1.1 with z | z <;> omega) (Nat.lt_of_le_of_lt (Nat.le_add_right x 9) hK1.2.1) hK1.2.2.1 rfl (c_cl_worked (by exact hK1) (b := lb) (n := n) (u := nI 1006) (cd := cd) (wd := fun i => sI S1 (x + 8) (i + 1)) l2 (by rw [hE1.2.2.2.2.2.1]; exact l3) (by rw [hE1.2.1]; exact l4) (by omega) hlaw.1 (fun j hj => by rw [hE1.2.2.1 lb (by simp only [List.mem_cons, List.not_mem_nil, or_false, not_or]; omega)]; exact l7 j hj) (fun i hi => rfl)) (fun v1 w1 h1 => ?_)
    obtain ⟨rfl, S2, rfl, hE2⟩ := h1
    have hK2 : clK S2 x := hK1.eq hE2
    have q5 : sI S2 x 5 = nI st := by rw [hE2.2.2.1 x (by simp only [List.mem_cons, List.not_mem_nil, or_false, not_or]; omega)]; exact p5
    have hval : lvV (fun i => sI S1 (x + 8) (i + 1)) cd n = lvV (spW (nI r) (mSea (rwS a) r) (mCls (rwS a) r) (nI wa) (nI seat) (a 40) 0 0 0) cd n := lvV_c2 (u := 6) (by decide) hlaw.1 (fun i hi => by
      have hc : i = 0 ∨ i = 1 ∨ i = 2 ∨ i = 3 ∨ i = 4 ∨ i = 5 := by omega
      rcases hc with rfl | rfl | rfl | rfl | rfl | rfl
      · exact n1
      · exact n2.trans (aOk.sea hr).symm
      · exact n3.trans (aOk.cls hr).symm
      · exact n4
      · exact n5
      · exact n6)
    rw [hval]
    have hmv : mV1 a r wa seat = if lvV (spW (nI r) (mSea (rwS a) r) (mCls (rwS a) r) (nI wa) (nI seat) (a 40) 0 0 0) cd n = 1 then 1 else 0 := by unfold mV1; rw [hml]
    refine x_if_eq 77 81 (ab_dd tk_cl_mayGo 45 rfl) rfl (by decide) (fun h74 => ?_) (fun h74 => ?_)
    · refine x_iconst 82 0 (ab_dd tk_cl_mayGo 48 rfl) rfl (by decide) (x_topn 0 rfl ?_)
      refine x_ior 83 (ab_dd tk_cl_mayGo 49 rfl) rfl (x_topn (2 ^ 1 * st + 0) (fa_or_sum st (by decide)) ?_)
      refine t_iast 84 ((((r * 5) + wa) * 4) + seat) (ab_dd tk_cl_mayGo 50 rfl) rfl (by rcases hK2.1 with z | z <;> omega) (Nat.lt_of_le_of_lt (Nat.add_le_add_left (by decide) x) hK2.2.1) hK2.2.2.2.2.1 rfl (by omega) (by decide) ?_
      refine x_aload_n 85 0 (ab_dd tk_cl_mayGo 51 rfl) rfl rfl rfl ?_
      refine t_getP 88 (x + 6) (ab_dd tk_cl_mayGo 52 rfl) rfl F_cl_35 (by rcases hK2.1 with z | z <;> omega) (Nat.lt_of_le_of_lt (Nat.le_add_right x 9) hK2.2.1) hK2.2.2.1 rfl hK2.2.2.2.2.2.2.2.2.2.2.1 ?_
      refine x_iload 90 4 (ab_dd tk_cl_mayGo 53 rfl) rfl rfl ?_
      refine t_iald 91 ((((r * 5) + wa) * 4) + seat) (ab_dd tk_cl_mayGo 54 rfl) rfl (by rcases hK2.1 with z | z <;> omega) (Nat.lt_of_le_of_lt (Nat.add_le_add_left (by decide) x) hK2.2.1) hK2.2.2.2.2.1 rfl (by omega) (by decide) (x_topn (2 ^ 1 * st + 0) gI_s ?_)
      refine x_iconst 92 1 (ab_dd tk_cl_mayGo 55 rfl) rfl (by decide) (x_topn 1 rfl ?_)
      refine x_iand 93 (ab_dd tk_cl_mayGo 56 rfl) rfl (x_topn 0 ((nI_mask (by omega) 1 (by decide)).trans (congrArg nI (by omega))) ?_)
      refine x_if_eq_t 100 (ab_dd tk_cl_mayGo 57 rfl) (by decide) rfl ?_
      refine x_iconst 101 0 (ab_dd tk_cl_mayGo 60 rfl) rfl (by decide) (x_topn 0 rfl ?_)
      have hmb : mV1 a r wa seat = 0 := hmv.trans (if_neg (by rw [h74]; decide))
      have hE3 : sEq [x + 6, x + 8, x + 9] S (pI S2 (x + 6) ((r * 5 + wa) * 4 + seat) (nI (2 ^ 1 * st + 0))) := ((hE1.mono (fun y hy => by rw [List.mem_singleton.mp hy]; exact List.Mem.tail _ (List.Mem.head _))).tr (hE2.mono (fun y hy => by rw [List.mem_singleton.mp hy]; exact List.Mem.tail _ (List.Mem.tail _ (List.Mem.head _))))).pI (List.Mem.head _)
      exact x_iret (ab_dd tk_cl_mayGo 61 rfl) ⟨rI ((if_neg (by omega)).symm), _, rfl, hE3, hcl.mk (l := [x + 6, x + 8, x + 9]) hE3 (by simp only [List.mem_cons, List.not_mem_nil, or_false, not_or]; omega) (fun y hy => by simp only [List.mem_cons, List.not_mem_nil, or_false] at hy; rcases hy with rfl | rfl | rfl <;> exact hnim _ (by decide)) (b1.eq (hE3.2.2.1 _ (by simp only [List.mem_cons, List.not_mem_nil, or_false, not_or]; omega))) (b2.eq (hE3.2.2.1 _ (by simp only [List.mem_cons, List.not_mem_nil, or_false, not_or]; omega))) (b3.up (i := ((r * 5 + wa) * 4 + seat)) (v := 0) (upd_row _ _ ((hE2.2.2.1 _ (by simp only [List.mem_cons, List.not_mem_nil, or_false, not_or]; omega)).trans (hE1.2.2.1 _ (by simp only [List.mem_cons, List.not_mem_nil, or_false, not_or]; omega)))) (by decide) (by rw [mK_pl a hwa hseat]; exact hmb.symm) (by omega))⟩
    · refine x_iconst 78 1 (ab_dd tk_cl_mayGo 46 rfl) rfl (by decide) (x_topn 1 rfl ?_)
      refine x_goto 82 (ab_dd tk_cl_mayGo 47 rfl) (by decide) ?_
      refine x_ior 83 (ab_dd tk_cl_mayGo 49 rfl) rfl (x_topn (2 ^ 1 * st + 1) (fa_or_sum st (by decide)) ?_)
      refine t_iast 84 ((((r * 5) + wa) * 4) + seat) (ab_dd tk_cl_mayGo 50 rfl) rfl (by rcases hK2.1 with z | z <;> omega) (Nat.lt_of_le_of_lt (Nat.add_le_add_left (by decide) x) hK2.2.1) hK2.2.2.2.2.1 rfl (by omega) (by decide) ?_
      refine x_aload_n 85 0 (ab_dd tk_cl_mayGo 51 rfl) rfl rfl rfl ?_
      refine t_getP 88 (x + 6) (ab_dd tk_cl_mayGo 52 rfl) rfl F_cl_35 (by rcases hK2.1 with z | z <;> omega) (Nat.lt_of_le_of_lt (Nat.le_add_right x 9) hK2.2.1) hK2.2.2.1 rfl hK2.2.2.2.2.2.2.2.2.2.2.1 ?_
      refine x_iload 90 4 (ab_dd tk_cl_mayGo 53 rfl) rfl rfl ?_
      refine t_iald 91 ((((r * 5) + wa) * 4) + seat) (ab_dd tk_cl_mayGo 54 rfl) rfl (by rcases hK2.1 with z | z <;> omega) (Nat.lt_of_le_of_lt (Nat.add_le_add_left (by decide) x) hK2.2.1) hK2.2.2.2.2.1 rfl (by omega) (by decide) (x_topn (2 ^ 1 * st + 1) gI_s ?_)
      refine x_iconst 92 1 (ab_dd tk_cl_mayGo 55 rfl) rfl (by decide) (x_topn 1 rfl ?_)
      refine x_iand 93 (ab_dd tk_cl_mayGo 56 rfl) rfl (x_topn 1 ((nI_mask (by omega) 1 (by decide)).trans (congrArg nI (by omega))) ?_)
      refine x_if_eq_f 96 (ab_dd tk_cl_mayGo 57 rfl) rfl 100 (by decide) (by decide) ?_
      refine x_iconst 97 1 (ab_dd tk_cl_mayGo 58 rfl) rfl (by decide) (x_topn 1 rfl ?_)
      refine x_goto 101 (ab_dd tk_cl_mayGo 59 rfl) (by decide) ?_
      have hmb : mV1 a r wa seat = 1 := hmv.trans (if_pos ((hlaw.2 _).resolve_left h74))
      have hE3 : sEq [x + 6, x + 8, x + 9] S (pI S2 (x + 6) ((r * 5 + wa) * 4 + seat) (nI (2 ^ 1 * st + 1))) := ((hE1.mono (fun y hy => by rw [List.mem_singleton.mp hy]; exact List.Mem.tail _ (List.Mem.head _))).tr (hE2.mono (fun y hy => by rw [List.mem_singleton.mp hy]; exact List.Mem.tail _ (List.Mem.tail _ (List.Mem.head _))))).pI (List.Mem.head _)
      exact x_iret (ab_dd tk_cl_mayGo 61 rfl) ⟨rI ((if_pos hmb).symm), _, rfl, hE3, hcl.mk (l := [x + 6, x + 8, x + 9]) hE3 (by simp only [List.mem_cons, List.not_mem_nil, or_false, not_or]; omega) (fun y hy => by simp only [List.mem_cons, List.not_mem_nil, or_false] at hy; rcases hy with rfl | rfl | rfl <;> exact hnim _ (by decide)) (b1.eq (hE3.2.2.1 _ (by simp only [List.mem_cons, List.not_mem_nil, or_false, not_or]; omega))) (b2.eq (hE3.2.2.1 _ (by simp only [List.mem_cons, List.not_mem_nil, or_false, not_or]; omega))) (b3.up (i := ((r * 5 + wa) * 4 + seat)) (v := 1) (upd_row _ _ ((hE2.2.2.1 _ (by simp only [List.mem_cons, List.not_mem_nil, or_false, not_or]; omega)).trans (hE1.2.2.1 _ (by simp only [List.mem_cons, List.not_mem_nil, or_false, not_or]; omega)))) (by decide) (by rw [mK_pl a hwa hseat]; exact hmb.symm) (by omega))⟩
