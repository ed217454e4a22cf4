theorem cnt_0 {g : Nat → Nat} {v : Nat} : ∀ m, (∀ l, l < m → g l ≠ v) → cnt g v m = 0
  | 0, _ => rfl
  | m + 1, h => by
    show cnt g v m + (if g m = v then 1 else 0) = 0
    rw [cnt_0 m (fun l hl => h l (by omega)), if_neg (h m (by omega))]
/-- a case less, and what it leads to -/
theorem lots_step {nx : Nat → Nat} {R P j k : Nat} {F C L : Nat → Nat} (hj : j < P) (hg : ∀ l, l < 10 → ltN R (nx j) l < P) : sumF (fun u => up1 C j 0 u * tot nx R F (k + 1) u) P + sumF (fun v => (L v + C j * cnt (ltN R (nx j)) v 10) * tot nx R F k v) P = sumF (fun u => C u * tot nx R F (k + 1) u) P + sumF (fun v => L v * tot nx R F k v) P := by
  have e1 : sumF (fun v => (L v + C j * cnt (ltN R (nx j)) v 10) * tot nx R F k v) P = sumF (fun v => L v * tot nx R F k v + C j * (cnt (ltN R (nx j)) v 10 * tot nx R F k v)) P := sumF_cg P (fun v _ => by rw [Nat.add_mul, Nat.mul_assoc])
  rw [e1, sumF_add, sumF_mul, cnt_sum 10 hg]
  have e2 : sumF (fun l => tot nx R F k (ltN R (nx j) l)) 10 = tot nx R F (k + 1) j := rfl
  rw [e2]
  have e3 : sumF (fun u => up1 C j 0 u * tot nx R F (k + 1) u) P + C j * tot nx R F (k + 1) j = sumF (fun u => C u * tot nx R F (k + 1) u) P := by
    have h := sumF_up (f := fun u => C u * tot nx R F (k + 1) u) (k := j) (x := 0) P hj
    have e4 : sumF (up1 (fun u => C u * tot nx R F (k + 1) u) j 0) P = sumF (fun u => up1 C j 0 u * tot nx R F (k + 1) u) P := sumF_cg P (fun u _ => by
      unfold up1
      by_cases z : u = j
      · rw [if_pos z, if_pos z, Nat.zero_mul]
      · rw [if_neg z, if_neg z])
    rw [e4] at h
    exact h
  omega
def tb_id_drawLots : List (Nat × Instr × Nat) := [(0, .aload_n 0, 1), (1, .getfield 25, 3), (4, .iconst 0, 1), (5, .invokestatic 34, 3), (8, .aload_n 0, 1), (9, .getfield 28, 3), (12, .iconst 0, 1), (13, .invokestatic 34, 3), (16, .aload_n 0, 1), (17, .iconst 1, 1), (18, .putfield 31, 3), (21, .iload_n 2, 1), (22, .ifCond .lt 12, 3), (25, .iload_n 2, 1), (26, .aload_n 0, 1), (27, .getfield 25, 3), (30, .arraylength, 1), (31, .if_icmp .lt 4, 3), (34, .return_, 1), (35, .aload_n 0, 1), (36, .getfield 25, 3), (39, .iload_n 2, 1), (40, .iconst 1, 1), (41, .iastore, 1), (42, .aload_n 1, 1), (43, .getfield 49, 3), (46, .getfield 53, 3), (49, .istore 5, 2), (51, .iconst 0, 1), (52, .istore 6, 2), (54, .iload 6, 2), (56, .iload 4, 2), (58, .if_icmp .ge 98, 3), (61, .iconst 0, 1), (62, .istore 7, 2), (64, .iload 7, 2), (66, .getstatic 58, 3), (69, .iload 5, 2), (71, .iaload, 1), (72, .if_icmp .ge 47, 3), (75, .aload_n 0, 1), (76, .getfield 25, 3), (79, .iload 7, 2), (81, .iaload, 1), (82, .ifCond .eq 31, 3), (85, .aload_n 0, 1), (86, .aload_n 0, 1), (87, .getfield 25, 3), (90, .iload 7, 2), (92, .iaload, 1), (93, .aload_n 1, 1), (94, .iload 7, 2), (96, .iload_n 3, 1), (97, .invokevirtual 40, 3), (100, .iload 5, 2), (102, .invokevirtual 61, 3), (105, .aload_n 0, 1), (106, .getfield 25, 3), (109, .iload 7, 2), (111, .iconst 0, 1), (112, .iastore, 1), (113, .iinc 7 1, 3), (116, .goto (-52), 3), (119, .aload_n 0, 1), (120, .getfield 25, 3), (123, .astore 7, 2), (125, .aload_n 0, 1), (126, .aload_n 0, 1), (127, .getfield 28, 3), (130, .putfield 25, 3), (133, .aload_n 0, 1), (134, .aload 7, 2), (136, .putfield 28, 3), (139, .aload_n 0, 1), (140, .dup, 1), (141, .getfield 31, 3), (144, .bipush 10, 2), (146, .imul, 1), (147, .putfield 31, 3), (150, .iinc 6 1, 3), (153, .goto (-99), 3), (156, .return_, 1)]
theorem tk_id_drawLots : ∀ q ∈ tb_id_drawLots, decode M_id_drawLots.2.1 q.1 = .ok q.2 := by decide +kernel
theorem c_id_drawLots {G : ab_G} {S : ab_S} (hx : xSh S) (hse : seOk S) (kc : kSh S.1) {im : Nat → Prop} (him : imO im) {x c bh nb st : Nat} {a : Nat → Int32} (hX : x = 84 ∨ x = 94) (hcl : clI S im x c a bh nb st) (ha : aGood a) {ca la : Nat} (hca : sP S 104 4 = some ca) (hla : sP S 104 5 = some la) (hp : (ca = 107 ∧ la = 108) ∨ (ca = 108 ∧ la = 107)) (w q n : Nat) (hw : w < 5 ^ aR a) (hq : q < kFc (aR a)) (hn6 : n ≤ 6) : ab_C G 4 M_id_drawLots [.ref 104, .ref x, .int (nI w), .int (nI q), .int (nI n)] (sw S) (fun v w' => v = none ∧ ∃ (S' : ab_S) (ca' la' : Nat) (D : Nat → Nat), w' = sw S' ∧ dEq [x + 5, x + 7, x + 8, x + 9, bh, 104, 107, 108] S S' ∧ clI S' im x c a bh nb st ∧ sP S' 104 4 = some ca' ∧ sP S' 104 5 = some la' ∧ ((ca' = 107 ∧ la' = 108) ∨ (ca' = 108 ∧ la' = 107)) ∧ (∀ u, u < 625 → sI S' ca' u = nI (D u)) ∧ (∀ F, sumF (fun v => D v * F v) (5 ^ aR a) = tot (fun s => cB a s q) (aR a) F n w) ∧ sI S' 104 6 = nI (10 ^ n)) := by
  refine x_enter [some (.ref 104), some (.ref x), some (.int (nI w)), some (.int (nI q)), some (.int (nI n)), none, none, none] (by decide) (Nat.le_of_ble_eq_true rfl) rfl (fun v w' h => by obtain ⟨rfl, -⟩ := h; trivial) ?_
  have hK : clK S x := hx.cl hX
  have hcl0 := hcl
  obtain ⟨hcaI, -, -, -, -, -, -, -, -, -, hnb, hbh, -⟩ := hcl0
  have hR := ha.1.R.2
  have h6 := p5_6 hR
  have hp0 := p5_pos (aR a)
  have h10 : 10 ^ n ≤ 10 ^ 6 := Nat.pow_le_pow_right (by decide) hn6
  have hni : ∀ y, y = 104 ∨ y = 107 ∨ y = 108 → ¬ im y := fun y hy z => by have := him y z; omega
  have lp : ∀ (m i : Nat), i + m = n → ∀ (S1 : ab_S) (ca la : Nat) (C : Nat → Nat) (y : Option Value), dEq [x + 5, x + 7, x + 8, x + 9, bh, 104, 107, 108] S S1 → clI S1 im x c a bh nb st → sP S1 104 4 = some ca → sP S1 104 5 = some la → ((ca = 107 ∧ la = 108) ∨ (ca = 108 ∧ la = 107)) → (∀ u, u < 625 → sI S1 ca u = nI (C u)) → (∀ u, u < 625 → sI S1 la u = nI 0) → (∀ u, 5 ^ aR a ≤ u → C u = 0) → (∀ F, sumF (fun u => C u * tot (fun s => cB a s q) (aR a) F m u) (5 ^ aR a) = tot (fun s => cB a s q) (aR a) F n w) → sI S1 104 6 = nI (10 ^ i) → ab_Ex G 4 M_id_drawLots 54 [some (.ref 104), some (.ref x), some (.int (nI w)), some (.int (nI q)), some (.int (nI n)), some (.int (nI (aR a))), some (.int (nI i)), y] [] (sw S1) (fun v w' => v = none ∧ ∃ (S' : ab_S) (ca' la' : Nat) (D : Nat → Nat), w' = sw S' ∧ dEq [x + 5, x + 7, x + 8, x + 9, bh, 104, 107, 108] S S' ∧ clI S' im x c a bh nb st ∧ sP S' 104 4 = some ca' ∧ sP S' 104 5 = some la' ∧ ((ca' = 107 ∧ la' = 108) ∨ (ca' = 108 ∧ la' = 107)) ∧ (∀ u, u < 625 → sI S' ca' u = nI (D u)) ∧ (∀ F, sumF (fun v => D v * F v) (5 ^ aR a) = tot (fun s => cB a s q) (aR a) F n w) ∧ sI S' 104 6 = nI (10 ^ n)) := by
    intro m
    induction m with
    | zero =>
      intro i hi S1 ca la C y hE1 hcl1 hca1 hla1 hp1 hC hL0 hCz hI h61
      obtain rfl : n = i := by omega
      refine x_forget 7 ?_
      have hx1 : xSh S1 := hx.d hE1
      have hK1 : clK S1 x := hx1.cl hX
      have hse1 : seOk S1 := hse.d hE1 (by simp only [List.mem_cons, List.not_mem_nil, or_false, not_or]; omega) (by simp only [List.mem_cons, List.not_mem_nil, or_false, not_or]; omega) (by simp only [List.mem_cons, List.not_mem_nil, or_false, not_or]; omega) (by simp only [List.mem_cons, List.not_mem_nil, or_false, not_or]; omega)
      have kc1 : kSh S1.1 := by rw [hE1.1]; exact kc
      have h501 : 50 ≤ sn S1 := Nat.le_trans (by decide) hx1.1
      refine x_iload 56 6 (ab_dd tk_id_drawLots 30 rfl) rfl rfl ?_
      refine x_iload 58 4 (ab_dd tk_id_drawLots 31 rfl) rfl rfl ?_
      refine x_icmp_ge_t 156 (ab_dd tk_id_drawLots 32 rfl) (by decide) ((nI_leI (a := n) (b := n) (by omega) (by omega)).mpr (show n ≤ n by omega)) ?_
      exact x_vret (ab_dd tk_id_drawLots 81 rfl) ⟨rfl, S1, ca, la, C, rfl, hE1, hcl1, hca1, hla1, hp1, hC, hI, h61⟩
    | succ m ih =>
      intro i hi S1 ca la C y hE1 hcl1 hca1 hla1 hp1 hC hL0 hCz hI h61
      refine x_forget 7 ?_
      have hx1 : xSh S1 := hx.d hE1
      have hK1 : clK S1 x := hx1.cl hX
      have hse1 : seOk S1 := hse.d hE1 (by simp only [List.mem_cons, List.not_mem_nil, or_false, not_or]; omega) (by simp only [List.mem_cons, List.not_mem_nil, or_false, not_or]; omega) (by simp only [List.mem_cons, List.not_mem_nil, or_false, not_or]; omega) (by simp only [List.mem_cons, List.not_mem_nil, or_false, not_or]; omega)
      have kc1 : kSh S1.1 := by rw [hE1.1]; exact kc
      have h501 : 50 ≤ sn S1 := Nat.le_trans (by decide) hx1.1
      have inn : ∀ (m2 j : Nat), j + m2 = 5 ^ aR a → ∀ (S2 : ab_S) (C L : Nat → Nat), dEq [x + 5, x + 7, x + 8, x + 9, bh, 104, 107, 108] S S2 → clI S2 im x c a bh nb st → sP S2 104 4 = some ca → sP S2 104 5 = some la → (∀ u, u < 625 → sI S2 ca u = nI (C u)) → (∀ u, u < 625 → sI S2 la u = nI (L u)) → (∀ u, (u < j ∨ 5 ^ aR a ≤ u) → C u = 0) → (∀ u, 5 ^ aR a ≤ u → L u = 0) → (∀ F, sumF (fun u => C u * tot (fun s => cB a s q) (aR a) F (m + 1) u) (5 ^ aR a) + sumF (fun v => L v * tot (fun s => cB a s q) (aR a) F m v) (5 ^ aR a) = tot (fun s => cB a s q) (aR a) F n w) → sI S2 104 6 = nI (10 ^ i) → ab_Ex G 4 M_id_drawLots 64 [some (.ref 104), some (.ref x), some (.int (nI w)), some (.int (nI q)), some (.int (nI n)), some (.int (nI (aR a))), some (.int (nI i)), some (.int (nI j))] [] (sw S2) (fun v w' => v = none ∧ ∃ (S' : ab_S) (ca' la' : Nat) (D : Nat → Nat), w' = sw S' ∧ dEq [x + 5, x + 7, x + 8, x + 9, bh, 104, 107, 108] S S' ∧ clI S' im x c a bh nb st ∧ sP S' 104 4 = some ca' ∧ sP S' 104 5 = some la' ∧ ((ca' = 107 ∧ la' = 108) ∨ (ca' = 108 ∧ la' = 107)) ∧ (∀ u, u < 625 → sI S' ca' u = nI (D u)) ∧ (∀ F, sumF (fun v => D v * F v) (5 ^ aR a) = tot (fun s => cB a s q) (aR a) F n w) ∧ sI S' 104 6 = nI (10 ^ n)) := by
        intro m2
        induction m2 with
        | zero =>
          intro j hj S2 C L hE2 hcl2 hca2 hla2 hC hL hCz hLz hI h62
          have hjP : j = 5 ^ aR a := by omega
          rw [hjP] at hCz ⊢
          have hx2 : xSh S2 := hx.d hE2
          have hK2 : clK S2 x := hx2.cl hX
          have hse2 : seOk S2 := hse.d hE2 (by simp only [List.mem_cons, List.not_mem_nil, or_false, not_or]; omega) (by simp only [List.mem_cons, List.not_mem_nil, or_false, not_or]; omega) (by simp only [List.mem_cons, List.not_mem_nil, or_false, not_or]; omega) (by simp only [List.mem_cons, List.not_mem_nil, or_false, not_or]; omega)
          have kc2 : kSh S2.1 := by rw [hE2.1]; exact kc
          have h502 : 50 ≤ sn S2 := Nat.le_trans (by decide) hx2.1
          have hC0 : ∀ u, C u = 0 := fun u => hCz u (by omega)
          refine x_iload 66 7 (ab_dd tk_id_drawLots 35 rfl) rfl rfl ?_
          refine x_getsN 69 (ab_dd tk_id_drawLots 36 rfl) rfl (List.mem_of_getElem? (i := 0) rfl) F_id_58 ?_
          refine x_iload 71 5 (ab_dd tk_id_drawLots 37 rfl) rfl rfl ?_
          refine t_ialdK 72 (aR a) (ab_dd tk_id_drawLots 38 rfl) rfl (by decide) h502 (kc2.2.1) rfl (by omega) (by decide) (x_topn (5 ^ aR a) (kPw_N (aR a) (by omega)) ?_)
          refine x_icmp_ge_t 119 (ab_dd tk_id_drawLots 39 rfl) (by decide) ((nI_leI (a := (5 ^ aR a)) (b := (5 ^ aR a)) (by omega) (by omega)).mpr (show (5 ^ aR a) ≤ (5 ^ aR a) by omega)) ?_
          refine x_aload_n 120 0 (ab_dd tk_id_drawLots 63 rfl) rfl rfl rfl ?_
          refine t_getP 123 ca (ab_dd tk_id_drawLots 64 rfl) rfl F_id_25 (by decide) (Nat.lt_of_lt_of_le (by decide) hx2.1) (hx2.2.1 54 (by decide)) rfl hca2 ?_
          refine x_astore 125 [some (.ref 104), some (.ref x), some (.int (nI w)), some (.int (nI q)), some (.int (nI n)), some (.int (nI (aR a))), some (.int (nI i)), some (.ref ca)] 7 (ab_dd tk_id_drawLots 65 rfl) rfl (by decide) rfl ?_
          refine x_aload_n 126 0 (ab_dd tk_id_drawLots 66 rfl) rfl rfl rfl ?_
          refine x_aload_n 127 0 (ab_dd tk_id_drawLots 67 rfl) rfl rfl rfl ?_
          refine t_getP 130 la (ab_dd tk_id_drawLots 68 rfl) rfl F_id_28 (by decide) (Nat.lt_of_lt_of_le (by decide) hx2.1) (hx2.2.1 54 (by decide)) rfl hla2 ?_
          refine t_putP 133 (ab_dd tk_id_drawLots 69 rfl) rfl F_id_25 (by decide) (Nat.lt_of_lt_of_le (by decide) hx2.1) (hx2.2.1 54 (by decide)) rfl ?_
          refine x_aload_n 134 0 (ab_dd tk_id_drawLots 70 rfl) rfl rfl rfl ?_
          refine x_aload 136 7 (ab_dd tk_id_drawLots 71 rfl) rfl rfl ?_
          refine t_putP 139 (ab_dd tk_id_drawLots 72 rfl) rfl F_id_28 (by decide) (Nat.lt_of_lt_of_le (by decide) hx2.1) (hx2.2.1 54 (by decide)) rfl ?_
          refine x_aload_n 140 0 (ab_dd tk_id_drawLots 73 rfl) rfl rfl rfl ?_
          refine x_dup 141 (ab_dd tk_id_drawLots 74 rfl) rfl rfl ?_
          refine t_getI 144 (ab_dd tk_id_drawLots 75 rfl) rfl F_id_31 (by decide) (Nat.lt_of_lt_of_le (by decide) hx2.1) (hx2.2.1 54 (by decide)) rfl (x_topn (10 ^ i) h62 ?_)
          refine x_bipush 146 10 (ab_dd tk_id_drawLots 76 rfl) rfl (by decide) (x_topn 10 rfl ?_)
          refine x_imul 147 (ab_dd tk_id_drawLots 77 rfl) rfl (x_topn ((10 ^ i) * 10) (pk_mul _ _) ?_)
          refine t_putI 150 (ab_dd tk_id_drawLots 78 rfl) rfl F_id_31 (by decide) (Nat.lt_of_lt_of_le (by decide) hx2.1) (hx2.2.1 54 (by decide)) rfl rfl rfl ?_
          refine xn_iinc 153 6 (fun y => [some (.ref 104), some (.ref x), some (.int (nI w)), some (.int (nI q)), some (.int (nI n)), some (.int (nI (aR a))), some (.int y), some (.ref ca)]) (i + 1) (ab_dd tk_id_drawLots 79 rfl) rfl (by decide) rfl (fun _ => rfl) (iinc_p 1) ?_
          refine x_goto 54 (ab_dd tk_id_drawLots 80 rfl) (by decide) ?_
          have hEs : sEq [104] (pP (pP S2 104 4 (some la)) 104 5 (some ca)) (pI (pP (pP S2 104 4 (some la)) 104 5 (some ca)) 104 6 (nI (10 ^ i * 10))) := sEq.rf.pI (List.Mem.head _)
          refine ih (i + 1) (by omega) _ la ca L _ (((hE2.rP (Or.inl rfl)).rP (Or.inr rfl)).tr (dEq.of (hEs.mono (fun y hy => by rw [List.mem_singleton.mp hy]; simp)))) (((hcl2.rP him hX).rP him hX).eq hEs (by simp only [List.mem_cons, List.not_mem_nil, or_false, not_or]; omega) (fun y hy => by rw [List.mem_singleton.mp hy]; exact hni 104 (by omega)) (by simp only [List.mem_cons, List.not_mem_nil, or_false, not_or]; omega) (by simp only [List.mem_cons, List.not_mem_nil, or_false, not_or]; omega) (by simp only [List.mem_cons, List.not_mem_nil, or_false, not_or]; omega)) ((gP_k (by decide)).trans gP_s) gP_s (by omega) (fun u hu => (gI_a (by omega)).trans (hL u hu)) (fun u hu => (gI_a (by omega)).trans ((hC u hu).trans (congrArg nI (hC0 u)))) hLz (fun F => ?_) (gI_s.trans (congrArg nI (by rw [Nat.pow_succ])))
          have h := hI F
          rw [sumF_0 _ (fun u _ => by rw [hC0 u, Nat.zero_mul]), Nat.zero_add] at h
          exact h
        | succ m2 ih2 =>
          intro j hj S2 C L hE2 hcl2 hca2 hla2 hC hL hCz hLz hI h62
          have hx2 : xSh S2 := hx.d hE2
          have hK2 : clK S2 x := hx2.cl hX
          have hse2 : seOk S2 := hse.d hE2 (by simp only [List.mem_cons, List.not_mem_nil, or_false, not_or]; omega) (by simp only [List.mem_cons, List.not_mem_nil, or_false, not_or]; omega) (by simp only [List.mem_cons, List.not_mem_nil, or_false, not_or]; omega) (by simp only [List.mem_cons, List.not_mem_nil, or_false, not_or]; omega)
          have kc2 : kSh S2.1 := by rw [hE2.1]; exact kc
          have h502 : 50 ≤ sn S2 := Nat.le_trans (by decide) hx2.1
          have hjP : j < 5 ^ aR a := by omega
          have hI1 := hI (fun _ => 1)
          have eC : sumF (fun u => C u * tot (fun s => cB a s q) (aR a) (fun _ => 1) (m + 1) u) (5 ^ aR a) = sumF (fun u => C u * 10 ^ (m + 1)) (5 ^ aR a) := sumF_cg _ (fun u _ => by rw [tot_1])
          have eL : sumF (fun v => L v * tot (fun s => cB a s q) (aR a) (fun _ => 1) m v) (5 ^ aR a) = sumF (fun v => L v * 10 ^ m) (5 ^ aR a) := sumF_cg _ (fun u _ => by rw [tot_1])
          rw [eC, eL, tot_1] at hI1
          have hCb : C j ≤ 10 ^ 6 := by
            have z1 := sumF_ge (f := fun u => C u * 10 ^ (m + 1)) (5 ^ aR a) j hjP
            have z2 : C j ≤ C j * 10 ^ (m + 1) := Nat.le_mul_of_pos_right _ (Nat.pow_pos (by decide))
            omega
          have hLb : ∀ v, L v ≤ 10 ^ 6 := by
            intro v
            by_cases hv : v < 5 ^ aR a
            · have z1 := sumF_ge (f := fun v => L v * 10 ^ m) (5 ^ aR a) v hv
              have z2 : L v ≤ L v * 10 ^ m := Nat.le_mul_of_pos_right _ (Nat.pow_pos (by decide))
              omega
            · rw [hLz v (by omega)]; omega
          have hy := x_la hx2 (show ca = 107 ∨ ca = 108 by omega)
          refine x_iload 66 7 (ab_dd tk_id_drawLots 35 rfl) rfl rfl ?_
          refine x_getsN 69 (ab_dd tk_id_drawLots 36 rfl) rfl (List.mem_of_getElem? (i := 0) rfl) F_id_58 ?_
          refine x_iload 71 5 (ab_dd tk_id_drawLots 37 rfl) rfl rfl ?_
          refine t_ialdK 72 (aR a) (ab_dd tk_id_drawLots 38 rfl) rfl (by decide) h502 (kc2.2.1) rfl (by omega) (by decide) (x_topn (5 ^ aR a) (kPw_N (aR a) (by omega)) ?_)
          refine x_icmp_ge_f 75 (ab_dd tk_id_drawLots 39 rfl) rfl 119 (by decide) (fun z => absurd ((nI_leI (a := (5 ^ aR a)) (b := j) (by omega) (by omega)).mp z) (show ¬ ((5 ^ aR a) ≤ j) by omega)) ?_
          refine x_aload_n 76 0 (ab_dd tk_id_drawLots 40 rfl) rfl rfl rfl ?_
          refine t_getP 79 ca (ab_dd tk_id_drawLots 41 rfl) rfl F_id_25 (by decide) (Nat.lt_of_lt_of_le (by decide) hx2.1) (hx2.2.1 54 (by decide)) rfl hca2 ?_
          refine x_iload 81 7 (ab_dd tk_id_drawLots 42 rfl) rfl rfl ?_
          refine t_iald 82 j (ab_dd tk_id_drawLots 43 rfl) rfl hy.1 hy.2.1 hy.2.2 rfl (by omega) (by decide) (x_topn (C j) (hC j (by omega)) ?_)
          refine xn_if_eq 85 113 (ab_dd tk_id_drawLots 44 rfl) rfl (by decide) (by omega) (fun h82 => ?_) (fun h82 => ?_)
          · refine xn_iinc 116 7 (fun y => [some (.ref 104), some (.ref x), some (.int (nI w)), some (.int (nI q)), some (.int (nI n)), some (.int (nI (aR a))), some (.int (nI i)), some (.int y)]) (j + 1) (ab_dd tk_id_drawLots 61 rfl) rfl (by decide) rfl (fun _ => rfl) (iinc_p 1) ?_
            refine x_goto 64 (ab_dd tk_id_drawLots 62 rfl) (by decide) ?_
            exact ih2 (j + 1) (by omega) S2 C L hE2 hcl2 hca2 hla2 hC hL (fun u hu => by by_cases z : u = j; (· rw [z]; exact h82); (· exact hCz u (by omega))) hLz hI h62
          · refine x_aload_n 86 0 (ab_dd tk_id_drawLots 45 rfl) rfl rfl rfl ?_
            refine x_aload_n 87 0 (ab_dd tk_id_drawLots 46 rfl) rfl rfl rfl ?_
            refine t_getP 90 ca (ab_dd tk_id_drawLots 47 rfl) rfl F_id_25 (by decide) (Nat.lt_of_lt_of_le (by decide) hx2.1) (hx2.2.1 54 (by decide)) rfl hca2 ?_
            refine x_iload 92 7 (ab_dd tk_id_drawLots 48 rfl) rfl rfl ?_
            refine t_iald 93 j (ab_dd tk_id_drawLots 49 rfl) rfl hy.1 hy.2.1 hy.2.2 rfl (by omega) (by decide) (x_topn (C j) (hC j (by omega)) ?_)
            refine x_aload_n 94 1 (ab_dd tk_id_drawLots 50 rfl) rfl rfl rfl ?_
            refine x_iload 96 7 (ab_dd tk_id_drawLots 51 rfl) rfl rfl ?_
            refine x_iload_n 97 3 (ab_dd tk_id_drawLots 52 rfl) rfl rfl rfl ?_
            refine t_callV 100 M_cl_behind 3 2 [_, _] (ab_dd tk_id_drawLots 53 rfl) rfl (by first | decide | omega) K_cl_behind V_cl_behind.1 V_cl_behind.2 L_id_40 rfl (Nat.le_of_ble_eq_true rfl) (by rcases hK2.1 with z | z <;> omega) (Nat.lt_of_le_of_lt (Nat.le_add_right x 9) hK2.2.1) hK2.2.2.1 rfl (c_cl_behind (by exact hK2) him (by exact hcl2) hx2 hse2 kc2 ha j q hjP hq) (fun v1 w1 h1 => ?_)
            obtain ⟨rfl, S3, rfl, hE3, hcl3⟩ := h1
            have hE3d : dEq [x + 5, x + 7, x + 8, x + 9, bh, 104, 107, 108] S S3 := hE2.tr (dEq.of (hE3.mono (fun y hy => by simp only [List.mem_cons, List.not_mem_nil, or_false] at hy ⊢; omega)))
            have hx3 : xSh S3 := hx.d hE3d
            have hK3 : clK S3 x := hx3.cl hX
            have hse3 : seOk S3 := hse.d hE3d (by simp only [List.mem_cons, List.not_mem_nil, or_false, not_or]; omega) (by simp only [List.mem_cons, List.not_mem_nil, or_false, not_or]; omega) (by simp only [List.mem_cons, List.not_mem_nil, or_false, not_or]; omega) (by simp only [List.mem_cons, List.not_mem_nil, or_false, not_or]; omega)
            have kc3 : kSh S3.1 := by rw [hE3d.1]; exact kc
            have h503 : 50 ≤ sn S3 := Nat.le_trans (by decide) hx3.1
            have hca3 : sP S3 104 4 = some ca := by rw [hE3.2.2.2.2.1]; exact hca2
            have hla3 : sP S3 104 5 = some la := by rw [hE3.2.2.2.2.1]; exact hla2
            have hcb := cB_lt hR hq hjP
            refine x_iload 102 5 (ab_dd tk_id_drawLots 54 rfl) rfl rfl ?_
            refine t_callV 105 M_id_addLots 1 3 [_, _, _] (ab_dd tk_id_drawLots 55 rfl) rfl (by first | decide | omega) K_id_addLots V_id_addLots.1 V_id_addLots.2 L_id_61 rfl (Nat.le_of_ble_eq_true rfl) (by decide) (Nat.lt_of_lt_of_le (by decide) hx3.1) (hx3.2.1 54 (by decide)) rfl (c_id_addLots hx3 kc3 hca3 hla3 hp1 (L := L) (fun v hv => by rw [hE3.2.2.1 la (by simp only [List.mem_cons, List.not_mem_nil, or_false, not_or]; omega)]; exact hL v hv) (C j) (cB a j q) (aR a) hR (by omega) (fun v _ => by have := hLb v; omega)) (fun v1 w1 h1 => ?_)
            obtain ⟨rfl, S4, rfl, hE4, hV4⟩ := h1
            have hE4d : dEq [x + 5, x + 7, x + 8, x + 9, bh, 104, 107, 108] S S4 := hE3d.tr (dEq.of (hE4.mono (fun y hy => by rw [List.mem_singleton.mp hy]; simp only [List.mem_cons, List.not_mem_nil, or_false]; omega)))
            have hx4 : xSh S4 := hx.d hE4d
            have hK4 : clK S4 x := hx4.cl hX
            have hse4 : seOk S4 := hse.d hE4d (by simp only [List.mem_cons, List.not_mem_nil, or_false, not_or]; omega) (by simp only [List.mem_cons, List.not_mem_nil, or_false, not_or]; omega) (by simp only [List.mem_cons, List.not_mem_nil, or_false, not_or]; omega) (by simp only [List.mem_cons, List.not_mem_nil, or_false, not_or]; omega)
            have kc4 : kSh S4.1 := by rw [hE4d.1]; exact kc
            have h504 : 50 ≤ sn S4 := Nat.le_trans (by decide) hx4.1
            have hca4 : sP S4 104 4 = some ca := by rw [hE4.2.2.2.2.1]; exact hca3
            have hla4 : sP S4 104 5 = some la := by rw [hE4.2.2.2.2.1]; exact hla3
            have hy4 := x_la hx4 (show ca = 107 ∨ ca = 108 by omega)
            have hcl4 : clI S4 im x c a bh nb st := hcl3.eq hE4 (by simp only [List.mem_cons, List.not_mem_nil, or_false, not_or]; omega) (fun y hy => by rw [List.mem_singleton.mp hy]; exact hni la (by omega)) (by simp only [List.mem_cons, List.not_mem_nil, or_false, not_or]; omega) (by simp only [List.mem_cons, List.not_mem_nil, or_false, not_or]; omega) (by simp only [List.mem_cons, List.not_mem_nil, or_false, not_or]; omega)
            refine x_aload_n 106 0 (ab_dd tk_id_drawLots 56 rfl) rfl rfl rfl ?_
            refine t_getP 109 ca (ab_dd tk_id_drawLots 57 rfl) rfl F_id_25 (by decide) (Nat.lt_of_lt_of_le (by decide) hx4.1) (hx4.2.1 54 (by decide)) rfl hca4 ?_
            refine x_iload 111 7 (ab_dd tk_id_drawLots 58 rfl) rfl rfl ?_
            refine x_iconst 112 0 (ab_dd tk_id_drawLots 59 rfl) rfl (by decide) (x_topn 0 rfl ?_)
            refine t_iast 113 j (ab_dd tk_id_drawLots 60 rfl) rfl hy4.1 hy4.2.1 hy4.2.2 rfl (by omega) (by decide) ?_
            refine xn_iinc 116 7 (fun y => [some (.ref 104), some (.ref x), some (.int (nI w)), some (.int (nI q)), some (.int (nI n)), some (.int (nI (aR a))), some (.int (nI i)), some (.int y)]) (j + 1) (ab_dd tk_id_drawLots 61 rfl) rfl (by decide) rfl (fun _ => rfl) (iinc_p 1) ?_
            refine x_goto 64 (ab_dd tk_id_drawLots 62 rfl) (by decide) ?_
            have hEs : sEq [ca] S4 (pI S4 ca j (nI 0)) := sEq.rf.pI (List.Mem.head _)
            refine ih2 (j + 1) (by omega) _ (up1 C j 0) (fun v => L v + C j * cnt (ltN (aR a) (cB a j q)) v 10) (hE4d.tr (dEq.of (hEs.mono (fun y hy => by rw [List.mem_singleton.mp hy]; simp only [List.mem_cons, List.not_mem_nil, or_false]; omega)))) (hcl4.eq hEs (by simp only [List.mem_cons, List.not_mem_nil, or_false, not_or]; omega) (fun y hy => by rw [List.mem_singleton.mp hy]; exact hni ca (by omega)) (by simp only [List.mem_cons, List.not_mem_nil, or_false, not_or]; omega) (by simp only [List.mem_cons, List.not_mem_nil, or_false, not_or]; omega) (by simp only [List.mem_cons, List.not_mem_nil, or_false, not_or]; omega)) hca4 hla4 (fun u hu => ?_) (fun v hv => ?_) (fun u hu => ?_) (fun u hu => ?_) (fun F => ?_) ?_
            · unfold up1
              by_cases z : u = j
              · rw [if_pos z, z]; exact gI_s
              · rw [if_neg z, gI_k z, hE4.2.2.1 ca (by simp only [List.mem_cons, List.not_mem_nil, or_false, not_or]; omega), hE3.2.2.1 ca (by simp only [List.mem_cons, List.not_mem_nil, or_false, not_or]; omega)]; exact hC u hu
            · rw [gI_a (by omega)]; exact hV4 v hv
            · unfold up1
              by_cases z : u = j
              · rw [if_pos z]
              · rw [if_neg z]; exact hCz u (by omega)
            · show L u + C j * cnt (ltN (aR a) (cB a j q)) u 10 = 0
              rw [hLz u hu, cnt_0 10 (fun l _ e => by have := ltN_lt (l := l) hcb; omega), Nat.mul_zero]
            · rw [← hI F]
              exact lots_step (nx := fun s => cB a s q) hjP (fun l _ => ltN_lt hcb)
            · rw [gI_o (by omega), hE4.2.2.1 104 (by simp only [List.mem_cons, List.not_mem_nil, or_false, not_or]; omega), hE3.2.2.1 104 (by simp only [List.mem_cons, List.not_mem_nil, or_false, not_or]; omega)]; exact h62
      refine x_iload 56 6 (ab_dd tk_id_drawLots 30 rfl) rfl rfl ?_
      refine x_iload 58 4 (ab_dd tk_id_drawLots 31 rfl) rfl rfl ?_
      refine x_icmp_ge_f 61 (ab_dd tk_id_drawLots 32 rfl) rfl 156 (by decide) (fun z => absurd ((nI_leI (a := n) (b := i) (by omega) (by omega)).mp z) (show ¬ (n ≤ i) by omega)) ?_
      refine x_iconst 62 0 (ab_dd tk_id_drawLots 33 rfl) rfl (by decide) (x_topn 0 rfl ?_)
      refine x_istore 64 [some (.ref 104), some (.ref x), some (.int (nI w)), some (.int (nI q)), some (.int (nI n)), some (.int (nI (aR a))), some (.int (nI i)), some (.int (nI 0))] 7 (ab_dd tk_id_drawLots 34 rfl) rfl (by decide) rfl ?_
      exact inn (5 ^ aR a) 0 (by omega) S1 C (fun _ => 0) hE1 hcl1 hca1 hla1 hC hL0 (fun u hu => hCz u (by omega)) (fun _ _ => rfl) (fun F => by rw [hI F, sumF_0 _ (fun u _ => Nat.zero_mul _), Nat.add_zero]) h61
  have hy1 := x_la hx (show ca = 107 ∨ ca = 108 by omega)
  have hy2 := x_la hx (show la = 107 ∨ la = 108 by omega)
  refine x_aload_n 1 0 (ab_dd tk_id_drawLots 0 rfl) rfl rfl rfl ?_
  refine t_getP 4 ca (ab_dd tk_id_drawLots 1 rfl) rfl F_id_25 (by decide) (Nat.lt_of_lt_of_le (by decide) hx.1) (hx.2.1 54 (by decide)) rfl hca ?_
  refine x_iconst 5 0 (ab_dd tk_id_drawLots 2 rfl) rfl (by decide) (x_topn 0 rfl ?_)
  refine x_callS 8 M_jA_fill_0 0 2 [_, _] (ab_dd tk_id_drawLots 3 rfl) rfl (by first | decide | omega) K_jA_fill_0 T_jA_fill_0 L_id_34 rfl (Nat.le_of_ble_eq_true rfl) (c_jA_fill_0 (a := ca) (n := 625) hy1.1 hy1.2.1 hy1.2.2 (by decide) (nI 0)) (fun v1 w1 h1 => ?_)
  obtain ⟨rfl, S1, rfl, hE1, -, hV1⟩ := h1
  have hx1 : xSh S1 := hx.eq hE1
  have hca1 : sP S1 104 4 = some ca := by rw [hE1.2.2.2.2.1]; exact hca
  have hla1 : sP S1 104 5 = some la := by rw [hE1.2.2.2.2.1]; exact hla
  refine x_aload_n 9 0 (ab_dd tk_id_drawLots 4 rfl) rfl rfl rfl ?_
  refine t_getP 12 la (ab_dd tk_id_drawLots 5 rfl) rfl F_id_28 (by decide) (Nat.lt_of_lt_of_le (by decide) hx1.1) (hx1.2.1 54 (by decide)) rfl hla1 ?_
  refine x_iconst 13 0 (ab_dd tk_id_drawLots 6 rfl) rfl (by decide) (x_topn 0 rfl ?_)
  refine x_callS 16 M_jA_fill_0 0 2 [_, _] (ab_dd tk_id_drawLots 7 rfl) rfl (by first | decide | omega) K_jA_fill_0 T_jA_fill_0 L_id_34 rfl (Nat.le_of_ble_eq_true rfl) (c_jA_fill_0 (a := la) (n := 625) hy2.1 (by rw [hE1.2.2.2.2.2.1]; exact hy2.2.1) (by rw [hE1.2.1]; exact hy2.2.2) (by decide) (nI 0)) (fun v1 w1 h1 => ?_)
  obtain ⟨rfl, S2, rfl, hE2, -, hV2⟩ := h1
  have hEd : sEq [x + 5, x + 7, x + 8, x + 9, bh, 104, 107, 108] S S2 := (hE1.mono (fun y hy => by rw [List.mem_singleton.mp hy]; simp only [List.mem_cons, List.not_mem_nil, or_false]; omega)).tr (hE2.mono (fun y hy => by rw [List.mem_singleton.mp hy]; simp only [List.mem_cons, List.not_mem_nil, or_false]; omega))
  have hx2 : xSh S2 := hx.d (dEq.of hEd)
  have hK2 : clK S2 x := hx2.cl hX
  have hse2 : seOk S2 := hse.d (dEq.of hEd) (by simp only [List.mem_cons, List.not_mem_nil, or_false, not_or]; omega) (by simp only [List.mem_cons, List.not_mem_nil, or_false, not_or]; omega) (by simp only [List.mem_cons, List.not_mem_nil, or_false, not_or]; omega) (by simp only [List.mem_cons, List.not_mem_nil, or_false, not_or]; omega)
  have kc2 : kSh S2.1 := by rw [(dEq.of hEd).1]; exact kc
  have h502 : 50 ≤ sn S2 := Nat.le_trans (by decide) hx2.1
  have hca2 : sP S2 104 4 = some ca := by rw [hEd.2.2.2.2.1]; exact hca
  have hla2 : sP S2 104 5 = some la := by rw [hEd.2.2.2.2.1]; exact hla
  have hyc2 : ca < sn S2 := by rw [hEd.2.2.2.2.2.1]; exact hy1.2.1
  have hyk2 : sK S2 ca = .inl (.int, 625) := by rw [hEd.2.1]; exact hy1.2.2
  have hcl2 : clI S2 im x c a bh nb st := (hcl.eq hE1 (by simp only [List.mem_cons, List.not_mem_nil, or_false, not_or]; omega) (fun y hy => by rw [List.mem_singleton.mp hy]; exact hni ca (by omega)) (by simp only [List.mem_cons, List.not_mem_nil, or_false, not_or]; omega) (by simp only [List.mem_cons, List.not_mem_nil, or_false, not_or]; omega) (by simp only [List.mem_cons, List.not_mem_nil, or_false, not_or]; omega)).eq hE2 (by simp only [List.mem_cons, List.not_mem_nil, or_false, not_or]; omega) (fun y hy => by rw [List.mem_singleton.mp hy]; exact hni la (by omega)) (by simp only [List.mem_cons, List.not_mem_nil, or_false, not_or]; omega) (by simp only [List.mem_cons, List.not_mem_nil, or_false, not_or]; omega) (by simp only [List.mem_cons, List.not_mem_nil, or_false, not_or]; omega)
  refine x_aload_n 17 0 (ab_dd tk_id_drawLots 8 rfl) rfl rfl rfl ?_
  refine x_iconst 18 1 (ab_dd tk_id_drawLots 9 rfl) rfl (by decide) (x_topn 1 rfl ?_)
  refine t_putI 21 (ab_dd tk_id_drawLots 10 rfl) rfl F_id_31 (by decide) (Nat.lt_of_lt_of_le (by decide) hx2.1) (hx2.2.1 54 (by decide)) rfl rfl rfl ?_
  refine x_iload_n 22 2 (ab_dd tk_id_drawLots 11 rfl) rfl rfl rfl ?_
  refine xn_if_lt 25 34 (ab_dd tk_id_drawLots 12 rfl) rfl (by decide) (by omega) ?_
  refine x_iload_n 26 2 (ab_dd tk_id_drawLots 13 rfl) rfl rfl rfl ?_
  refine x_aload_n 27 0 (ab_dd tk_id_drawLots 14 rfl) rfl rfl rfl ?_
  refine t_getP 30 ca (ab_dd tk_id_drawLots 15 rfl) rfl F_id_25 (by decide) (Nat.lt_of_lt_of_le (by decide) hx2.1) (hx2.2.1 54 (by decide)) rfl hca2 ?_
  refine t_alen 31 0 (ab_dd tk_id_drawLots 16 rfl) rfl hy1.1 hyc2 rfl hyk2 ?_
  refine x_icmp_lt_t 35 (ab_dd tk_id_drawLots 17 rfl) (by decide) ((nI_ltI (a := w) (b := 625) (by omega) (by omega)).mpr (show w < 625 by omega)) ?_
  refine x_aload_n 36 0 (ab_dd tk_id_drawLots 19 rfl) rfl rfl rfl ?_
  refine t_getP 39 ca (ab_dd tk_id_drawLots 20 rfl) rfl F_id_25 (by decide) (Nat.lt_of_lt_of_le (by decide) hx2.1) (hx2.2.1 54 (by decide)) rfl hca2 ?_
  refine x_iload_n 40 2 (ab_dd tk_id_drawLots 21 rfl) rfl rfl rfl ?_
  refine x_iconst 41 1 (ab_dd tk_id_drawLots 22 rfl) rfl (by decide) (x_topn 1 rfl ?_)
  refine t_iast 42 w (ab_dd tk_id_drawLots 23 rfl) rfl hy1.1 hyc2 hyk2 rfl (by omega) (by decide) ?_
  have hEt : sEq [104, ca] S2 (pI (pI S2 104 6 (nI 1)) ca w (nI 1)) := (sEq.rf.pI (List.Mem.head _)).pI (List.Mem.tail _ (List.Mem.head _))
  have hclT : clI (pI (pI S2 104 6 (nI 1)) ca w (nI 1)) im x c a bh nb st := hcl2.eq hEt (by simp only [List.mem_cons, List.not_mem_nil, or_false, not_or]; omega) (fun y hy => by simp only [List.mem_cons, List.not_mem_nil, or_false] at hy; exact hni y (by omega)) (by simp only [List.mem_cons, List.not_mem_nil, or_false, not_or]; omega) (by simp only [List.mem_cons, List.not_mem_nil, or_false, not_or]; omega) (by simp only [List.mem_cons, List.not_mem_nil, or_false, not_or]; omega)
  have hclT2 := hclT
  obtain ⟨⟨tk, t1, -⟩, t2, -⟩ := hclT2
  refine x_aload_n 43 1 (ab_dd tk_id_drawLots 24 rfl) rfl rfl rfl ?_
  refine t_getP 46 c (ab_dd tk_id_drawLots 25 rfl) rfl F_id_49 (by rcases hK2.1 with z | z <;> omega) (Nat.lt_of_le_of_lt (Nat.le_add_right x 9) hK2.2.1) hK2.2.2.1 rfl t2 ?_
  refine t_getI 49 (ab_dd tk_id_drawLots 26 rfl) rfl F_id_53 tk.1 (Nat.lt_of_le_of_lt (Nat.le_add_right c 2) tk.2.1) tk.2.2.1 rfl (x_topn (aR a) t1 ?_)
  refine x_istore 51 [some (.ref 104), some (.ref x), some (.int (nI w)), some (.int (nI q)), some (.int (nI n)), some (.int (nI (aR a))), none, none] 5 (ab_dd tk_id_drawLots 27 rfl) rfl (by decide) rfl ?_
  refine x_iconst 52 0 (ab_dd tk_id_drawLots 28 rfl) rfl (by decide) (x_topn 0 rfl ?_)
  refine x_istore 54 [some (.ref 104), some (.ref x), some (.int (nI w)), some (.int (nI q)), some (.int (nI n)), some (.int (nI (aR a))), some (.int (nI 0)), none] 6 (ab_dd tk_id_drawLots 29 rfl) rfl (by decide) rfl ?_
  refine lp n 0 (by omega) _ ca la (fun u => if u = w then 1 else 0) _ (dEq.of (hEd.tr (hEt.mono (fun y hy => by simp only [List.mem_cons, List.not_mem_nil, or_false] at hy ⊢; omega)))) hclT hca2 hla2 hp (fun u hu => ?_) (fun u hu => ?_) (fun u hu => if_neg (by omega)) (fun F => ?_) ((gI_a (by omega)).trans gI_s)
  · by_cases z : u = w
    · rw [if_pos z, z]; exact gI_s
    · rw [if_neg z, gI_k z, gI_a (by omega), hE2.2.2.1 ca (by simp only [List.mem_cons, List.not_mem_nil, or_false, not_or]; omega), hV1 u, if_pos hu]
  · rw [gI_a (by omega), gI_a (by omega), hV2 u, if_pos hu]
  · rw [sumF_cg (f' := fun u => if u = w then tot (fun s => cB a s q) (aR a) F n w else 0) _ (fun u _ => by
      by_cases z : u = w
      · rw [if_pos z, if_pos z, Nat.one_mul, z]
      · rw [if_neg z, if_neg z, Nat.zero_mul]), sumF_at, if_pos hw]
