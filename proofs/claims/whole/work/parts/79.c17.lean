/-! ===== rows: the class's stands in the order found ===== -/
def roK (S : ab_S) (r N : Nat) : Prop := 145 ≤ r ∧ r + 7 < sn S ∧ sK S r = .inr 6 ∧ sK S (r + 1) = .inl (.int, N) ∧ sK S (r + 2) = .inl (.int, N) ∧ sK S (r + 3) = .inl (.int, N) ∧ sK S (r + 4) = .inl (.int, N * 4) ∧ sK S (r + 5) = .inl (.int, N) ∧ sK S (r + 6) = .inl (.int, N) ∧ sK S (r + 7) = .inl (.int, N) ∧ sP S r 0 = some 78 ∧ sP S r 1 = some (r + 1) ∧ sP S r 2 = some (r + 2) ∧ sP S r 3 = some (r + 3) ∧ sP S r 4 = some (r + 4) ∧ sP S r 5 = some (r + 5) ∧ sP S r 6 = some (r + 6) ∧ sP S r 7 = some (r + 7) ∧ N ≤ 15000
theorem roK.eq {S S' : ab_S} {r N : Nat} {l : List Nat} (h : roK S r N) (hE : sEq l S S') : roK S' r N := by
  unfold roK
  rw [hE.2.1, hE.2.2.2.2.1, hE.2.2.2.2.2.1]
  exact h
def roL (S : ab_S) (r N : Nat) (L : List Nat) : Prop := sI S r 12 = nI L.length ∧ (∀ i, i < L.length → sI S (r + 1) i = nI (L.getD i 0)) ∧ (∀ i, i < L.length → sI S (r + 2) (L.getD i 0) = nI i) ∧ ∀ v, v < N → ∃ e, sI S (r + 2) v = nI e ∧ e < 15000
theorem nd_len {L : List Nat} {N : Nat} (hd : L.Nodup) (hN : ∀ c ∈ L, c < N) : L.length ≤ N :=
  pigeon N L.length (fun i => L.getD i 0) (fun i hi => hN _ (get_mem hi)) (fun i j h1 h2 e => absurd (get_inj hd (by omega) h2 e) (by omega))
def tb_ro_standWith : List (Nat × Instr × Nat) := [(0, .iload_n 1, 1), (1, .ifCond .lt 12, 3), (4, .iload_n 1, 1), (5, .aload_n 0, 1), (6, .getfield 42, 3), (9, .arraylength, 1), (10, .if_icmp .lt 5, 3), (13, .iconst (-1), 1), (14, .ireturn, 1), (15, .aload_n 0, 1), (16, .getfield 42, 3), (19, .iload_n 1, 1), (20, .iaload, 1), (21, .istore_n 3, 1), (22, .iload_n 3, 1), (23, .aload_n 0, 1), (24, .getfield 25, 3), (27, .if_icmp .ge 15, 3), (30, .aload_n 0, 1), (31, .getfield 38, 3), (34, .iload_n 3, 1), (35, .iaload, 1), (36, .iload_n 1, 1), (37, .if_icmp .ne 5, 3), (40, .iload_n 3, 1), (41, .ireturn, 1), (42, .aload_n 0, 1), (43, .getfield 25, 3), (46, .aload_n 0, 1), (47, .getfield 38, 3), (50, .arraylength, 1), (51, .if_icmp .lt 5, 3), (54, .iconst (-1), 1), (55, .ireturn, 1), (56, .aload_n 0, 1), (57, .getfield 38, 3), (60, .aload_n 0, 1), (61, .getfield 25, 3), (64, .iload_n 1, 1), (65, .iastore, 1), (66, .aload_n 0, 1), (67, .getfield 45, 3), (70, .aload_n 0, 1), (71, .getfield 25, 3), (74, .iload_n 2, 1), (75, .iastore, 1), (76, .aload_n 0, 1), (77, .getfield 42, 3), (80, .iload_n 1, 1), (81, .aload_n 0, 1), (82, .getfield 25, 3), (85, .iastore, 1), (86, .aload_n 0, 1), (87, .dup, 1), (88, .getfield 25, 3), (91, .iconst 1, 1), (92, .iadd, 1), (93, .putfield 25, 3), (96, .aload_n 0, 1), (97, .getfield 25, 3), (100, .iconst 1, 1), (101, .isub, 1), (102, .ireturn, 1)]
theorem tk_ro_standWith : ∀ q ∈ tb_ro_standWith, decode M_ro_standWith.2.1 q.1 = .ok q.2 := by decide +kernel
theorem c_ro_standWith {G : ab_G} {S : ab_S} {r N : Nat} (hO : roK S r N) {L : List Nat} (hL : roL S r N L) (hd : L.Nodup) (hN : ∀ c ∈ L, c < N) (v : Nat) (hv : v < N) (ff : Int32) : ab_C G 0 M_ro_standWith [.ref r, .int (nI v), .int ff] (sw S) (fun v' w' => v' = some (.int (nI ((bfA L v).idxOf v))) ∧ ∃ S', w' = sw S' ∧ sEq [r, r + 1, r + 2, r + 3] S S' ∧ roL S' r N (bfA L v) ∧ (∀ j, j ≠ 12 → sI S' r j = sI S r j) ∧ (∀ i, i < L.length → sI S' (r + 3) i = sI S (r + 3) i) ∧ (v ∉ L → sI S' (r + 3) L.length = ff)) := by
  refine x_enter [some (.ref r), some (.int (nI v)), some (.int ff), none] (by decide) (Nat.le_of_ble_eq_true rfl) rfl (fun v w' h => by obtain ⟨rfl, -⟩ := h; rfl) ?_
  obtain ⟨g1, g2, g3, g4⟩ := hL
  have hr145 := hO.1
  have hN15 : N ≤ 15000 := hO.2.2.2.2.2.2.2.2.2.2.2.2.2.2.2.2.2.2
  have hlen := nd_len hd hN
  obtain ⟨e, he1, he2⟩ := g4 v hv
  have new : v ∉ L → ∀ y3 : Option Value, ab_Ex G 0 M_ro_standWith 42 [some (.ref r), some (.int (nI v)), some (.int ff), y3] [] (sw S) (fun v' w' => v' = some (.int (nI ((bfA L v).idxOf v))) ∧ ∃ S', w' = sw S' ∧ sEq [r, r + 1, r + 2, r + 3] S S' ∧ roL S' r N (bfA L v) ∧ (∀ j, j ≠ 12 → sI S' r j = sI S r j) ∧ (∀ i, i < L.length → sI S' (r + 3) i = sI S (r + 3) i) ∧ (v ∉ L → sI S' (r + 3) L.length = ff)) := by
    intro hn y3
    refine x_forget 3 ?_
    obtain ⟨n1, n2, n3⟩ := bfA_new hn
    have hlt : L.length < N := by
      have z := nd_len (N := N) (bfA_nd hd v) (bfA_all hN hv)
      omega
    rw [n2]
    refine x_aload_n 43 0 (ab_dd tk_ro_standWith 26 rfl) rfl rfl rfl ?_
    refine t_getI 46 (ab_dd tk_ro_standWith 27 rfl) rfl F_ro_25 (by have := hO.1; omega) (Nat.lt_of_le_of_lt (Nat.le_add_right r 7) hO.2.1) hO.2.2.1 rfl (x_topn L.length g1 ?_)
    refine x_aload_n 47 0 (ab_dd tk_ro_standWith 28 rfl) rfl rfl rfl ?_
    refine t_getP 50 (r + 1) (ab_dd tk_ro_standWith 29 rfl) rfl F_ro_38 (by have := hO.1; omega) (Nat.lt_of_le_of_lt (Nat.le_add_right r 7) hO.2.1) hO.2.2.1 rfl hO.2.2.2.2.2.2.2.2.2.2.2.1 ?_
    refine t_alen 51 0 (ab_dd tk_ro_standWith 30 rfl) rfl (by have := hO.1; omega) (Nat.lt_of_le_of_lt (Nat.add_le_add_left (by decide) r) hO.2.1) rfl hO.2.2.2.1 ?_
    refine x_icmp_lt_t 56 (ab_dd tk_ro_standWith 31 rfl) (by decide) ((nI_ltI (a := L.length) (b := N) (by omega) (by omega)).mpr (show L.length < N by omega)) ?_
    refine x_aload_n 57 0 (ab_dd tk_ro_standWith 34 rfl) rfl rfl rfl ?_
    refine t_getP 60 (r + 1) (ab_dd tk_ro_standWith 35 rfl) rfl F_ro_38 (by have := hO.1; omega) (Nat.lt_of_le_of_lt (Nat.le_add_right r 7) hO.2.1) hO.2.2.1 rfl hO.2.2.2.2.2.2.2.2.2.2.2.1 ?_
    refine x_aload_n 61 0 (ab_dd tk_ro_standWith 36 rfl) rfl rfl rfl ?_
    refine t_getI 64 (ab_dd tk_ro_standWith 37 rfl) rfl F_ro_25 (by have := hO.1; omega) (Nat.lt_of_le_of_lt (Nat.le_add_right r 7) hO.2.1) hO.2.2.1 rfl (x_topn L.length g1 ?_)
    refine x_iload_n 65 1 (ab_dd tk_ro_standWith 38 rfl) rfl rfl rfl ?_
    refine t_iast 66 L.length (ab_dd tk_ro_standWith 39 rfl) rfl (by have := hO.1; omega) (Nat.lt_of_le_of_lt (Nat.add_le_add_left (by decide) r) hO.2.1) hO.2.2.2.1 rfl (by omega) (by omega) ?_
    refine x_aload_n 67 0 (ab_dd tk_ro_standWith 40 rfl) rfl rfl rfl ?_
    refine t_getP 70 (r + 3) (ab_dd tk_ro_standWith 41 rfl) rfl F_ro_45 (by have := hO.1; omega) (Nat.lt_of_le_of_lt (Nat.le_add_right r 7) hO.2.1) hO.2.2.1 rfl hO.2.2.2.2.2.2.2.2.2.2.2.2.2.1 ?_
    refine x_aload_n 71 0 (ab_dd tk_ro_standWith 42 rfl) rfl rfl rfl ?_
    refine t_getI 74 (ab_dd tk_ro_standWith 43 rfl) rfl F_ro_25 (by have := hO.1; omega) (Nat.lt_of_le_of_lt (Nat.le_add_right r 7) hO.2.1) hO.2.2.1 rfl (x_topn L.length ((gI_a (by omega)).trans g1) ?_)
    refine x_iload_n 75 2 (ab_dd tk_ro_standWith 44 rfl) rfl rfl rfl ?_
    refine t_iast 76 L.length (ab_dd tk_ro_standWith 45 rfl) rfl (by have := hO.1; omega) (Nat.lt_of_le_of_lt (Nat.add_le_add_left (by decide) r) hO.2.1) hO.2.2.2.2.2.1 rfl (by omega) (by omega) ?_
    refine x_aload_n 77 0 (ab_dd tk_ro_standWith 46 rfl) rfl rfl rfl ?_
    refine t_getP 80 (r + 2) (ab_dd tk_ro_standWith 47 rfl) rfl F_ro_42 (by have := hO.1; omega) (Nat.lt_of_le_of_lt (Nat.le_add_right r 7) hO.2.1) hO.2.2.1 rfl hO.2.2.2.2.2.2.2.2.2.2.2.2.1 ?_
    refine x_iload_n 81 1 (ab_dd tk_ro_standWith 48 rfl) rfl rfl rfl ?_
    refine x_aload_n 82 0 (ab_dd tk_ro_standWith 49 rfl) rfl rfl rfl ?_
    refine t_getI 85 (ab_dd tk_ro_standWith 50 rfl) rfl F_ro_25 (by have := hO.1; omega) (Nat.lt_of_le_of_lt (Nat.le_add_right r 7) hO.2.1) hO.2.2.1 rfl (x_topn L.length ((gI_a (by omega)).trans ((gI_a (by omega)).trans g1)) ?_)
    refine t_iast 86 v (ab_dd tk_ro_standWith 51 rfl) rfl (by have := hO.1; omega) (Nat.lt_of_le_of_lt (Nat.add_le_add_left (by decide) r) hO.2.1) hO.2.2.2.2.1 rfl (by omega) (by omega) ?_
    refine x_aload_n 87 0 (ab_dd tk_ro_standWith 52 rfl) rfl rfl rfl ?_
    refine x_dup 88 (ab_dd tk_ro_standWith 53 rfl) rfl rfl ?_
    refine t_getI 91 (ab_dd tk_ro_standWith 54 rfl) rfl F_ro_25 (by have := hO.1; omega) (Nat.lt_of_le_of_lt (Nat.le_add_right r 7) hO.2.1) hO.2.2.1 rfl (x_topn L.length ((gI_a (by omega)).trans ((gI_a (by omega)).trans ((gI_a (by omega)).trans g1))) ?_)
    refine x_iconst 92 1 (ab_dd tk_ro_standWith 55 rfl) rfl (by decide) (x_topn 1 rfl ?_)
    refine x_iadd 93 (ab_dd tk_ro_standWith 56 rfl) rfl (x_topn (L.length + 1) (nI_add _ _) ?_)
    refine t_putI 96 (ab_dd tk_ro_standWith 57 rfl) rfl F_ro_25 (by have := hO.1; omega) (Nat.lt_of_le_of_lt (Nat.le_add_right r 7) hO.2.1) hO.2.2.1 rfl rfl rfl ?_
    refine x_aload_n 97 0 (ab_dd tk_ro_standWith 58 rfl) rfl rfl rfl ?_
    refine t_getI 100 (ab_dd tk_ro_standWith 59 rfl) rfl F_ro_25 (by have := hO.1; omega) (Nat.lt_of_le_of_lt (Nat.le_add_right r 7) hO.2.1) hO.2.2.1 rfl (x_topn (L.length + 1) gI_s ?_)
    refine x_iconst 101 1 (ab_dd tk_ro_standWith 60 rfl) rfl (by decide) (x_topn 1 rfl ?_)
    refine x_isub 102 (ab_dd tk_ro_standWith 61 rfl) rfl (x_topn L.length (by rw [pk_sub (by omega)]; congr 1) ?_)
    have hE : sEq [r, r + 1, r + 2, r + 3] S (pI (pI (pI (pI S (r + 1) L.length (nI v)) (r + 3) L.length ff) (r + 2) v (nI L.length)) r 12 (nI (L.length + 1))) := (((sEq.rf.pI (by simp)).pI (by simp)).pI (by simp)).pI (by simp)
    have hnl : ∀ i, i < L.length → L.getD i 0 ≠ v := fun i hi z => hn (z ▸ get_mem hi)
    refine x_iret (ab_dd tk_ro_standWith 62 rfl) ⟨rfl, _, rfl, hE, ⟨?_, fun i hi => ?_, fun i hi => ?_, fun u hu => ?_⟩, fun j hj => ?_, fun i hi => ?_, fun _ => ?_⟩
    · rw [n3]; exact gI_s
    · rw [gI_o (by omega), gI_o (by omega), gI_o (by omega)]
      by_cases z : i = L.length
      · rw [z, ← n2, ix_get (bfA_mem L v), n2]; exact gI_s
      · rw [gI_k z, (bfA_pre L v).get (by omega)]; exact g2 i (by omega)
    · rw [gI_o (by omega)]
      by_cases z : i = L.length
      · rw [z]
        rw [show (bfA L v).getD L.length 0 = v by rw [← n2]; exact ix_get (bfA_mem L v)]
        exact gI_s
      · rw [(bfA_pre L v).get (by omega), gI_k (hnl i (by omega)), gI_o (by omega), gI_o (by omega)]; exact g3 i (by omega)
    · rw [gI_o (by omega)]
      by_cases z : u = v
      · rw [z]; exact ⟨L.length, gI_s, by omega⟩
      · rw [gI_k z, gI_o (by omega), gI_o (by omega)]; exact g4 u hu
    · rw [gI_k hj, gI_o (by omega), gI_o (by omega), gI_o (by omega)]
    · rw [gI_o (by omega), gI_o (by omega), gI_k (by omega), gI_o (by omega)]
    · rw [gI_o (by omega), gI_o (by omega)]; exact gI_s
  refine x_iload_n 1 1 (ab_dd tk_ro_standWith 0 rfl) rfl rfl rfl ?_
  refine xn_if_lt 4 13 (ab_dd tk_ro_standWith 1 rfl) rfl (by decide) (by omega) ?_
  refine x_iload_n 5 1 (ab_dd tk_ro_standWith 2 rfl) rfl rfl rfl ?_
  refine x_aload_n 6 0 (ab_dd tk_ro_standWith 3 rfl) rfl rfl rfl ?_
  refine t_getP 9 (r + 2) (ab_dd tk_ro_standWith 4 rfl) rfl F_ro_42 (by have := hO.1; omega) (Nat.lt_of_le_of_lt (Nat.le_add_right r 7) hO.2.1) hO.2.2.1 rfl hO.2.2.2.2.2.2.2.2.2.2.2.2.1 ?_
  refine t_alen 10 0 (ab_dd tk_ro_standWith 5 rfl) rfl (by have := hO.1; omega) (Nat.lt_of_le_of_lt (Nat.add_le_add_left (by decide) r) hO.2.1) rfl hO.2.2.2.2.1 ?_
  refine x_icmp_lt_t 15 (ab_dd tk_ro_standWith 6 rfl) (by decide) ((nI_ltI (a := v) (b := N) (by omega) (by omega)).mpr (show v < N by omega)) ?_
  refine x_aload_n 16 0 (ab_dd tk_ro_standWith 9 rfl) rfl rfl rfl ?_
  refine t_getP 19 (r + 2) (ab_dd tk_ro_standWith 10 rfl) rfl F_ro_42 (by have := hO.1; omega) (Nat.lt_of_le_of_lt (Nat.le_add_right r 7) hO.2.1) hO.2.2.1 rfl hO.2.2.2.2.2.2.2.2.2.2.2.2.1 ?_
  refine x_iload_n 20 1 (ab_dd tk_ro_standWith 11 rfl) rfl rfl rfl ?_
  refine t_iald 21 v (ab_dd tk_ro_standWith 12 rfl) rfl (by have := hO.1; omega) (Nat.lt_of_le_of_lt (Nat.add_le_add_left (by decide) r) hO.2.1) hO.2.2.2.2.1 rfl (by omega) (by omega) (x_topn e he1 ?_)
  refine x_istore_n 22 [some (.ref r), some (.int (nI v)), some (.int ff), some (.int (nI e))] 3 (ab_dd tk_ro_standWith 13 rfl) rfl rfl (by decide) rfl ?_
  refine x_iload_n 23 3 (ab_dd tk_ro_standWith 14 rfl) rfl rfl rfl ?_
  refine x_aload_n 24 0 (ab_dd tk_ro_standWith 15 rfl) rfl rfl rfl ?_
  refine t_getI 27 (ab_dd tk_ro_standWith 16 rfl) rfl F_ro_25 (by have := hO.1; omega) (Nat.lt_of_le_of_lt (Nat.le_add_right r 7) hO.2.1) hO.2.2.1 rfl (x_topn L.length g1 ?_)
  refine xn_icmp_ge 30 42 (ab_dd tk_ro_standWith 17 rfl) rfl (by decide) (by omega) (by omega) (fun h27 => ?_) (fun h27 => ?_)
  · exact new (fun hin => by
      have z1 := g3 (L.idxOf v) (ix_lt hin)
      rw [ix_get hin, he1] at z1
      have z2 := (nI_eq (by omega) (by have := ix_lt hin; omega)).mp z1
      have := ix_lt hin
      omega) _
  · have hLe := hN _ (get_mem h27)
    refine x_aload_n 31 0 (ab_dd tk_ro_standWith 18 rfl) rfl rfl rfl ?_
    refine t_getP 34 (r + 1) (ab_dd tk_ro_standWith 19 rfl) rfl F_ro_38 (by have := hO.1; omega) (Nat.lt_of_le_of_lt (Nat.le_add_right r 7) hO.2.1) hO.2.2.1 rfl hO.2.2.2.2.2.2.2.2.2.2.2.1 ?_
    refine x_iload_n 35 3 (ab_dd tk_ro_standWith 20 rfl) rfl rfl rfl ?_
    refine t_iald 36 e (ab_dd tk_ro_standWith 21 rfl) rfl (by have := hO.1; omega) (Nat.lt_of_le_of_lt (Nat.add_le_add_left (by decide) r) hO.2.1) hO.2.2.2.1 rfl (by omega) (by omega) (x_topn (L.getD e 0) (g2 e (by omega)) ?_)
    refine x_iload_n 37 1 (ab_dd tk_ro_standWith 22 rfl) rfl rfl rfl ?_
    refine xn_icmp_ne 40 42 (ab_dd tk_ro_standWith 23 rfl) rfl (by decide) (by omega) (by omega) (fun h37 => ?_) (fun h37 => ?_)
    · exact new (fun hin => by
        have z1 := g3 (L.idxOf v) (ix_lt hin)
        rw [ix_get hin, he1] at z1
        have z2 := (nI_eq (by omega) (by have := ix_lt hin; omega)).mp z1
        exact h37 (by rw [z2]; exact ix_get hin)) _
    · refine x_iload_n 41 3 (ab_dd tk_ro_standWith 24 rfl) rfl rfl rfl ?_
      have hin : v ∈ L := by rw [← h37]; exact get_mem h27
      have hbe : bfA L v = L := if_pos hin
      have hidx : L.idxOf v = e := by rw [← h37]; exact get_ix hd h27
      rw [hbe, hidx]
      exact x_iret (ab_dd tk_ro_standWith 25 rfl) ⟨rfl, S, rfl, sEq.rf, ⟨g1, g2, g3, g4⟩, fun _ _ => rfl, fun _ _ => rfl, fun z => absurd hin z⟩
