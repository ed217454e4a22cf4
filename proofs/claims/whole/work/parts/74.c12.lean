theorem lN_32 {u : Nat} (h : u < 2 ^ 31) : (lN u).toInt32 = nI u := by
  rw [← nI_l h]
  exact Int32.toInt32_toInt64 _
/-! ===== deeds ===== -/
theorem rowT_giv {a : Nat → Int32} (h : aOk a) {p q : Nat} (hp : p < 4) (hq : q < 4) : rowT (mGiv a p q) = (c4 (fun i => if i = q then d4 (seaC a) p else d4 (c4 (fun i => if i = p then d4 (seaC a) q else d4 (seaC a) i)) i), aW a, aQ a, cN (a 40), a 41) := by
  have hg : ∀ i, i < 28 ∨ 32 ≤ i → mGiv a p q i = a i := fun i hi => by
    unfold mGiv
    rw [up1_o (by omega), up1_o (by omega)]
  have hE : aE (mGiv a p q) = aE a := aE_cg (hg 1 (by omega)) (fun i h1 h2 => hg i (by omega)) h.R.2
  have hR : aR (mGiv a p q) = aR a := by unfold aR; rw [hg 1 (by omega)]
  unfold rowT aW aQ
  rw [hE, hR, hg 40 (by omega), hg 41 (by omega)]
  refine Prod.ext ?_ rfl
  show seaC (mGiv a p q) = c4 (fun i => if i = q then d4 (seaC a) p else d4 (c4 (fun i => if i = p then d4 (seaC a) q else d4 (seaC a) i)) i)
  unfold seaC
  refine c4_cg (fun r hr => ?_)
  have hd : ∀ i, i < 4 → d4 (c4 (fun i => if i = p then d4 (c4 (fun r => cN (a (28 + r)))) q else d4 (c4 (fun r => cN (a (28 + r)))) i)) i = if i = p then cN (a (28 + q)) else cN (a (28 + i)) := fun i hi => by
    rw [c4_d (fun r hr => by split <;> exact d4_lt _ _) i hi]
    split
    · exact seaC_d h hq
    · exact seaC_d h hi
  rw [hd r hr]
  show cN (up1 (up1 a (28 + p) (a (28 + q))) (28 + q) (a (28 + p)) (28 + r)) = if r = q then d4 (seaC a) p else _
  by_cases z : r = q
  · rw [z, up1_s, if_pos rfl, seaC_d h hp]
  · rw [up1_o (by omega), if_neg z]
    by_cases y : r = p
    · rw [y, up1_s, if_pos rfl]
    · rw [up1_o (by omega), if_neg y]
theorem rowT_mon {a : Nat → Int32} (h : aOk a) {n : Nat} (hn : n < 10) : rowT (up1 a 40 (nI n)) = (seaC a, aW a, aQ a, n, a 41) := by
  have hg : ∀ i, i ≠ 40 → up1 a 40 (nI n) i = a i := fun i hi => up1_o hi
  have hE : aE (up1 a 40 (nI n)) = aE a := aE_cg (hg 1 (by omega)) (fun i h1 h2 => hg i (by omega)) h.R.2
  have hR : aR (up1 a 40 (nI n)) = aR a := by unfold aR; rw [hg 1 (by omega)]
  have hs : seaC (up1 a 40 (nI n)) = seaC a := c4_cg (fun r hr => by rw [hg _ (by omega)])
  unfold rowT aW aQ
  rw [hE, hR, hs, hg 41 (by omega), up1_s, cN_nI (by omega)]
theorem rowT_rug {a : Nat → Int32} (h : aOk a) {r : Nat} (hr : r < aR a) : rowT (up1 a (32 + r) 4) = (seaC a, mWi (aW a) r 4, aQ a, cN (a 40), a 41) := by
  have hR4 := h.R.2
  have h6 := p5_6 hR4
  have hg : ∀ i, i ≠ 32 + r → up1 a (32 + r) 4 i = a i := fun i hi => up1_o hi
  have hR : aR (up1 a (32 + r) 4) = aR a := by unfold aR; rw [hg 1 (by omega)]
  have hs : seaC (up1 a (32 + r) 4) = seaC a := c4_cg (fun r hr => by rw [hg _ (by omega)])
  have hb := aRug_ok h (show r < 4 by omega)
  obtain ⟨hq, hw, hE⟩ := rowT_in h
  have hwi := mWi_ok (c := aW a) (r := r) (x := 4) (by omega) (by omega) (by decide)
  have dA := mEn_dig h.1 (n := aR a) hR4
  have dB := mEn_dig hb.1 (n := aR a) hR4
  have hwi6 : mWi (aW a) r 4 < 625 := by have := hwi.2.1; rw [Nat.div_eq_of_lt (show aW a < 625 by omega)] at this; omega
  have hEb : aE (up1 a (32 + r) 4) = cSt (aR a) (mWi (aW a) r 4) (aQ a) := by
    unfold aE
    rw [hR]
    refine mC_ext dB.1 (cSt_lt hR4 hq hwi6) (fun t ht => ?_) (fun t ht => ?_)
    · rw [dB.2.1 t ht, cSt_se hR4 hq hwi6 ht]
      have e := dA.2.1 t ht
      rw [show mEn (rwS a) (aR a) = cSt (aR a) (aW a) (aQ a) from hE, cSt_se hR4 hq (by omega) ht] at e
      rw [e]
      show (if t < aR a then cN (up1 a (32 + r) 4 (36 + t)) else 0) = (if t < aR a then cN (a (36 + t)) else 0)
      rw [hg _ (by omega)]
    · rw [dB.2.2 t ht, cSt_wa hwi6, hwi.2.2 t ht]
      have e := dA.2.2 t ht
      rw [show mEn (rwS a) (aR a) = cSt (aR a) (aW a) (aQ a) from hE, cSt_wa (by omega)] at e
      by_cases z : t = r
      · rw [z, if_pos hr, if_pos rfl]
        show cN (up1 a (32 + r) 4 (32 + r)) = 4
        rw [up1_s]
        decide
      · rw [if_neg z, e]
        show (if t < aR a then cN (up1 a (32 + r) 4 (32 + t)) else 0) = (if t < aR a then cN (a (32 + t)) else 0)
        rw [hg _ (by omega)]
  have hwb : mWi (aW a) r 4 < 5 ^ aR (up1 a (32 + r) 4) := by
    have := (rowT_in hb).2.1
    unfold aW at this
    rw [hEb, cSt_m hwi6] at this
    exact this
  obtain ⟨e1, e2⟩ := aWQ (a := up1 a (32 + r) 4) (by rw [hR]; exact hR4) hwb (by rw [hR]; exact hq) (by rw [hR]; exact hEb)
  unfold rowT
  rw [e1, e2, hs, hg 40 (by omega), hg 41 (by omega)]
theorem sta.up {a : Nat → Int32} {j : Nat} {v : Int32} (h1 : 28 ≤ j) (h2 : j < 183) : sta a (up1 a j v) := fun i hi => up1_o (by omega)
theorem sta.giv {a : Nat → Int32} {p q : Nat} (hp : p < 4) (hq : q < 4) : sta a (mGiv a p q) := fun i hi => by
  unfold mGiv
  rw [up1_o (by omega), up1_o (by omega)]
theorem aDo_sta {a : Nat → Int32} (h : aOk a) {u : Nat} (hu : aDw a u = 0) : sta a (aDo a u) := fun i hi => (aDo_ok h hu).2.2 i (by omega)
def tb_s_actGive : List (Nat × Instr × Nat) := [(0, .aload_n 0, 1), (1, .iload_n 2, 1), (2, .i2l, 1), (3, .invokevirtual 130, 3), (6, .ifCond .eq 17, 3), (9, .aload_n 0, 1), (10, .iload_n 3, 1), (11, .i2l, 1), (12, .invokevirtual 130, 3), (15, .ifCond .eq 8, 3), (18, .iload_n 2, 1), (19, .iload_n 3, 1), (20, .if_icmp .ne 5, 3), (23, .iconst 1, 1), (24, .ireturn, 1), (25, .aload_n 1, 1), (26, .getfield 134, 3), (29, .iload_n 2, 1), (30, .invokestatic 137, 3), (33, .istore 4, 2), (35, .aload_n 1, 1), (36, .getfield 134, 3), (39, .iload_n 3, 1), (40, .invokestatic 137, 3), (43, .istore 5, 2), (45, .aload_n 1, 1), (46, .aload_n 1, 1), (47, .getfield 134, 3), (50, .iload_n 2, 1), (51, .iload 5, 2), (53, .invokestatic 266, 3), (56, .iload_n 3, 1), (57, .iload 4, 2), (59, .invokestatic 266, 3), (62, .putfield 134, 3), (65, .iconst 0, 1), (66, .ireturn, 1)]
theorem tk_s_actGive : ∀ q ∈ tb_s_actGive, decode M_s_actGive.2.1 q.1 = .ok q.2 := by decide +kernel
theorem c_s_actGive {G : ab_G} {S : ab_S} (hx : xSh S) {im : Nat → Prop} (him : imO im) {c : Nat} (hc : sP S 50 2 = some c) {a : Nat → Int32} (hca : caI S im c a) (ha : aOk a) {t : Nat} (htt : t = 55 ∨ t = 56) (ht : sdE S t (rowT a)) (p q : Nat) (hp : p < 10) (hq : q < 10) : ab_C G 1 M_s_actGive [.ref 50, .ref t, .int (nI p), .int (nI q)] (sw S) (fun v w' => (p < aR a ∧ q < aR a ∧ p ≠ q ∧ v = some (.int (nI 0)) ∧ ∃ S', w' = sw S' ∧ sEq [t] S S' ∧ sdE S' t (rowT (mGiv a p q))) ∨ (¬ (p < aR a ∧ q < aR a ∧ p ≠ q) ∧ v = some (.int (nI 1)) ∧ w' = sw S)) := by
  refine x_enter [some (.ref 50), some (.ref t), some (.int (nI p)), some (.int (nI q)), none, none] (by decide) (Nat.le_of_ble_eq_true rfl) rfl (fun v w' h => by rcases h with ⟨-, -, -, rfl, -⟩ | ⟨-, rfl, -⟩ <;> rfl) ?_
  have htk := x_55 hx htt
  obtain ⟨hk, c1, -⟩ := hca
  have hR := ha.R.2
  have hsl := seaC_lt ha
  refine x_aload_n 1 0 (ab_dd tk_s_actGive 0 rfl) rfl rfl rfl ?_
  refine x_iload_n 2 2 (ab_dd tk_s_actGive 1 rfl) rfl rfl rfl ?_
  refine x_i2l 3 (ab_dd tk_s_actGive 2 rfl) rfl (x_topL (lN p) (nI_l (by omega)) ?_)
  refine t_callV 6 M_s_isRider 0 1 [_] (ab_dd tk_s_actGive 3 rfl) rfl (by first | decide | omega) K_s_isRider V_s_isRider.1 V_s_isRider.2 L_s_130 rfl (Nat.le_of_ble_eq_true rfl) (by decide) (Nat.lt_of_lt_of_le (by decide) hx.1) (hx.2.1 0 (by decide)) rfl (cx_isRiderN (by exact hx) hc (by exact hk) hR c1 p (by omega)) (fun v1 w1 h1 => ?_)
  obtain ⟨rfl, rfl⟩ := h1
  refine xb_if_eq 9 23 (ab_dd tk_s_actGive 4 rfl) rfl (by decide) (fun h6 => ?_) (fun h6 => ?_)
  · refine x_iconst 24 1 (ab_dd tk_s_actGive 13 rfl) rfl (by decide) (x_topn 1 rfl ?_)
    exact x_iret (ab_dd tk_s_actGive 14 rfl) (Or.inr ⟨by omega, rfl, rfl⟩)
  · refine x_aload_n 10 0 (ab_dd tk_s_actGive 5 rfl) rfl rfl rfl ?_
    refine x_iload_n 11 3 (ab_dd tk_s_actGive 6 rfl) rfl rfl rfl ?_
    refine x_i2l 12 (ab_dd tk_s_actGive 7 rfl) rfl (x_topL (lN q) (nI_l (by omega)) ?_)
    refine t_callV 15 M_s_isRider 0 1 [_] (ab_dd tk_s_actGive 8 rfl) rfl (by first | decide | omega) K_s_isRider V_s_isRider.1 V_s_isRider.2 L_s_130 rfl (Nat.le_of_ble_eq_true rfl) (by decide) (Nat.lt_of_lt_of_le (by decide) hx.1) (hx.2.1 0 (by decide)) rfl (cx_isRiderN (by exact hx) hc (by exact hk) hR c1 q (by omega)) (fun v1 w1 h1 => ?_)
    obtain ⟨rfl, rfl⟩ := h1
    refine xb_if_eq 18 23 (ab_dd tk_s_actGive 9 rfl) rfl (by decide) (fun h15 => ?_) (fun h15 => ?_)
    · refine x_iconst 24 1 (ab_dd tk_s_actGive 13 rfl) rfl (by decide) (x_topn 1 rfl ?_)
      exact x_iret (ab_dd tk_s_actGive 14 rfl) (Or.inr ⟨by omega, rfl, rfl⟩)
    · refine x_iload_n 19 2 (ab_dd tk_s_actGive 10 rfl) rfl rfl rfl ?_
      refine x_iload_n 20 3 (ab_dd tk_s_actGive 11 rfl) rfl rfl rfl ?_
      refine xn_icmp_ne 23 25 (ab_dd tk_s_actGive 12 rfl) rfl (by decide) (by omega) (by omega) (fun h20 => ?_) (fun h20 => ?_)
      · refine x_aload_n 26 1 (ab_dd tk_s_actGive 15 rfl) rfl rfl rfl ?_
        refine t_getI 29 (ab_dd tk_s_actGive 16 rfl) rfl F_s_134 htk.1 htk.2.1 htk.2.2 rfl (x_topn (seaC a) ht.1 ?_)
        refine x_iload_n 30 2 (ab_dd tk_s_actGive 17 rfl) rfl rfl rfl ?_
        refine x_callS 33 M_s_seasonOf 0 2 [_, _] (ab_dd tk_s_actGive 18 rfl) rfl (by first | decide | omega) K_s_seasonOf T_s_seasonOf L_s_137 rfl (Nat.le_of_ble_eq_true rfl) (c_s_seasonOf (seaC a) p (by omega) (by omega)) (fun v1 w1 h1 => ?_)
        obtain ⟨rfl, rfl⟩ := h1
        refine x_istore 35 [some (.ref 50), some (.ref t), some (.int (nI p)), some (.int (nI q)), some (.int (nI (d4 (seaC a) p))), none] 4 (ab_dd tk_s_actGive 19 rfl) rfl (by decide) rfl ?_
        refine x_aload_n 36 1 (ab_dd tk_s_actGive 20 rfl) rfl rfl rfl ?_
        refine t_getI 39 (ab_dd tk_s_actGive 21 rfl) rfl F_s_134 htk.1 htk.2.1 htk.2.2 rfl (x_topn (seaC a) ht.1 ?_)
        refine x_iload_n 40 3 (ab_dd tk_s_actGive 22 rfl) rfl rfl rfl ?_
        refine x_callS 43 M_s_seasonOf 0 2 [_, _] (ab_dd tk_s_actGive 23 rfl) rfl (by first | decide | omega) K_s_seasonOf T_s_seasonOf L_s_137 rfl (Nat.le_of_ble_eq_true rfl) (c_s_seasonOf (seaC a) q (by omega) (by omega)) (fun v1 w1 h1 => ?_)
        obtain ⟨rfl, rfl⟩ := h1
        refine x_istore 45 [some (.ref 50), some (.ref t), some (.int (nI p)), some (.int (nI q)), some (.int (nI (d4 (seaC a) p))), some (.int (nI (d4 (seaC a) q)))] 5 (ab_dd tk_s_actGive 24 rfl) rfl (by decide) rfl ?_
        have hd1 := d4_lt (seaC a) p
        have hd2 := d4_lt (seaC a) q
        have hc4 : c4 (fun i => if i = p then d4 (seaC a) q else d4 (seaC a) i) < 256 := c4_lt (fun r hr => by split <;> exact d4_lt _ _)
        refine x_aload_n 46 1 (ab_dd tk_s_actGive 25 rfl) rfl rfl rfl ?_
        refine x_aload_n 47 1 (ab_dd tk_s_actGive 26 rfl) rfl rfl rfl ?_
        refine t_getI 50 (ab_dd tk_s_actGive 27 rfl) rfl F_s_134 htk.1 htk.2.1 htk.2.2 rfl (x_topn (seaC a) ht.1 ?_)
        refine x_iload_n 51 2 (ab_dd tk_s_actGive 28 rfl) rfl rfl rfl ?_
        refine x_iload 53 5 (ab_dd tk_s_actGive 29 rfl) rfl rfl ?_
        refine x_callS 56 M_s_withSeason 0 3 [_, _, _] (ab_dd tk_s_actGive 30 rfl) rfl (by first | decide | omega) K_s_withSeason T_s_withSeason L_s_266 rfl (Nat.le_of_ble_eq_true rfl) (c_s_withSeason (seaC a) p (d4 (seaC a) q) (by omega) (by omega) (by omega)) (fun v1 w1 h1 => ?_)
        obtain ⟨rfl, rfl⟩ := h1
        refine x_iload_n 57 3 (ab_dd tk_s_actGive 31 rfl) rfl rfl rfl ?_
        refine x_iload 59 4 (ab_dd tk_s_actGive 32 rfl) rfl rfl ?_
        refine x_callS 62 M_s_withSeason 0 3 [_, _, _] (ab_dd tk_s_actGive 33 rfl) rfl (by first | decide | omega) K_s_withSeason T_s_withSeason L_s_266 rfl (Nat.le_of_ble_eq_true rfl) (c_s_withSeason (c4 (fun i => if i = p then (d4 (seaC a) q) else d4 (seaC a) i)) q (d4 (seaC a) p) (by omega) (by omega) (by omega)) (fun v1 w1 h1 => ?_)
        obtain ⟨rfl, rfl⟩ := h1
        refine t_putI 65 (ab_dd tk_s_actGive 34 rfl) rfl F_s_134 htk.1 htk.2.1 htk.2.2 rfl rfl rfl ?_
        refine x_iconst 66 0 (ab_dd tk_s_actGive 35 rfl) rfl (by decide) (x_topn 0 rfl ?_)
        have hg := rowT_giv ha (p := p) (q := q) (by omega) (by omega)
        exact x_iret (ab_dd tk_s_actGive 36 rfl) (Or.inl ⟨by omega, by omega, by omega, rfl, _, rfl, sEq.rf.pI (List.Mem.head _), by rw [hg]; exact ⟨gI_s, (gI_k (by decide)).trans ht.2.1, (gI_k (by decide)).trans ht.2.2.1, (gI_k (by decide)).trans ht.2.2.2.1, (gI_k (by decide)).trans ht.2.2.2.2⟩⟩)
      · refine x_iconst 24 1 (ab_dd tk_s_actGive 13 rfl) rfl (by decide) (x_topn 1 rfl ?_)
        exact x_iret (ab_dd tk_s_actGive 14 rfl) (Or.inr ⟨by omega, rfl, rfl⟩)
def tb_s_act : List (Nat × Instr × Nat) := [(0, .lload_n 3, 1), (1, .lconst 0, 1), (2, .lcmp, 1), (3, .ifCond .lt 20, 3), (6, .lload_n 3, 1), (7, .ldc2_w 240, 3), (10, .lcmp, 1), (11, .ifCond .ge 12, 3), (14, .aload_n 0, 1), (15, .aload_n 1, 1), (16, .aload_n 2, 1), (17, .lload_n 3, 1), (18, .l2i, 1), (19, .invokevirtual 242, 3), (22, .ireturn, 1), (23, .lload_n 3, 1), (24, .ldc2_w 246, 3), (27, .lcmp, 1), (28, .ifCond .lt 46, 3), (31, .lload_n 3, 1), (32, .ldc2_w 248, 3), (35, .lcmp, 1), (36, .ifCond .ge 38, 3), (39, .aload_n 0, 1), (40, .lload_n 3, 1), (41, .ldc2_w 246, 3), (44, .lsub, 1), (45, .invokevirtual 130, 3), (48, .ifCond .eq 26, 3), (51, .lload_n 3, 1), (52, .l2i, 1), (53, .bipush 10, 2), (55, .isub, 1), (56, .istore 5, 2), (58, .aload_n 2, 1), (59, .aload_n 2, 1), (60, .getfield 145, 3), (63, .iload 5, 2), (65, .iconst 4, 1), (66, .invokestatic 250, 3), (69, .putfield 145, 3), (72, .iconst 0, 1), (73, .ireturn, 1), (74, .lload_n 3, 1), (75, .ldc2_w 248, 3), (78, .lcmp, 1), (79, .ifCond .lt 22, 3), (82, .lload_n 3, 1), (83, .ldc2_w 253, 3), (86, .lcmp, 1), (87, .ifCond .ge 14, 3), (90, .aload_n 2, 1), (91, .lload_n 3, 1), (92, .l2i, 1), (93, .bipush 20, 2), (95, .isub, 1), (96, .putfield 180, 3), (99, .iconst 0, 1), (100, .ireturn, 1), (101, .lload_n 3, 1), (102, .ldc2_w 255, 3), (105, .lcmp, 1), (106, .ifCond .lt 34, 3), (109, .lload_n 3, 1), (110, .ldc2_w 257, 3), (113, .lcmp, 1), (114, .ifCond .gt 26, 3), (117, .lload_n 3, 1), (118, .l2i, 1), (119, .bipush 100, 2), (121, .isub, 1), (122, .istore 5, 2), (124, .aload_n 0, 1), (125, .aload_n 2, 1), (126, .iload 5, 2), (128, .bipush 10, 2), (130, .idiv, 1), (131, .iload 5, 2), (133, .bipush 10, 2), (135, .irem, 1), (136, .invokevirtual 259, 3), (139, .ireturn, 1), (140, .iconst 1, 1), (141, .ireturn, 1)]
theorem tk_s_act : ∀ q ∈ tb_s_act, decode M_s_act.2.1 q.1 = .ok q.2 := by decide +kernel
theorem c_s_act {G : ab_G} {S : ab_S} (hx : xSh S) (hse : seOk S) (kc : kSh S.1) {im : Nat → Prop} (him : imO im) {x c bh nb st : Nat} {a : Nat → Int32} (hX : x = 84 ∨ x = 94) (hcx : clX S im x c a bh nb st) (ha : aGood a) (hst : st + 1 < 2 ^ 20) {t : Nat} (htt : t = 55 ∨ t = 56) (ht : sdE S t (rowT a)) (hc : sP S 50 2 = some c) (v0 : Int64) : ab_C G 5 M_s_act [.ref 50, .ref x, .ref t, .long v0] (sw S) (fun v w' => v = some (.int (nI (aWy a v0))) ∧ ∃ S' st', w' = sw S' ∧ sEq [x, x + 5, x + 6, x + 7, x + 8, x + 9, bh, t] S S' ∧ clX S' im x c a bh nb st' ∧ st ≤ st' ∧ st' ≤ st + 1 ∧ sdE S' t (rowT (if aWy a v0 = 0 then aDo a (jW v0) else a))) := by
  refine x_enter [some (.ref 50), some (.ref x), some (.ref t), some (.long v0), none, none] (by decide) (Nat.le_of_ble_eq_true rfl) rfl (fun v w' h => by obtain ⟨rfl, -⟩ := h; rfl) ?_
  have hcx0 := hcx
  obtain ⟨b, hb1, hb2, hcl⟩ := hcx0
  have hcl0 := hcl
  obtain ⟨hca, -, -, -, -, -, -, -, -, -, hnb, hbh, -⟩ := hcl0
  have hcaA : caI S im c a := hca.sta hb2.sy
  have hcaB := hcaA
  obtain ⟨hk, c1, -⟩ := hcaB
  have htk := x_55 hx htt
  have hR := ha.1.R.2
  have h6 := p5_6 hR
  obtain ⟨hqq, hww, hEE⟩ := rowT_in ha.1
  have hnt : ¬ im t := fun z => by have := him t z; omega
  have h50 : 50 ≤ sn S := Nat.le_trans (by decide) hx.1
  have no : ¬ (0 ≤ v0 ∧ v0 ≤ 199) → ab_Ex G 5 M_s_act 140 [some (.ref 50), some (.ref x), some (.ref t), some (.long v0), none, none] [] (sw S) (fun v w' => v = some (.int (nI (aWy a v0))) ∧ ∃ S' st', w' = sw S' ∧ sEq [x, x + 5, x + 6, x + 7, x + 8, x + 9, bh, t] S S' ∧ clX S' im x c a bh nb st' ∧ st ≤ st' ∧ st' ≤ st + 1 ∧ sdE S' t (rowT (if aWy a v0 = 0 then aDo a (jW v0) else a))) := by
    intro hno
    have e : aWy a v0 = 1 := if_neg hno
    refine x_iconst 141 1 (ab_dd tk_s_act 82 rfl) rfl (by decide) (x_topn 1 rfl ?_)
    exact x_iret (ab_dd tk_s_act 83 rfl) ⟨rI (by rw [e]), S, st, rfl, sEq.rf, hcx, Nat.le_refl _, by omega, by rw [e, if_neg (by decide)]; exact ht⟩
  by_cases hin : 0 ≤ v0 ∧ v0 ≤ 199
  · obtain ⟨u, hu, rfl, hju⟩ := jW_get (n := 199) (by decide) hin
    rw [hju, aWy_N hu]
    have hti := lN_toInt (show u < 2 ^ 31 by omega)
    have e0 : ((0 : Int64).toInt) = 0 := by decide
    have e4 : ((4 : Int64).toInt) = 4 := by decide
    have e10 : ((10 : Int64).toInt) = 10 := by decide
    have e20 : ((20 : Int64).toInt) = 20 := by decide
    have e30 : ((30 : Int64).toInt) = 30 := by decide
    have e100 : ((100 : Int64).toInt) = 100 := by decide
    have e199 : ((199 : Int64).toInt) = 199 := by decide
    have el : (lN u).toInt32 = nI u := lN_32 (by omega)
    by_cases hz_stop : u ≤ 3
    · refine x_lload_n 1 3 (ab_dd tk_s_act 0 rfl) rfl rfl rfl ?_
      refine x_lconst 2 0 (ab_dd tk_s_act 1 rfl) rfl (by decide) ?_
      refine x_lcmp 3 (ab_dd tk_s_act 2 rfl) rfl ?_
      refine x_if_lt_f 6 (ab_dd tk_s_act 3 rfl) rfl 23 (by decide) (by first | (rw [lg_cmp_lt, Int64.lt_iff_toInt_lt]; omega) | (rw [lg_cmp_ge, Int64.le_iff_toInt_le]; omega) | (rw [lg_cmp_gt, Int64.lt_iff_toInt_lt]; omega)) ?_
      refine x_lload_n 7 3 (ab_dd tk_s_act 4 rfl) rfl rfl rfl ?_
      refine x_ldc2 10 (ab_dd tk_s_act 5 rfl) rfl C_s_240 ?_
      refine x_lcmp 11 (ab_dd tk_s_act 6 rfl) rfl ?_
      refine x_if_ge_f 14 (ab_dd tk_s_act 7 rfl) rfl 23 (by decide) (by first | (rw [lg_cmp_lt, Int64.lt_iff_toInt_lt]; omega) | (rw [lg_cmp_ge, Int64.le_iff_toInt_le]; omega) | (rw [lg_cmp_gt, Int64.lt_iff_toInt_lt]; omega)) ?_
      refine x_aload_n 15 0 (ab_dd tk_s_act 8 rfl) rfl rfl rfl ?_
      refine x_aload_n 16 1 (ab_dd tk_s_act 9 rfl) rfl rfl rfl ?_
      refine x_aload_n 17 2 (ab_dd tk_s_act 10 rfl) rfl rfl rfl ?_
      refine x_lload_n 18 3 (ab_dd tk_s_act 11 rfl) rfl rfl rfl ?_
      refine x_l2i 19 (ab_dd tk_s_act 12 rfl) rfl (x_topn u el ?_)
      refine t_callV 22 M_s_actStop 4 3 [_, _, _] (ab_dd tk_s_act 13 rfl) rfl (by first | decide | omega) K_s_actStop V_s_actStop.1 V_s_actStop.2 L_s_242 rfl (Nat.le_of_ble_eq_true rfl) (by decide) (Nat.lt_of_lt_of_le (by decide) hx.1) (hx.2.1 0 (by decide)) rfl (c_s_actStop hx hse kc him hX hcx ha hst htt ht u (by omega)) (fun v1 w1 h1 => ?_)
      obtain ⟨rfl, S1, st1, rfl, hE1, hcl1, hs1, hs2, ht1⟩ := h1
      have e : aDw a u = aY a (a 40) (aE a) u := if_pos (by omega)
      have eo : aDo a u = aGo a u := if_pos (by omega)
      exact x_iret (ab_dd tk_s_act 14 rfl) ⟨rI (by rw [e]), S1, st1, rfl, hE1, hcl1, hs1, hs2, by rw [e, eo]; exact ht1⟩
    · skip
      by_cases hz_gap1 : u < 10
      · refine x_lload_n 1 3 (ab_dd tk_s_act 0 rfl) rfl rfl rfl ?_
        refine x_lconst 2 0 (ab_dd tk_s_act 1 rfl) rfl (by decide) ?_
        refine x_lcmp 3 (ab_dd tk_s_act 2 rfl) rfl ?_
        refine x_if_lt_f 6 (ab_dd tk_s_act 3 rfl) rfl 23 (by decide) (by first | (rw [lg_cmp_lt, Int64.lt_iff_toInt_lt]; omega) | (rw [lg_cmp_ge, Int64.le_iff_toInt_le]; omega) | (rw [lg_cmp_gt, Int64.lt_iff_toInt_lt]; omega)) ?_
        refine x_lload_n 7 3 (ab_dd tk_s_act 4 rfl) rfl rfl rfl ?_
        refine x_ldc2 10 (ab_dd tk_s_act 5 rfl) rfl C_s_240 ?_
        refine x_lcmp 11 (ab_dd tk_s_act 6 rfl) rfl ?_
        refine x_if_ge_t 23 (ab_dd tk_s_act 7 rfl) (by decide) (by first | (rw [lg_cmp_lt, Int64.lt_iff_toInt_lt]; omega) | (rw [lg_cmp_ge, Int64.le_iff_toInt_le]; omega) | (rw [lg_cmp_gt, Int64.lt_iff_toInt_lt]; omega)) ?_
        refine x_lload_n 24 3 (ab_dd tk_s_act 15 rfl) rfl rfl rfl ?_
        refine x_ldc2 27 (ab_dd tk_s_act 16 rfl) rfl C_s_246 ?_
        refine x_lcmp 28 (ab_dd tk_s_act 17 rfl) rfl ?_
        refine x_if_lt_t 74 (ab_dd tk_s_act 18 rfl) (by decide) (by first | (rw [lg_cmp_lt, Int64.lt_iff_toInt_lt]; omega) | (rw [lg_cmp_ge, Int64.le_iff_toInt_le]; omega) | (rw [lg_cmp_gt, Int64.lt_iff_toInt_lt]; omega)) ?_
        refine x_lload_n 75 3 (ab_dd tk_s_act 43 rfl) rfl rfl rfl ?_
        refine x_ldc2 78 (ab_dd tk_s_act 44 rfl) rfl C_s_248 ?_
        refine x_lcmp 79 (ab_dd tk_s_act 45 rfl) rfl ?_
        refine x_if_lt_t 101 (ab_dd tk_s_act 46 rfl) (by decide) (by first | (rw [lg_cmp_lt, Int64.lt_iff_toInt_lt]; omega) | (rw [lg_cmp_ge, Int64.le_iff_toInt_le]; omega) | (rw [lg_cmp_gt, Int64.lt_iff_toInt_lt]; omega)) ?_
        refine x_lload_n 102 3 (ab_dd tk_s_act 59 rfl) rfl rfl rfl ?_
        refine x_ldc2 105 (ab_dd tk_s_act 60 rfl) rfl C_s_255 ?_
        refine x_lcmp 106 (ab_dd tk_s_act 61 rfl) rfl ?_
        refine x_if_lt_t 140 (ab_dd tk_s_act 62 rfl) (by decide) (by first | (rw [lg_cmp_lt, Int64.lt_iff_toInt_lt]; omega) | (rw [lg_cmp_ge, Int64.le_iff_toInt_le]; omega) | (rw [lg_cmp_gt, Int64.lt_iff_toInt_lt]; omega)) ?_
        refine x_iconst 141 1 (ab_dd tk_s_act 82 rfl) rfl (by decide) (x_topn 1 rfl ?_)
        have e : aDw a u = 1 := by unfold aDw; rw [if_neg (by omega), if_pos (by omega)]
        exact x_iret (ab_dd tk_s_act 83 rfl) ⟨rI (by rw [e]), S, st, rfl, sEq.rf, hcx, Nat.le_refl _, by omega, by rw [e, if_neg (by decide)]; exact ht⟩
      · skip
        by_cases hz_rug : u ≤ 19
        · refine x_lload_n 1 3 (ab_dd tk_s_act 0 rfl) rfl rfl rfl ?_
          refine x_lconst 2 0 (ab_dd tk_s_act 1 rfl) rfl (by decide) ?_
          refine x_lcmp 3 (ab_dd tk_s_act 2 rfl) rfl ?_
          refine x_if_lt_f 6 (ab_dd tk_s_act 3 rfl) rfl 23 (by decide) (by first | (rw [lg_cmp_lt, Int64.lt_iff_toInt_lt]; omega) | (rw [lg_cmp_ge, Int64.le_iff_toInt_le]; omega) | (rw [lg_cmp_gt, Int64.lt_iff_toInt_lt]; omega)) ?_
          refine x_lload_n 7 3 (ab_dd tk_s_act 4 rfl) rfl rfl rfl ?_
          refine x_ldc2 10 (ab_dd tk_s_act 5 rfl) rfl C_s_240 ?_
          refine x_lcmp 11 (ab_dd tk_s_act 6 rfl) rfl ?_
          refine x_if_ge_t 23 (ab_dd tk_s_act 7 rfl) (by decide) (by first | (rw [lg_cmp_lt, Int64.lt_iff_toInt_lt]; omega) | (rw [lg_cmp_ge, Int64.le_iff_toInt_le]; omega) | (rw [lg_cmp_gt, Int64.lt_iff_toInt_lt]; omega)) ?_
          refine x_lload_n 24 3 (ab_dd tk_s_act 15 rfl) rfl rfl rfl ?_
          refine x_ldc2 27 (ab_dd tk_s_act 16 rfl) rfl C_s_246 ?_
          refine x_lcmp 28 (ab_dd tk_s_act 17 rfl) rfl ?_
          refine x_if_lt_f 31 (ab_dd tk_s_act 18 rfl) rfl 74 (by decide) (by first | (rw [lg_cmp_lt, Int64.lt_iff_toInt_lt]; omega) | (rw [lg_cmp_ge, Int64.le_iff_toInt_le]; omega) | (rw [lg_cmp_gt, Int64.lt_iff_toInt_lt]; omega)) ?_
          refine x_lload_n 32 3 (ab_dd tk_s_act 19 rfl) rfl rfl rfl ?_
          refine x_ldc2 35 (ab_dd tk_s_act 20 rfl) rfl C_s_248 ?_
          refine x_lcmp 36 (ab_dd tk_s_act 21 rfl) rfl ?_
          refine x_if_ge_f 39 (ab_dd tk_s_act 22 rfl) rfl 74 (by decide) (by first | (rw [lg_cmp_lt, Int64.lt_iff_toInt_lt]; omega) | (rw [lg_cmp_ge, Int64.le_iff_toInt_le]; omega) | (rw [lg_cmp_gt, Int64.lt_iff_toInt_lt]; omega)) ?_
          refine x_aload_n 40 0 (ab_dd tk_s_act 23 rfl) rfl rfl rfl ?_
          refine x_lload_n 41 3 (ab_dd tk_s_act 24 rfl) rfl rfl rfl ?_
          refine x_ldc2 44 (ab_dd tk_s_act 25 rfl) rfl C_s_246 ?_
          refine x_lsub 45 (ab_dd tk_s_act 26 rfl) rfl (x_topL (lN (u - 10)) (show lN u - lN 10 = lN (u - 10) from lN_sub (show 10 ≤ u by omega)) ?_)
          refine t_callV 48 M_s_isRider 0 1 [_] (ab_dd tk_s_act 27 rfl) rfl (by first | decide | omega) K_s_isRider V_s_isRider.1 V_s_isRider.2 L_s_130 rfl (Nat.le_of_ble_eq_true rfl) (by decide) (Nat.lt_of_lt_of_le (by decide) hx.1) (hx.2.1 0 (by decide)) rfl (cx_isRiderN (by exact hx) hc (by exact hk) hR c1 (u - 10) (by omega)) (fun v1 w1 h1 => ?_)
          obtain ⟨rfl, rfl⟩ := h1
          refine xb_if_eq 51 74 (ab_dd tk_s_act 28 rfl) rfl (by decide) (fun h48 => ?_) (fun h48 => ?_)
          · refine x_lload_n 75 3 (ab_dd tk_s_act 43 rfl) rfl rfl rfl ?_
            refine x_ldc2 78 (ab_dd tk_s_act 44 rfl) rfl C_s_248 ?_
            refine x_lcmp 79 (ab_dd tk_s_act 45 rfl) rfl ?_
            refine x_if_lt_t 101 (ab_dd tk_s_act 46 rfl) (by decide) (by first | (rw [lg_cmp_lt, Int64.lt_iff_toInt_lt]; omega) | (rw [lg_cmp_ge, Int64.le_iff_toInt_le]; omega) | (rw [lg_cmp_gt, Int64.lt_iff_toInt_lt]; omega)) ?_
            refine x_lload_n 102 3 (ab_dd tk_s_act 59 rfl) rfl rfl rfl ?_
            refine x_ldc2 105 (ab_dd tk_s_act 60 rfl) rfl C_s_255 ?_
            refine x_lcmp 106 (ab_dd tk_s_act 61 rfl) rfl ?_
            refine x_if_lt_t 140 (ab_dd tk_s_act 62 rfl) (by decide) (by first | (rw [lg_cmp_lt, Int64.lt_iff_toInt_lt]; omega) | (rw [lg_cmp_ge, Int64.le_iff_toInt_le]; omega) | (rw [lg_cmp_gt, Int64.lt_iff_toInt_lt]; omega)) ?_
            refine x_iconst 141 1 (ab_dd tk_s_act 82 rfl) rfl (by decide) (x_topn 1 rfl ?_)
            have e : aDw a u = 1 := by unfold aDw; rw [if_neg (by omega), if_neg (by omega), if_pos (by omega), if_neg (by omega)]
            exact x_iret (ab_dd tk_s_act 83 rfl) ⟨rI (by rw [e]), S, st, rfl, sEq.rf, hcx, Nat.le_refl _, by omega, by rw [e, if_neg (by decide)]; exact ht⟩
          · refine x_lload_n 52 3 (ab_dd tk_s_act 29 rfl) rfl rfl rfl ?_
            refine x_l2i 53 (ab_dd tk_s_act 30 rfl) rfl (x_topn u el ?_)
            refine x_bipush 55 10 (ab_dd tk_s_act 31 rfl) rfl (by decide) (x_topn 10 rfl ?_)
            refine x_isub 56 (ab_dd tk_s_act 32 rfl) rfl (x_topn (u - 10) (pk_sub (by omega)) ?_)
            refine x_istore 58 [some (.ref 50), some (.ref x), some (.ref t), some (.long (lN u)), none, some (.int (nI (u - 10)))] 5 (ab_dd tk_s_act 33 rfl) rfl (by decide) rfl ?_
            refine x_aload_n 59 2 (ab_dd tk_s_act 34 rfl) rfl rfl rfl ?_
            refine x_aload_n 60 2 (ab_dd tk_s_act 35 rfl) rfl rfl rfl ?_
            refine t_getI 63 (ab_dd tk_s_act 36 rfl) rfl F_s_145 htk.1 htk.2.1 htk.2.2 rfl (x_topn (aW a) ht.2.1 ?_)
            refine x_iload 65 5 (ab_dd tk_s_act 37 rfl) rfl rfl ?_
            refine x_iconst 66 4 (ab_dd tk_s_act 38 rfl) rfl (by decide) (x_topn 4 rfl ?_)
            refine x_callS 69 M_s_withWarmth 1 3 [_, _, _] (ab_dd tk_s_act 39 rfl) rfl (by first | decide | omega) K_s_withWarmth T_s_withWarmth L_s_250 rfl (Nat.le_of_ble_eq_true rfl) (c_s_withWarmth (by exact kc) (by exact h50) (aW a) (u - 10) 4 (by omega) (by omega) (by omega)) (fun v1 w1 h1 => ?_)
            obtain ⟨rfl, rfl⟩ := h1
            refine t_putI 72 (ab_dd tk_s_act 40 rfl) rfl F_s_145 htk.1 htk.2.1 htk.2.2 rfl rfl rfl ?_
            refine x_iconst 73 0 (ab_dd tk_s_act 41 rfl) rfl (by decide) (x_topn 0 rfl ?_)
            have e : aDw a u = 0 := by unfold aDw; rw [if_neg (by omega), if_neg (by omega), if_pos (by omega), if_pos h48]
            have eo : aDo a u = up1 a (32 + (u - 10)) 4 := by unfold aDo; rw [if_neg (by omega), if_pos (by omega), show 32 + u - 10 = 32 + (u - 10) by omega]
            have hE1 : sEq [t] S (pI S t 1 (nI (mWi (aW a) (u - 10) 4))) := sEq.rf.pI (List.Mem.head _)
            exact x_iret (ab_dd tk_s_act 42 rfl) ⟨rI (by rw [e]), _, st, rfl, hE1.mono (fun y hy => by rw [List.mem_singleton.mp hy]; simp), hcx.eq hE1 (by simp only [List.mem_cons, List.not_mem_nil, or_false, not_or]; omega) (fun y hy => by rw [List.mem_singleton.mp hy]; exact hnt) (by simp only [List.mem_cons, List.not_mem_nil, or_false, not_or]; omega) (by simp only [List.mem_cons, List.not_mem_nil, or_false, not_or]; omega) (by simp only [List.mem_cons, List.not_mem_nil, or_false, not_or]; omega), Nat.le_refl _, by omega, by rw [e, if_pos rfl, eo, rowT_rug ha.1 h48]; exact ⟨(gI_k (by decide)).trans ht.1, gI_s, (gI_k (by decide)).trans ht.2.2.1, (gI_k (by decide)).trans ht.2.2.2.1, (gI_k (by decide)).trans ht.2.2.2.2⟩⟩
        · skip
          by_cases hz_month : u ≤ 29
          · refine x_lload_n 1 3 (ab_dd tk_s_act 0 rfl) rfl rfl rfl ?_
            refine x_lconst 2 0 (ab_dd tk_s_act 1 rfl) rfl (by decide) ?_
            refine x_lcmp 3 (ab_dd tk_s_act 2 rfl) rfl ?_
            refine x_if_lt_f 6 (ab_dd tk_s_act 3 rfl) rfl 23 (by decide) (by first | (rw [lg_cmp_lt, Int64.lt_iff_toInt_lt]; omega) | (rw [lg_cmp_ge, Int64.le_iff_toInt_le]; omega) | (rw [lg_cmp_gt, Int64.lt_iff_toInt_lt]; omega)) ?_
            refine x_lload_n 7 3 (ab_dd tk_s_act 4 rfl) rfl rfl rfl ?_
            refine x_ldc2 10 (ab_dd tk_s_act 5 rfl) rfl C_s_240 ?_
            refine x_lcmp 11 (ab_dd tk_s_act 6 rfl) rfl ?_
            refine x_if_ge_t 23 (ab_dd tk_s_act 7 rfl) (by decide) (by first | (rw [lg_cmp_lt, Int64.lt_iff_toInt_lt]; omega) | (rw [lg_cmp_ge, Int64.le_iff_toInt_le]; omega) | (rw [lg_cmp_gt, Int64.lt_iff_toInt_lt]; omega)) ?_
            refine x_lload_n 24 3 (ab_dd tk_s_act 15 rfl) rfl rfl rfl ?_
            refine x_ldc2 27 (ab_dd tk_s_act 16 rfl) rfl C_s_246 ?_
            refine x_lcmp 28 (ab_dd tk_s_act 17 rfl) rfl ?_
            refine x_if_lt_f 31 (ab_dd tk_s_act 18 rfl) rfl 74 (by decide) (by first | (rw [lg_cmp_lt, Int64.lt_iff_toInt_lt]; omega) | (rw [lg_cmp_ge, Int64.le_iff_toInt_le]; omega) | (rw [lg_cmp_gt, Int64.lt_iff_toInt_lt]; omega)) ?_
            refine x_lload_n 32 3 (ab_dd tk_s_act 19 rfl) rfl rfl rfl ?_
            refine x_ldc2 35 (ab_dd tk_s_act 20 rfl) rfl C_s_248 ?_
            refine x_lcmp 36 (ab_dd tk_s_act 21 rfl) rfl ?_
            refine x_if_ge_t 74 (ab_dd tk_s_act 22 rfl) (by decide) (by first | (rw [lg_cmp_lt, Int64.lt_iff_toInt_lt]; omega) | (rw [lg_cmp_ge, Int64.le_iff_toInt_le]; omega) | (rw [lg_cmp_gt, Int64.lt_iff_toInt_lt]; omega)) ?_
            refine x_lload_n 75 3 (ab_dd tk_s_act 43 rfl) rfl rfl rfl ?_
            refine x_ldc2 78 (ab_dd tk_s_act 44 rfl) rfl C_s_248 ?_
            refine x_lcmp 79 (ab_dd tk_s_act 45 rfl) rfl ?_
            refine x_if_lt_f 82 (ab_dd tk_s_act 46 rfl) rfl 101 (by decide) (by first | (rw [lg_cmp_lt, Int64.lt_iff_toInt_lt]; omega) | (rw [lg_cmp_ge, Int64.le_iff_toInt_le]; omega) | (rw [lg_cmp_gt, Int64.lt_iff_toInt_lt]; omega)) ?_
            refine x_lload_n 83 3 (ab_dd tk_s_act 47 rfl) rfl rfl rfl ?_
            refine x_ldc2 86 (ab_dd tk_s_act 48 rfl) rfl C_s_253 ?_
            refine x_lcmp 87 (ab_dd tk_s_act 49 rfl) rfl ?_
            refine x_if_ge_f 90 (ab_dd tk_s_act 50 rfl) rfl 101 (by decide) (by first | (rw [lg_cmp_lt, Int64.lt_iff_toInt_lt]; omega) | (rw [lg_cmp_ge, Int64.le_iff_toInt_le]; omega) | (rw [lg_cmp_gt, Int64.lt_iff_toInt_lt]; omega)) ?_
            refine x_aload_n 91 2 (ab_dd tk_s_act 51 rfl) rfl rfl rfl ?_
            refine x_lload_n 92 3 (ab_dd tk_s_act 52 rfl) rfl rfl rfl ?_
            refine x_l2i 93 (ab_dd tk_s_act 53 rfl) rfl (x_topn u el ?_)
            refine x_bipush 95 20 (ab_dd tk_s_act 54 rfl) rfl (by decide) (x_topn 20 rfl ?_)
            refine x_isub 96 (ab_dd tk_s_act 55 rfl) rfl (x_topn (u - 20) (pk_sub (by omega)) ?_)
            refine t_putI 99 (ab_dd tk_s_act 56 rfl) rfl F_s_180 htk.1 htk.2.1 htk.2.2 rfl rfl rfl ?_
            refine x_iconst 100 0 (ab_dd tk_s_act 57 rfl) rfl (by decide) (x_topn 0 rfl ?_)
            have e : aDw a u = 0 := by unfold aDw; rw [if_neg (by omega), if_neg (by omega), if_neg (by omega), if_pos (by omega)]
            have eo : aDo a u = up1 a 40 (nI (u - 20)) := by unfold aDo; rw [if_neg (by omega), if_neg (by omega), if_pos (by omega)]
            have hE1 : sEq [t] S (pI S t 3 (nI (u - 20))) := sEq.rf.pI (List.Mem.head _)
            exact x_iret (ab_dd tk_s_act 58 rfl) ⟨rI (by rw [e]), _, st, rfl, hE1.mono (fun y hy => by rw [List.mem_singleton.mp hy]; simp), hcx.eq hE1 (by simp only [List.mem_cons, List.not_mem_nil, or_false, not_or]; omega) (fun y hy => by rw [List.mem_singleton.mp hy]; exact hnt) (by simp only [List.mem_cons, List.not_mem_nil, or_false, not_or]; omega) (by simp only [List.mem_cons, List.not_mem_nil, or_false, not_or]; omega) (by simp only [List.mem_cons, List.not_mem_nil, or_false, not_or]; omega), Nat.le_refl _, by omega, by rw [e, if_pos rfl, eo, rowT_mon ha.1 (show u - 20 < 10 by omega)]; exact ⟨(gI_k (by decide)).trans ht.1, (gI_k (by decide)).trans ht.2.1, (gI_k (by decide)).trans ht.2.2.1, gI_s, (gI_k (by decide)).trans ht.2.2.2.2⟩⟩
          · skip
            by_cases hz_gap2 : u < 100
            · refine x_lload_n 1 3 (ab_dd tk_s_act 0 rfl) rfl rfl rfl ?_
              refine x_lconst 2 0 (ab_dd tk_s_act 1 rfl) rfl (by decide) ?_
              refine x_lcmp 3 (ab_dd tk_s_act 2 rfl) rfl ?_
              refine x_if_lt_f 6 (ab_dd tk_s_act 3 rfl) rfl 23 (by decide) (by first | (rw [lg_cmp_lt, Int64.lt_iff_toInt_lt]; omega) | (rw [lg_cmp_ge, Int64.le_iff_toInt_le]; omega) | (rw [lg_cmp_gt, Int64.lt_iff_toInt_lt]; omega)) ?_
              refine x_lload_n 7 3 (ab_dd tk_s_act 4 rfl) rfl rfl rfl ?_
              refine x_ldc2 10 (ab_dd tk_s_act 5 rfl) rfl C_s_240 ?_
              refine x_lcmp 11 (ab_dd tk_s_act 6 rfl) rfl ?_
              refine x_if_ge_t 23 (ab_dd tk_s_act 7 rfl) (by decide) (by first | (rw [lg_cmp_lt, Int64.lt_iff_toInt_lt]; omega) | (rw [lg_cmp_ge, Int64.le_iff_toInt_le]; omega) | (rw [lg_cmp_gt, Int64.lt_iff_toInt_lt]; omega)) ?_
              refine x_lload_n 24 3 (ab_dd tk_s_act 15 rfl) rfl rfl rfl ?_
              refine x_ldc2 27 (ab_dd tk_s_act 16 rfl) rfl C_s_246 ?_
              refine x_lcmp 28 (ab_dd tk_s_act 17 rfl) rfl ?_
              refine x_if_lt_f 31 (ab_dd tk_s_act 18 rfl) rfl 74 (by decide) (by first | (rw [lg_cmp_lt, Int64.lt_iff_toInt_lt]; omega) | (rw [lg_cmp_ge, Int64.le_iff_toInt_le]; omega) | (rw [lg_cmp_gt, Int64.lt_iff_toInt_lt]; omega)) ?_
              refine x_lload_n 32 3 (ab_dd tk_s_act 19 rfl) rfl rfl rfl ?_
              refine x_ldc2 35 (ab_dd tk_s_act 20 rfl) rfl C_s_248 ?_
              refine x_lcmp 36 (ab_dd tk_s_act 21 rfl) rfl ?_
              refine x_if_ge_t 74 (ab_dd tk_s_act 22 rfl) (by decide) (by first | (rw [lg_cmp_lt, Int64.lt_iff_toInt_lt]; omega) | (rw [lg_cmp_ge, Int64.le_iff_toInt_le]; omega) | (rw [lg_cmp_gt, Int64.lt_iff_toInt_lt]; omega)) ?_
              refine x_lload_n 75 3 (ab_dd tk_s_act 43 rfl) rfl rfl rfl ?_
              refine x_ldc2 78 (ab_dd tk_s_act 44 rfl) rfl C_s_248 ?_
              refine x_lcmp 79 (ab_dd tk_s_act 45 rfl) rfl ?_
              refine x_if_lt_f 82 (ab_dd tk_s_act 46 rfl) rfl 101 (by decide) (by first | (rw [lg_cmp_lt, Int64.lt_iff_toInt_lt]; omega) | (rw [lg_cmp_ge, Int64.le_iff_toInt_le]; omega) | (rw [lg_cmp_gt, Int64.lt_iff_toInt_lt]; omega)) ?_
              refine x_lload_n 83 3 (ab_dd tk_s_act 47 rfl) rfl rfl rfl ?_
              refine x_ldc2 86 (ab_dd tk_s_act 48 rfl) rfl C_s_253 ?_
              refine x_lcmp 87 (ab_dd tk_s_act 49 rfl) rfl ?_
              refine x_if_ge_t 101 (ab_dd tk_s_act 50 rfl) (by decide) (by first | (rw [lg_cmp_lt, Int64.lt_iff_toInt_lt]; omega) | (rw [lg_cmp_ge, Int64.le_iff_toInt_le]; omega) | (rw [lg_cmp_gt, Int64.lt_iff_toInt_lt]; omega)) ?_
              refine x_lload_n 102 3 (ab_dd tk_s_act 59 rfl) rfl rfl rfl ?_
              refine x_ldc2 105 (ab_dd tk_s_act 60 rfl) rfl C_s_255 ?_
              refine x_lcmp 106 (ab_dd tk_s_act 61 rfl) rfl ?_
              refine x_if_lt_t 140 (ab_dd tk_s_act 62 rfl) (by decide) (by first | (rw [lg_cmp_lt, Int64.lt_iff_toInt_lt]; omega) | (rw [lg_cmp_ge, Int64.le_iff_toInt_le]; omega) | (rw [lg_cmp_gt, Int64.lt_iff_toInt_lt]; omega)) ?_
              refine x_iconst 141 1 (ab_dd tk_s_act 82 rfl) rfl (by decide) (x_topn 1 rfl ?_)
              have e : aDw a u = 1 := by unfold aDw; rw [if_neg (by omega), if_neg (by omega), if_neg (by omega), if_neg (by omega), if_pos (by omega)]
              exact x_iret (ab_dd tk_s_act 83 rfl) ⟨rI (by rw [e]), S, st, rfl, sEq.rf, hcx, Nat.le_refl _, by omega, by rw [e, if_neg (by decide)]; exact ht⟩
            · skip
              refine x_lload_n 1 3 (ab_dd tk_s_act 0 rfl) rfl rfl rfl ?_
              refine x_lconst 2 0 (ab_dd tk_s_act 1 rfl) rfl (by decide) ?_
              refine x_lcmp 3 (ab_dd tk_s_act 2 rfl) rfl ?_
              refine x_if_lt_f 6 (ab_dd tk_s_act 3 rfl) rfl 23 (by decide) (by first | (rw [lg_cmp_lt, Int64.lt_iff_toInt_lt]; omega) | (rw [lg_cmp_ge, Int64.le_iff_toInt_le]; omega) | (rw [lg_cmp_gt, Int64.lt_iff_toInt_lt]; omega)) ?_
              refine x_lload_n 7 3 (ab_dd tk_s_act 4 rfl) rfl rfl rfl ?_
              refine x_ldc2 10 (ab_dd tk_s_act 5 rfl) rfl C_s_240 ?_
              refine x_lcmp 11 (ab_dd tk_s_act 6 rfl) rfl ?_
              refine x_if_ge_t 23 (ab_dd tk_s_act 7 rfl) (by decide) (by first | (rw [lg_cmp_lt, Int64.lt_iff_toInt_lt]; omega) | (rw [lg_cmp_ge, Int64.le_iff_toInt_le]; omega) | (rw [lg_cmp_gt, Int64.lt_iff_toInt_lt]; omega)) ?_
              refine x_lload_n 24 3 (ab_dd tk_s_act 15 rfl) rfl rfl rfl ?_
              refine x_ldc2 27 (ab_dd tk_s_act 16 rfl) rfl C_s_246 ?_
              refine x_lcmp 28 (ab_dd tk_s_act 17 rfl) rfl ?_
              refine x_if_lt_f 31 (ab_dd tk_s_act 18 rfl) rfl 74 (by decide) (by first | (rw [lg_cmp_lt, Int64.lt_iff_toInt_lt]; omega) | (rw [lg_cmp_ge, Int64.le_iff_toInt_le]; omega) | (rw [lg_cmp_gt, Int64.lt_iff_toInt_lt]; omega)) ?_
              refine x_lload_n 32 3 (ab_dd tk_s_act 19 rfl) rfl rfl rfl ?_
              refine x_ldc2 35 (ab_dd tk_s_act 20 rfl) rfl C_s_248 ?_
              refine x_lcmp 36 (ab_dd tk_s_act 21 rfl) rfl ?_
              refine x_if_ge_t 74 (ab_dd tk_s_act 22 rfl) (by decide) (by first | (rw [lg_cmp_lt, Int64.lt_iff_toInt_lt]; omega) | (rw [lg_cmp_ge, Int64.le_iff_toInt_le]; omega) | (rw [lg_cmp_gt, Int64.lt_iff_toInt_lt]; omega)) ?_
              refine x_lload_n 75 3 (ab_dd tk_s_act 43 rfl) rfl rfl rfl ?_
              refine x_ldc2 78 (ab_dd tk_s_act 44 rfl) rfl C_s_248 ?_
              refine x_lcmp 79 (ab_dd tk_s_act 45 rfl) rfl ?_
              refine x_if_lt_f 82 (ab_dd tk_s_act 46 rfl) rfl 101 (by decide) (by first | (rw [lg_cmp_lt, Int64.lt_iff_toInt_lt]; omega) | (rw [lg_cmp_ge, Int64.le_iff_toInt_le]; omega) | (rw [lg_cmp_gt, Int64.lt_iff_toInt_lt]; omega)) ?_
              refine x_lload_n 83 3 (ab_dd tk_s_act 47 rfl) rfl rfl rfl ?_
              refine x_ldc2 86 (ab_dd tk_s_act 48 rfl) rfl C_s_253 ?_
              refine x_lcmp 87 (ab_dd tk_s_act 49 rfl) rfl ?_
              refine x_if_ge_t 101 (ab_dd tk_s_act 50 rfl) (by decide) (by first | (rw [lg_cmp_lt, Int64.lt_iff_toInt_lt]; omega) | (rw [lg_cmp_ge, Int64.le_iff_toInt_le]; omega) | (rw [lg_cmp_gt, Int64.lt_iff_toInt_lt]; omega)) ?_
              refine x_lload_n 102 3 (ab_dd tk_s_act 59 rfl) rfl rfl rfl ?_
              refine x_ldc2 105 (ab_dd tk_s_act 60 rfl) rfl C_s_255 ?_
              refine x_lcmp 106 (ab_dd tk_s_act 61 rfl) rfl ?_
              refine x_if_lt_f 109 (ab_dd tk_s_act 62 rfl) rfl 140 (by decide) (by first | (rw [lg_cmp_lt, Int64.lt_iff_toInt_lt]; omega) | (rw [lg_cmp_ge, Int64.le_iff_toInt_le]; omega) | (rw [lg_cmp_gt, Int64.lt_iff_toInt_lt]; omega)) ?_
              refine x_lload_n 110 3 (ab_dd tk_s_act 63 rfl) rfl rfl rfl ?_
              refine x_ldc2 113 (ab_dd tk_s_act 64 rfl) rfl C_s_257 ?_
              refine x_lcmp 114 (ab_dd tk_s_act 65 rfl) rfl ?_
              refine x_if_gt_f 117 (ab_dd tk_s_act 66 rfl) rfl 140 (by decide) (by first | (rw [lg_cmp_lt, Int64.lt_iff_toInt_lt]; omega) | (rw [lg_cmp_ge, Int64.le_iff_toInt_le]; omega) | (rw [lg_cmp_gt, Int64.lt_iff_toInt_lt]; omega)) ?_
              refine x_lload_n 118 3 (ab_dd tk_s_act 67 rfl) rfl rfl rfl ?_
              refine x_l2i 119 (ab_dd tk_s_act 68 rfl) rfl (x_topn u el ?_)
              refine x_bipush 121 100 (ab_dd tk_s_act 69 rfl) rfl (by decide) (x_topn 100 rfl ?_)
              refine x_isub 122 (ab_dd tk_s_act 70 rfl) rfl (x_topn (u - 100) (pk_sub (by omega)) ?_)
              refine x_istore 124 [some (.ref 50), some (.ref x), some (.ref t), some (.long (lN u)), none, some (.int (nI (u - 100)))] 5 (ab_dd tk_s_act 71 rfl) rfl (by decide) rfl ?_
              refine x_aload_n 125 0 (ab_dd tk_s_act 72 rfl) rfl rfl rfl ?_
              refine x_aload_n 126 2 (ab_dd tk_s_act 73 rfl) rfl rfl rfl ?_
              refine x_iload 128 5 (ab_dd tk_s_act 74 rfl) rfl rfl ?_
              refine x_bipush 130 10 (ab_dd tk_s_act 75 rfl) rfl (by decide) (x_topn 10 rfl ?_)
              refine x_idiv 131 (ab_dd tk_s_act 76 rfl) rfl (by decide) (x_topn ((u - 100) / 10) (pk_div (by omega) (by omega) (by omega)) ?_)
              refine x_iload 133 5 (ab_dd tk_s_act 77 rfl) rfl rfl ?_
              refine x_bipush 135 10 (ab_dd tk_s_act 78 rfl) rfl (by decide) (x_topn 10 rfl ?_)
              refine x_irem 136 (ab_dd tk_s_act 79 rfl) rfl (by decide) (x_topn ((u - 100) % 10) (pk_rem (by omega) (by omega) (by omega)) ?_)
              refine t_callV 139 M_s_actGive 1 3 [_, _, _] (ab_dd tk_s_act 80 rfl) rfl (by first | decide | omega) K_s_actGive V_s_actGive.1 V_s_actGive.2 L_s_259 rfl (Nat.le_of_ble_eq_true rfl) (by decide) (Nat.lt_of_lt_of_le (by decide) hx.1) (hx.2.1 0 (by decide)) rfl (c_s_actGive hx him hc hcaA ha.1 htt ht ((u - 100) / 10) ((u - 100) % 10) (by omega) (by omega)) (fun v1 w1 h1 => ?_)
              rcases h1 with ⟨g1, g2, g3, rfl, S1, rfl, hE1, ht1⟩ | ⟨g1, rfl, rfl⟩
              · skip
                have e : aDw a u = 0 := by unfold aDw; rw [if_neg (by omega), if_neg (by omega), if_neg (by omega), if_neg (by omega), if_neg (by omega), if_pos (by omega), if_pos (by omega)]
                have eo : aDo a u = mGiv a ((u - 100) / 10) ((u - 100) % 10) := by unfold aDo; rw [if_neg (by omega), if_neg (by omega), if_neg (by omega), show (u - 100) % 10 = u % 10 by omega]
                exact x_iret (ab_dd tk_s_act 81 rfl) ⟨rI (by rw [e]), _, st, rfl, hE1.mono (fun y hy => by rw [List.mem_singleton.mp hy]; simp), hcx.eq hE1 (by simp only [List.mem_cons, List.not_mem_nil, or_false, not_or]; omega) (fun y hy => by rw [List.mem_singleton.mp hy]; exact hnt) (by simp only [List.mem_cons, List.not_mem_nil, or_false, not_or]; omega) (by simp only [List.mem_cons, List.not_mem_nil, or_false, not_or]; omega) (by simp only [List.mem_cons, List.not_mem_nil, or_false, not_or]; omega), Nat.le_refl _, by omega, by rw [e, if_pos rfl, eo]; exact ht1⟩
              · skip
                have e : aDw a u = 1 := by unfold aDw; rw [if_neg (by omega), if_neg (by omega), if_neg (by omega), if_neg (by omega), if_neg (by omega), if_pos (by omega), if_neg (by omega)]
                exact x_iret (ab_dd tk_s_act 81 rfl) ⟨rI (by rw [e]), S, st, rfl, sEq.rf, hcx, Nat.le_refl _, by omega, by rw [e, if_neg (by decide)]; exact ht⟩
  · have hcl : v0.toInt < 0 ∨ 199 < v0.toInt := by
      have e0 : ((0 : Int64).toInt) = 0 := by decide
      have e199 : ((199 : Int64).toInt) = 199 := by decide
      rw [Int64.le_iff_toInt_le, Int64.le_iff_toInt_le] at hin
      omega
    have e0 : ((0 : Int64).toInt) = 0 := by decide
    have e4 : ((4 : Int64).toInt) = 4 := by decide
    have e10 : ((10 : Int64).toInt) = 10 := by decide
    have e20 : ((20 : Int64).toInt) = 20 := by decide
    have e30 : ((30 : Int64).toInt) = 30 := by decide
    have e100 : ((100 : Int64).toInt) = 100 := by decide
    have e199 : ((199 : Int64).toInt) = 199 := by decide
    rcases hcl with hlo | hhi
    · refine x_lload_n 1 3 (ab_dd tk_s_act 0 rfl) rfl rfl rfl ?_
      refine x_lconst 2 0 (ab_dd tk_s_act 1 rfl) rfl (by decide) ?_
      refine x_lcmp 3 (ab_dd tk_s_act 2 rfl) rfl ?_
      refine x_if_lt_t 23 (ab_dd tk_s_act 3 rfl) (by decide) (by first | (rw [lg_cmp_lt, Int64.lt_iff_toInt_lt]; omega) | (rw [lg_cmp_ge, Int64.le_iff_toInt_le]; omega) | (rw [lg_cmp_gt, Int64.lt_iff_toInt_lt]; omega)) ?_
      refine x_lload_n 24 3 (ab_dd tk_s_act 15 rfl) rfl rfl rfl ?_
      refine x_ldc2 27 (ab_dd tk_s_act 16 rfl) rfl C_s_246 ?_
      refine x_lcmp 28 (ab_dd tk_s_act 17 rfl) rfl ?_
      refine x_if_lt_t 74 (ab_dd tk_s_act 18 rfl) (by decide) (by first | (rw [lg_cmp_lt, Int64.lt_iff_toInt_lt]; omega) | (rw [lg_cmp_ge, Int64.le_iff_toInt_le]; omega) | (rw [lg_cmp_gt, Int64.lt_iff_toInt_lt]; omega)) ?_
      refine x_lload_n 75 3 (ab_dd tk_s_act 43 rfl) rfl rfl rfl ?_
      refine x_ldc2 78 (ab_dd tk_s_act 44 rfl) rfl C_s_248 ?_
      refine x_lcmp 79 (ab_dd tk_s_act 45 rfl) rfl ?_
      refine x_if_lt_t 101 (ab_dd tk_s_act 46 rfl) (by decide) (by first | (rw [lg_cmp_lt, Int64.lt_iff_toInt_lt]; omega) | (rw [lg_cmp_ge, Int64.le_iff_toInt_le]; omega) | (rw [lg_cmp_gt, Int64.lt_iff_toInt_lt]; omega)) ?_
      refine x_lload_n 102 3 (ab_dd tk_s_act 59 rfl) rfl rfl rfl ?_
      refine x_ldc2 105 (ab_dd tk_s_act 60 rfl) rfl C_s_255 ?_
      refine x_lcmp 106 (ab_dd tk_s_act 61 rfl) rfl ?_
      refine x_if_lt_t 140 (ab_dd tk_s_act 62 rfl) (by decide) (by first | (rw [lg_cmp_lt, Int64.lt_iff_toInt_lt]; omega) | (rw [lg_cmp_ge, Int64.le_iff_toInt_le]; omega) | (rw [lg_cmp_gt, Int64.lt_iff_toInt_lt]; omega)) ?_
      exact no hin
    · refine x_lload_n 1 3 (ab_dd tk_s_act 0 rfl) rfl rfl rfl ?_
      refine x_lconst 2 0 (ab_dd tk_s_act 1 rfl) rfl (by decide) ?_
      refine x_lcmp 3 (ab_dd tk_s_act 2 rfl) rfl ?_
      refine x_if_lt_f 6 (ab_dd tk_s_act 3 rfl) rfl 23 (by decide) (by first | (rw [lg_cmp_lt, Int64.lt_iff_toInt_lt]; omega) | (rw [lg_cmp_ge, Int64.le_iff_toInt_le]; omega) | (rw [lg_cmp_gt, Int64.lt_iff_toInt_lt]; omega)) ?_
      refine x_lload_n 7 3 (ab_dd tk_s_act 4 rfl) rfl rfl rfl ?_
      refine x_ldc2 10 (ab_dd tk_s_act 5 rfl) rfl C_s_240 ?_
      refine x_lcmp 11 (ab_dd tk_s_act 6 rfl) rfl ?_
      refine x_if_ge_t 23 (ab_dd tk_s_act 7 rfl) (by decide) (by first | (rw [lg_cmp_lt, Int64.lt_iff_toInt_lt]; omega) | (rw [lg_cmp_ge, Int64.le_iff_toInt_le]; omega) | (rw [lg_cmp_gt, Int64.lt_iff_toInt_lt]; omega)) ?_
      refine x_lload_n 24 3 (ab_dd tk_s_act 15 rfl) rfl rfl rfl ?_
      refine x_ldc2 27 (ab_dd tk_s_act 16 rfl) rfl C_s_246 ?_
      refine x_lcmp 28 (ab_dd tk_s_act 17 rfl) rfl ?_
      refine x_if_lt_f 31 (ab_dd tk_s_act 18 rfl) rfl 74 (by decide) (by first | (rw [lg_cmp_lt, Int64.lt_iff_toInt_lt]; omega) | (rw [lg_cmp_ge, Int64.le_iff_toInt_le]; omega) | (rw [lg_cmp_gt, Int64.lt_iff_toInt_lt]; omega)) ?_
      refine x_lload_n 32 3 (ab_dd tk_s_act 19 rfl) rfl rfl rfl ?_
      refine x_ldc2 35 (ab_dd tk_s_act 20 rfl) rfl C_s_248 ?_
      refine x_lcmp 36 (ab_dd tk_s_act 21 rfl) rfl ?_
      refine x_if_ge_t 74 (ab_dd tk_s_act 22 rfl) (by decide) (by first | (rw [lg_cmp_lt, Int64.lt_iff_toInt_lt]; omega) | (rw [lg_cmp_ge, Int64.le_iff_toInt_le]; omega) | (rw [lg_cmp_gt, Int64.lt_iff_toInt_lt]; omega)) ?_
      refine x_lload_n 75 3 (ab_dd tk_s_act 43 rfl) rfl rfl rfl ?_
      refine x_ldc2 78 (ab_dd tk_s_act 44 rfl) rfl C_s_248 ?_
      refine x_lcmp 79 (ab_dd tk_s_act 45 rfl) rfl ?_
      refine x_if_lt_f 82 (ab_dd tk_s_act 46 rfl) rfl 101 (by decide) (by first | (rw [lg_cmp_lt, Int64.lt_iff_toInt_lt]; omega) | (rw [lg_cmp_ge, Int64.le_iff_toInt_le]; omega) | (rw [lg_cmp_gt, Int64.lt_iff_toInt_lt]; omega)) ?_
      refine x_lload_n 83 3 (ab_dd tk_s_act 47 rfl) rfl rfl rfl ?_
      refine x_ldc2 86 (ab_dd tk_s_act 48 rfl) rfl C_s_253 ?_
      refine x_lcmp 87 (ab_dd tk_s_act 49 rfl) rfl ?_
      refine x_if_ge_t 101 (ab_dd tk_s_act 50 rfl) (by decide) (by first | (rw [lg_cmp_lt, Int64.lt_iff_toInt_lt]; omega) | (rw [lg_cmp_ge, Int64.le_iff_toInt_le]; omega) | (rw [lg_cmp_gt, Int64.lt_iff_toInt_lt]; omega)) ?_
      refine x_lload_n 102 3 (ab_dd tk_s_act 59 rfl) rfl rfl rfl ?_
      refine x_ldc2 105 (ab_dd tk_s_act 60 rfl) rfl C_s_255 ?_
      refine x_lcmp 106 (ab_dd tk_s_act 61 rfl) rfl ?_
      refine x_if_lt_f 109 (ab_dd tk_s_act 62 rfl) rfl 140 (by decide) (by first | (rw [lg_cmp_lt, Int64.lt_iff_toInt_lt]; omega) | (rw [lg_cmp_ge, Int64.le_iff_toInt_le]; omega) | (rw [lg_cmp_gt, Int64.lt_iff_toInt_lt]; omega)) ?_
      refine x_lload_n 110 3 (ab_dd tk_s_act 63 rfl) rfl rfl rfl ?_
      refine x_ldc2 113 (ab_dd tk_s_act 64 rfl) rfl C_s_257 ?_
      refine x_lcmp 114 (ab_dd tk_s_act 65 rfl) rfl ?_
      refine x_if_gt_t 140 (ab_dd tk_s_act 66 rfl) (by decide) (by first | (rw [lg_cmp_lt, Int64.lt_iff_toInt_lt]; omega) | (rw [lg_cmp_ge, Int64.le_iff_toInt_le]; omega) | (rw [lg_cmp_gt, Int64.lt_iff_toInt_lt]; omega)) ?_
      exact no hin
