/-! ===== train ===== -/
def tRow (a F : Nat → Int32) : Nat → Int32 := fun j => if j < 1084 then F j else a j
theorem tRow_o {a F : Nat → Int32} : ∀ j, j < 1084 → tRow a F j = F j := fun j hj => if_pos hj
/-- what every reading leaves: the tape is empty, the reader knows the fault -/
def tLft (S S' : ab_S) (n : Nat) (x y : Int32) : Prop := sI S' 50 1 = nI 0 ∧ (∀ k, k ≠ 1 → sI S' 50 k = sI S 50 k) ∧ sI S' 72 6 = x ∧ sI S' 72 7 = y ∧ (∃ N, N ≤ 900 ∧ sI S' 72 12 = nI N) ∧ gA S S' (4 + n) (29 + n)
def pTrn (S : ab_S) (im : Nat → Prop) (a : Nat → Int32) (c : Nat) (b : Nat → Int32) (bh nb st st2 u n s : Nat) (f : Nat → sT) (q : Nat) (r : lR) (v : Option Value) (w' : ab_H) : Prop := match r with
  | .inl e => v = some (.int (-30 - nI e.1)) ∧ ∃ S', w' = sw S' ∧ gF (fun y => y = 50 ∨ y = 72 ∨ y = 77) S S' ∧ tLft S S' q (nI e.1) (nI e.2) ∧ sP S' 50 = sP S 50 ∧ kBd S' im a c b bh nb st st2 u ∧ sdE S' 55 (rowT a)
  | .inr y => v = some (.int (y.2 0)) ∧ ∃ S' im' c' bh' nb', w' = sw S' ∧ gF (fun y => y = 50 ∨ y = 55 ∨ y = 57 ∨ y = 72 ∨ y = 77 ∨ y = 84 ∨ y = 94) S S' ∧ tLft S S' q (nI 0) (-1) ∧ (∀ k, k ≠ 2 → sP S' 50 k = sP S 50 k) ∧ (∀ y, im y → im' y) ∧ (∀ y, y < sn S → im' y → im y) ∧ aGood (tRow a y.2) ∧ kBd S' im' (tRow a y.2) c' (tRow a y.2) bh' nb' (st + 1) (st2 + 1) (u + 1) ∧ paI S' n 0 f ∧ sdE S' 55 (rowT (tRow a y.2)) ∧ y.2 42 = 0
theorem paI.gf {S S' : ab_S} {l : Nat → Prop} {n s : Nat} {f : Nat → sT} (h : paI S n s f) (g : gF l S S') (hn : 120 ≤ sn S) (hl : ∀ y, 57 ≤ y → y ≤ 68 → ¬ l y) : paI S' n s f := by
  obtain ⟨h1, h2, h3, h4, h5⟩ := h
  have e := (g.2.2.2 57 (by omega) (hl 57 (by omega) (by omega))).1
  exact ⟨by rw [e]; exact h1, h2, by rw [e]; exact h3, h4, fun i hi => (h5 i hi).gf g (by omega) (hl _ (by omega) (by omega))⟩
def tb_s_train : List (Nat × Instr × Nat) := [(0, .iload_n 1, 1), (1, .ifCond .lt 11, 3), (4, .iload_n 1, 1), (5, .aload_n 0, 1), (6, .getfield 13, 3), (9, .if_icmp .le 6, 3), (12, .bipush (-3), 2), (14, .ireturn, 1), (15, .aload_n 0, 1), (16, .iconst 0, 1), (17, .putfield 13, 3), (20, .aload_n 0, 1), (21, .getfield 61, 3), (24, .aload_n 0, 1), (25, .getfield 9, 3), (28, .iload_n 1, 1), (29, .invokevirtual 108, 3), (32, .astore_n 2, 1), (33, .aload_n 0, 1), (34, .getfield 61, 3), (37, .getfield 112, 3), (40, .ifCond .eq 14, 3), (43, .bipush (-30), 2), (45, .aload_n 0, 1), (46, .getfield 61, 3), (49, .getfield 112, 3), (52, .isub, 1), (53, .ireturn, 1), (54, .aload_n 0, 1), (55, .getfield 27, 3), (58, .aload_n 2, 1), (59, .invokevirtual 115, 3), (62, .aload_n 0, 1), (63, .aload_n 2, 1), (64, .invokevirtual 118, 3), (67, .aload_n 2, 1), (68, .getfield 121, 3), (71, .ireturn, 1)]
theorem tk_s_train : ∀ q ∈ tb_s_train, decode M_s_train.2.1 q.1 = .ok q.2 := by decide +kernel
theorem p_s_train {G : ab_G} {S : ab_S} {im : Nat → Prop} {a b : Nat → Int32} {c bh nb st st2 u : Nat} (h : kBd S im a c b bh nb st st2 u) (ht : sdE S 55 (rowT a)) (hu : u + 64 < 2 ^ 20) {n s : Nat} {f : Nat → sT} (hp : paI S n s f) {t : Nat} (ht9 : t ≤ 900) (h51 : sI S 50 1 = nI t) {tp : Nat → Nat} (hT : bT S tp) (h12 : ∃ N, N ≤ 900 ∧ sI S 72 12 = nI N) {F : Nat → Int32} (hF0 : ∀ j, j < 1084 → F j = 0) (e : Int32) : ab_C G 104 M_s_train [.ref 50, .int e] (sw S) (fun v w' => (¬ (0 ≤ e ∧ cN e ≤ t) ∧ pAs S im a c bh nb u 0 0 (some (.int (-3))) v w') ∨ ((0 ≤ e ∧ cN e ≤ t) ∧ pTrn S im a c b bh nb st st2 u n s f (cN e) (trn tp (cN e) F) v w')) := by
  refine x_enter [some (.ref 50), some (.int e), none] (by decide) (Nat.le_of_ble_eq_true rfl) rfl (fun v w' h => by rcases h with ⟨-, rfl, -⟩ | ⟨-, h⟩; (exact rfl); (unfold pTrn at h; split at h; (obtain ⟨rfl, -⟩ := h; rfl); (obtain ⟨rfl, -⟩ := h; rfl))) ?_
  have hbh := h.bh.1
  have h0 := h
  obtain ⟨hx, hse, kc, ⟨him, hil, h145⟩, ha, hc, ⟨hb1, hb2, hcl, hnb⟩, hcl9, -, hid, -, hu1, hu2⟩ := h0
  have h40 : sI S 55 3 = a 40 := ht.2.2.2.1.trans ha.1.m40.1.symm
  have hca := hcl.1.sta hb2.sy
  obtain ⟨hk, c1, -⟩ := hca
  have hR := ha.1.R.2
  have h50 : 50 ≤ sn S := by omega
  obtain ⟨hq0, hw0, hE0⟩ := rowT_in ha.1
  have hw6 : aW a < 625 := by have := p5_6 hR; omega
  have hq24 := Nat.lt_of_lt_of_le hq0 (kFc_le (aR a))
  refine x_iload_n 1 1 (ab_dd tk_s_train 0 rfl) rfl rfl rfl ?_
  refine x_if_lt 4 12 (ab_dd tk_s_train 1 rfl) rfl (by decide) (fun h1 => ?_) (fun h1 => ?_)
  · refine x_bipush 14 (-3) (ab_dd tk_s_train 6 rfl) rfl (by decide) ?_
    exact x_iret (ab_dd tk_s_train 7 rfl) (Or.inl ⟨fun z => absurd h1 (Int32.not_lt.mpr z.1), ⟨rfl, S, b, st, st2, rfl, fAs.rf, gA.rf, h.up (by omega), ht⟩⟩)
  · have he0 := Int32.not_lt.mp h1
    obtain ⟨q, ekq, enq⟩ : ∃ q, e = nI q ∧ cN e = q := ⟨cN e, nI_cN he0, rfl⟩
    have hq31 : q < 2 ^ 31 := by rw [← enq]; exact cN_31 e
    rw [show some (Value.int e) = some (Value.int (nI q)) by rw [ekq], enq]
    refine x_iload_n 5 1 (ab_dd tk_s_train 2 rfl) rfl rfl rfl ?_
    refine x_aload_n 6 0 (ab_dd tk_s_train 3 rfl) rfl rfl rfl ?_
    refine t_getI 9 (ab_dd tk_s_train 4 rfl) rfl F_s_13 (by decide) (Nat.lt_of_lt_of_le (by decide) hx.1) (hx.2.1 0 (by decide)) rfl (x_topn t h51 ?_)
    refine xn_icmp_le 12 15 (ab_dd tk_s_train 5 rfl) rfl (by decide) (by omega) (by omega) (fun h9 => ?_) (fun h9 => ?_)
    · refine x_aload_n 16 0 (ab_dd tk_s_train 8 rfl) rfl rfl rfl ?_
      refine x_iconst 17 0 (ab_dd tk_s_train 9 rfl) rfl (by decide) (x_topn 0 rfl ?_)
      refine t_putI 20 (ab_dd tk_s_train 10 rfl) rfl F_s_13 (by decide) (Nat.lt_of_lt_of_le (by decide) hx.1) (hx.2.1 0 (by decide)) rfl rfl rfl ?_
      have hE1 : sEq [50] S (pI S 50 1 (nI 0)) := sEq.rf.pI (List.mem_singleton.mpr rfl)
      have hB1 := h.se5 hE1 (fun y hy => by simp only [List.mem_cons, List.not_mem_nil, or_false] at hy; omega)
      have hx1 : xSh (pI S 50 1 (nI 0)) := hB1.1
      have hT1 : bT (pI S 50 1 (nI 0)) tp := fun i hi => ⟨(gI_a (by decide)).trans (hT i hi).1, (hT i hi).2⟩
      have h121 : ∃ N, N ≤ 900 ∧ sI (pI S 50 1 (nI 0)) 72 12 = nI N := by obtain ⟨N, z1, z2⟩ := h12; exact ⟨N, z1, (gI_a (by decide)).trans z2⟩
      refine x_aload_n 21 0 (ab_dd tk_s_train 11 rfl) rfl rfl rfl ?_
      refine t_getP 24 72 (ab_dd tk_s_train 12 rfl) rfl F_s_61 (by decide) (Nat.lt_of_lt_of_le (by decide) hx1.1) (hx1.2.1 0 (by decide)) rfl (hx1.2.2 (50, 10, 72) (by decide)) ?_
      refine x_aload_n 25 0 (ab_dd tk_s_train 13 rfl) rfl rfl rfl ?_
      refine t_getP 28 51 (ab_dd tk_s_train 14 rfl) rfl F_s_9 (by decide) (Nat.lt_of_lt_of_le (by decide) hx1.1) (hx1.2.1 0 (by decide)) rfl (hx1.2.2 (50, 0, 51) (by decide)) ?_
      refine x_iload_n 29 1 (ab_dd tk_s_train 15 rfl) rfl rfl rfl ?_
      refine t_callV 32 M_re_readAll 102 2 [_, _] (ab_dd tk_s_train 16 rfl) rfl (by first | decide | omega) K_re_readAll V_re_readAll.1 V_re_readAll.2 L_s_108 rfl (Nat.le_of_ble_eq_true rfl) (by decide) (Nat.lt_of_lt_of_le (by decide) hx1.1) (hx1.2.1 22 (by decide)) rfl (LA_readAll hx1 kc hT1 h145 (n := q) (by omega) h121 hF0) (fun v1 w1 h1 => ?_)
      obtain ⟨rfl, S2, m0, z0, rfl, hra, hm0, hz0, hres⟩ := h1
      have hg2 := hra.gF
      have hn2 : sn S2 = sn S + m0 := hra.2.1
      have hz2 : sz S2 = sz S + z0 := hra.2.2.1
      have e502 : sI S2 50 = sI (pI S 50 1 (nI 0)) 50 := (hg2.2.2.2 50 (by show 50 < sn S; omega) (by decide)).1
      have p502 : sP S2 50 = sP S 50 := (hg2.2.2.2 50 (by show 50 < sn S; omega) (by decide)).2.2
      have p842 : sP S2 84 = sP S 84 := (hg2.2.2.2 84 (by show 84 < sn S; omega) (by decide)).2.2
      have ls1 : sI S2 50 1 = nI 0 := by rw [e502]; exact gI_s
      have ls2 : ∀ k, k ≠ 1 → sI S2 50 k = sI S 50 k := fun k z => by rw [e502]; exact gI_k z
      have hgA2 : gA S S2 (4 + q) (29 + q) := by
        have z := (gA.sE hE1).tr (gA.fr (m := 4 + q) (z := 29 + q) hB1 hg2 p502 p842 (by rw [hra.2.1]; omega) (by rw [hra.2.2.1]; omega))
        rw [Nat.zero_add, Nat.zero_add] at z
        exact z
      have hG2 : gF (fun y => y = 50 ∨ y = 72 ∨ y = 77) S S2 := gF.tr ((gF.sE hE1).mono (fun y _ z => Or.inl (List.mem_singleton.mp z))) (hg2.mono (fun y _ z => Or.inr z))
      have hn2s : sdE S2 55 (rowT a) := ht.gf hG2 (by omega) (by decide)
      rcases hX : trn tp q F with er | y
      all_goals rw [hX] at hres
      · have hqD : qD S2 q er := hres
        have hx2 : xSh S2 := hqD.1
        obtain ⟨-, -, -, -, -, -, -, d6, d7, d0, d12⟩ := hqD
        have hB2 := hB1.told (im' := im) hg2 hx2 him (fun _ z => z) (fun _ _ z => z) (fun y z => Nat.lt_of_lt_of_le (hil y z) (by omega))
        refine x_astore_n 33 [some (.ref 50), some (.int (nI q)), some (.ref (sn S))] 2 (ab_dd tk_s_train 17 rfl) rfl rfl (by decide) rfl ?_
        refine x_aload_n 34 0 (ab_dd tk_s_train 18 rfl) rfl rfl rfl ?_
        refine t_getP 37 72 (ab_dd tk_s_train 19 rfl) rfl F_s_61 (by decide) (Nat.lt_of_lt_of_le (by decide) hx2.1) (hx2.2.1 0 (by decide)) rfl (hx2.2.2 (50, 10, 72) (by decide)) ?_
        refine t_getI 40 (ab_dd tk_s_train 20 rfl) rfl F_s_112 (by decide) (Nat.lt_of_lt_of_le (by decide) hx2.1) (hx2.2.1 22 (by decide)) rfl (x_topn er.1 d6 ?_)
        refine x_if_eq_f 43 (ab_dd tk_s_train 21 rfl) rfl 54 (by decide) (fun z => absurd ((nI_eq (a := er.1) (b := 0) (by omega) (by omega)).mp z) (show ¬ (er.1 = 0) by omega)) ?_
        refine x_bipush 45 (-30) (ab_dd tk_s_train 22 rfl) rfl (by decide) ?_
        refine x_aload_n 46 0 (ab_dd tk_s_train 23 rfl) rfl rfl rfl ?_
        refine t_getP 49 72 (ab_dd tk_s_train 24 rfl) rfl F_s_61 (by decide) (Nat.lt_of_lt_of_le (by decide) hx2.1) (hx2.2.1 0 (by decide)) rfl (hx2.2.2 (50, 10, 72) (by decide)) ?_
        refine t_getI 52 (ab_dd tk_s_train 25 rfl) rfl F_s_112 (by decide) (Nat.lt_of_lt_of_le (by decide) hx2.1) (hx2.2.1 22 (by decide)) rfl (x_topn er.1 d6 ?_)
        refine x_isub 53 (ab_dd tk_s_train 26 rfl) rfl ?_
        exact x_iret (ab_dd tk_s_train 27 rfl) (Or.inr ⟨(by first | exact ⟨he0, h9⟩ | (rw [← ekq]; exact ⟨he0, h9⟩)), rfl, S2, rfl, hG2, ⟨ls1, ls2, d6, d7, d12, hgA2⟩, p502, hB2, hn2s⟩)
      · obtain ⟨r1, N1, hL, hW⟩ : ∃ r1 N1, tL S2 tp q y.1 (sn S) y.2 r1 r1 ∧ tW S2 (sn S) y.2 N1 := hres
        have hLc := hL
        obtain ⟨hlv, -, hcK, hcV, -⟩ := hLc
        have hx2 : xSh S2 := hlv.1
        obtain ⟨-, -, -, -, -, -, -, -, ⟨d6, d7⟩, d12⟩ := hlv
        obtain ⟨v1, v2, v3, v4, v5, v6, v7, v8, v9, v10⟩ := hcV
        obtain ⟨hJ, hyq⟩ := rwJ_trn (by omega) hF0 hX
        obtain ⟨hZ, h41, h42⟩ := trn_z (by omega) hF0 hX
        have hgood : aGood (tRow a y.2) := row_ok (p := y.1) (by omega) (hJ.cg (Nat.le_refl _) (by omega) tRow_o) (fun i hi => by rw [tRow_o _ (by omega)]; exact v9 i hi) (fun i hi => by rw [tRow_o _ (by omega)]; exact v10 i hi)
        obtain ⟨rj, -, j1, jr, -, -, j36, -⟩ := hJ
        have hrow := told_row hgood.1 tRow_o j1 jr j36 hZ h41
        obtain ⟨im2, him2⟩ : ∃ im2 : Nat → Prop, im2 = fun y => im y ∨ (sn S ≤ y ∧ y < sn S2) := ⟨_, rfl⟩
        have hO2 : imO im2 := fun y z => by rw [him2] at z; rcases z with z | z; exact him y z; omega
        have hi1 : ∀ y, im y → im2 y := fun y z => by rw [him2]; exact Or.inl z
        have hi2 : ∀ y, y < sn S → im2 y → im y := fun y y1 z => by rw [him2] at z; rcases z with z | z; exact z; omega
        have hi3 : ∀ y, im2 y → y < sn S2 := fun y z => by rw [him2] at z; rcases z with z | z; (have := hil y z; omega); exact z.2
        have hB2 := hB1.told (im' := im2) hg2 hx2 hO2 hi1 hi2 hi3
        have hca2 : caI S2 im2 (sn S) (tRow a y.2) := caI.told hgood.1 tRow_o hL hW (fun b b1 b2 => by rw [him2]; exact Or.inr ⟨b1, b2⟩)
        have hp2 : paI S2 n s f := (hp.eq hE1 (fun y y1 y2 => (by simp only [List.mem_cons, List.not_mem_nil, or_false, not_or]; omega))).gf hg2 (by show 120 ≤ sn S; omega) (fun y y1 y2 => by omega)
        have em : y.2 40 = nI (cN (y.2 40)) := by have z := hgood.1.m40.1; rw [tRow_o 40 (by decide)] at z; exact z
        refine x_astore_n 33 [some (.ref 50), some (.int (nI q)), some (.ref (sn S))] 2 (ab_dd tk_s_train 17 rfl) rfl rfl (by decide) rfl ?_
        refine x_aload_n 34 0 (ab_dd tk_s_train 18 rfl) rfl rfl rfl ?_
        refine t_getP 37 72 (ab_dd tk_s_train 19 rfl) rfl F_s_61 (by decide) (Nat.lt_of_lt_of_le (by decide) hx2.1) (hx2.2.1 0 (by decide)) rfl (hx2.2.2 (50, 10, 72) (by decide)) ?_
        refine t_getI 40 (ab_dd tk_s_train 20 rfl) rfl F_s_112 (by decide) (Nat.lt_of_lt_of_le (by decide) hx2.1) (hx2.2.1 22 (by decide)) rfl (x_topn 0 d6 ?_)
        refine x_if_eq_t 54 (ab_dd tk_s_train 21 rfl) (by decide) ((nI_eq (a := 0) (b := 0) (by omega) (by omega)).mpr (show 0 = 0 by rfl)) ?_
        refine x_aload_n 55 0 (ab_dd tk_s_train 28 rfl) rfl rfl rfl ?_
        refine t_getP 58 55 (ab_dd tk_s_train 29 rfl) rfl F_s_27 (by decide) (Nat.lt_of_lt_of_le (by decide) hx2.1) (hx2.2.1 0 (by decide)) rfl (hx2.2.2 (50, 3, 55) (by decide)) ?_
        refine x_aload_n 59 2 (ab_dd tk_s_train 30 rfl) rfl rfl rfl ?_
        refine t_callV 62 M_sd_begin 0 1 [_] (ab_dd tk_s_train 31 rfl) rfl (by first | decide | omega) K_sd_begin V_sd_begin.1 V_sd_begin.2 L_s_115 rfl (Nat.le_of_ble_eq_true rfl) (by decide) (Nat.lt_of_lt_of_le (by decide) hx2.1) (hx2.2.1 5 (by decide)) rfl (c_sd_begin (show sdK S2 55 from x_55 hx2 (by decide)) (show 50 ≤ sn S by omega) (by have := hcK.2.1; omega) hcK.2.2.1 (by omega) (seaC y.2) (wC y.2) (cN (y.2 40)) v3 v4 (v2.trans em)) (fun v1 w1 h1 => ?_)
        obtain ⟨rfl, S3, rfl, hE3, hn3⟩ := h1
        rw [← hrow] at hn3
        have hB3 := hB2.se hE3 (fun y hy => by simp only [List.mem_cons, List.not_mem_nil, or_false] at hy; omega)
        have hx3 : xSh S3 := hB3.1
        have hp3 : paI S3 n s f := hp2.eq hE3 (fun y y1 y2 => (by simp only [List.mem_cons, List.not_mem_nil, or_false, not_or]; omega))
        have hca3 : caI S3 im2 (sn S) (tRow a y.2) := hca2.im ((gF.sE hE3).im (fun z y1 y2 => by have := hO2 z y1; have := List.mem_singleton.mp y2; omega)) (fun _ z => z)
        have e3c := hE3.2.2.1 (sn S) (fun z => by have := List.mem_singleton.mp z; omega)
        have es : seaC (tRow a y.2) = seaC y.2 := c4_cg (fun i hi => by rw [tRow_o _ (by omega)])
        refine x_aload_n 63 0 (ab_dd tk_s_train 32 rfl) rfl rfl rfl ?_
        refine x_aload_n 64 2 (ab_dd tk_s_train 33 rfl) rfl rfl rfl ?_
        refine t_callV 67 M_s_board 1 1 [_] (ab_dd tk_s_train 34 rfl) rfl (by first | decide | omega) K_s_board V_s_board.1 V_s_board.2 L_s_118 rfl (Nat.le_of_ble_eq_true rfl) (by decide) (Nat.lt_of_lt_of_le (by decide) hx3.1) (hx3.2.1 0 (by decide)) rfl (b_s_board hB3 (by omega) hp3 hgood.1 hca3 (by rw [e3c, es]; exact v3) (by rw [e3c, v2, tRow_o 40 (by decide)]) hgood sta.rf) (fun v1 w1 h1 => ?_)
        obtain ⟨rfl, S4, bh4, nb4, rfl, hG4, hi4, hq4, hB4, hp4, hgr⟩ := h1
        have hx4 : xSh S4 := hB4.1
        obtain ⟨hk4, -, c41, -⟩ := hB4.2.2.2.2.2.2.1.2.2.1.1
        rw [tRow_o 0 (by decide)] at c41
        have e3s : sn S3 = sn S2 := hE3.2.2.2.2.2.1
        have l3 : (50 : Nat) < sn S3 := Nat.lt_of_lt_of_le (by decide) hx3.1
        have e72 : sI S4 72 = sI S2 72 := (hG4.2.2.2 72 (by omega) (by decide)).1.trans (hE3.2.2.1 72 (by simp only [List.mem_cons, List.not_mem_nil, or_false, not_or]; omega))
        have e50b : sI S4 50 = sI S2 50 := hi4.trans (hE3.2.2.1 50 (by simp only [List.mem_cons, List.not_mem_nil, or_false, not_or]; omega))
        have hgA4 : gA S S4 (4 + q) (29 + q) := (hgA2.tr (gA.sE hE3)).tr (gA.bd hB3 hB4 hG4 (hq4 15 (by decide)) (hq4 16 (by decide)) (by rcases hgr with z | z; exact Or.inl ⟨z.2.1, z.2.2⟩; exact Or.inr ⟨by rw [z.2.2.1]; exact z.1, z.2.2.2.1, by rw [z.2.2.1]; exact z.2.2.2.2⟩))
        have hGG : gF (fun y => y = 50 ∨ y = 55 ∨ y = 57 ∨ y = 72 ∨ y = 77 ∨ y = 84 ∨ y = 94) S S4 := gF.tr (gF.tr (hG2.mono (fun y _ z => by omega)) ((gF.sE hE3).mono (fun y _ z => Or.inr (Or.inl (List.mem_singleton.mp z))))) (hG4.mono (fun y _ z => by omega))
        have hn4 : sdE S4 55 (rowT (tRow a y.2)) := hn3.gf hG4 (by omega) (by decide)
        refine x_aload_n 68 2 (ab_dd tk_s_train 35 rfl) rfl rfl rfl ?_
        refine t_getI 71 (ab_dd tk_s_train 36 rfl) rfl F_s_121 hk4.1 (Nat.lt_of_le_of_lt (Nat.le_add_right _ 2) hk4.2.1) hk4.2.2.1 rfl (x_topx (y.2 0) c41 ?_)
        exact x_iret (ab_dd tk_s_train 37 rfl) (Or.inr ⟨(by first | exact ⟨he0, h9⟩ | (rw [← ekq]; exact ⟨he0, h9⟩)), rfl, S4, im2, sn S, bh4, nb4, rfl, hGG, ⟨by rw [e50b]; exact ls1, fun k z => by rw [e50b]; exact ls2 k z, by rw [e72]; exact d6, by rw [e72]; exact d7, by rw [e72]; exact d12, hgA4⟩, fun k z => by rw [hq4 k z, hE3.2.2.2.2.1, p502], hi1, hi2, hgood, hB4, hp4, hn4, h42⟩)
    · refine x_bipush 14 (-3) (ab_dd tk_s_train 6 rfl) rfl (by decide) ?_
      exact x_iret (ab_dd tk_s_train 7 rfl) (Or.inl ⟨fun z => absurd h9 (Nat.not_lt.mpr z.2), ⟨rfl, S, b, st, st2, rfl, fAs.rf, gA.rf, h.up (by omega), ht⟩⟩)
