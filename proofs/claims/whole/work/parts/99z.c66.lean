/-! ===== rider, count ===== -/
theorem row_wa {a : Nat → Int32} (h : aOk a) {r : Nat} (hr : r < aR a) : a (32 + r) = nI (mWa (aW a) r) := by
  have hR := h.R.2
  obtain ⟨hq, hw, hE⟩ := rowT_in h
  have hw6 : aW a < 625 := by have := p5_6 hR; omega
  have e : mWa (aE a) r = _ := (mEn_dig h.1 hR).2.2 r (by omega)
  rw [if_pos hr, hE, cSt_wa hw6] at e
  rw [e]
  exact (h.1.2.1 r (by omega)).2.1.1
theorem row_se {a : Nat → Int32} (h : aOk a) {r : Nat} (hr : r < aR a) : a (36 + r) = nI (qSe (aQ a) r) := by
  have hR := h.R.2
  obtain ⟨hq, hw, hE⟩ := rowT_in h
  have hw6 : aW a < 625 := by have := p5_6 hR; omega
  have e : mSe (aE a) r = _ := (mEn_dig h.1 hR).2.1 r (by omega)
  rw [if_pos hr, hE, cSt_se hR hq hw6 (by omega), if_pos hr] at e
  rw [e]
  exact (h.1.2.1 r (by omega)).1.1
theorem lt14 {x : Int32} (h : x < 14) : x ≤ 13 := by
  rw [Int32.lt_iff_toInt_lt] at h
  rw [Int32.le_iff_toInt_le]
  have e : (14 : Int32).toInt = 14 := by decide
  have e2 : (13 : Int32).toInt = 13 := by decide
  omega
theorem le13 {x : Int32} (h : x ≤ 13) : x < 14 := by
  rw [Int32.le_iff_toInt_le] at h
  rw [Int32.lt_iff_toInt_lt]
  have e : (14 : Int32).toInt = 14 := by decide
  have e2 : (13 : Int32).toInt = 13 := by decide
  omega
/-- what count answers: s kept stands, t bytes on the tape -/
def cCt (a : Nat → Int32) (s t : Nat) (w : Int32) : Int32 := if w = 0 then a 1 else if w = 1 then a 40 else if w = 2 then nI (mSu (aE a) (aR a)) else if w = 3 then (if aR a = 0 then -1 else nI (mLe (aE a) (aR a))) else if w = 4 then mEl a (aR a) else if w = 5 then a 41 else if w = 6 then nI s else if w = 7 then nI t else if w = 8 then a 0 else -1
def tb_s_rider : List (Nat × Instr × Nat) := [(0, .aload_n 0, 1), (1, .iload_n 1, 1), (2, .i2l, 1), (3, .invokevirtual 130, 3), (6, .ifCond .ne 6, 3), (9, .bipush (-2), 2), (11, .ireturn, 1), (12, .iload_n 2, 1), (13, .tableswitch 81 0 3 #[31, 43, 53, 65], 31), (44, .aload_n 0, 1), (45, .getfield 27, 3), (48, .getfield 134, 3), (51, .iload_n 1, 1), (52, .invokestatic 137, 3), (55, .ireturn, 1), (56, .aload_n 0, 1), (57, .getfield 20, 3), (60, .getfield 141, 3), (63, .iload_n 1, 1), (64, .iaload, 1), (65, .ireturn, 1), (66, .aload_n 0, 1), (67, .getfield 27, 3), (70, .getfield 145, 3), (73, .iload_n 1, 1), (74, .invokestatic 148, 3), (77, .ireturn, 1), (78, .aload_n 0, 1), (79, .getfield 68, 3), (82, .aload_n 0, 1), (83, .getfield 27, 3), (86, .getfield 151, 3), (89, .iload_n 1, 1), (90, .invokevirtual 154, 3), (93, .ireturn, 1), (94, .iload_n 2, 1), (95, .bipush 10, 2), (97, .if_icmp .lt 24, 3), (100, .iload_n 2, 1), (101, .bipush 14, 2), (103, .if_icmp .ge 18, 3), (106, .aload_n 0, 1), (107, .getfield 20, 3), (110, .iload_n 1, 1), (111, .iload_n 2, 1), (112, .bipush 10, 2), (114, .isub, 1), (115, .invokevirtual 157, 3), (118, .goto 5, 3), (121, .bipush (-2), 2), (123, .ireturn, 1)]
theorem tk_s_rider : ∀ q ∈ tb_s_rider, decode M_s_rider.2.1 q.1 = .ok q.2 := by decide +kernel
theorem p_s_rider {G : ab_G} {S : ab_S} {im : Nat → Prop} {a b : Nat → Int32} {c bh nb st st2 u : Nat} (h : kBd S im a c b bh nb st st2 u) (ht : sdE S 55 (rowT a)) (hu : u + 64 < 2 ^ 20) (p x : Int32) : ab_C G 7 M_s_rider [.ref 50, .int p, .int x] (sw S) (fun v w' => pAs S im a c bh nb u 0 0 (some (.int (mRd a (aR a) p x))) v w') := by
  refine x_enter [some (.ref 50), some (.int p), some (.int x)] (by decide) (Nat.le_of_ble_eq_true rfl) rfl (fun v w' h => by obtain ⟨rfl, -⟩ := h; rfl) ?_
  have hbh := h.bh.1
  have h0 := h
  obtain ⟨hx, hse, kc, ⟨him, hil, h145⟩, ha, hc, ⟨hb1, hb2, hcl, hnb⟩, hcl9, -, hid, -, hu1, hu2⟩ := h0
  have h40 : sI S 55 3 = a 40 := ht.2.2.2.1.trans ha.1.m40.1.symm
  have hca := hcl.1.sta hb2.sy
  obtain ⟨hk, c1, -⟩ := hca
  have hR := ha.1.R.2
  have h50 : 50 ≤ sn S := by omega
  obtain ⟨hq0, hw0, hE0⟩ := rowT_in ha.1
  have hw6 : aW a < 625 := by have := p5_6 hR; omega
  have hq24 := Nat.lt_of_lt_of_le hq0 (kFc_le (aR a))
  have hsl := seaC_lt ha.1
  obtain ⟨-, -, cc2, cc3, -⟩ := (hcl.1.sta hb2.sy : caI S im c a).2
  refine x_aload_n 1 0 (ab_dd tk_s_rider 0 rfl) rfl rfl rfl ?_
  refine x_iload_n 2 1 (ab_dd tk_s_rider 1 rfl) rfl rfl rfl ?_
  refine x_i2l 3 (ab_dd tk_s_rider 2 rfl) rfl ?_
  refine t_callV 6 M_s_isRider 0 1 [_] (ab_dd tk_s_rider 3 rfl) rfl (by first | decide | omega) K_s_isRider V_s_isRider.1 V_s_isRider.2 L_s_130 rfl (Nat.le_of_ble_eq_true rfl) (by decide) (Nat.lt_of_lt_of_le (by decide) hx.1) (hx.2.1 0 (by decide)) rfl (cx_isRider (by exact hx) hc hk hR c1 p) (fun v1 w1 h1 => ?_)
  obtain ⟨rfl, rfl⟩ := h1
  refine xb_if_ne 9 12 (ab_dd tk_s_rider 4 rfl) rfl (by decide) (fun h6 => ?_) (fun h6 => ?_)
  · have hpp := h6
    obtain ⟨q, ekq, enq⟩ : ∃ q, p = nI q ∧ cN p = q := ⟨cN p, nI_cN h6.1, rfl⟩
    rw [show some (Value.int p) = some (Value.int (nI q)) by rw [ekq]]
    have hqR : q < aR a := by have := hpp.2; omega
    have hq4 : q < 4 := by omega
    refine x_iload_n 13 2 (ab_dd tk_s_rider 7 rfl) rfl rfl rfl ?_
    by_cases hT13 : (0 : Int) ≤ Int32.toInt x ∧ Int32.toInt x ≤ (3 : Int)
    · have hc13 : Int32.toInt x = (0 : Int) ∨ Int32.toInt x = (1 : Int) ∨ Int32.toInt x = (2 : Int) ∨ Int32.toInt x = (3 : Int) := by omega
      rcases hc13 with hc13 | hc13 | hc13 | hc13
      · refine x_tableIn 44 (ab_dd tk_s_rider 8 rfl) (by omega) (by omega) (by rw [hc13]; rfl) (by decide) ?_
        refine x_aload_n 45 0 (ab_dd tk_s_rider 9 rfl) rfl rfl rfl ?_
        refine t_getP 48 55 (ab_dd tk_s_rider 10 rfl) rfl F_s_27 (by decide) (Nat.lt_of_lt_of_le (by decide) hx.1) (hx.2.1 0 (by decide)) rfl (hx.2.2 (50, 3, 55) (by decide)) ?_
        refine t_getI 51 (ab_dd tk_s_rider 11 rfl) rfl F_s_134 (by decide) (Nat.lt_of_lt_of_le (by decide) hx.1) (hx.2.1 5 (by decide)) rfl (x_topn (seaC a) ht.1 ?_)
        refine x_iload_n 52 1 (ab_dd tk_s_rider 12 rfl) rfl rfl rfl ?_
        refine x_callS 55 M_s_seasonOf 0 2 [_, _] (ab_dd tk_s_rider 13 rfl) rfl (by first | decide | omega) K_s_seasonOf T_s_seasonOf L_s_137 rfl (Nat.le_of_ble_eq_true rfl) (c_s_seasonOf (seaC a) q hsl hq4) (fun v1 w1 h1 => ?_)
        obtain ⟨rfl, rfl⟩ := h1
        have ex : x = 0 := of_toInt (hc13.trans (by decide))
        have eA : mRd a (aR a) p x = nI (d4 (seaC a) q) := by
          unfold mRd
          rw [if_pos hpp, if_neg (by rw [ex]; decide), if_pos ex, enq]
          exact (seaC_v ha.1 hq4).symm
        rw [eA]
        exact x_iret (ab_dd tk_s_rider 14 rfl) ⟨rfl, S, b, st, st2, rfl, fAs.rf, gA.rf, h.up (by omega), ht⟩
      · refine x_tableIn 56 (ab_dd tk_s_rider 8 rfl) (by omega) (by omega) (by rw [hc13]; rfl) (by decide) ?_
        refine x_aload_n 57 0 (ab_dd tk_s_rider 15 rfl) rfl rfl rfl ?_
        refine t_getP 60 c (ab_dd tk_s_rider 16 rfl) rfl F_s_20 (by decide) (Nat.lt_of_lt_of_le (by decide) hx.1) (hx.2.1 0 (by decide)) rfl hc ?_
        refine t_getP 63 (c + 1) (ab_dd tk_s_rider 17 rfl) rfl F_s_141 hk.1 (Nat.lt_of_le_of_lt (Nat.le_add_right c 2) hk.2.1) hk.2.2.1 rfl hk.2.2.2.2.2.1 ?_
        refine x_iload_n 64 1 (ab_dd tk_s_rider 18 rfl) rfl rfl rfl ?_
        refine t_iald 65 q (ab_dd tk_s_rider 19 rfl) rfl (by have := hk.1; omega) (by have := hk.2.1; omega) hk.2.2.2.1 rfl (by omega) (by decide) (x_topx (a (8 + q)) (cc2 q hq4) ?_)
        have ex : x = 1 := of_toInt (hc13.trans (by decide))
        have eA : mRd a (aR a) p x = a (8 + q) := by
          unfold mRd
          rw [if_pos hpp, if_neg (by rw [ex]; decide), if_neg (by rw [ex]; decide), if_pos ex, enq]
        rw [eA]
        exact x_iret (ab_dd tk_s_rider 20 rfl) ⟨rfl, S, b, st, st2, rfl, fAs.rf, gA.rf, h.up (by omega), ht⟩
      · refine x_tableIn 66 (ab_dd tk_s_rider 8 rfl) (by omega) (by omega) (by rw [hc13]; rfl) (by decide) ?_
        refine x_aload_n 67 0 (ab_dd tk_s_rider 21 rfl) rfl rfl rfl ?_
        refine t_getP 70 55 (ab_dd tk_s_rider 22 rfl) rfl F_s_27 (by decide) (Nat.lt_of_lt_of_le (by decide) hx.1) (hx.2.1 0 (by decide)) rfl (hx.2.2 (50, 3, 55) (by decide)) ?_
        refine t_getI 73 (ab_dd tk_s_rider 23 rfl) rfl F_s_145 (by decide) (Nat.lt_of_lt_of_le (by decide) hx.1) (hx.2.1 5 (by decide)) rfl (x_topn (aW a) ht.2.1 ?_)
        refine x_iload_n 74 1 (ab_dd tk_s_rider 24 rfl) rfl rfl rfl ?_
        refine x_callS 77 M_s_warmthOf 0 2 [_, _] (ab_dd tk_s_rider 25 rfl) rfl (by first | decide | omega) K_s_warmthOf T_s_warmthOf L_s_148 rfl (Nat.le_of_ble_eq_true rfl) (c_s_warmthOf kc h50 (aW a) q hw6 hq4) (fun v1 w1 h1 => ?_)
        obtain ⟨rfl, rfl⟩ := h1
        have ex : x = 2 := of_toInt (hc13.trans (by decide))
        have eA : mRd a (aR a) p x = nI (mWa (aW a) q) := by
          unfold mRd
          rw [if_pos hpp, if_neg (by rw [ex]; decide), if_neg (by rw [ex]; decide), if_neg (by rw [ex]; decide), if_pos ex, enq]
          rw [row_wa ha.1 hqR]
        rw [eA]
        exact x_iret (ab_dd tk_s_rider 26 rfl) ⟨rfl, S, b, st, st2, rfl, fAs.rf, gA.rf, h.up (by omega), ht⟩
      · refine x_tableIn 78 (ab_dd tk_s_rider 8 rfl) (by omega) (by omega) (by rw [hc13]; rfl) (by decide) ?_
        refine x_aload_n 79 0 (ab_dd tk_s_rider 27 rfl) rfl rfl rfl ?_
        refine t_getP 82 78 (ab_dd tk_s_rider 28 rfl) rfl F_s_68 (by decide) (Nat.lt_of_lt_of_le (by decide) hx.1) (hx.2.1 0 (by decide)) rfl (hx.2.2 (50, 11, 78) (by decide)) ?_
        refine x_aload_n 83 0 (ab_dd tk_s_rider 29 rfl) rfl rfl rfl ?_
        refine t_getP 86 55 (ab_dd tk_s_rider 30 rfl) rfl F_s_27 (by decide) (Nat.lt_of_lt_of_le (by decide) hx.1) (hx.2.1 0 (by decide)) rfl (hx.2.2 (50, 3, 55) (by decide)) ?_
        refine t_getI 89 (ab_dd tk_s_rider 31 rfl) rfl F_s_151 (by decide) (Nat.lt_of_lt_of_le (by decide) hx.1) (hx.2.1 5 (by decide)) rfl (x_topn (aQ a) ht.2.2.1 ?_)
        refine x_iload_n 90 1 (ab_dd tk_s_rider 32 rfl) rfl rfl rfl ?_
        refine t_callV 93 M_se_seatOf 0 2 [_, _] (ab_dd tk_s_rider 33 rfl) rfl (by first | decide | omega) K_se_seatOf V_se_seatOf.1 V_se_seatOf.2 L_s_154 rfl (Nat.le_of_ble_eq_true rfl) (by decide) (Nat.lt_of_lt_of_le (by decide) hx.1) (hx.2.1 28 (by decide)) rfl (c_se_seatOf hx hse (aQ a) q hq24 hq4) (fun v1 w1 h1 => ?_)
        obtain ⟨rfl, rfl⟩ := h1
        have ex : x = 3 := of_toInt (hc13.trans (by decide))
        have eA : mRd a (aR a) p x = nI (qSe (aQ a) q) := by
          unfold mRd
          rw [if_pos hpp, if_neg (by rw [ex]; decide), if_neg (by rw [ex]; decide), if_neg (by rw [ex]; decide), if_neg (by rw [ex]; decide), if_pos ex, enq]
          rw [row_se ha.1 hqR]
        rw [eA]
        exact x_iret (ab_dd tk_s_rider 34 rfl) ⟨rfl, S, b, st, st2, rfl, fAs.rf, gA.rf, h.up (by omega), ht⟩
    · refine x_tableOut 94 (ab_dd tk_s_rider 8 rfl) (by omega) (by decide) ?_
      refine x_iload_n 95 2 (ab_dd tk_s_rider 35 rfl) rfl rfl rfl ?_
      refine x_bipush 97 10 (ab_dd tk_s_rider 36 rfl) rfl (by decide) (x_topn 10 rfl ?_)
      refine x_icmp_lt 100 121 (ab_dd tk_s_rider 37 rfl) rfl (by decide) (fun h97 => ?_) (fun h97 => ?_)
      · refine x_bipush 123 (-2) (ab_dd tk_s_rider 49 rfl) rfl (by decide) ?_
        have eA : mRd a (aR a) p x = -2 := by
          unfold mRd
          rw [if_pos hpp, if_neg (fun z => absurd (h97) (Int32.not_lt.mpr z.1)), if_neg (fun z => hT13 (by rw [z]; decide)), if_neg (fun z => hT13 (by rw [z]; decide)), if_neg (fun z => hT13 (by rw [z]; decide)), if_neg (fun z => hT13 (by rw [z]; decide))]
        rw [eA]
        exact x_iret (ab_dd tk_s_rider 50 rfl) ⟨rfl, S, b, st, st2, rfl, fAs.rf, gA.rf, h.up (by omega), ht⟩
      · refine x_iload_n 101 2 (ab_dd tk_s_rider 38 rfl) rfl rfl rfl ?_
        refine x_bipush 103 14 (ab_dd tk_s_rider 39 rfl) rfl (by decide) (x_topn 14 rfl ?_)
        refine x_icmp_ge 106 121 (ab_dd tk_s_rider 40 rfl) rfl (by decide) (fun h103 => ?_) (fun h103 => ?_)
        · refine x_bipush 123 (-2) (ab_dd tk_s_rider 49 rfl) rfl (by decide) ?_
          have eA : mRd a (aR a) p x = -2 := by
            unfold mRd
            rw [if_pos hpp, if_neg (fun z => absurd (h103) (Int32.not_le.mpr (le13 z.2))), if_neg (fun z => hT13 (by rw [z]; decide)), if_neg (fun z => hT13 (by rw [z]; decide)), if_neg (fun z => hT13 (by rw [z]; decide)), if_neg (fun z => hT13 (by rw [z]; decide))]
          rw [eA]
          exact x_iret (ab_dd tk_s_rider 50 rfl) ⟨rfl, S, b, st, st2, rfl, fAs.rf, gA.rf, h.up (by omega), ht⟩
        · obtain ⟨j, hj, ekj, enj⟩ := in_get (n := 13) (by decide) ⟨Int32.le_trans (by decide) (Int32.not_lt.mp h97), lt14 (Int32.not_le.mp h103)⟩
          have hj10 : 10 ≤ j := by
            have z := Int32.not_lt.mp h97
            rw [ekj] at z
            exact (nI_leI (a := 10) (by decide) (by omega)).mp z
          have hx13 : 10 ≤ x ∧ x ≤ 13 := ⟨Int32.not_lt.mp h97, lt14 (Int32.not_le.mp h103)⟩
          rw [show some (Value.int x) = some (Value.int (nI j)) by rw [ekj]]
          refine x_aload_n 107 0 (ab_dd tk_s_rider 41 rfl) rfl rfl rfl ?_
          refine t_getP 110 c (ab_dd tk_s_rider 42 rfl) rfl F_s_20 (by decide) (Nat.lt_of_lt_of_le (by decide) hx.1) (hx.2.1 0 (by decide)) rfl hc ?_
          refine x_iload_n 111 1 (ab_dd tk_s_rider 43 rfl) rfl rfl rfl ?_
          refine x_iload_n 112 2 (ab_dd tk_s_rider 44 rfl) rfl rfl rfl ?_
          refine x_bipush 114 10 (ab_dd tk_s_rider 45 rfl) rfl (by decide) (x_topn 10 rfl ?_)
          refine x_isub 115 (ab_dd tk_s_rider 46 rfl) rfl (x_topn (j - 10) (pk_sub (by omega)) ?_)
          refine t_callV 118 M_ca_liking 0 2 [_, _] (ab_dd tk_s_rider 47 rfl) rfl (by first | decide | omega) K_ca_liking V_ca_liking.1 V_ca_liking.2 L_s_157 rfl (Nat.le_of_ble_eq_true rfl) hk.1 (Nat.lt_of_le_of_lt (Nat.le_add_right c 2) hk.2.1) hk.2.2.1 rfl (c_ca_liking (hcl.1.sta hb2.sy) q (j - 10) hq4 (by omega)) (fun v1 w1 h1 => ?_)
          obtain ⟨rfl, rfl⟩ := h1
          refine x_goto 123 (ab_dd tk_s_rider 48 rfl) (by decide) ?_
          have eA : mRd a (aR a) p x = a (12 + 4 * q + (j - 10)) := by
            unfold mRd
            rw [if_pos hpp, if_pos hx13, enq, enj]
          rw [eA]
          exact x_iret (ab_dd tk_s_rider 50 rfl) ⟨rfl, S, b, st, st2, rfl, fAs.rf, gA.rf, h.up (by omega), ht⟩
  · refine x_bipush 11 (-2) (ab_dd tk_s_rider 5 rfl) rfl (by decide) ?_
    rw [show mRd a (aR a) p x = -2 from if_neg h6]
    exact x_iret (ab_dd tk_s_rider 6 rfl) ⟨rfl, S, b, st, st2, rfl, fAs.rf, gA.rf, h.up (by omega), ht⟩
def tb_s_ridersElsewhere : List (Nat × Instr × Nat) := [(0, .iconst 0, 1), (1, .istore_n 1, 1), (2, .iconst 0, 1), (3, .istore_n 2, 1), (4, .iload_n 2, 1), (5, .aload_n 0, 1), (6, .getfield 20, 3), (9, .getfield 177, 3), (12, .if_icmp .ge 34, 3), (15, .aload_n 0, 1), (16, .getfield 68, 3), (19, .aload_n 0, 1), (20, .getfield 27, 3), (23, .getfield 151, 3), (26, .iload_n 2, 1), (27, .invokevirtual 154, 3), (30, .iload_n 2, 1), (31, .if_icmp .eq 9, 3), (34, .iload_n 1, 1), (35, .iconst 1, 1), (36, .iload_n 2, 1), (37, .ishl, 1), (38, .ior, 1), (39, .istore_n 1, 1), (40, .iinc 2 1, 3), (43, .goto (-39), 3), (46, .iload_n 1, 1), (47, .ireturn, 1)]
theorem tk_s_ridersElsewhere : ∀ q ∈ tb_s_ridersElsewhere, decode M_s_ridersElsewhere.2.1 q.1 = .ok q.2 := by decide +kernel
theorem b_s_elsewhere {G : ab_G} {S : ab_S} {im : Nat → Prop} {a b : Nat → Int32} {c bh nb st st2 u : Nat} (h : kBd S im a c b bh nb st st2 u) (ht : sdE S 55 (rowT a)) : ab_C G 1 M_s_ridersElsewhere [.ref 50] (sw S) (fun v w' => v = some (.int (mEl a (aR a))) ∧ w' = sw S) := by
  refine x_enter [some (.ref 50), none, none] (by decide) (Nat.le_of_ble_eq_true rfl) rfl (fun v w' h => by obtain ⟨rfl, rfl⟩ := h; rfl) ?_
  have hbh := h.bh.1
  have h0 := h
  obtain ⟨hx, hse, kc, ⟨him, hil, h145⟩, ha, hc, ⟨hb1, hb2, hcl, hnb⟩, hcl9, -, hid, -, hu1, hu2⟩ := h0
  have h40 : sI S 55 3 = a 40 := ht.2.2.2.1.trans ha.1.m40.1.symm
  have hca := hcl.1.sta hb2.sy
  obtain ⟨hk, c1, -⟩ := hca
  have hR := ha.1.R.2
  have h50 : 50 ≤ sn S := by omega
  obtain ⟨hq0, hw0, hE0⟩ := rowT_in ha.1
  have hw6 : aW a < 625 := by have := p5_6 hR; omega
  have hq24 := Nat.lt_of_lt_of_le hq0 (kFc_le (aR a))
  have loop : ∀ (m k : Nat), k + m = aR a → ab_Ex G 1 M_s_ridersElsewhere 4 [some (.ref 50), some (.int (mEl a k)), some (.int (nI k))] [] (sw S) (fun v w' => v = some (.int (mEl a (aR a))) ∧ w' = sw S) := by
    intro m
    induction m with
    | zero =>
      intro k hkm
      have hkq : k = aR a := by omega
      rw [hkq]
      refine x_iload_n 5 2 (ab_dd tk_s_ridersElsewhere 4 rfl) rfl rfl rfl ?_
      refine x_aload_n 6 0 (ab_dd tk_s_ridersElsewhere 5 rfl) rfl rfl rfl ?_
      refine t_getP 9 c (ab_dd tk_s_ridersElsewhere 6 rfl) rfl F_s_20 (by decide) (Nat.lt_of_lt_of_le (by decide) hx.1) (hx.2.1 0 (by decide)) rfl hc ?_
      refine t_getI 12 (ab_dd tk_s_ridersElsewhere 7 rfl) rfl F_s_177 hk.1 (Nat.lt_of_le_of_lt (Nat.le_add_right c 2) hk.2.1) hk.2.2.1 rfl (x_topn (aR a) c1 ?_)
      refine x_icmp_ge_t 46 (ab_dd tk_s_ridersElsewhere 8 rfl) (by decide) ((nI_leI (a := (aR a)) (b := (aR a)) (by omega) (by omega)).mpr (show (aR a) ≤ (aR a) by omega)) ?_
      refine x_iload_n 47 1 (ab_dd tk_s_ridersElsewhere 26 rfl) rfl rfl rfl ?_
      exact x_iret (ab_dd tk_s_ridersElsewhere 27 rfl) ⟨rfl, rfl⟩
    | succ m ih =>
      intro k hkm
      have hkR : k < aR a := by omega
      have hse36 := row_se ha.1 hkR
      have hq4 : qSe (aQ a) k < 4 := by have := ((qB1_ok hR hq0).2.2.2.2.1 k hkR).2.2; omega
      refine x_iload_n 5 2 (ab_dd tk_s_ridersElsewhere 4 rfl) rfl rfl rfl ?_
      refine x_aload_n 6 0 (ab_dd tk_s_ridersElsewhere 5 rfl) rfl rfl rfl ?_
      refine t_getP 9 c (ab_dd tk_s_ridersElsewhere 6 rfl) rfl F_s_20 (by decide) (Nat.lt_of_lt_of_le (by decide) hx.1) (hx.2.1 0 (by decide)) rfl hc ?_
      refine t_getI 12 (ab_dd tk_s_ridersElsewhere 7 rfl) rfl F_s_177 hk.1 (Nat.lt_of_le_of_lt (Nat.le_add_right c 2) hk.2.1) hk.2.2.1 rfl (x_topn (aR a) c1 ?_)
      refine x_icmp_ge_f 15 (ab_dd tk_s_ridersElsewhere 8 rfl) rfl 46 (by decide) (fun z => absurd ((nI_leI (a := (aR a)) (b := k) (by omega) (by omega)).mp z) (show ¬ ((aR a) ≤ k) by omega)) ?_
      refine x_aload_n 16 0 (ab_dd tk_s_ridersElsewhere 9 rfl) rfl rfl rfl ?_
      refine t_getP 19 78 (ab_dd tk_s_ridersElsewhere 10 rfl) rfl F_s_68 (by decide) (Nat.lt_of_lt_of_le (by decide) hx.1) (hx.2.1 0 (by decide)) rfl (hx.2.2 (50, 11, 78) (by decide)) ?_
      refine x_aload_n 20 0 (ab_dd tk_s_ridersElsewhere 11 rfl) rfl rfl rfl ?_
      refine t_getP 23 55 (ab_dd tk_s_ridersElsewhere 12 rfl) rfl F_s_27 (by decide) (Nat.lt_of_lt_of_le (by decide) hx.1) (hx.2.1 0 (by decide)) rfl (hx.2.2 (50, 3, 55) (by decide)) ?_
      refine t_getI 26 (ab_dd tk_s_ridersElsewhere 13 rfl) rfl F_s_151 (by decide) (Nat.lt_of_lt_of_le (by decide) hx.1) (hx.2.1 5 (by decide)) rfl (x_topn (aQ a) ht.2.2.1 ?_)
      refine x_iload_n 27 2 (ab_dd tk_s_ridersElsewhere 14 rfl) rfl rfl rfl ?_
      refine t_callV 30 M_se_seatOf 0 2 [_, _] (ab_dd tk_s_ridersElsewhere 15 rfl) rfl (by first | decide | omega) K_se_seatOf V_se_seatOf.1 V_se_seatOf.2 L_s_154 rfl (Nat.le_of_ble_eq_true rfl) (by decide) (Nat.lt_of_lt_of_le (by decide) hx.1) (hx.2.1 28 (by decide)) rfl (c_se_seatOf hx hse (aQ a) k hq24 (by omega)) (fun v1 w1 h1 => ?_)
      obtain ⟨rfl, rfl⟩ := h1
      refine x_iload_n 31 2 (ab_dd tk_s_ridersElsewhere 16 rfl) rfl rfl rfl ?_
      refine xn_icmp_eq 34 40 (ab_dd tk_s_ridersElsewhere 17 rfl) rfl (by decide) (by omega) (by omega) (fun h31 => ?_) (fun h31 => ?_)
      · refine xn_iinc 43 2 (fun y => [some (.ref 50), some (.int (mEl a k)), some (.int y)]) (k + 1) (ab_dd tk_s_ridersElsewhere 24 rfl) rfl (by decide) rfl (fun _ => rfl) (iinc_p 1) ?_
        refine x_goto 4 (ab_dd tk_s_ridersElsewhere 25 rfl) (by decide) ?_
        have e1 : mEl a (k + 1) = mEl a k := by
          show mEl a k ||| (if a (36 + k) = nI k then (0 : Int32) else (1 : Int32) <<< (nI k &&& 31)) = _
          rw [hse36, if_pos (by rw [h31]), Int32.or_zero]
        have ih2 := ih (k + 1) (by omega)
        rw [e1] at ih2
        exact ih2
      · refine x_iload_n 35 1 (ab_dd tk_s_ridersElsewhere 18 rfl) rfl rfl rfl ?_
        refine x_iconst 36 1 (ab_dd tk_s_ridersElsewhere 19 rfl) rfl (by decide) (x_topn 1 rfl ?_)
        refine x_iload_n 37 2 (ab_dd tk_s_ridersElsewhere 20 rfl) rfl rfl rfl ?_
        refine x_ishl 38 (ab_dd tk_s_ridersElsewhere 21 rfl) rfl ?_
        refine x_ior 39 (ab_dd tk_s_ridersElsewhere 22 rfl) rfl (x_topx (mEl a (k + 1)) (by show _ = mEl a k ||| (if a (36 + k) = nI k then (0 : Int32) else (1 : Int32) <<< (nI k &&& 31)); rw [hse36, if_neg (fun z => h31 ((nI_eq (by omega) (by omega)).mp z))]; rfl) ?_)
        refine x_istore_n 40 [some (.ref 50), some (.int (mEl a (k + 1))), some (.int (nI k))] 1 (ab_dd tk_s_ridersElsewhere 23 rfl) rfl rfl (by decide) rfl ?_
        refine xn_iinc 43 2 (fun y => [some (.ref 50), some (.int (mEl a (k + 1))), some (.int y)]) (k + 1) (ab_dd tk_s_ridersElsewhere 24 rfl) rfl (by decide) rfl (fun _ => rfl) (iinc_p 1) ?_
        refine x_goto 4 (ab_dd tk_s_ridersElsewhere 25 rfl) (by decide) ?_
        exact ih (k + 1) (by omega)
  refine x_iconst 1 0 (ab_dd tk_s_ridersElsewhere 0 rfl) rfl (by decide) (x_topn 0 rfl ?_)
  refine x_istore_n 2 [some (.ref 50), some (.int (nI 0)), none] 1 (ab_dd tk_s_ridersElsewhere 1 rfl) rfl rfl (by decide) rfl ?_
  refine x_iconst 3 0 (ab_dd tk_s_ridersElsewhere 2 rfl) rfl (by decide) (x_topn 0 rfl ?_)
  refine x_istore_n 4 [some (.ref 50), some (.int (nI 0)), some (.int (nI 0))] 2 (ab_dd tk_s_ridersElsewhere 3 rfl) rfl rfl (by decide) rfl ?_
  exact loop (aR a) 0 (by omega)
def tb_s_count : List (Nat × Instr × Nat) := [(0, .iload_n 1, 1), (1, .tableswitch 151 0 8 #[51, 59, 67, 85, 117, 122, 130, 138, 143], 51), (52, .aload_n 0, 1), (53, .getfield 20, 3), (56, .getfield 177, 3), (59, .ireturn, 1), (60, .aload_n 0, 1), (61, .getfield 27, 3), (64, .getfield 180, 3), (67, .ireturn, 1), (68, .aload_n 0, 1), (69, .getfield 27, 3), (72, .getfield 145, 3), (75, .aload_n 0, 1), (76, .getfield 20, 3), (79, .getfield 177, 3), (82, .invokestatic 229, 3), (85, .ireturn, 1), (86, .aload_n 0, 1), (87, .getfield 20, 3), (90, .getfield 177, 3), (93, .ifCond .ne 7, 3), (96, .iconst (-1), 1), (97, .goto 20, 3), (100, .aload_n 0, 1), (101, .getfield 27, 3), (104, .getfield 145, 3), (107, .aload_n 0, 1), (108, .getfield 20, 3), (111, .getfield 177, 3), (114, .invokestatic 191, 3), (117, .ireturn, 1), (118, .aload_n 0, 1), (119, .invokevirtual 430, 3), (122, .ireturn, 1), (123, .aload_n 0, 1), (124, .getfield 27, 3), (127, .getfield 263, 3), (130, .ireturn, 1), (131, .aload_n 0, 1), (132, .getfield 37, 3), (135, .getfield 202, 3), (138, .ireturn, 1), (139, .aload_n 0, 1), (140, .getfield 13, 3), (143, .ireturn, 1), (144, .aload_n 0, 1), (145, .getfield 20, 3), (148, .getfield 121, 3), (151, .ireturn, 1), (152, .iconst (-1), 1), (153, .ireturn, 1)]
theorem tk_s_count : ∀ q ∈ tb_s_count, decode M_s_count.2.1 q.1 = .ok q.2 := by decide +kernel
theorem p_s_count {G : ab_G} {S : ab_S} {im : Nat → Prop} {a b : Nat → Int32} {c bh nb st st2 u : Nat} (h : kBd S im a c b bh nb st st2 u) (ht : sdE S 55 (rowT a)) (hu : u + 64 < 2 ^ 20) {n s : Nat} {f : Nat → sT} (hp : paI S n s f) {t : Nat} (h51 : sI S 50 1 = nI t) (x : Int32) : ab_C G 7 M_s_count [.ref 50, .int x] (sw S) (fun v w' => pAs S im a c bh nb u 0 0 (some (.int (cCt a s t x))) v w') := by
  refine x_enter [some (.ref 50), some (.int x)] (by decide) (Nat.le_of_ble_eq_true rfl) rfl (fun v w' h => by obtain ⟨rfl, -⟩ := h; rfl) ?_
  have hbh := h.bh.1
  have h0 := h
  obtain ⟨hx, hse, kc, ⟨him, hil, h145⟩, ha, hc, ⟨hb1, hb2, hcl, hnb⟩, hcl9, -, hid, -, hu1, hu2⟩ := h0
  have h40 : sI S 55 3 = a 40 := ht.2.2.2.1.trans ha.1.m40.1.symm
  have hca := hcl.1.sta hb2.sy
  obtain ⟨hk, c1, -⟩ := hca
  have hR := ha.1.R.2
  have h50 : 50 ≤ sn S := by omega
  obtain ⟨hq0, hw0, hE0⟩ := rowT_in ha.1
  have hw6 : aW a < 625 := by have := p5_6 hR; omega
  have hq24 := Nat.lt_of_lt_of_le hq0 (kFc_le (aR a))
  obtain ⟨-, cc1, -⟩ := (hcl.1.sta hb2.sy : caI S im c a).2
  have hp2 := hp.2.2.1
  refine x_iload_n 1 1 (ab_dd tk_s_count 0 rfl) rfl rfl rfl ?_
  by_cases hT1 : (0 : Int) ≤ Int32.toInt x ∧ Int32.toInt x ≤ (8 : Int)
  · have hc1 : Int32.toInt x = (0 : Int) ∨ Int32.toInt x = (1 : Int) ∨ Int32.toInt x = (2 : Int) ∨ Int32.toInt x = (3 : Int) ∨ Int32.toInt x = (4 : Int) ∨ Int32.toInt x = (5 : Int) ∨ Int32.toInt x = (6 : Int) ∨ Int32.toInt x = (7 : Int) ∨ Int32.toInt x = (8 : Int) := by omega
    rcases hc1 with hc1 | hc1 | hc1 | hc1 | hc1 | hc1 | hc1 | hc1 | hc1
    · refine x_tableIn 52 (ab_dd tk_s_count 1 rfl) (by omega) (by omega) (by rw [hc1]; rfl) (by decide) ?_
      refine x_aload_n 53 0 (ab_dd tk_s_count 2 rfl) rfl rfl rfl ?_
      refine t_getP 56 c (ab_dd tk_s_count 3 rfl) rfl F_s_20 (by decide) (Nat.lt_of_lt_of_le (by decide) hx.1) (hx.2.1 0 (by decide)) rfl hc ?_
      refine t_getI 59 (ab_dd tk_s_count 4 rfl) rfl F_s_177 hk.1 (Nat.lt_of_le_of_lt (Nat.le_add_right c 2) hk.2.1) hk.2.2.1 rfl (x_topn (aR a) c1 ?_)
      have ex : x = 0 := of_toInt (hc1.trans (by decide))
      have eA : cCt a s t x = nI (aR a) := by
        unfold cCt
        rw [if_pos ex]
        exact ha.1.R.1
      rw [eA]
      exact x_iret (ab_dd tk_s_count 5 rfl) ⟨rfl, S, b, st, st2, rfl, fAs.rf, gA.rf, h.up (by omega), ht⟩
    · refine x_tableIn 60 (ab_dd tk_s_count 1 rfl) (by omega) (by omega) (by rw [hc1]; rfl) (by decide) ?_
      refine x_aload_n 61 0 (ab_dd tk_s_count 6 rfl) rfl rfl rfl ?_
      refine t_getP 64 55 (ab_dd tk_s_count 7 rfl) rfl F_s_27 (by decide) (Nat.lt_of_lt_of_le (by decide) hx.1) (hx.2.1 0 (by decide)) rfl (hx.2.2 (50, 3, 55) (by decide)) ?_
      refine t_getI 67 (ab_dd tk_s_count 8 rfl) rfl F_s_180 (by decide) (Nat.lt_of_lt_of_le (by decide) hx.1) (hx.2.1 5 (by decide)) rfl (x_topx (a 40) h40 ?_)
      have ex : x = 1 := of_toInt (hc1.trans (by decide))
      have eA : cCt a s t x = a 40 := by
        unfold cCt
        rw [if_neg (by rw [ex]; decide), if_pos ex]
      rw [eA]
      exact x_iret (ab_dd tk_s_count 9 rfl) ⟨rfl, S, b, st, st2, rfl, fAs.rf, gA.rf, h.up (by omega), ht⟩
    · refine x_tableIn 68 (ab_dd tk_s_count 1 rfl) (by omega) (by omega) (by rw [hc1]; rfl) (by decide) ?_
      refine x_aload_n 69 0 (ab_dd tk_s_count 10 rfl) rfl rfl rfl ?_
      refine t_getP 72 55 (ab_dd tk_s_count 11 rfl) rfl F_s_27 (by decide) (Nat.lt_of_lt_of_le (by decide) hx.1) (hx.2.1 0 (by decide)) rfl (hx.2.2 (50, 3, 55) (by decide)) ?_
      refine t_getI 75 (ab_dd tk_s_count 12 rfl) rfl F_s_145 (by decide) (Nat.lt_of_lt_of_le (by decide) hx.1) (hx.2.1 5 (by decide)) rfl (x_topn (aW a) ht.2.1 ?_)
      refine x_aload_n 76 0 (ab_dd tk_s_count 13 rfl) rfl rfl rfl ?_
      refine t_getP 79 c (ab_dd tk_s_count 14 rfl) rfl F_s_20 (by decide) (Nat.lt_of_lt_of_le (by decide) hx.1) (hx.2.1 0 (by decide)) rfl hc ?_
      refine t_getI 82 (ab_dd tk_s_count 15 rfl) rfl F_s_177 hk.1 (Nat.lt_of_le_of_lt (Nat.le_add_right c 2) hk.2.1) hk.2.2.1 rfl (x_topn (aR a) c1 ?_)
      refine x_callS 85 M_s_sumOf 1 2 [_, _] (ab_dd tk_s_count 16 rfl) rfl (by first | decide | omega) K_s_sumOf T_s_sumOf L_s_229 rfl (Nat.le_of_ble_eq_true rfl) (c_s_sumOf (aW a) (aR a) hw6 hR) (fun v1 w1 h1 => ?_)
      obtain ⟨rfl, rfl⟩ := h1
      have ex : x = 2 := of_toInt (hc1.trans (by decide))
      have eA : cCt a s t x = nI (mSu (aW a) (aR a)) := by
        unfold cCt
        rw [if_neg (by rw [ex]; decide), if_neg (by rw [ex]; decide), if_pos ex]
        rw [hE0, cSt_su hw6]
      rw [eA]
      exact x_iret (ab_dd tk_s_count 17 rfl) ⟨rfl, S, b, st, st2, rfl, fAs.rf, gA.rf, h.up (by omega), ht⟩
    · refine x_tableIn 86 (ab_dd tk_s_count 1 rfl) (by omega) (by omega) (by rw [hc1]; rfl) (by decide) ?_
      refine x_aload_n 87 0 (ab_dd tk_s_count 18 rfl) rfl rfl rfl ?_
      refine t_getP 90 c (ab_dd tk_s_count 19 rfl) rfl F_s_20 (by decide) (Nat.lt_of_lt_of_le (by decide) hx.1) (hx.2.1 0 (by decide)) rfl hc ?_
      refine t_getI 93 (ab_dd tk_s_count 20 rfl) rfl F_s_177 hk.1 (Nat.lt_of_le_of_lt (Nat.le_add_right c 2) hk.2.1) hk.2.2.1 rfl (x_topn (aR a) c1 ?_)
      refine xn_if_ne 96 100 (ab_dd tk_s_count 21 rfl) rfl (by decide) (by omega) (fun h93 => ?_) (fun h93 => ?_)
      · refine x_aload_n 101 0 (ab_dd tk_s_count 24 rfl) rfl rfl rfl ?_
        refine t_getP 104 55 (ab_dd tk_s_count 25 rfl) rfl F_s_27 (by decide) (Nat.lt_of_lt_of_le (by decide) hx.1) (hx.2.1 0 (by decide)) rfl (hx.2.2 (50, 3, 55) (by decide)) ?_
        refine t_getI 107 (ab_dd tk_s_count 26 rfl) rfl F_s_145 (by decide) (Nat.lt_of_lt_of_le (by decide) hx.1) (hx.2.1 5 (by decide)) rfl (x_topn (aW a) ht.2.1 ?_)
        refine x_aload_n 108 0 (ab_dd tk_s_count 27 rfl) rfl rfl rfl ?_
        refine t_getP 111 c (ab_dd tk_s_count 28 rfl) rfl F_s_20 (by decide) (Nat.lt_of_lt_of_le (by decide) hx.1) (hx.2.1 0 (by decide)) rfl hc ?_
        refine t_getI 114 (ab_dd tk_s_count 29 rfl) rfl F_s_177 hk.1 (Nat.lt_of_le_of_lt (Nat.le_add_right c 2) hk.2.1) hk.2.2.1 rfl (x_topn (aR a) c1 ?_)
        refine x_callS 117 M_s_leastOf 1 2 [_, _] (ab_dd tk_s_count 30 rfl) rfl (by first | decide | omega) K_s_leastOf T_s_leastOf L_s_191 rfl (Nat.le_of_ble_eq_true rfl) (c_s_leastOf (aW a) (aR a) hw6 hR) (fun v1 w1 h1 => ?_)
        obtain ⟨rfl, rfl⟩ := h1
        have ex : x = 3 := of_toInt (hc1.trans (by decide))
        have eA : cCt a s t x = nI (mLe (aW a) (aR a)) := by
          unfold cCt
          rw [if_neg (by rw [ex]; decide), if_neg (by rw [ex]; decide), if_neg (by rw [ex]; decide), if_pos ex]
          rw [if_neg (by omega), hE0, cSt_le hw6]
        rw [eA]
        exact x_iret (ab_dd tk_s_count 31 rfl) ⟨rfl, S, b, st, st2, rfl, fAs.rf, gA.rf, h.up (by omega), ht⟩
      · refine x_iconst 97 (-1) (ab_dd tk_s_count 22 rfl) rfl (by decide) ?_
        refine x_goto 117 (ab_dd tk_s_count 23 rfl) (by decide) ?_
        have ex : x = 3 := of_toInt (hc1.trans (by decide))
        have eA : cCt a s t x = -1 := by
          unfold cCt
          rw [if_neg (by rw [ex]; decide), if_neg (by rw [ex]; decide), if_neg (by rw [ex]; decide), if_pos ex]
          rw [if_pos h93]
        rw [eA]
        exact x_iret (ab_dd tk_s_count 31 rfl) ⟨rfl, S, b, st, st2, rfl, fAs.rf, gA.rf, h.up (by omega), ht⟩
    · refine x_tableIn 118 (ab_dd tk_s_count 1 rfl) (by omega) (by omega) (by rw [hc1]; rfl) (by decide) ?_
      refine x_aload_n 119 0 (ab_dd tk_s_count 32 rfl) rfl rfl rfl ?_
      refine t_callV 122 M_s_ridersElsewhere 1 0 [] (ab_dd tk_s_count 33 rfl) rfl (by first | decide | omega) K_s_ridersElsewhere V_s_ridersElsewhere.1 V_s_ridersElsewhere.2 L_s_430 rfl (Nat.le_of_ble_eq_true rfl) (by decide) (Nat.lt_of_lt_of_le (by decide) hx.1) (hx.2.1 0 (by decide)) rfl (b_s_elsewhere h ht) (fun v1 w1 h1 => ?_)
      obtain ⟨rfl, rfl⟩ := h1
      have ex : x = 4 := of_toInt (hc1.trans (by decide))
      have eA : cCt a s t x = mEl a (aR a) := by
        unfold cCt
        rw [if_neg (by rw [ex]; decide), if_neg (by rw [ex]; decide), if_neg (by rw [ex]; decide), if_neg (by rw [ex]; decide), if_pos ex]
      rw [eA]
      exact x_iret (ab_dd tk_s_count 34 rfl) ⟨rfl, S, b, st, st2, rfl, fAs.rf, gA.rf, h.up (by omega), ht⟩
    · refine x_tableIn 123 (ab_dd tk_s_count 1 rfl) (by omega) (by omega) (by rw [hc1]; rfl) (by decide) ?_
      refine x_aload_n 124 0 (ab_dd tk_s_count 35 rfl) rfl rfl rfl ?_
      refine t_getP 127 55 (ab_dd tk_s_count 36 rfl) rfl F_s_27 (by decide) (Nat.lt_of_lt_of_le (by decide) hx.1) (hx.2.1 0 (by decide)) rfl (hx.2.2 (50, 3, 55) (by decide)) ?_
      refine t_getI 130 (ab_dd tk_s_count 37 rfl) rfl F_s_263 (by decide) (Nat.lt_of_lt_of_le (by decide) hx.1) (hx.2.1 5 (by decide)) rfl (x_topx (a 41) ht.2.2.2.2 ?_)
      have ex : x = 5 := of_toInt (hc1.trans (by decide))
      have eA : cCt a s t x = a 41 := by
        unfold cCt
        rw [if_neg (by rw [ex]; decide), if_neg (by rw [ex]; decide), if_neg (by rw [ex]; decide), if_neg (by rw [ex]; decide), if_neg (by rw [ex]; decide), if_pos ex]
      rw [eA]
      exact x_iret (ab_dd tk_s_count 38 rfl) ⟨rfl, S, b, st, st2, rfl, fAs.rf, gA.rf, h.up (by omega), ht⟩
    · refine x_tableIn 131 (ab_dd tk_s_count 1 rfl) (by omega) (by omega) (by rw [hc1]; rfl) (by decide) ?_
      refine x_aload_n 132 0 (ab_dd tk_s_count 39 rfl) rfl rfl rfl ?_
      refine t_getP 135 57 (ab_dd tk_s_count 40 rfl) rfl F_s_37 (by decide) (Nat.lt_of_lt_of_le (by decide) hx.1) (hx.2.1 0 (by decide)) rfl (hx.2.2 (50, 5, 57) (by decide)) ?_
      refine t_getI 138 (ab_dd tk_s_count 41 rfl) rfl F_s_202 (by decide) (Nat.lt_of_lt_of_le (by decide) hx.1) (hx.2.1 7 (by decide)) rfl (x_topn s hp2 ?_)
      have ex : x = 6 := of_toInt (hc1.trans (by decide))
      have eA : cCt a s t x = nI s := by
        unfold cCt
        rw [if_neg (by rw [ex]; decide), if_neg (by rw [ex]; decide), if_neg (by rw [ex]; decide), if_neg (by rw [ex]; decide), if_neg (by rw [ex]; decide), if_neg (by rw [ex]; decide), if_pos ex]
      rw [eA]
      exact x_iret (ab_dd tk_s_count 42 rfl) ⟨rfl, S, b, st, st2, rfl, fAs.rf, gA.rf, h.up (by omega), ht⟩
    · refine x_tableIn 139 (ab_dd tk_s_count 1 rfl) (by omega) (by omega) (by rw [hc1]; rfl) (by decide) ?_
      refine x_aload_n 140 0 (ab_dd tk_s_count 43 rfl) rfl rfl rfl ?_
      refine t_getI 143 (ab_dd tk_s_count 44 rfl) rfl F_s_13 (by decide) (Nat.lt_of_lt_of_le (by decide) hx.1) (hx.2.1 0 (by decide)) rfl (x_topn t h51 ?_)
      have ex : x = 7 := of_toInt (hc1.trans (by decide))
      have eA : cCt a s t x = nI t := by
        unfold cCt
        rw [if_neg (by rw [ex]; decide), if_neg (by rw [ex]; decide), if_neg (by rw [ex]; decide), if_neg (by rw [ex]; decide), if_neg (by rw [ex]; decide), if_neg (by rw [ex]; decide), if_neg (by rw [ex]; decide), if_pos ex]
      rw [eA]
      exact x_iret (ab_dd tk_s_count 45 rfl) ⟨rfl, S, b, st, st2, rfl, fAs.rf, gA.rf, h.up (by omega), ht⟩
    · refine x_tableIn 144 (ab_dd tk_s_count 1 rfl) (by omega) (by omega) (by rw [hc1]; rfl) (by decide) ?_
      refine x_aload_n 145 0 (ab_dd tk_s_count 46 rfl) rfl rfl rfl ?_
      refine t_getP 148 c (ab_dd tk_s_count 47 rfl) rfl F_s_20 (by decide) (Nat.lt_of_lt_of_le (by decide) hx.1) (hx.2.1 0 (by decide)) rfl hc ?_
      refine t_getI 151 (ab_dd tk_s_count 48 rfl) rfl F_s_121 hk.1 (Nat.lt_of_le_of_lt (Nat.le_add_right c 2) hk.2.1) hk.2.2.1 rfl (x_topx (a 0) cc1 ?_)
      have ex : x = 8 := of_toInt (hc1.trans (by decide))
      have eA : cCt a s t x = a 0 := by
        unfold cCt
        rw [if_neg (by rw [ex]; decide), if_neg (by rw [ex]; decide), if_neg (by rw [ex]; decide), if_neg (by rw [ex]; decide), if_neg (by rw [ex]; decide), if_neg (by rw [ex]; decide), if_neg (by rw [ex]; decide), if_neg (by rw [ex]; decide), if_pos ex]
      rw [eA]
      exact x_iret (ab_dd tk_s_count 49 rfl) ⟨rfl, S, b, st, st2, rfl, fAs.rf, gA.rf, h.up (by omega), ht⟩
  · refine x_tableOut 152 (ab_dd tk_s_count 1 rfl) (by omega) (by decide) ?_
    refine x_iconst 153 (-1) (ab_dd tk_s_count 50 rfl) rfl (by decide) ?_
    have eA : cCt a s t x = -1 := by
      unfold cCt
      rw [if_neg (fun z => hT1 (by rw [z]; decide)), if_neg (fun z => hT1 (by rw [z]; decide)), if_neg (fun z => hT1 (by rw [z]; decide)), if_neg (fun z => hT1 (by rw [z]; decide)), if_neg (fun z => hT1 (by rw [z]; decide)), if_neg (fun z => hT1 (by rw [z]; decide)), if_neg (fun z => hT1 (by rw [z]; decide)), if_neg (fun z => hT1 (by rw [z]; decide)), if_neg (fun z => hT1 (by rw [z]; decide))]
    rw [eA]
    exact x_iret (ab_dd tk_s_count 51 rfl) ⟨rfl, S, b, st, st2, rfl, fAs.rf, gA.rf, h.up (by omega), ht⟩
