theorem rI {x y : Int32} (h : x = y) : some (Value.int x) = some (Value.int y) := by rw [h]
theorem rJ {x y : Int64} (h : x = y) : some (Value.long x) = some (Value.long y) := by rw [h]
/-! ===== fault, count, images, trays of the reference ===== -/
def mFt (S : ab_S) (what : Int32) : Int32 := if what = 0 then sI S 120 13 else if what = 1 then sI S 120 14 else -1
def tb_m_fault : List (Nat × Instr × Nat) := [(0, .aload_n 0, 1), (1, .iconst 0, 1), (2, .putfield 1, 3), (5, .iload_n 1, 1), (6, .ifCond .ne 10, 3), (9, .aload_n 0, 1), (10, .getfield 222, 3), (13, .goto 16, 3), (16, .iload_n 1, 1), (17, .iconst 1, 1), (18, .if_icmp .ne 10, 3), (21, .aload_n 0, 1), (22, .getfield 27, 3), (25, .goto 4, 3), (28, .iconst (-1), 1), (29, .ireturn, 1)]
theorem tk_m_fault : ∀ q ∈ tb_m_fault, decode M_m_fault.2.1 q.1 = .ok q.2 := by decide +kernel
theorem c_m_fault {G : ab_G} {S : ab_S} (hm : mSh S) (what : Int32) : ab_C G 0 M_m_fault [.ref 120, .int what] (sw S) (fun v w' => v = some (.int (mFt S what)) ∧ w' = sw (m0 S)) := by
  refine x_enter [some (.ref 120), some (.int what)] (by decide) (Nat.le_of_ble_eq_true rfl) rfl (fun v w' h => by obtain ⟨rfl, rfl⟩ := h; rfl) ?_
  refine x_aload_n 1 0 (ab_dd tk_m_fault 0 rfl) rfl rfl rfl ?_
  refine x_iconst 2 0 (ab_dd tk_m_fault 1 rfl) rfl (by decide) (x_topn 0 rfl ?_)
  refine t_putI 5 (ab_dd tk_m_fault 2 rfl) rfl F_m_1 (by decide) (Nat.lt_of_lt_of_le (by decide) hm.1) (hm.2.1 0 (by decide)) rfl rfl rfl ?_
  refine x_iload_n 6 1 (ab_dd tk_m_fault 3 rfl) rfl rfl rfl ?_
  refine x_if_ne 9 16 (ab_dd tk_m_fault 4 rfl) rfl (by decide) (fun h6 => ?_) (fun h6 => ?_)
  · refine x_iload_n 17 1 (ab_dd tk_m_fault 8 rfl) rfl rfl rfl ?_
    refine x_iconst 18 1 (ab_dd tk_m_fault 9 rfl) rfl (by decide) (x_topn 1 rfl ?_)
    refine x_icmp_ne 21 28 (ab_dd tk_m_fault 10 rfl) rfl (by decide) (fun h18 => ?_) (fun h18 => ?_)
    · refine x_iconst 29 (-1) (ab_dd tk_m_fault 14 rfl) rfl (by decide) ?_
      exact x_iret (ab_dd tk_m_fault 15 rfl) ⟨by rw [show mFt S what = -1 from (if_neg h6).trans (if_neg h18)], rfl⟩
    · refine x_aload_n 22 0 (ab_dd tk_m_fault 11 rfl) rfl rfl rfl ?_
      refine t_getI 25 (ab_dd tk_m_fault 12 rfl) rfl F_m_27 (by decide) (Nat.lt_of_lt_of_le (by decide) hm.1) (hm.2.1 0 (by decide)) rfl ?_
      refine x_goto 29 (ab_dd tk_m_fault 13 rfl) (by decide) ?_
      exact x_iret (ab_dd tk_m_fault 15 rfl) ⟨by rw [show mFt S what = sI S 120 14 from (if_neg h6).trans (if_pos h18)]; rfl, rfl⟩
  · refine x_aload_n 10 0 (ab_dd tk_m_fault 5 rfl) rfl rfl rfl ?_
    refine t_getI 13 (ab_dd tk_m_fault 6 rfl) rfl F_m_222 (by decide) (Nat.lt_of_lt_of_le (by decide) hm.1) (hm.2.1 0 (by decide)) rfl ?_
    refine x_goto 29 (ab_dd tk_m_fault 7 rfl) (by decide) ?_
    exact x_iret (ab_dd tk_m_fault 15 rfl) ⟨by rw [show mFt S what = sI S 120 13 from if_pos h6]; rfl, rfl⟩
/-- 0, or why there is no such tray -/
def mNt (S : ab_S) (t : Int32) : Int32 := if 0 ≤ t ∧ t ≤ 3 then (if sI S 142 (cN t) = -1 then -6 else 0) else -2
def tb_m_noTray : List (Nat × Instr × Nat) := [(0, .iload_n 1, 1), (1, .i2l, 1), (2, .lconst 0, 1), (3, .ldc2_w 303, 3), (6, .invokestatic 159, 3), (9, .ifCond .ne 8, 3), (12, .bipush (-2), 2), (14, .goto 19, 3), (17, .aload_n 0, 1), (18, .getfield 84, 3), (21, .iload_n 1, 1), (22, .iaload, 1), (23, .iconst (-1), 1), (24, .if_icmp .ne 8, 3), (27, .bipush (-6), 2), (29, .goto 4, 3), (32, .iconst 0, 1), (33, .ireturn, 1)]
theorem tk_m_noTray : ∀ q ∈ tb_m_noTray, decode M_m_noTray.2.1 q.1 = .ok q.2 := by decide +kernel
theorem c_m_noTray {G : ab_G} {S : ab_S} (hm : mSh S) (t : Int32) : ab_C G 1 M_m_noTray [.ref 120, .int t] (sw S) (fun v w' => v = some (.int (mNt S t)) ∧ w' = sw S) := by
  refine x_enter [some (.ref 120), some (.int t)] (by decide) (Nat.le_of_ble_eq_true rfl) rfl (fun v w' h => by obtain ⟨rfl, rfl⟩ := h; rfl) ?_
  refine x_iload_n 1 1 (ab_dd tk_m_noTray 0 rfl) rfl rfl rfl ?_
  refine x_i2l 2 (ab_dd tk_m_noTray 1 rfl) rfl ?_
  refine x_lconst 3 0 (ab_dd tk_m_noTray 2 rfl) rfl (by decide) ?_
  refine x_ldc2 6 (ab_dd tk_m_noTray 3 rfl) rfl C_m_303 ?_
  refine x_callS 9 M_m_within 0 3 [_, _, _] (ab_dd tk_m_noTray 4 rfl) rfl (by decide) K_m_within T_m_within L_m_159 rfl (Nat.le_of_ble_eq_true rfl) (w_inI 0 3 rfl rfl _) (fun v1 w1 h1 => ?_)
  obtain ⟨rfl, rfl⟩ := h1
  refine xb_if_ne 12 17 (ab_dd tk_m_noTray 5 rfl) rfl (by decide) (fun h9 => ?_) (fun h9 => ?_)
  · obtain ⟨q, hq, et, eq⟩ := in_get (n := 3) (by decide) h9
    refine x_aload_n 18 0 (ab_dd tk_m_noTray 8 rfl) rfl rfl rfl ?_
    refine t_getP 21 142 (ab_dd tk_m_noTray 9 rfl) rfl F_m_84 (by decide) (Nat.lt_of_lt_of_le (by decide) hm.1) (hm.2.1 0 (by decide)) rfl (hm.2.2 42 (by decide)) ?_
    refine x_iload_n 22 1 (ab_dd tk_m_noTray 10 rfl) rfl rfl rfl ?_
    refine t_iald 23 q (ab_dd tk_m_noTray 11 rfl) rfl (by decide) (Nat.lt_of_lt_of_le (by decide) hm.1) (hm.2.1 22 (by decide)) et (by omega) (by decide) ?_
    refine x_iconst 24 (-1) (ab_dd tk_m_noTray 12 rfl) rfl (by decide) ?_
    refine x_icmp_ne 27 32 (ab_dd tk_m_noTray 13 rfl) rfl (by decide) (fun h24 => ?_) (fun h24 => ?_)
    · refine x_iconst 33 0 (ab_dd tk_m_noTray 16 rfl) rfl (by decide) (x_topn 0 rfl ?_)
      exact x_iret (ab_dd tk_m_noTray 17 rfl) ⟨rI ((if_pos h9).trans (if_neg (by rw [eq]; exact h24))).symm, rfl⟩
    · refine x_bipush 29 (-6) (ab_dd tk_m_noTray 14 rfl) rfl (by decide) ?_
      refine x_goto 33 (ab_dd tk_m_noTray 15 rfl) (by decide) ?_
      exact x_iret (ab_dd tk_m_noTray 17 rfl) ⟨by rw [show mNt S t = -6 from (if_pos h9).trans (if_pos (by rw [eq]; exact h24))], rfl⟩
  · refine x_bipush 14 (-2) (ab_dd tk_m_noTray 6 rfl) rfl (by decide) ?_
    refine x_goto 33 (ab_dd tk_m_noTray 7 rfl) (by decide) ?_
    exact x_iret (ab_dd tk_m_noTray 17 rfl) ⟨by rw [show mNt S t = -2 from if_neg h9], rfl⟩
def mCut (v : Int64) (s : Int32) : Int64 := if s = 0 then v.toInt32.toInt8.toInt32.toInt64 else if s = 1 then v.toInt32.toInt16.toInt32.toInt64 else if s = 2 then v.toInt32.toInt64 else v
def tb_m_cut : List (Nat × Instr × Nat) := [(0, .iload_n 2, 1), (1, .ifCond .ne 10, 3), (4, .lload_n 0, 1), (5, .l2i, 1), (6, .i2b, 1), (7, .i2l, 1), (8, .goto 27, 3), (11, .iload_n 2, 1), (12, .iconst 1, 1), (13, .if_icmp .ne 10, 3), (16, .lload_n 0, 1), (17, .l2i, 1), (18, .i2s, 1), (19, .i2l, 1), (20, .goto 15, 3), (23, .iload_n 2, 1), (24, .iconst 2, 1), (25, .if_icmp .ne 9, 3), (28, .lload_n 0, 1), (29, .l2i, 1), (30, .i2l, 1), (31, .goto 4, 3), (34, .lload_n 0, 1), (35, .lreturn, 1)]
theorem tk_m_cut : ∀ q ∈ tb_m_cut, decode M_m_cut.2.1 q.1 = .ok q.2 := by decide +kernel
theorem c_m_cut {G : ab_G} {S : ab_S} (v : Int64) (s : Int32) : ab_C G 0 M_m_cut [.long v, .int s] (sw S) (fun r w' => r = some (.long (mCut v s)) ∧ w' = sw S) := by
  refine x_enter [some (.long v), none, some (.int s)] (by decide) (Nat.le_of_ble_eq_true rfl) rfl (fun v w' h => by obtain ⟨rfl, rfl⟩ := h; trivial) ?_
  refine x_iload_n 1 2 (ab_dd tk_m_cut 0 rfl) rfl rfl rfl ?_
  refine x_if_ne 4 11 (ab_dd tk_m_cut 1 rfl) rfl (by decide) (fun h1 => ?_) (fun h1 => ?_)
  · refine x_iload_n 12 2 (ab_dd tk_m_cut 7 rfl) rfl rfl rfl ?_
    refine x_iconst 13 1 (ab_dd tk_m_cut 8 rfl) rfl (by decide) (x_topn 1 rfl ?_)
    refine x_icmp_ne 16 23 (ab_dd tk_m_cut 9 rfl) rfl (by decide) (fun h13 => ?_) (fun h13 => ?_)
    · refine x_iload_n 24 2 (ab_dd tk_m_cut 15 rfl) rfl rfl rfl ?_
      refine x_iconst 25 2 (ab_dd tk_m_cut 16 rfl) rfl (by decide) (x_topn 2 rfl ?_)
      refine x_icmp_ne 28 34 (ab_dd tk_m_cut 17 rfl) rfl (by decide) (fun h25 => ?_) (fun h25 => ?_)
      · refine x_lload_n 35 0 (ab_dd tk_m_cut 22 rfl) rfl rfl rfl ?_
        exact x_lret (ab_dd tk_m_cut 23 rfl) ⟨by rw [show mCut v s = _ from (if_neg h1).trans ((if_neg h13).trans (if_neg h25))], rfl⟩
      · refine x_lload_n 29 0 (ab_dd tk_m_cut 18 rfl) rfl rfl rfl ?_
        refine x_l2i 30 (ab_dd tk_m_cut 19 rfl) rfl ?_
        refine x_i2l 31 (ab_dd tk_m_cut 20 rfl) rfl ?_
        refine x_goto 35 (ab_dd tk_m_cut 21 rfl) (by decide) ?_
        exact x_lret (ab_dd tk_m_cut 23 rfl) ⟨by rw [show mCut v s = _ from (if_neg h1).trans ((if_neg h13).trans (if_pos h25))], rfl⟩
    · refine x_lload_n 17 0 (ab_dd tk_m_cut 10 rfl) rfl rfl rfl ?_
      refine x_l2i 18 (ab_dd tk_m_cut 11 rfl) rfl ?_
      refine x_i2s 19 (ab_dd tk_m_cut 12 rfl) rfl ?_
      refine x_i2l 20 (ab_dd tk_m_cut 13 rfl) rfl ?_
      refine x_goto 35 (ab_dd tk_m_cut 14 rfl) (by decide) ?_
      exact x_lret (ab_dd tk_m_cut 23 rfl) ⟨by rw [show mCut v s = _ from (if_neg h1).trans (if_pos h13)], rfl⟩
  · refine x_lload_n 5 0 (ab_dd tk_m_cut 2 rfl) rfl rfl rfl ?_
    refine x_l2i 6 (ab_dd tk_m_cut 3 rfl) rfl ?_
    refine x_i2b 7 (ab_dd tk_m_cut 4 rfl) rfl ?_
    refine x_i2l 8 (ab_dd tk_m_cut 5 rfl) rfl ?_
    refine x_goto 35 (ab_dd tk_m_cut 6 rfl) (by decide) ?_
    exact x_lret (ab_dd tk_m_cut 23 rfl) ⟨by rw [show mCut v s = _ from if_pos h1], rfl⟩
/-- which riders sit elsewhere -/
def mEl (a : Nat → Int32) : Nat → Int32
  | 0 => 0
  | k + 1 => mEl a k ||| (if a (36 + k) = nI k then (0 : Int32) else (1 : Int32) <<< (nI k &&& 31))
def tb_m_elsewhere : List (Nat × Instr × Nat) := [(0, .iconst 0, 1), (1, .istore_n 1, 1), (2, .iconst 0, 1), (3, .istore_n 2, 1), (4, .iload_n 2, 1), (5, .aload_n 0, 1), (6, .getfield 13, 3), (9, .iconst 1, 1), (10, .iaload, 1), (11, .if_icmp .ge 32, 3), (14, .iload_n 1, 1), (15, .aload_n 0, 1), (16, .getfield 13, 3), (19, .bipush 36, 2), (21, .iload_n 2, 1), (22, .iadd, 1), (23, .iaload, 1), (24, .iload_n 2, 1), (25, .if_icmp .ne 7, 3), (28, .iconst 0, 1), (29, .goto 6, 3), (32, .iconst 1, 1), (33, .iload_n 2, 1), (34, .ishl, 1), (35, .ior, 1), (36, .istore_n 1, 1), (37, .iinc 2 1, 3), (40, .goto (-36), 3), (43, .iload_n 1, 1), (44, .ireturn, 1)]
theorem tk_m_elsewhere : ∀ q ∈ tb_m_elsewhere, decode M_m_elsewhere.2.1 q.1 = .ok q.2 := by decide +kernel
theorem c_m_elsewhere {G : ab_G} {S : ab_S} (hm : mSh S) (hv : mV S) : ab_C G 0 M_m_elsewhere [.ref 120] (sw S) (fun v w' => v = some (.int (mEl (mA S) (mR S))) ∧ w' = sw S) := by
  have hR4 := hv.1.2
  have hR : sI S 121 1 = nI (mR S) := hv.1.1
  have loop : ∀ (m k : Nat), k + m = mR S → ab_Ex G 0 M_m_elsewhere 4 [some (.ref 120), some (.int (mEl (mA S) k)), some (.int (nI k))] [] (sw S) (fun v w' => v = some (.int (mEl (mA S) (mR S))) ∧ w' = sw S) := by
    intro m
    induction m with
    | zero =>
      intro k hk
      refine x_iload_n 5 2 (ab_dd tk_m_elsewhere 4 rfl) rfl rfl rfl ?_
      refine x_aload_n 6 0 (ab_dd tk_m_elsewhere 5 rfl) rfl rfl rfl ?_
      refine t_getP 9 121 (ab_dd tk_m_elsewhere 6 rfl) rfl F_m_13 (by decide) (Nat.lt_of_lt_of_le (by decide) hm.1) (hm.2.1 0 (by decide)) rfl (hm.2.2 1 (by decide)) ?_
      refine x_iconst 10 1 (ab_dd tk_m_elsewhere 7 rfl) rfl (by decide) (x_topn 1 rfl ?_)
      refine t_iald 11 1 (ab_dd tk_m_elsewhere 8 rfl) rfl (by decide) (Nat.lt_of_lt_of_le (by decide) hm.1) (hm.2.1 1 (by decide)) rfl (by decide) (by decide) (x_topn (mR S) hR ?_)
      refine x_icmp_ge_t 43 (ab_dd tk_m_elsewhere 9 rfl) (by decide) ((nI_leI (a := (mR S)) (b := k) (by omega) (by omega)).mpr (show (mR S) ≤ k by omega)) ?_
      refine x_iload_n 44 1 (ab_dd tk_m_elsewhere 28 rfl) rfl rfl rfl ?_
      exact x_iret (ab_dd tk_m_elsewhere 29 rfl) ⟨by rw [show k = mR S by omega], rfl⟩
    | succ m ih =>
      intro k hk
      refine x_iload_n 5 2 (ab_dd tk_m_elsewhere 4 rfl) rfl rfl rfl ?_
      refine x_aload_n 6 0 (ab_dd tk_m_elsewhere 5 rfl) rfl rfl rfl ?_
      refine t_getP 9 121 (ab_dd tk_m_elsewhere 6 rfl) rfl F_m_13 (by decide) (Nat.lt_of_lt_of_le (by decide) hm.1) (hm.2.1 0 (by decide)) rfl (hm.2.2 1 (by decide)) ?_
      refine x_iconst 10 1 (ab_dd tk_m_elsewhere 7 rfl) rfl (by decide) (x_topn 1 rfl ?_)
      refine t_iald 11 1 (ab_dd tk_m_elsewhere 8 rfl) rfl (by decide) (Nat.lt_of_lt_of_le (by decide) hm.1) (hm.2.1 1 (by decide)) rfl (by decide) (by decide) (x_topn (mR S) hR ?_)
      refine x_icmp_ge_f 14 (ab_dd tk_m_elsewhere 9 rfl) rfl 43 (by decide) (fun z => absurd ((nI_leI (a := (mR S)) (b := k) (by omega) (by omega)).mp z) (show ¬ ((mR S) ≤ k) by omega)) ?_
      refine x_iload_n 15 1 (ab_dd tk_m_elsewhere 10 rfl) rfl rfl rfl ?_
      refine x_aload_n 16 0 (ab_dd tk_m_elsewhere 11 rfl) rfl rfl rfl ?_
      refine t_getP 19 121 (ab_dd tk_m_elsewhere 12 rfl) rfl F_m_13 (by decide) (Nat.lt_of_lt_of_le (by decide) hm.1) (hm.2.1 0 (by decide)) rfl (hm.2.2 1 (by decide)) ?_
      refine x_bipush 21 36 (ab_dd tk_m_elsewhere 13 rfl) rfl (by decide) (x_topn 36 rfl ?_)
      refine x_iload_n 22 2 (ab_dd tk_m_elsewhere 14 rfl) rfl rfl rfl ?_
      refine x_iadd 23 (ab_dd tk_m_elsewhere 15 rfl) rfl (x_topn (36 + k) (nI_add _ _) ?_)
      refine t_iald 24 (36 + k) (ab_dd tk_m_elsewhere 16 rfl) rfl (by decide) (Nat.lt_of_lt_of_le (by decide) hm.1) (hm.2.1 1 (by decide)) rfl (by omega) (by decide) ?_
      refine x_iload_n 25 2 (ab_dd tk_m_elsewhere 17 rfl) rfl rfl rfl ?_
      refine x_icmp_ne 28 32 (ab_dd tk_m_elsewhere 18 rfl) rfl (by decide) (fun h25 => ?_) (fun h25 => ?_)
      · refine x_iconst 33 1 (ab_dd tk_m_elsewhere 21 rfl) rfl (by decide) (x_topn 1 rfl ?_)
        refine x_iload_n 34 2 (ab_dd tk_m_elsewhere 22 rfl) rfl rfl rfl ?_
        refine x_ishl 35 (ab_dd tk_m_elsewhere 23 rfl) rfl ?_
        refine x_ior 36 (ab_dd tk_m_elsewhere 24 rfl) rfl ?_
        refine x_topi (fun v1 ev1 => ?_)
        refine x_istore_n 37 [some (.ref 120), some (.int v1), some (.int (nI k))] 1 (ab_dd tk_m_elsewhere 25 rfl) rfl rfl (by decide) rfl ?_
        refine xn_iinc 40 2 (fun y => [some (.ref 120), some (.int v1), some (.int y)]) (k + 1) (ab_dd tk_m_elsewhere 26 rfl) rfl (by decide) rfl (fun _ => rfl) (iinc_p 1) ?_
        refine x_goto 4 (ab_dd tk_m_elsewhere 27 rfl) (by decide) ?_
        obtain rfl : v1 = mEl (mA S) (k + 1) := ev1.trans (by show _ = mEl (mA S) k ||| _; rw [if_neg h25]; rfl)
        exact ih (k + 1) (by omega)
      · refine x_iconst 29 0 (ab_dd tk_m_elsewhere 19 rfl) rfl (by decide) (x_topn 0 rfl ?_)
        refine x_goto 35 (ab_dd tk_m_elsewhere 20 rfl) (by decide) ?_
        refine x_ior 36 (ab_dd tk_m_elsewhere 24 rfl) rfl ?_
        refine x_topi (fun v2 ev2 => ?_)
        refine x_istore_n 37 [some (.ref 120), some (.int v2), some (.int (nI k))] 1 (ab_dd tk_m_elsewhere 25 rfl) rfl rfl (by decide) rfl ?_
        refine xn_iinc 40 2 (fun y => [some (.ref 120), some (.int v2), some (.int y)]) (k + 1) (ab_dd tk_m_elsewhere 26 rfl) rfl (by decide) rfl (fun _ => rfl) (iinc_p 1) ?_
        refine x_goto 4 (ab_dd tk_m_elsewhere 27 rfl) (by decide) ?_
        obtain rfl : v2 = mEl (mA S) (k + 1) := ev2.trans (by show _ = mEl (mA S) k ||| _; rw [if_pos h25]; rfl)
        exact ih (k + 1) (by omega)
  refine x_enter [some (.ref 120), none, none] (by decide) (Nat.le_of_ble_eq_true rfl) rfl (fun v w' h => by obtain ⟨rfl, rfl⟩ := h; rfl) ?_
  refine x_iconst 1 0 (ab_dd tk_m_elsewhere 0 rfl) rfl (by decide) (x_topn 0 rfl ?_)
  refine x_istore_n 2 [some (.ref 120), some (.int (nI 0)), none] 1 (ab_dd tk_m_elsewhere 1 rfl) rfl rfl (by decide) rfl ?_
  refine x_iconst 3 0 (ab_dd tk_m_elsewhere 2 rfl) rfl (by decide) (x_topn 0 rfl ?_)
  refine x_istore_n 4 [some (.ref 120), some (.int (nI 0)), some (.int (nI 0))] 2 (ab_dd tk_m_elsewhere 3 rfl) rfl rfl (by decide) rfl ?_
  exact loop (mR S) 0 (by omega)
def mCt (S : ab_S) (what : Int32) : Int32 := if what = 0 then mA S 1 else if what = 1 then mA S 40 else if what = 2 then nI (mSu (mEn S (mR S)) (mR S)) else if what = 3 then (if mR S = 0 then -1 else nI (mLe (mEn S (mR S)) (mR S))) else if what = 4 then mEl (mA S) (mR S) else if what = 5 then mA S 41 else if what = 6 then mA S 42 else if what = 7 then sI S 120 5 else if what = 8 then mA S 0 else -1
def tb_m_count : List (Nat × Instr × Nat) := [(0, .aload_n 0, 1), (1, .iconst 0, 1), (2, .putfield 1, 3), (5, .iload_n 1, 1), (6, .tableswitch 129 0 8 #[50, 57, 65, 74, 96, 101, 109, 117, 122], 50), (56, .aload_n 0, 1), (57, .getfield 13, 3), (60, .iconst 1, 1), (61, .iaload, 1), (62, .ireturn, 1), (63, .aload_n 0, 1), (64, .getfield 13, 3), (67, .bipush 40, 2), (69, .iaload, 1), (70, .ireturn, 1), (71, .aload_n 0, 1), (72, .aload_n 0, 1), (73, .invokevirtual 266, 3), (76, .invokevirtual 334, 3), (79, .ireturn, 1), (80, .aload_n 0, 1), (81, .getfield 13, 3), (84, .iconst 1, 1), (85, .iaload, 1), (86, .ifCond .ne 7, 3), (89, .iconst (-1), 1), (90, .goto 11, 3), (93, .aload_n 0, 1), (94, .aload_n 0, 1), (95, .invokevirtual 266, 3), (98, .invokevirtual 288, 3), (101, .ireturn, 1), (102, .aload_n 0, 1), (103, .invokevirtual 479, 3), (106, .ireturn, 1), (107, .aload_n 0, 1), (108, .getfield 13, 3), (111, .bipush 41, 2), (113, .iaload, 1), (114, .ireturn, 1), (115, .aload_n 0, 1), (116, .getfield 13, 3), (119, .bipush 42, 2), (121, .iaload, 1), (122, .ireturn, 1), (123, .aload_n 0, 1), (124, .getfield 97, 3), (127, .ireturn, 1), (128, .aload_n 0, 1), (129, .getfield 13, 3), (132, .iconst 0, 1), (133, .iaload, 1), (134, .ireturn, 1), (135, .iconst (-1), 1), (136, .ireturn, 1)]
theorem tk_m_count : ∀ q ∈ tb_m_count, decode M_m_count.2.1 q.1 = .ok q.2 := by decide +kernel
theorem c_m_count {G : ab_G} {S : ab_S} (hm : mSh S) (hv : mV S) (hp : mPe S) (what : Int32) : ab_C G 3 M_m_count [.ref 120, .int what] (sw S) (fun v w' => v = some (.int (mCt (m0 S) what)) ∧ w' = sw (m0 S)) := by
  refine x_enter [some (.ref 120), some (.int what)] (by decide) (Nat.le_of_ble_eq_true rfl) rfl (fun v w' h => by obtain ⟨rfl, rfl⟩ := h; rfl) ?_
  have hm0 : mSh (m0 S) := hm
  have hv0 : mV (m0 S) := hv
  have hp0 : mPe (m0 S) := hp
  have hR4 : mR (m0 S) ≤ 4 := hv0.1.2
  have hR : sI (m0 S) 121 1 = nI (mR (m0 S)) := hv0.1.1
  refine x_aload_n 1 0 (ab_dd tk_m_count 0 rfl) rfl rfl rfl ?_
  refine x_iconst 2 0 (ab_dd tk_m_count 1 rfl) rfl (by decide) (x_topn 0 rfl ?_)
  refine t_putI 5 (ab_dd tk_m_count 2 rfl) rfl F_m_1 (by decide) (Nat.lt_of_lt_of_le (by decide) hm0.1) (hm0.2.1 0 (by decide)) rfl rfl rfl ?_
  refine x_iload_n 6 1 (ab_dd tk_m_count 3 rfl) rfl rfl rfl ?_
  by_cases hT6 : (0 : Int) ≤ Int32.toInt what ∧ Int32.toInt what ≤ (8 : Int)
  · have hc6 : Int32.toInt what = (0 : Int) ∨ Int32.toInt what = (1 : Int) ∨ Int32.toInt what = (2 : Int) ∨ Int32.toInt what = (3 : Int) ∨ Int32.toInt what = (4 : Int) ∨ Int32.toInt what = (5 : Int) ∨ Int32.toInt what = (6 : Int) ∨ Int32.toInt what = (7 : Int) ∨ Int32.toInt what = (8 : Int) := by omega
    rcases hc6 with hc6 | hc6 | hc6 | hc6 | hc6 | hc6 | hc6 | hc6 | hc6
    · refine x_tableIn 56 (ab_dd tk_m_count 4 rfl) (by omega) (by omega) (by rw [hc6]; rfl) (by decide) ?_
      refine x_aload_n 57 0 (ab_dd tk_m_count 5 rfl) rfl rfl rfl ?_
      refine t_getP 60 121 (ab_dd tk_m_count 6 rfl) rfl F_m_13 (by decide) (Nat.lt_of_lt_of_le (by decide) hm0.1) (hm0.2.1 0 (by decide)) rfl (hm0.2.2 1 (by decide)) ?_
      refine x_iconst 61 1 (ab_dd tk_m_count 7 rfl) rfl (by decide) (x_topn 1 rfl ?_)
      refine t_iald 62 1 (ab_dd tk_m_count 8 rfl) rfl (by decide) (Nat.lt_of_lt_of_le (by decide) hm0.1) (hm0.2.1 1 (by decide)) rfl (by decide) (by decide) ?_
      exact x_iret (ab_dd tk_m_count 9 rfl) ⟨by obtain rfl : what = 0 := of_toInt hc6; rfl, rfl⟩
    · refine x_tableIn 63 (ab_dd tk_m_count 4 rfl) (by omega) (by omega) (by rw [hc6]; rfl) (by decide) ?_
      refine x_aload_n 64 0 (ab_dd tk_m_count 10 rfl) rfl rfl rfl ?_
      refine t_getP 67 121 (ab_dd tk_m_count 11 rfl) rfl F_m_13 (by decide) (Nat.lt_of_lt_of_le (by decide) hm0.1) (hm0.2.1 0 (by decide)) rfl (hm0.2.2 1 (by decide)) ?_
      refine x_bipush 69 40 (ab_dd tk_m_count 12 rfl) rfl (by decide) (x_topn 40 rfl ?_)
      refine t_iald 70 40 (ab_dd tk_m_count 13 rfl) rfl (by decide) (Nat.lt_of_lt_of_le (by decide) hm0.1) (hm0.2.1 1 (by decide)) rfl (by decide) (by decide) ?_
      exact x_iret (ab_dd tk_m_count 14 rfl) ⟨by obtain rfl : what = 1 := of_toInt hc6; rfl, rfl⟩
    · refine x_tableIn 71 (ab_dd tk_m_count 4 rfl) (by omega) (by omega) (by rw [hc6]; rfl) (by decide) ?_
      refine x_aload_n 72 0 (ab_dd tk_m_count 15 rfl) rfl rfl rfl ?_
      refine x_aload_n 73 0 (ab_dd tk_m_count 16 rfl) rfl rfl rfl ?_
      refine t_callV 76 M_m_standNow 1 0 [] (ab_dd tk_m_count 17 rfl) rfl (by decide) K_m_standNow V_m_standNow.1 V_m_standNow.2 L_m_266 rfl (Nat.le_of_ble_eq_true rfl) (by decide) (Nat.lt_of_lt_of_le (by decide) hm0.1) (hm0.2.1 0 (by decide)) rfl (c_m_standNow hm0 hv0) (fun v1 w1 h1 => ?_)
      obtain ⟨rfl, rfl⟩ := h1
      refine t_callV 79 M_m_sumIn 2 1 [_] (ab_dd tk_m_count 18 rfl) rfl (by decide) K_m_sumIn V_m_sumIn.1 V_m_sumIn.2 L_m_334 rfl (Nat.le_of_ble_eq_true rfl) (by decide) (Nat.lt_of_lt_of_le (by decide) hm0.1) (hm0.2.1 0 (by decide)) rfl (c_m_sumIn hm0 hv0 (mEn (m0 S) (mR (m0 S))) (mEn_ok hv0 hp0).1) (fun v1 w1 h1 => ?_)
      obtain ⟨rfl, rfl⟩ := h1
      exact x_iret (ab_dd tk_m_count 19 rfl) ⟨by obtain rfl : what = 2 := of_toInt hc6; rfl, rfl⟩
    · refine x_tableIn 80 (ab_dd tk_m_count 4 rfl) (by omega) (by omega) (by rw [hc6]; rfl) (by decide) ?_
      refine x_aload_n 81 0 (ab_dd tk_m_count 20 rfl) rfl rfl rfl ?_
      refine t_getP 84 121 (ab_dd tk_m_count 21 rfl) rfl F_m_13 (by decide) (Nat.lt_of_lt_of_le (by decide) hm0.1) (hm0.2.1 0 (by decide)) rfl (hm0.2.2 1 (by decide)) ?_
      refine x_iconst 85 1 (ab_dd tk_m_count 22 rfl) rfl (by decide) (x_topn 1 rfl ?_)
      refine t_iald 86 1 (ab_dd tk_m_count 23 rfl) rfl (by decide) (Nat.lt_of_lt_of_le (by decide) hm0.1) (hm0.2.1 1 (by decide)) rfl (by decide) (by decide) (x_topn (mR (m0 S)) hR ?_)
      refine xn_if_ne 89 93 (ab_dd tk_m_count 24 rfl) rfl (by decide) (by omega) (fun h86 => ?_) (fun h86 => ?_)
      · refine x_aload_n 94 0 (ab_dd tk_m_count 27 rfl) rfl rfl rfl ?_
        refine x_aload_n 95 0 (ab_dd tk_m_count 28 rfl) rfl rfl rfl ?_
        refine t_callV 98 M_m_standNow 1 0 [] (ab_dd tk_m_count 29 rfl) rfl (by decide) K_m_standNow V_m_standNow.1 V_m_standNow.2 L_m_266 rfl (Nat.le_of_ble_eq_true rfl) (by decide) (Nat.lt_of_lt_of_le (by decide) hm0.1) (hm0.2.1 0 (by decide)) rfl (c_m_standNow hm0 hv0) (fun v1 w1 h1 => ?_)
        obtain ⟨rfl, rfl⟩ := h1
        refine t_callV 101 M_m_leastIn 2 1 [_] (ab_dd tk_m_count 30 rfl) rfl (by decide) K_m_leastIn V_m_leastIn.1 V_m_leastIn.2 L_m_288 rfl (Nat.le_of_ble_eq_true rfl) (by decide) (Nat.lt_of_lt_of_le (by decide) hm0.1) (hm0.2.1 0 (by decide)) rfl (c_m_leastIn hm0 hv0 (mEn (m0 S) (mR (m0 S))) (mEn_ok hv0 hp0).1) (fun v1 w1 h1 => ?_)
        obtain ⟨rfl, rfl⟩ := h1
        exact x_iret (ab_dd tk_m_count 31 rfl) ⟨by obtain rfl : what = 3 := of_toInt hc6; show _ = some (Value.int (if mR (m0 S) = 0 then _ else _)); rw [if_neg (by omega)], rfl⟩
      · refine x_iconst 90 (-1) (ab_dd tk_m_count 25 rfl) rfl (by decide) ?_
        refine x_goto 101 (ab_dd tk_m_count 26 rfl) (by decide) ?_
        exact x_iret (ab_dd tk_m_count 31 rfl) ⟨by obtain rfl : what = 3 := of_toInt hc6; show _ = some (Value.int (if mR (m0 S) = 0 then _ else _)); rw [if_pos h86], rfl⟩
    · refine x_tableIn 102 (ab_dd tk_m_count 4 rfl) (by omega) (by omega) (by rw [hc6]; rfl) (by decide) ?_
      refine x_aload_n 103 0 (ab_dd tk_m_count 32 rfl) rfl rfl rfl ?_
      refine t_callV 106 M_m_elsewhere 0 0 [] (ab_dd tk_m_count 33 rfl) rfl (by decide) K_m_elsewhere V_m_elsewhere.1 V_m_elsewhere.2 L_m_479 rfl (Nat.le_of_ble_eq_true rfl) (by decide) (Nat.lt_of_lt_of_le (by decide) hm0.1) (hm0.2.1 0 (by decide)) rfl (c_m_elsewhere hm0 hv0) (fun v1 w1 h1 => ?_)
      obtain ⟨rfl, rfl⟩ := h1
      exact x_iret (ab_dd tk_m_count 34 rfl) ⟨by obtain rfl : what = 4 := of_toInt hc6; rfl, rfl⟩
    · refine x_tableIn 107 (ab_dd tk_m_count 4 rfl) (by omega) (by omega) (by rw [hc6]; rfl) (by decide) ?_
      refine x_aload_n 108 0 (ab_dd tk_m_count 35 rfl) rfl rfl rfl ?_
      refine t_getP 111 121 (ab_dd tk_m_count 36 rfl) rfl F_m_13 (by decide) (Nat.lt_of_lt_of_le (by decide) hm0.1) (hm0.2.1 0 (by decide)) rfl (hm0.2.2 1 (by decide)) ?_
      refine x_bipush 113 41 (ab_dd tk_m_count 37 rfl) rfl (by decide) (x_topn 41 rfl ?_)
      refine t_iald 114 41 (ab_dd tk_m_count 38 rfl) rfl (by decide) (Nat.lt_of_lt_of_le (by decide) hm0.1) (hm0.2.1 1 (by decide)) rfl (by decide) (by decide) ?_
      exact x_iret (ab_dd tk_m_count 39 rfl) ⟨by obtain rfl : what = 5 := of_toInt hc6; rfl, rfl⟩
    · refine x_tableIn 115 (ab_dd tk_m_count 4 rfl) (by omega) (by omega) (by rw [hc6]; rfl) (by decide) ?_
      refine x_aload_n 116 0 (ab_dd tk_m_count 40 rfl) rfl rfl rfl ?_
      refine t_getP 119 121 (ab_dd tk_m_count 41 rfl) rfl F_m_13 (by decide) (Nat.lt_of_lt_of_le (by decide) hm0.1) (hm0.2.1 0 (by decide)) rfl (hm0.2.2 1 (by decide)) ?_
      refine x_bipush 121 42 (ab_dd tk_m_count 42 rfl) rfl (by decide) (x_topn 42 rfl ?_)
      refine t_iald 122 42 (ab_dd tk_m_count 43 rfl) rfl (by decide) (Nat.lt_of_lt_of_le (by decide) hm0.1) (hm0.2.1 1 (by decide)) rfl (by decide) (by decide) ?_
      exact x_iret (ab_dd tk_m_count 44 rfl) ⟨by obtain rfl : what = 6 := of_toInt hc6; rfl, rfl⟩
    · refine x_tableIn 123 (ab_dd tk_m_count 4 rfl) (by omega) (by omega) (by rw [hc6]; rfl) (by decide) ?_
      refine x_aload_n 124 0 (ab_dd tk_m_count 45 rfl) rfl rfl rfl ?_
      refine t_getI 127 (ab_dd tk_m_count 46 rfl) rfl F_m_97 (by decide) (Nat.lt_of_lt_of_le (by decide) hm0.1) (hm0.2.1 0 (by decide)) rfl ?_
      exact x_iret (ab_dd tk_m_count 47 rfl) ⟨by obtain rfl : what = 7 := of_toInt hc6; rfl, rfl⟩
    · refine x_tableIn 128 (ab_dd tk_m_count 4 rfl) (by omega) (by omega) (by rw [hc6]; rfl) (by decide) ?_
      refine x_aload_n 129 0 (ab_dd tk_m_count 48 rfl) rfl rfl rfl ?_
      refine t_getP 132 121 (ab_dd tk_m_count 49 rfl) rfl F_m_13 (by decide) (Nat.lt_of_lt_of_le (by decide) hm0.1) (hm0.2.1 0 (by decide)) rfl (hm0.2.2 1 (by decide)) ?_
      refine x_iconst 133 0 (ab_dd tk_m_count 50 rfl) rfl (by decide) (x_topn 0 rfl ?_)
      refine t_iald 134 0 (ab_dd tk_m_count 51 rfl) rfl (by decide) (Nat.lt_of_lt_of_le (by decide) hm0.1) (hm0.2.1 1 (by decide)) rfl (by decide) (by decide) ?_
      exact x_iret (ab_dd tk_m_count 52 rfl) ⟨by obtain rfl : what = 8 := of_toInt hc6; rfl, rfl⟩
  · refine x_tableOut 135 (ab_dd tk_m_count 4 rfl) (by omega) (by decide) ?_
    refine x_iconst 136 (-1) (ab_dd tk_m_count 53 rfl) rfl (by decide) ?_
    exact x_iret (ab_dd tk_m_count 54 rfl) ⟨by rw [show mCt (m0 S) what = -1 from ?_]; unfold mCt; rw [if_neg (fun e => hT6 (by rw [e]; decide))]; rw [if_neg (fun e => hT6 (by rw [e]; decide))]; rw [if_neg (fun e => hT6 (by rw [e]; decide))]; rw [if_neg (fun e => hT6 (by rw [e]; decide))]; rw [if_neg (fun e => hT6 (by rw [e]; decide))]; rw [if_neg (fun e => hT6 (by rw [e]; decide))]; rw [if_neg (fun e => hT6 (by rw [e]; decide))]; rw [if_neg (fun e => hT6 (by rw [e]; decide))]; rw [if_neg (fun e => hT6 (by rw [e]; decide))], rfl⟩
