/-! ===== told deeds of the reference ===== -/
/-- why a deed can't be; 0 -/
def aDw (a : Nat → Int32) (u : Nat) : Nat := if u ≤ 3 then aY a (a 40) (aE a) u else if u < 10 then 1 else if u ≤ 19 then (if u - 10 < aR a then 0 else 1) else if u ≤ 29 then 0 else if u < 100 then 1 else if u ≤ 199 then (if (u - 100) / 10 < aR a ∧ u % 10 < aR a ∧ (u - 100) / 10 ≠ u % 10 then 0 else 1) else 1
def jW (v : Int64) : Nat := v.toInt.toNat
def aWy (a : Nat → Int32) (v : Int64) : Nat := if 0 ≤ v ∧ v ≤ 199 then aDw a (jW v) else 1
/-- the row behind a deed -/
def aDo (a : Nat → Int32) (u : Nat) : Nat → Int32 := if u < 4 then aGo a u else if u < 20 then up1 a (32 + u - 10) 4 else if u < 30 then up1 a 40 (nI (u - 20)) else mGiv a ((u - 100) / 10) (u % 10)
theorem jW_N {u : Nat} (h : u < 2 ^ 31) : jW (lN u) = u := by unfold jW; rw [lN_toInt h]; rfl
theorem jW_get {v : Int64} {n : Nat} (hn : n < 2 ^ 31) (h : 0 ≤ v ∧ v ≤ lN n) : ∃ u, u ≤ n ∧ v = lN u ∧ jW v = u := by
  obtain ⟨k, hk, e⟩ := pk_lOf (x := v) (Int64.not_lt.mpr h.1)
  have h2 := h.2
  rw [e, pk_lLE hk (by omega)] at h2
  exact ⟨k, h2, e, by rw [e, jW_N (by omega)]⟩
theorem aWy_N {a : Nat → Int32} {u : Nat} (h : u ≤ 199) : aWy a (lN u) = aDw a u := by
  unfold aWy
  rw [if_pos ⟨(lN_le (a := 0) (by decide) (by omega)).mpr (by omega), (lN_le (b := 199) (by omega) (by decide)).mpr h⟩, jW_N (by omega)]
theorem w_inN {G : ab_G} {S : ab_S} {L H : Int64} (lo hi u : Nat) (hL : L = lN lo) (hH : H = lN hi) (h1 : lo < 2 ^ 31) (h2 : hi < 2 ^ 31) (hu : u < 2 ^ 31) : ab_C G 0 M_m_within [.long (lN u), .long L, .long H] (sw S) (fun v w' => v = some (.int (if lo ≤ u ∧ u ≤ hi then 1 else 0)) ∧ w' = sw S) :=
  (c_m_within (lN u) L H (sw S)).mono (fun v w' h => ⟨by rw [h.1]; subst hL hH; simp only [lN_le h1 hu, lN_le hu h2], h.2⟩)
theorem ridL {S : ab_S} (hv : mV S) {k : Nat} (hk : k < 2 ^ 31) : ((0 : Int64) ≤ lN k ∧ lN k ≤ (mA S 1 - 1).toInt64) ↔ k < mR S := by
  rw [← nI_l hk, rid_iff hv (nI k), cN_nI hk]
  exact ⟨fun h => h.2, fun h => ⟨nI_pos' hk, h⟩⟩
theorem w_isRiderL {G : ab_G} {S : ab_S} {a : Nat → Int32} (hm : mSh S) (hA : mA S = a) (ha : aOk a) (k : Nat) (hk : k < 2 ^ 31) : ab_C G 1 M_m_isRider [.ref 120, .long (lN k)] (sw S) (fun v w' => v = some (.int (if k < aR a then 1 else 0)) ∧ w' = sw S) := by
  subst hA
  exact (c_m_isRider hm (lN k)).mono (fun v w' h => ⟨by rw [h.1]; simp only [ridL ha.v hk]; rfl, h.2⟩)
theorem w_isRider {G : ab_G} {S : ab_S} {a : Nat → Int32} (hm : mSh S) (hA : mA S = a) (ha : aOk a) (r : Int32) : ab_C G 1 M_m_isRider [.ref 120, .long r.toInt64] (sw S) (fun v w' => v = some (.int (if 0 ≤ r ∧ cN r < aR a then 1 else 0)) ∧ w' = sw S) := by
  subst hA
  exact c_m_isRiderI hm ha.v r
theorem w_areTwoL {G : ab_G} {S : ab_S} {a : Nat → Int32} (hm : mSh S) (hA : mA S = a) (ha : aOk a) (x y : Nat) (hx : x < 2 ^ 31) (hy : y < 2 ^ 31) : ab_C G 2 M_m_areTwo [.ref 120, .long (lN x), .long (lN y)] (sw S) (fun v w' => v = some (.int (if x < aR a ∧ y < aR a ∧ x ≠ y then 1 else 0)) ∧ w' = sw S) := by
  subst hA
  exact (c_m_areTwo hm (lN x) (lN y)).mono (fun v w' h => ⟨by rw [h.1]; simp only [ridL ha.v hx, ridL ha.v hy, lN_eq hx hy]; rfl, h.2⟩)
def tb_m_whyNot : List (Nat × Instr × Nat) := [(0, .lload_n 1, 1), (1, .lconst 0, 1), (2, .ldc2_w 303, 3), (5, .invokestatic 159, 3), (8, .ifCond .eq 20, 3), (11, .aload_n 0, 1), (12, .aload_n 0, 1), (13, .invokevirtual 266, 3), (16, .lload_n 1, 1), (17, .aload_n 0, 1), (18, .getfield 13, 3), (21, .bipush 40, 2), (23, .iaload, 1), (24, .invokevirtual 269, 3), (27, .ireturn, 1), (28, .lload_n 1, 1), (29, .ldc2_w 262, 3), (32, .ldc2_w 305, 3), (35, .invokestatic 159, 3), (38, .ifCond .eq 21, 3), (41, .aload_n 0, 1), (42, .lload_n 1, 1), (43, .ldc2_w 262, 3), (46, .lsub, 1), (47, .invokevirtual 258, 3), (50, .ifCond .eq 7, 3), (53, .iconst 0, 1), (54, .goto 4, 3), (57, .iconst 1, 1), (58, .ireturn, 1), (59, .lload_n 1, 1), (60, .ldc2_w 307, 3), (63, .ldc2_w 309, 3), (66, .invokestatic 159, 3), (69, .ifCond .eq 5, 3), (72, .iconst 0, 1), (73, .ireturn, 1), (74, .lload_n 1, 1), (75, .ldc2_w 311, 3), (78, .ldc2_w 313, 3), (81, .invokestatic 159, 3), (84, .ifCond .eq 28, 3), (87, .aload_n 0, 1), (88, .lload_n 1, 1), (89, .ldc2_w 311, 3), (92, .lsub, 1), (93, .ldc2_w 262, 3), (96, .ldiv, 1), (97, .lload_n 1, 1), (98, .ldc2_w 262, 3), (101, .lrem, 1), (102, .invokevirtual 293, 3), (105, .ifCond .eq 7, 3), (108, .iconst 0, 1), (109, .goto 4, 3), (112, .iconst 1, 1), (113, .ireturn, 1)]
theorem tk_m_whyNot : ∀ q ∈ tb_m_whyNot, decode M_m_whyNot.2.1 q.1 = .ok q.2 := by decide +kernel
theorem c_m_whyNotN {G : ab_G} {S : ab_S} {a : Nat → Int32} (hm : mSh S) (hA : mA S = a) (ha : aOk a) (u : Nat) (hu : u ≤ 199) : ab_C G 5 M_m_whyNot [.ref 120, .long (lN u)] (sw S) (rSt [125, 126] S (some (.int (nI (aWy a (lN u))))) a) := by
  rw [aWy_N hu]
  have hE := ha.E
  have hRR := ha.R.2
  refine x_enter [some (.ref 120), some (.long (lN u)), none] (by decide) (Nat.le_of_ble_eq_true rfl) rfl (fun v w' h => by obtain ⟨rfl, -⟩ := h; rfl) ?_
  refine x_lload_n 1 1 (ab_dd tk_m_whyNot 0 rfl) rfl rfl rfl ?_
  refine x_lconst 2 0 (ab_dd tk_m_whyNot 1 rfl) rfl (by decide) ?_
  refine x_ldc2 5 (ab_dd tk_m_whyNot 2 rfl) rfl C_m_303 ?_
  refine x_callS 8 M_m_within 0 3 [_, _, _] (ab_dd tk_m_whyNot 3 rfl) rfl (by decide) K_m_within T_m_within L_m_159 rfl (Nat.le_of_ble_eq_true rfl) (w_inN 0 3 _ rfl rfl (by decide) (by decide) (by omega)) (fun v1 w1 h1 => ?_)
  obtain ⟨rfl, rfl⟩ := h1
  refine xb_if_eq 11 28 (ab_dd tk_m_whyNot 4 rfl) rfl (by decide) (fun h8 => ?_) (fun h8 => ?_)
  · refine x_lload_n 29 1 (ab_dd tk_m_whyNot 15 rfl) rfl rfl rfl ?_
    refine x_ldc2 32 (ab_dd tk_m_whyNot 16 rfl) rfl C_m_262 ?_
    refine x_ldc2 35 (ab_dd tk_m_whyNot 17 rfl) rfl C_m_305 ?_
    refine x_callS 38 M_m_within 0 3 [_, _, _] (ab_dd tk_m_whyNot 18 rfl) rfl (by decide) K_m_within T_m_within L_m_159 rfl (Nat.le_of_ble_eq_true rfl) (w_inN 10 19 _ rfl rfl (by decide) (by decide) (by omega)) (fun v1 w1 h1 => ?_)
    obtain ⟨rfl, rfl⟩ := h1
    refine xb_if_eq 41 59 (ab_dd tk_m_whyNot 19 rfl) rfl (by decide) (fun h38 => ?_) (fun h38 => ?_)
    · refine x_lload_n 60 1 (ab_dd tk_m_whyNot 30 rfl) rfl rfl rfl ?_
      refine x_ldc2 63 (ab_dd tk_m_whyNot 31 rfl) rfl C_m_307 ?_
      refine x_ldc2 66 (ab_dd tk_m_whyNot 32 rfl) rfl C_m_309 ?_
      refine x_callS 69 M_m_within 0 3 [_, _, _] (ab_dd tk_m_whyNot 33 rfl) rfl (by decide) K_m_within T_m_within L_m_159 rfl (Nat.le_of_ble_eq_true rfl) (w_inN 20 29 _ rfl rfl (by decide) (by decide) (by omega)) (fun v1 w1 h1 => ?_)
      obtain ⟨rfl, rfl⟩ := h1
      refine xb_if_eq 72 74 (ab_dd tk_m_whyNot 34 rfl) rfl (by decide) (fun h69 => ?_) (fun h69 => ?_)
      · refine x_lload_n 75 1 (ab_dd tk_m_whyNot 37 rfl) rfl rfl rfl ?_
        refine x_ldc2 78 (ab_dd tk_m_whyNot 38 rfl) rfl C_m_311 ?_
        refine x_ldc2 81 (ab_dd tk_m_whyNot 39 rfl) rfl C_m_313 ?_
        refine x_callS 84 M_m_within 0 3 [_, _, _] (ab_dd tk_m_whyNot 40 rfl) rfl (by decide) K_m_within T_m_within L_m_159 rfl (Nat.le_of_ble_eq_true rfl) (w_inN 100 199 _ rfl rfl (by decide) (by decide) (by omega)) (fun v1 w1 h1 => ?_)
        obtain ⟨rfl, rfl⟩ := h1
        refine xb_if_eq 87 112 (ab_dd tk_m_whyNot 41 rfl) rfl (by decide) (fun h84 => ?_) (fun h84 => ?_)
        · refine x_iconst 113 1 (ab_dd tk_m_whyNot 55 rfl) rfl (by decide) (x_topn 1 rfl ?_)
          exact x_iret (ab_dd tk_m_whyNot 56 rfl) ⟨rI (congrArg nI (by
            show 1 = aDw a u
            unfold aDw
            rw [if_neg (by omega)]
            by_cases z : u < 10
            · rw [if_pos z]
            · rw [if_neg z, if_neg (by omega), if_neg (by omega), if_pos (by omega)])), S, rfl, hm, hA, sEq.rf⟩
        · refine x_aload_n 88 0 (ab_dd tk_m_whyNot 42 rfl) rfl rfl rfl ?_
          refine x_lload_n 89 1 (ab_dd tk_m_whyNot 43 rfl) rfl rfl rfl ?_
          refine x_ldc2 92 (ab_dd tk_m_whyNot 44 rfl) rfl C_m_311 ?_
          refine x_lsub 93 (ab_dd tk_m_whyNot 45 rfl) rfl (x_topL (lN (u - 100)) (lN_sub (b := 100) (by omega)) ?_)
          refine x_ldc2 96 (ab_dd tk_m_whyNot 46 rfl) rfl C_m_262 ?_
          refine x_ldiv 97 (ab_dd tk_m_whyNot 47 rfl) rfl (by decide) (x_topL (lN ((u - 100) / 10)) (pk_lDiv (b := 10) (by omega) (by decide) (by decide)) ?_)
          refine x_lload_n 98 1 (ab_dd tk_m_whyNot 48 rfl) rfl rfl rfl ?_
          refine x_ldc2 101 (ab_dd tk_m_whyNot 49 rfl) rfl C_m_262 ?_
          refine x_lrem 102 (ab_dd tk_m_whyNot 50 rfl) rfl (by decide) (x_topL (lN (u % 10)) (pk_lRem (b := 10) (by omega) (by decide) (by decide)) ?_)
          refine t_callV 105 M_m_areTwo 2 2 [_, _] (ab_dd tk_m_whyNot 51 rfl) rfl (by decide) K_m_areTwo V_m_areTwo.1 V_m_areTwo.2 L_m_293 rfl (Nat.le_of_ble_eq_true rfl) (by decide) (Nat.lt_of_lt_of_le (by decide) hm.1) (hm.2.1 0 (by decide)) rfl (w_areTwoL hm hA ha ((u - 100) / 10) (u % 10) (by omega) (by omega)) (fun v1 w1 h1 => ?_)
          obtain ⟨rfl, rfl⟩ := h1
          refine xb_if_eq 108 112 (ab_dd tk_m_whyNot 52 rfl) rfl (by decide) (fun h105 => ?_) (fun h105 => ?_)
          · refine x_iconst 113 1 (ab_dd tk_m_whyNot 55 rfl) rfl (by decide) (x_topn 1 rfl ?_)
            exact x_iret (ab_dd tk_m_whyNot 56 rfl) ⟨rI (congrArg nI (((if_neg (by omega)).trans ((if_neg (by omega)).trans ((if_neg (by omega)).trans ((if_neg (by omega)).trans ((if_neg (by omega)).trans ((if_pos (by omega)).trans (if_neg h105))))))).symm)), S, rfl, hm, hA, sEq.rf⟩
          · refine x_iconst 109 0 (ab_dd tk_m_whyNot 53 rfl) rfl (by decide) (x_topn 0 rfl ?_)
            refine x_goto 113 (ab_dd tk_m_whyNot 54 rfl) (by decide) ?_
            exact x_iret (ab_dd tk_m_whyNot 56 rfl) ⟨rI (congrArg nI (((if_neg (by omega)).trans ((if_neg (by omega)).trans ((if_neg (by omega)).trans ((if_neg (by omega)).trans ((if_neg (by omega)).trans ((if_pos (by omega)).trans (if_pos h105))))))).symm)), S, rfl, hm, hA, sEq.rf⟩
      · refine x_iconst 73 0 (ab_dd tk_m_whyNot 35 rfl) rfl (by decide) (x_topn 0 rfl ?_)
        exact x_iret (ab_dd tk_m_whyNot 36 rfl) ⟨rI (congrArg nI (((if_neg (by omega)).trans ((if_neg (by omega)).trans ((if_neg (by omega)).trans (if_pos (by omega))))).symm)), S, rfl, hm, hA, sEq.rf⟩
    · refine x_aload_n 42 0 (ab_dd tk_m_whyNot 20 rfl) rfl rfl rfl ?_
      refine x_lload_n 43 1 (ab_dd tk_m_whyNot 21 rfl) rfl rfl rfl ?_
      refine x_ldc2 46 (ab_dd tk_m_whyNot 22 rfl) rfl C_m_262 ?_
      refine x_lsub 47 (ab_dd tk_m_whyNot 23 rfl) rfl (x_topL (lN (u - 10)) (lN_sub (b := 10) (by omega)) ?_)
      refine t_callV 50 M_m_isRider 1 1 [_] (ab_dd tk_m_whyNot 24 rfl) rfl (by decide) K_m_isRider V_m_isRider.1 V_m_isRider.2 L_m_258 rfl (Nat.le_of_ble_eq_true rfl) (by decide) (Nat.lt_of_lt_of_le (by decide) hm.1) (hm.2.1 0 (by decide)) rfl (w_isRiderL hm hA ha (u - 10) (by omega)) (fun v1 w1 h1 => ?_)
      obtain ⟨rfl, rfl⟩ := h1
      refine xb_if_eq 53 57 (ab_dd tk_m_whyNot 25 rfl) rfl (by decide) (fun h50 => ?_) (fun h50 => ?_)
      · refine x_iconst 58 1 (ab_dd tk_m_whyNot 28 rfl) rfl (by decide) (x_topn 1 rfl ?_)
        exact x_iret (ab_dd tk_m_whyNot 29 rfl) ⟨rI (congrArg nI (((if_neg (by omega)).trans ((if_neg (by omega)).trans ((if_pos (by omega)).trans (if_neg h50)))).symm)), S, rfl, hm, hA, sEq.rf⟩
      · refine x_iconst 54 0 (ab_dd tk_m_whyNot 26 rfl) rfl (by decide) (x_topn 0 rfl ?_)
        refine x_goto 58 (ab_dd tk_m_whyNot 27 rfl) (by decide) ?_
        exact x_iret (ab_dd tk_m_whyNot 29 rfl) ⟨rI (congrArg nI (((if_neg (by omega)).trans ((if_neg (by omega)).trans ((if_pos (by omega)).trans (if_pos h50)))).symm)), S, rfl, hm, hA, sEq.rf⟩
  · refine x_aload_n 12 0 (ab_dd tk_m_whyNot 5 rfl) rfl rfl rfl ?_
    refine x_aload_n 13 0 (ab_dd tk_m_whyNot 6 rfl) rfl rfl rfl ?_
    refine t_callV 16 M_m_standNow 1 0 [] (ab_dd tk_m_whyNot 7 rfl) rfl (by decide) K_m_standNow V_m_standNow.1 V_m_standNow.2 L_m_266 rfl (Nat.le_of_ble_eq_true rfl) (by decide) (Nat.lt_of_lt_of_le (by decide) hm.1) (hm.2.1 0 (by decide)) rfl (w_standNow hm hA ha) (fun v1 w1 h1 => ?_)
    obtain ⟨rfl, rfl⟩ := h1
    refine x_lload_n 17 1 (ab_dd tk_m_whyNot 8 rfl) rfl rfl rfl ?_
    refine x_aload_n 18 0 (ab_dd tk_m_whyNot 9 rfl) rfl rfl rfl ?_
    refine t_getP 21 121 (ab_dd tk_m_whyNot 10 rfl) rfl F_m_13 (by decide) (Nat.lt_of_lt_of_le (by decide) hm.1) (hm.2.1 0 (by decide)) rfl (hm.2.2 1 (by decide)) ?_
    refine x_bipush 23 40 (ab_dd tk_m_whyNot 11 rfl) rfl (by decide) (x_topn 40 rfl ?_)
    refine t_iald 24 40 (ab_dd tk_m_whyNot 12 rfl) rfl (by decide) (Nat.lt_of_lt_of_le (by decide) hm.1) (hm.2.1 1 (by decide)) rfl (by decide) (by decide) (x_topx (a 40) (congrFun hA 40) ?_)
    refine t_callV 27 M_m_whyStop 4 3 [_, _, _] (ab_dd tk_m_whyNot 13 rfl) rfl (by decide) K_m_whyStop V_m_whyStop.1 V_m_whyStop.2 L_m_269 rfl (Nat.le_of_ble_eq_true rfl) (by decide) (Nat.lt_of_lt_of_le (by decide) hm.1) (hm.2.1 0 (by decide)) rfl (w_whyStop hm hA ha (aE a) u _ hE (by omega)) (fun v1 w1 h1 => ?_)
    obtain ⟨rfl, S1, rfl, hm1, hA1, hE1⟩ := h1
    exact x_iret (ab_dd tk_m_whyNot 14 rfl) ⟨rI (congrArg nI ((if_pos h8.2)).symm), S1, rfl, hm1, hA1, hE1⟩
theorem c_m_whyNot {G : ab_G} {S : ab_S} {a : Nat → Int32} (hm : mSh S) (hA : mA S = a) (ha : aOk a) (v : Int64) : ab_C G 5 M_m_whyNot [.ref 120, .long v] (sw S) (rSt [125, 126] S (some (.int (nI (aWy a v)))) a) := by
  by_cases hz : 0 ≤ v ∧ v ≤ 199
  · obtain ⟨u, hu, rfl, -⟩ := jW_get (n := 199) (by decide) hz
    exact c_m_whyNotN hm hA ha u hu
  · rw [show aWy a v = 1 from if_neg hz]
    refine x_enter [some (.ref 120), some (.long v), none] (by decide) (Nat.le_of_ble_eq_true rfl) rfl (fun v w' h => by obtain ⟨rfl, -⟩ := h; rfl) ?_
    refine x_lload_n 1 1 (ab_dd tk_m_whyNot 0 rfl) rfl rfl rfl ?_
    refine x_lconst 2 0 (ab_dd tk_m_whyNot 1 rfl) rfl (by decide) ?_
    refine x_ldc2 5 (ab_dd tk_m_whyNot 2 rfl) rfl C_m_303 ?_
    refine x_callS 8 M_m_within 0 3 [_, _, _] (ab_dd tk_m_whyNot 3 rfl) rfl (by decide) K_m_within T_m_within L_m_159 rfl (Nat.le_of_ble_eq_true rfl) (c_m_within _ _ _ (sw S)) (fun v1 w1 h1 => ?_)
    obtain ⟨rfl, rfl⟩ := h1
    refine x_if_eq_t 28 (ab_dd tk_m_whyNot 4 rfl) (by decide) (if_neg (fun z => hz ⟨Int64.le_trans (by decide) z.1, Int64.le_trans z.2 (by decide)⟩)) ?_
    refine x_lload_n 29 1 (ab_dd tk_m_whyNot 15 rfl) rfl rfl rfl ?_
    refine x_ldc2 32 (ab_dd tk_m_whyNot 16 rfl) rfl C_m_262 ?_
    refine x_ldc2 35 (ab_dd tk_m_whyNot 17 rfl) rfl C_m_305 ?_
    refine x_callS 38 M_m_within 0 3 [_, _, _] (ab_dd tk_m_whyNot 18 rfl) rfl (by decide) K_m_within T_m_within L_m_159 rfl (Nat.le_of_ble_eq_true rfl) (c_m_within _ _ _ (sw S)) (fun v1 w1 h1 => ?_)
    obtain ⟨rfl, rfl⟩ := h1
    refine x_if_eq_t 59 (ab_dd tk_m_whyNot 19 rfl) (by decide) (if_neg (fun z => hz ⟨Int64.le_trans (by decide) z.1, Int64.le_trans z.2 (by decide)⟩)) ?_
    refine x_lload_n 60 1 (ab_dd tk_m_whyNot 30 rfl) rfl rfl rfl ?_
    refine x_ldc2 63 (ab_dd tk_m_whyNot 31 rfl) rfl C_m_307 ?_
    refine x_ldc2 66 (ab_dd tk_m_whyNot 32 rfl) rfl C_m_309 ?_
    refine x_callS 69 M_m_within 0 3 [_, _, _] (ab_dd tk_m_whyNot 33 rfl) rfl (by decide) K_m_within T_m_within L_m_159 rfl (Nat.le_of_ble_eq_true rfl) (c_m_within _ _ _ (sw S)) (fun v1 w1 h1 => ?_)
    obtain ⟨rfl, rfl⟩ := h1
    refine x_if_eq_t 74 (ab_dd tk_m_whyNot 34 rfl) (by decide) (if_neg (fun z => hz ⟨Int64.le_trans (by decide) z.1, Int64.le_trans z.2 (by decide)⟩)) ?_
    refine x_lload_n 75 1 (ab_dd tk_m_whyNot 37 rfl) rfl rfl rfl ?_
    refine x_ldc2 78 (ab_dd tk_m_whyNot 38 rfl) rfl C_m_311 ?_
    refine x_ldc2 81 (ab_dd tk_m_whyNot 39 rfl) rfl C_m_313 ?_
    refine x_callS 84 M_m_within 0 3 [_, _, _] (ab_dd tk_m_whyNot 40 rfl) rfl (by decide) K_m_within T_m_within L_m_159 rfl (Nat.le_of_ble_eq_true rfl) (c_m_within _ _ _ (sw S)) (fun v1 w1 h1 => ?_)
    obtain ⟨rfl, rfl⟩ := h1
    refine x_if_eq_t 112 (ab_dd tk_m_whyNot 41 rfl) (by decide) (if_neg (fun z => hz ⟨Int64.le_trans (by decide) z.1, Int64.le_trans z.2 (by decide)⟩)) ?_
    refine x_iconst 113 1 (ab_dd tk_m_whyNot 55 rfl) rfl (by decide) (x_topn 1 rfl ?_)
    exact x_iret (ab_dd tk_m_whyNot 56 rfl) ⟨rfl, S, rfl, hm, hA, sEq.rf⟩
def tb_m_does : List (Nat × Instr × Nat) := [(0, .iload_n 1, 1), (1, .iconst 4, 1), (2, .if_icmp .ge 11, 3), (5, .aload_n 0, 1), (6, .iload_n 1, 1), (7, .invokevirtual 282, 3), (10, .goto 60, 3), (13, .iload_n 1, 1), (14, .bipush 20, 2), (16, .if_icmp .ge 19, 3), (19, .aload_n 0, 1), (20, .getfield 13, 3), (23, .bipush 32, 2), (25, .iload_n 1, 1), (26, .iadd, 1), (27, .bipush 10, 2), (29, .isub, 1), (30, .iconst 4, 1), (31, .iastore, 1), (32, .goto 38, 3), (35, .iload_n 1, 1), (36, .bipush 30, 2), (38, .if_icmp .ge 17, 3), (41, .aload_n 0, 1), (42, .getfield 13, 3), (45, .bipush 40, 2), (47, .iload_n 1, 1), (48, .bipush 20, 2), (50, .isub, 1), (51, .iastore, 1), (52, .goto 18, 3), (55, .aload_n 0, 1), (56, .iload_n 1, 1), (57, .bipush 100, 2), (59, .isub, 1), (60, .bipush 10, 2), (62, .idiv, 1), (63, .iload_n 1, 1), (64, .bipush 10, 2), (66, .irem, 1), (67, .invokevirtual 297, 3), (70, .return_, 1)]
theorem tk_m_does : ∀ q ∈ tb_m_does, decode M_m_does.2.1 q.1 = .ok q.2 := by decide +kernel
theorem aDw_0 {a : Nat → Int32} {u : Nat} (h : aDw a u = 0) : (u ≤ 3 ∧ (u < aR a ∨ u = 0)) ∨ (10 ≤ u ∧ u ≤ 19 ∧ u - 10 < aR a) ∨ (20 ≤ u ∧ u ≤ 29) ∨ (100 ≤ u ∧ u ≤ 199 ∧ (u - 100) / 10 < aR a ∧ u % 10 < aR a ∧ (u - 100) / 10 ≠ u % 10) := by
  unfold aDw at h
  by_cases h1 : u ≤ 3
  · rw [if_pos h1] at h; exact Or.inl ⟨h1, spY_0 h⟩
  rw [if_neg h1] at h
  by_cases h2 : u < 10
  · rw [if_pos h2] at h; omega
  rw [if_neg h2] at h
  by_cases h3 : u ≤ 19
  · rw [if_pos h3] at h
    by_cases h4 : u - 10 < aR a
    · exact Or.inr (Or.inl ⟨by omega, h3, h4⟩)
    · rw [if_neg h4] at h; omega
  rw [if_neg h3] at h
  by_cases h4 : u ≤ 29
  · exact Or.inr (Or.inr (Or.inl ⟨by omega, h4⟩))
  rw [if_neg h4] at h
  by_cases h5 : u < 100
  · rw [if_pos h5] at h; omega
  rw [if_neg h5] at h
  by_cases h6 : u ≤ 199
  · rw [if_pos h6] at h
    by_cases h7 : (u - 100) / 10 < aR a ∧ u % 10 < aR a ∧ (u - 100) / 10 ≠ u % 10
    · exact Or.inr (Or.inr (Or.inr ⟨by omega, h6, h7⟩))
    · rw [if_neg h7] at h; omega
  · rw [if_neg h6] at h; omega
theorem aDw_le {a : Nat → Int32} {u : Nat} (h : aDw a u = 0) : u ≤ 199 := by have := aDw_0 h; omega
theorem mGiv_ok {a : Nat → Int32} (ha : aOk a) {p q : Nat} (hp : p < 4) (hq : q < 4) : aOk (mGiv a p q) := by
  refine aOk_cg ha (fun i hi => ?_) (fun r hr => ?_) (fun r hr => ?_) (fun r hr => ?_) ?_
  · unfold mGiv; rw [up1_o (by omega), up1_o (by omega)]
  · unfold mGiv
    by_cases h : 28 + r = 28 + q
    · rw [h, up1_s]; exact ha.se p hp
    · rw [up1_o h]
      by_cases g : 28 + r = 28 + p
      · rw [g, up1_s]; exact ha.se q hq
      · rw [up1_o g]; exact ha.se r hr
  · unfold mGiv; rw [up1_o (by omega), up1_o (by omega)]; exact ha.wa r hr
  · unfold mGiv; rw [up1_o (by omega), up1_o (by omega)]
  · unfold mGiv; rw [up1_o (by omega), up1_o (by omega)]; exact ha.mo
theorem aRug_ok {a : Nat → Int32} (ha : aOk a) {r : Nat} (hr : r < 4) : aOk (up1 a (32 + r) 4) := by
  refine aOk_cg ha (fun i hi => up1_o (by omega)) (fun t ht => ?_) (fun t ht => ?_) (fun t ht => up1_o (by omega)) ?_
  · rw [up1_o (by omega)]; exact ha.se t ht
  · by_cases h : 32 + t = 32 + r
    · rw [h, up1_s]; exact ⟨4, rfl, by decide⟩
    · rw [up1_o h]; exact ha.wa t ht
  · rw [up1_o (by omega)]; exact ha.mo
theorem aMon_ok {a : Nat → Int32} (ha : aOk a) {n : Nat} (hn : n < 10) : aOk (up1 a 40 (nI n)) := by
  refine aOk_cg ha (fun i hi => up1_o (by omega)) (fun t ht => ?_) (fun t ht => ?_) (fun t ht => up1_o (by omega)) ⟨n, up1_s, hn⟩
  · rw [up1_o (by omega)]; exact ha.se t ht
  · rw [up1_o (by omega)]; exact ha.wa t ht
theorem aDo_ok {a : Nat → Int32} (ha : aOk a) {u : Nat} (h : aDw a u = 0) : aOk (aDo a u) ∧ aR (aDo a u) = aR a ∧ ∀ i, (i < 28 ∨ 42 ≤ i) → aDo a u i = a i := by
  have hR := ha.R.2
  unfold aDo
  rcases aDw_0 h with h | h | h | h
  · rw [if_pos (by omega)]
    exact ⟨(aGo_ok ha h.2).1, (aGo_ok ha h.2).2.1, fun i hi => aGo_o ha (by omega)⟩
  · rw [if_neg (by omega), if_pos (by omega), show 32 + u - 10 = 32 + (u - 10) by omega]
    exact ⟨aRug_ok ha (by omega), by unfold aR; rw [up1_o (by omega)], fun i hi => up1_o (by omega)⟩
  · rw [if_neg (by omega), if_neg (by omega), if_pos (by omega)]
    exact ⟨aMon_ok ha (by omega), by unfold aR; rw [up1_o (by omega)], fun i hi => up1_o (by omega)⟩
  · rw [if_neg (by omega), if_neg (by omega), if_neg (by omega)]
    refine ⟨mGiv_ok ha (by omega) (by omega), ?_, fun i hi => ?_⟩
    · unfold aR mGiv; rw [up1_o (by omega), up1_o (by omega)]
    · unfold mGiv; rw [up1_o (by omega), up1_o (by omega)]
theorem c_m_does {G : ab_G} {S : ab_S} {a : Nat → Int32} (hm : mSh S) (hA : mA S = a) (ha : aOk a) (u : Nat) (hu : aDw a u = 0) : ab_C G 6 M_m_does [.ref 120, .int (nI u)] (sw S) (rSt [121, 125, 126] S none (aDo a u)) := by
  refine x_enter [some (.ref 120), some (.int (nI u))] (by decide) (Nat.le_of_ble_eq_true rfl) rfl (fun v w' h => by obtain ⟨rfl, -⟩ := h; trivial) ?_
  have h0 := aDw_0 hu
  have hR4 := ha.R.2
  refine x_iload_n 1 1 (ab_dd tk_m_does 0 rfl) rfl rfl rfl ?_
  refine x_iconst 2 4 (ab_dd tk_m_does 1 rfl) rfl (by decide) (x_topn 4 rfl ?_)
  refine xn_icmp_ge 5 13 (ab_dd tk_m_does 2 rfl) rfl (by decide) (by omega) (by omega) (fun h2 => ?_) (fun h2 => ?_)
  · refine x_iload_n 14 1 (ab_dd tk_m_does 7 rfl) rfl rfl rfl ?_
    refine x_bipush 16 20 (ab_dd tk_m_does 8 rfl) rfl (by decide) (x_topn 20 rfl ?_)
    refine xn_icmp_ge 19 35 (ab_dd tk_m_does 9 rfl) rfl (by decide) (by omega) (by omega) (fun h16 => ?_) (fun h16 => ?_)
    · refine x_iload_n 36 1 (ab_dd tk_m_does 20 rfl) rfl rfl rfl ?_
      refine x_bipush 38 30 (ab_dd tk_m_does 21 rfl) rfl (by decide) (x_topn 30 rfl ?_)
      refine xn_icmp_ge 41 55 (ab_dd tk_m_does 22 rfl) rfl (by decide) (by omega) (by omega) (fun h38 => ?_) (fun h38 => ?_)
      · refine x_aload_n 56 0 (ab_dd tk_m_does 31 rfl) rfl rfl rfl ?_
        refine x_iload_n 57 1 (ab_dd tk_m_does 32 rfl) rfl rfl rfl ?_
        refine x_bipush 59 100 (ab_dd tk_m_does 33 rfl) rfl (by decide) (x_topn 100 rfl ?_)
        refine x_isub 60 (ab_dd tk_m_does 34 rfl) rfl (x_topn (u - 100) (pk_sub (by omega)) ?_)
        refine x_bipush 62 10 (ab_dd tk_m_does 35 rfl) rfl (by decide) (x_topn 10 rfl ?_)
        refine x_idiv 63 (ab_dd tk_m_does 36 rfl) rfl (by decide) (x_topn ((u - 100) / 10) (pk_div (by omega) (by omega) (by omega)) ?_)
        refine x_iload_n 64 1 (ab_dd tk_m_does 37 rfl) rfl rfl rfl ?_
        refine x_bipush 66 10 (ab_dd tk_m_does 38 rfl) rfl (by decide) (x_topn 10 rfl ?_)
        refine x_irem 67 (ab_dd tk_m_does 39 rfl) rfl (by decide) (x_topn (u % 10) (pk_rem (by omega) (by omega) (by omega)) ?_)
        refine t_callV 70 M_m_givesOn 0 2 [_, _] (ab_dd tk_m_does 40 rfl) rfl (by decide) K_m_givesOn V_m_givesOn.1 V_m_givesOn.2 L_m_297 rfl (Nat.le_of_ble_eq_true rfl) (by decide) (Nat.lt_of_lt_of_le (by decide) hm.1) (hm.2.1 0 (by decide)) rfl (c_m_givesOn hm ((u - 100) / 10) (u % 10) (by omega) (by omega)) (fun v1 w1 h1 => ?_)
        obtain ⟨rfl, S9, rfl, hE9, hB9⟩ := h1
        exact x_vret (ab_dd tk_m_does 41 rfl) ⟨rfl, S9, rfl, hm.eq hE9, by rw [show aDo a u = mGiv a ((u - 100) / 10) (u % 10) from (if_neg (by omega)).trans ((if_neg (by omega)).trans (if_neg (by omega))), ← hA]; exact hB9, hE9.mono (by decide)⟩
      · refine x_aload_n 42 0 (ab_dd tk_m_does 23 rfl) rfl rfl rfl ?_
        refine t_getP 45 121 (ab_dd tk_m_does 24 rfl) rfl F_m_13 (by decide) (Nat.lt_of_lt_of_le (by decide) hm.1) (hm.2.1 0 (by decide)) rfl (hm.2.2 1 (by decide)) ?_
        refine x_bipush 47 40 (ab_dd tk_m_does 25 rfl) rfl (by decide) (x_topn 40 rfl ?_)
        refine x_iload_n 48 1 (ab_dd tk_m_does 26 rfl) rfl rfl rfl ?_
        refine x_bipush 50 20 (ab_dd tk_m_does 27 rfl) rfl (by decide) (x_topn 20 rfl ?_)
        refine x_isub 51 (ab_dd tk_m_does 28 rfl) rfl (x_topn (u - 20) (pk_sub (by omega)) ?_)
        refine t_iast 52 40 (ab_dd tk_m_does 29 rfl) rfl (by decide) (Nat.lt_of_lt_of_le (by decide) hm.1) (hm.2.1 1 (by decide)) rfl (by decide) (by decide) ?_
        refine x_goto 70 (ab_dd tk_m_does 30 rfl) (by decide) ?_
        exact x_vret (ab_dd tk_m_does 41 rfl) ⟨rfl, _, rfl, hm, by
          rw [show aDo a u = up1 a 40 (nI (u - 20)) from (if_neg (by omega)).trans ((if_neg (by omega)).trans (if_pos h38)), ← hA]
          funext i
          show up2 (sI S) 121 40 _ 121 i = _
          by_cases h : i = 40
          · subst h; rw [up2_s, up1_s] <;> rfl
          · rw [up2_k h, up1_o h], (sEq.rf.pI (by decide))⟩
    · refine x_aload_n 20 0 (ab_dd tk_m_does 10 rfl) rfl rfl rfl ?_
      refine t_getP 23 121 (ab_dd tk_m_does 11 rfl) rfl F_m_13 (by decide) (Nat.lt_of_lt_of_le (by decide) hm.1) (hm.2.1 0 (by decide)) rfl (hm.2.2 1 (by decide)) ?_
      refine x_bipush 25 32 (ab_dd tk_m_does 12 rfl) rfl (by decide) (x_topn 32 rfl ?_)
      refine x_iload_n 26 1 (ab_dd tk_m_does 13 rfl) rfl rfl rfl ?_
      refine x_iadd 27 (ab_dd tk_m_does 14 rfl) rfl (x_topn (32 + u) (nI_add _ _) ?_)
      refine x_bipush 29 10 (ab_dd tk_m_does 15 rfl) rfl (by decide) (x_topn 10 rfl ?_)
      refine x_isub 30 (ab_dd tk_m_does 16 rfl) rfl (x_topn ((32 + u) - 10) (pk_sub (by omega)) ?_)
      refine x_iconst 31 4 (ab_dd tk_m_does 17 rfl) rfl (by decide) (x_topn 4 rfl ?_)
      refine t_iast 32 ((32 + u) - 10) (ab_dd tk_m_does 18 rfl) rfl (by decide) (Nat.lt_of_lt_of_le (by decide) hm.1) (hm.2.1 1 (by decide)) rfl (by omega) (by decide) ?_
      refine x_goto 70 (ab_dd tk_m_does 19 rfl) (by decide) ?_
      exact x_vret (ab_dd tk_m_does 41 rfl) ⟨rfl, _, rfl, hm, by
        rw [show aDo a u = up1 a (32 + u - 10) 4 from (if_neg (by omega)).trans (if_pos h16), ← hA]
        funext i
        show up2 (sI S) 121 (32 + u - 10) _ 121 i = _
        by_cases h : i = 32 + u - 10
        · subst h; rw [up2_s, up1_s] <;> rfl
        · rw [up2_k h, up1_o h], (sEq.rf.pI (by decide))⟩
  · refine x_aload_n 6 0 (ab_dd tk_m_does 3 rfl) rfl rfl rfl ?_
    refine x_iload_n 7 1 (ab_dd tk_m_does 4 rfl) rfl rfl rfl ?_
    refine t_callV 10 M_m_goesStop 5 1 [_] (ab_dd tk_m_does 5 rfl) rfl (by decide) K_m_goesStop V_m_goesStop.1 V_m_goesStop.2 L_m_282 rfl (Nat.le_of_ble_eq_true rfl) (by decide) (Nat.lt_of_lt_of_le (by decide) hm.1) (hm.2.1 0 (by decide)) rfl (w_goesStop hm hA ha u (by omega)) (fun v1 w1 h1 => ?_)
    obtain ⟨rfl, S1, rfl, hm1, hA1, hE1⟩ := h1
    refine x_goto 70 (ab_dd tk_m_does 6 rfl) (by decide) ?_
    exact x_vret (ab_dd tk_m_does 41 rfl) ⟨rfl, S1, rfl, hm1, by rw [hA1]; exact (if_pos h2).symm, (sEq.rf.tr (hE1.mono (by decide)))⟩
