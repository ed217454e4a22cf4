theorem ab_dd {M : ab_M} {tb : List (Nat × Instr × Nat)} (h : ∀ q ∈ tb, decode M.2.1 q.1 = .ok q.2) (i : Nat) {pc n : Nat} {ins : Instr} (hi : tb[i]? = some (pc, ins, n)) : decode M.2.1 pc = .ok (ins, n) := h (pc, ins, n) (List.mem_of_getElem? hi)
theorem x_iincN {G : ab_G} {d : Nat} {M : ab_M} {pc : Nat} {ls : ab_L} {st : List Value} {w : ab_H} {Q : Option Value → ab_H → Prop} (pc' i : Nat) (c : Int32) (F : Int32 → ab_L) {n : Int} {x : Int32} (hd : decode M.2.1 pc = .ok (.iinc i n, 3)) (hp : pc + 3 = pc') (hn : i < M.2.2.1) (hx0 : ls[i]? = some (some (.int x))) (hc : Int32.ofInt n = c) (hF : ∀ y, ab_s1 ls i (.int y) = F y) (k : ∀ y : Int32, y = x + c → ab_Ex G d M pc' (F y) st w Q) : ab_Ex G d M pc ls st w Q := by
  subst hc
  exact x_iinc pc' (F (x + Int32.ofInt n)) i (x + Int32.ofInt n) hd hp hn hx0 rfl (hF _) (k _ rfl)
def tb_m_within : List (Nat × Instr × Nat) := [(0, .lload_n 0, 1), (1, .lload_n 2, 1), (2, .lcmp, 1), (3, .ifCond .lt 14, 3), (6, .lload_n 0, 1), (7, .lload 4, 2), (9, .lcmp, 1), (10, .ifCond .gt 7, 3), (13, .iconst 1, 1), (14, .goto 4, 3), (17, .iconst 0, 1), (18, .ireturn, 1)]
theorem tk_m_within : ∀ q ∈ tb_m_within, decode M_m_within.2.1 q.1 = .ok q.2 := by decide +kernel
theorem c_m_within {G : ab_G} (x lo hi : Int64) (w : ab_H) : ab_C G 0 M_m_within [.long x, .long lo, .long hi] w (fun v w' => v = some (.int (if lo ≤ x ∧ x ≤ hi then 1 else 0)) ∧ w' = w) := by
  refine x_enter [some (.long x), none, some (.long lo), none, some (.long hi), none] (by decide) (Nat.le_of_ble_eq_true rfl) rfl (fun v w' h => by obtain ⟨rfl, rfl⟩ := h; show narrow _ _ = _; split <;> rfl) ?_
  refine x_lload_n 1 0 (ab_dd tk_m_within 0 rfl) rfl rfl rfl ?_
  refine x_lload_n 2 2 (ab_dd tk_m_within 1 rfl) rfl rfl rfl ?_
  refine x_lcmp 3 (ab_dd tk_m_within 2 rfl) rfl ?_
  refine x_if_lt 6 17 (ab_dd tk_m_within 3 rfl) rfl (by decide) (fun h3 => ?_) (fun h3 => ?_)
  · refine x_iconst 18 0 (ab_dd tk_m_within 10 rfl) rfl (by decide) ?_
    exact x_iret (ab_dd tk_m_within 11 rfl) ⟨by simp only [lg_cmp_lt, lg_cmp_gt, Int64.lt_iff_toInt_lt, Int64.le_iff_toInt_le] at *; split <;> first | rfl | (exfalso; omega), rfl⟩
  · refine x_lload_n 7 0 (ab_dd tk_m_within 4 rfl) rfl rfl rfl ?_
    refine x_lload 9 4 (ab_dd tk_m_within 5 rfl) rfl rfl ?_
    refine x_lcmp 10 (ab_dd tk_m_within 6 rfl) rfl ?_
    refine x_if_gt 13 17 (ab_dd tk_m_within 7 rfl) rfl (by decide) (fun h10 => ?_) (fun h10 => ?_)
    · refine x_iconst 18 0 (ab_dd tk_m_within 10 rfl) rfl (by decide) ?_
      exact x_iret (ab_dd tk_m_within 11 rfl) ⟨by simp only [lg_cmp_lt, lg_cmp_gt, Int64.lt_iff_toInt_lt, Int64.le_iff_toInt_le] at *; split <;> first | rfl | (exfalso; omega), rfl⟩
    · refine x_iconst 14 1 (ab_dd tk_m_within 8 rfl) rfl (by decide) ?_
      refine x_goto 18 (ab_dd tk_m_within 9 rfl) (by decide) ?_
      exact x_iret (ab_dd tk_m_within 11 rfl) ⟨by simp only [lg_cmp_lt, lg_cmp_gt, Int64.lt_iff_toInt_lt, Int64.le_iff_toInt_le] at *; split <;> first | rfl | (exfalso; omega), rfl⟩
def tb_m_placeOf : List (Nat × Instr × Nat) := [(0, .iload_n 0, 1), (1, .ifCond .ne 7, 3), (4, .iconst 1, 1), (5, .goto 24, 3), (8, .iload_n 0, 1), (9, .iconst 1, 1), (10, .if_icmp .ne 7, 3), (13, .iconst 5, 1), (14, .goto 15, 3), (17, .iload_n 0, 1), (18, .iconst 2, 1), (19, .if_icmp .ne 8, 3), (22, .bipush 25, 2), (24, .goto 5, 3), (27, .bipush 125, 2), (29, .ireturn, 1)]
theorem tk_m_placeOf : ∀ q ∈ tb_m_placeOf, decode M_m_placeOf.2.1 q.1 = .ok q.2 := by decide +kernel
theorem c_m_placeOf {G : ab_G} (r : Int32) (w : ab_H) : ab_C G 0 M_m_placeOf [.int r] w (fun v w' => v = some (.int (if r = 0 then 1 else if r = 1 then 5 else if r = 2 then 25 else 125)) ∧ w' = w) := by
  refine x_enter [some (.int r)] (by decide) (Nat.le_of_ble_eq_true rfl) rfl (fun v w' h => by obtain ⟨rfl, rfl⟩ := h; rfl) ?_
  refine x_iload_n 1 0 (ab_dd tk_m_placeOf 0 rfl) rfl rfl rfl ?_
  refine x_if_ne 4 8 (ab_dd tk_m_placeOf 1 rfl) rfl (by decide) (fun h1 => ?_) (fun h1 => ?_)
  · refine x_iload_n 9 0 (ab_dd tk_m_placeOf 4 rfl) rfl rfl rfl ?_
    refine x_iconst 10 1 (ab_dd tk_m_placeOf 5 rfl) rfl (by decide) ?_
    refine x_icmp_ne 13 17 (ab_dd tk_m_placeOf 6 rfl) rfl (by decide) (fun h10 => ?_) (fun h10 => ?_)
    · refine x_iload_n 18 0 (ab_dd tk_m_placeOf 9 rfl) rfl rfl rfl ?_
      refine x_iconst 19 2 (ab_dd tk_m_placeOf 10 rfl) rfl (by decide) ?_
      refine x_icmp_ne 22 27 (ab_dd tk_m_placeOf 11 rfl) rfl (by decide) (fun h19 => ?_) (fun h19 => ?_)
      · refine x_bipush 29 125 (ab_dd tk_m_placeOf 14 rfl) rfl (by decide) ?_
        exact x_iret (ab_dd tk_m_placeOf 15 rfl) ⟨by simp_all, rfl⟩
      · refine x_bipush 24 25 (ab_dd tk_m_placeOf 12 rfl) rfl (by decide) ?_
        refine x_goto 29 (ab_dd tk_m_placeOf 13 rfl) (by decide) ?_
        exact x_iret (ab_dd tk_m_placeOf 15 rfl) ⟨by simp_all, rfl⟩
    · refine x_iconst 14 5 (ab_dd tk_m_placeOf 7 rfl) rfl (by decide) ?_
      refine x_goto 29 (ab_dd tk_m_placeOf 8 rfl) (by decide) ?_
      exact x_iret (ab_dd tk_m_placeOf 15 rfl) ⟨by simp_all, rfl⟩
  · refine x_iconst 5 1 (ab_dd tk_m_placeOf 2 rfl) rfl (by decide) ?_
    refine x_goto 29 (ab_dd tk_m_placeOf 3 rfl) (by decide) ?_
    exact x_iret (ab_dd tk_m_placeOf 15 rfl) ⟨by simp_all, rfl⟩
def tb_m_seatIn : List (Nat × Instr × Nat) := [(0, .iload_n 0, 1), (1, .sipush 625, 3), (4, .idiv, 1), (5, .iconst 2, 1), (6, .iload_n 1, 1), (7, .imul, 1), (8, .ishr, 1), (9, .iconst 3, 1), (10, .iand, 1), (11, .ireturn, 1)]
theorem tk_m_seatIn : ∀ q ∈ tb_m_seatIn, decode M_m_seatIn.2.1 q.1 = .ok q.2 := by decide +kernel
theorem c_m_seatIn {G : ab_G} (s r : Int32) (w : ab_H) : ab_C G 0 M_m_seatIn [.int s, .int r] w (fun v w' => v = some (.int ((s / 625) >>> ((2 * r) &&& 31) &&& 3)) ∧ w' = w) := by
  refine x_enter [some (.int s), some (.int r)] (by decide) (Nat.le_of_ble_eq_true rfl) rfl (fun v w' h => by obtain ⟨rfl, rfl⟩ := h; rfl) ?_
  refine x_iload_n 1 0 (ab_dd tk_m_seatIn 0 rfl) rfl rfl rfl ?_
  refine x_sipush 4 625 (ab_dd tk_m_seatIn 1 rfl) rfl (by decide) ?_
  refine x_idiv 5 (ab_dd tk_m_seatIn 2 rfl) rfl (by decide) ?_
  refine x_iconst 6 2 (ab_dd tk_m_seatIn 3 rfl) rfl (by decide) ?_
  refine x_iload_n 7 1 (ab_dd tk_m_seatIn 4 rfl) rfl rfl rfl ?_
  refine x_imul 8 (ab_dd tk_m_seatIn 5 rfl) rfl ?_
  refine x_ishr 9 (ab_dd tk_m_seatIn 6 rfl) rfl ?_
  refine x_iconst 10 3 (ab_dd tk_m_seatIn 7 rfl) rfl (by decide) ?_
  refine x_iand 11 (ab_dd tk_m_seatIn 8 rfl) rfl ?_
  exact x_iret (ab_dd tk_m_seatIn 9 rfl) ⟨rfl, rfl⟩
def mPl (r : Int32) : Int32 := if r = 0 then 1 else if r = 1 then 5 else if r = 2 then 25 else 125
def tb_m_warmthIn : List (Nat × Instr × Nat) := [(0, .iload_n 0, 1), (1, .sipush 625, 3), (4, .irem, 1), (5, .iload_n 1, 1), (6, .invokestatic 225, 3), (9, .idiv, 1), (10, .iconst 5, 1), (11, .irem, 1), (12, .ireturn, 1)]
theorem tk_m_warmthIn : ∀ q ∈ tb_m_warmthIn, decode M_m_warmthIn.2.1 q.1 = .ok q.2 := by decide +kernel
theorem c_m_warmthIn {G : ab_G} (s r : Int32) (w : ab_H) : ab_C G 1 M_m_warmthIn [.int s, .int r] w (fun v w' => v = some (.int ((s - s / 625 * 625) / mPl r - (s - s / 625 * 625) / mPl r / 5 * 5)) ∧ w' = w) := by
  refine x_enter [some (.int s), some (.int r)] (by decide) (Nat.le_of_ble_eq_true rfl) rfl (fun v w' h => by obtain ⟨rfl, rfl⟩ := h; rfl) ?_
  refine x_iload_n 1 0 (ab_dd tk_m_warmthIn 0 rfl) rfl rfl rfl ?_
  refine x_sipush 4 625 (ab_dd tk_m_warmthIn 1 rfl) rfl (by decide) ?_
  refine x_irem 5 (ab_dd tk_m_warmthIn 2 rfl) rfl (by decide) ?_
  refine x_iload_n 6 1 (ab_dd tk_m_warmthIn 3 rfl) rfl rfl rfl ?_
  refine x_callS 9 M_m_placeOf 0 1 [_] (ab_dd tk_m_warmthIn 4 rfl) rfl (by decide) K_m_placeOf T_m_placeOf L_m_225 rfl (Nat.le_of_ble_eq_true rfl) (c_m_placeOf _ _) (fun v1 w1 h1 => ?_)
  obtain ⟨rfl, rfl⟩ := h1
  refine x_idiv 10 (ab_dd tk_m_warmthIn 5 rfl) rfl (by split <;> first | decide | (split <;> first | decide | (split <;> decide))) ?_
  refine x_iconst 11 5 (ab_dd tk_m_warmthIn 6 rfl) rfl (by decide) ?_
  refine x_irem 12 (ab_dd tk_m_warmthIn 7 rfl) rfl (by decide) ?_
  exact x_iret (ab_dd tk_m_warmthIn 8 rfl) ⟨rfl, rfl⟩
