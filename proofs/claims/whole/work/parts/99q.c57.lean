/-! ===== fault ===== -/
def tb_s_fault : List (Nat × Instr × Nat) := [(0, .iload_n 1, 1), (1, .ifCond .ne 11, 3), (4, .aload_n 0, 1), (5, .getfield 61, 3), (8, .getfield 112, 3), (11, .ireturn, 1), (12, .iload_n 1, 1), (13, .iconst 1, 1), (14, .if_icmp .ne 13, 3), (17, .aload_n 0, 1), (18, .getfield 61, 3), (21, .getfield 127, 3), (24, .goto 4, 3), (27, .iconst (-1), 1), (28, .ireturn, 1)]
theorem tk_s_fault : ∀ q ∈ tb_s_fault, decode M_s_fault.2.1 q.1 = .ok q.2 := by decide +kernel
theorem p_s_fault {G : ab_G} {S : ab_S} (hx : xSh S) (e : Int32) : ab_C G 0 M_s_fault [.ref 50, .int e] (sw S) (fun v w' => v = some (.int (if e = 0 then sI S 72 6 else if e = 1 then sI S 72 7 else -1)) ∧ w' = sw S) := by
  refine x_enter [some (.ref 50), some (.int e)] (by decide) (Nat.le_of_ble_eq_true rfl) rfl (fun v w' h => by obtain ⟨rfl, -⟩ := h; rfl) ?_
  obtain ⟨k6, hk6⟩ : ∃ z, sI S 72 6 = z := ⟨_, rfl⟩
  obtain ⟨k7, hk7⟩ : ∃ z, sI S 72 7 = z := ⟨_, rfl⟩
  rw [hk6, hk7]
  refine x_iload_n 1 1 (ab_dd tk_s_fault 0 rfl) rfl rfl rfl ?_
  refine x_if_ne 4 12 (ab_dd tk_s_fault 1 rfl) rfl (by decide) (fun h1 => ?_) (fun h1 => ?_)
  · refine x_iload_n 13 1 (ab_dd tk_s_fault 6 rfl) rfl rfl rfl ?_
    refine x_iconst 14 1 (ab_dd tk_s_fault 7 rfl) rfl (by decide) (x_topn 1 rfl ?_)
    refine x_icmp_ne 17 27 (ab_dd tk_s_fault 8 rfl) rfl (by decide) (fun h14 => ?_) (fun h14 => ?_)
    · refine x_iconst 28 (-1) (ab_dd tk_s_fault 13 rfl) rfl (by decide) ?_
      rw [if_neg (by first | exact h1 | omega)]
      first
        | (rw [if_pos (by first | exact h14 | exact Decidable.not_not.mp h14)]; exact x_iret (ab_dd tk_s_fault 14 rfl) ⟨rfl, rfl⟩)
        | (rw [if_neg (by exact h14)]; exact x_iret (ab_dd tk_s_fault 14 rfl) ⟨rfl, rfl⟩)
    · refine x_aload_n 18 0 (ab_dd tk_s_fault 9 rfl) rfl rfl rfl ?_
      refine t_getP 21 72 (ab_dd tk_s_fault 10 rfl) rfl F_s_61 (by decide) (Nat.lt_of_lt_of_le (by decide) hx.1) (hx.2.1 0 (by decide)) rfl (hx.2.2 (50, 10, 72) (by decide)) ?_
      refine t_getI 24 (ab_dd tk_s_fault 11 rfl) rfl F_s_127 (by decide) (Nat.lt_of_lt_of_le (by decide) hx.1) (hx.2.1 22 (by decide)) rfl (x_topx k7 hk7 ?_)
      refine x_goto 28 (ab_dd tk_s_fault 12 rfl) (by decide) ?_
      rw [if_neg (by first | exact h1 | omega)]
      first
        | (rw [if_pos (by first | exact h14 | exact Decidable.not_not.mp h14)]; exact x_iret (ab_dd tk_s_fault 14 rfl) ⟨rfl, rfl⟩)
        | (rw [if_neg (by exact h14)]; exact x_iret (ab_dd tk_s_fault 14 rfl) ⟨rfl, rfl⟩)
  · refine x_aload_n 5 0 (ab_dd tk_s_fault 2 rfl) rfl rfl rfl ?_
    refine t_getP 8 72 (ab_dd tk_s_fault 3 rfl) rfl F_s_61 (by decide) (Nat.lt_of_lt_of_le (by decide) hx.1) (hx.2.1 0 (by decide)) rfl (hx.2.2 (50, 10, 72) (by decide)) ?_
    refine t_getI 11 (ab_dd tk_s_fault 4 rfl) rfl F_s_112 (by decide) (Nat.lt_of_lt_of_le (by decide) hx.1) (hx.2.1 22 (by decide)) rfl (x_topx k6 hk6 ?_)
    rw [if_pos (by first | exact h1 | exact Decidable.not_not.mp h1)]
    exact x_iret (ab_dd tk_s_fault 5 rfl) ⟨rfl, rfl⟩
