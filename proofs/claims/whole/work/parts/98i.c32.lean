/-! ===== seatings made ===== -/
def dg (o r : Nat) : Nat := o / 4 ^ (3 - r) % 4
theorem dg_all : (List.range 256).all (fun o => (List.range 4).all (fun r => decide ((nI o >>> ((nI 2 * (nI 3 - nI r)) &&& 31)) &&& nI 3 = nI (dg o r)))) = true := by decide +kernel
theorem dg_ok {o r : Nat} (ho : o < 256) (hr : r < 4) : (nI o >>> ((nI 2 * (nI 3 - nI r)) &&& 31)) &&& nI 3 = nI (dg o r) := of_decide_eq_true (List.all_eq_true.mp (List.all_eq_true.mp dg_all o (List.mem_range.mpr ho)) r (List.mem_range.mpr hr))
theorem dg_lt (o r : Nat) : dg o r < 4 := Nat.mod_lt _ (by decide)
theorem sh1 : ∀ d, d < 4 → nI 1 <<< (nI d &&& 31) = nI (2 ^ d) := by decide +kernel
def tkn (o : Nat) : Nat → Nat
  | 0 => 0
  | r + 1 => tkn o r ||| 2 ^ dg o r
theorem tkn_lt (o : Nat) : ∀ r, tkn o r < 16
  | 0 => by show 0 < 16; decide
  | r + 1 => by
    show tkn o r ||| 2 ^ dg o r < 2 ^ 4
    refine Nat.or_lt_two_pow (tkn_lt o r) ?_
    exact Nat.pow_lt_pow_right (by decide) (dg_lt o r)
def mvJ (o n : Nat) : Bool := (List.range 4).all (fun r => !(decide (n ≤ r)) || dg o r == r) && tkn o 4 == 15 && (n == 1 || !(dg o (n - 1) == n - 1))
theorem mvJ_iff {o n : Nat} : mvJ o n = true ↔ (∀ r, r < 4 → n ≤ r → dg o r = r) ∧ tkn o 4 = 15 ∧ (n = 1 ∨ dg o (n - 1) ≠ n - 1) := by
  unfold mvJ
  rw [Bool.and_eq_true, Bool.and_eq_true, Bool.or_eq_true, List.all_eq_true, beq_iff_eq, beq_iff_eq, Bool.not_eq_true', beq_eq_false_iff_ne]
  constructor
  · rintro ⟨⟨h1, h2⟩, h3⟩
    refine ⟨fun r hr hn => ?_, h2, h3⟩
    have z := h1 r (List.mem_range.mpr hr)
    rw [Bool.or_eq_true, Bool.not_eq_true', decide_eq_false_iff_not, beq_iff_eq] at z
    exact z.resolve_left (fun y => y hn)
  · rintro ⟨h1, h2, h3⟩
    refine ⟨⟨fun r hr => ?_, h2⟩, h3⟩
    rw [Bool.or_eq_true, Bool.not_eq_true', decide_eq_false_iff_not, beq_iff_eq]
    by_cases y : n ≤ r
    · exact Or.inr (h1 r (List.mem_range.mp hr) y)
    · exact Or.inl y
def qP (k : Nat) : Nat := 256 * (if k < 1 then 0 else if k < 2 then 1 else if k < 6 then 2 else 3) + qO k
def cWf (x : Nat) : Nat → Nat
  | 0 => 0
  | m + 1 => cWf x m + if qP m < x then 1 else 0
def cW (x : Nat) : Nat := cWf x 24
theorem cW_all : (List.range 1024).all (fun x => if mvJ (x % 256) (x / 256 + 1) = true then decide (cW x < 24) && qO (cW x) == x % 256 && cW (x + 1) == cW x + 1 else cW (x + 1) == cW x) = true := by decide +kernel
theorem cW_ok {n o : Nat} (hn : n < 4) (ho : o < 256) : (mvJ o (n + 1) = true → cW (256 * n + o) < 24 ∧ qO (cW (256 * n + o)) = o ∧ cW (256 * n + (o + 1)) = cW (256 * n + o) + 1) ∧ (mvJ o (n + 1) ≠ true → cW (256 * n + (o + 1)) = cW (256 * n + o)) := by
  have h := List.all_eq_true.mp cW_all (256 * n + o) (List.mem_range.mpr (by omega))
  rw [show (256 * n + o) % 256 = o by omega, show (256 * n + o) / 256 = n by omega] at h
  constructor
  · intro z
    rw [if_pos z, Bool.and_eq_true, Bool.and_eq_true, decide_eq_true_eq, beq_iff_eq, beq_iff_eq] at h
    exact ⟨h.1.1, h.1.2, h.2⟩
  · intro z
    rw [if_neg z, beq_iff_eq] at h
    exact h
theorem cW_0 : cW 0 = 0 := by decide +kernel
theorem cW_e : cW 1024 = 24 := by decide +kernel
theorem cW_le (x : Nat) : cW x ≤ 24 := by
  have : ∀ m, cWf x m ≤ m := fun m => by
    induction m with
    | zero => exact Nat.le_refl _
    | succ m ih =>
      show cWf x m + (if qP m < x then 1 else 0) ≤ _
      split <;> omega
  exact this 24
theorem qO_inj_all : (List.range 24).all (fun k => (List.range 24).all (fun l => !(qO k == qO l) || k == l)) = true := by decide +kernel
theorem qO_inj {k l : Nat} (hk : k < 24) (hl : l < 24) (h : qO k = qO l) : k = l := by
  have z := List.all_eq_true.mp (List.all_eq_true.mp qO_inj_all k (List.mem_range.mpr hk)) l (List.mem_range.mpr hl)
  rw [h] at z
  simp at z
  exact z
theorem qO_lt : ∀ k, k < 24 → qO k < 256 := by decide +kernel
def swS (d s : Nat) : Nat := if 0 < d ∧ s = d then d - 1 else if 0 < d ∧ s = d - 1 then d else s
def obN (q d : Nat) : Nat → Nat
  | 0 => 0
  | r + 1 => obN q d r * 4 + swS d (qSe q r)
theorem obN_all : (List.range 24).all (fun q => (List.range 4).all (fun d => obN q d 4 == qO (qCh q d) && decide (qCh q d < 24) && (List.range 5).all (fun r => decide (obN q d r < 256)))) = true := by decide +kernel
theorem obN_ok {q d : Nat} (hq : q < 24) (hd : d < 4) : obN q d 4 = qO (qCh q d) ∧ qCh q d < 24 ∧ ∀ r, r < 5 → obN q d r < 256 := by
  have z := List.all_eq_true.mp (List.all_eq_true.mp obN_all q (List.mem_range.mpr hq)) d (List.mem_range.mpr hd)
  rw [Bool.and_eq_true, Bool.and_eq_true, beq_iff_eq, decide_eq_true_eq, List.all_eq_true] at z
  exact ⟨z.1.1, z.1.2, fun r hr => of_decide_eq_true (z.2 r (List.mem_range.mpr hr))⟩
def seK (S : ab_S) (a : Nat) : Prop := 50 ≤ a ∧ a + 4 < sn S ∧ sK S a = .inr 7 ∧ sK S (a + 1) = .inl (.int, 96) ∧ sK S (a + 2) = .inl (.int, 96) ∧ sK S (a + 3) = .inl (.int, 96) ∧ sK S (a + 4) = .inl (.int, 24) ∧ sP S a 0 = some (a + 1) ∧ sP S a 1 = some (a + 2) ∧ sP S a 2 = some (a + 3) ∧ sP S a 3 = some (a + 4)
theorem seK.eq {S S' : ab_S} {a : Nat} {l : List Nat} (h : seK S a) (hE : sEq l S S') : seK S' a := by
  unfold seK
  rw [hE.2.1, hE.2.2.2.2.1, hE.2.2.2.2.2.1]
  exact h
def tb_se_digit : List (Nat × Instr × Nat) := [(0, .iload_n 0, 1), (1, .iconst 2, 1), (2, .iconst 3, 1), (3, .iload_n 1, 1), (4, .isub, 1), (5, .imul, 1), (6, .ishr, 1), (7, .iconst 3, 1), (8, .iand, 1), (9, .ireturn, 1)]
theorem tk_se_digit : ∀ q ∈ tb_se_digit, decode M_se_digit.2.1 q.1 = .ok q.2 := by decide +kernel
theorem c_se_digit {G : ab_G} {S : ab_S} (o r : Nat) (ho : o < 256) (hr : r < 4) : ab_C G 0 M_se_digit [.int (nI o), .int (nI r)] (sw S) (fun v w' => v = some (.int (nI (dg o r))) ∧ w' = sw S) := by
  refine x_enter [some (.int (nI o)), some (.int (nI r))] (by decide) (Nat.le_of_ble_eq_true rfl) rfl (fun v w' h => by obtain ⟨rfl, rfl⟩ := h; rfl) ?_
  refine x_iload_n 1 0 (ab_dd tk_se_digit 0 rfl) rfl rfl rfl ?_
  refine x_iconst 2 2 (ab_dd tk_se_digit 1 rfl) rfl (by decide) (x_topn 2 rfl ?_)
  refine x_iconst 3 3 (ab_dd tk_se_digit 2 rfl) rfl (by decide) (x_topn 3 rfl ?_)
  refine x_iload_n 4 1 (ab_dd tk_se_digit 3 rfl) rfl rfl rfl ?_
  refine x_isub 5 (ab_dd tk_se_digit 4 rfl) rfl ?_
  refine x_imul 6 (ab_dd tk_se_digit 5 rfl) rfl ?_
  refine x_ishr 7 (ab_dd tk_se_digit 6 rfl) rfl ?_
  refine x_iconst 8 3 (ab_dd tk_se_digit 7 rfl) rfl (by decide) (x_topn 3 rfl ?_)
  refine x_iand 9 (ab_dd tk_se_digit 8 rfl) rfl (x_topn (dg o r) (dg_ok ho hr) ?_)
  exact x_iret (ab_dd tk_se_digit 9 rfl) ⟨rfl, rfl⟩
def tb_se_movesJust : List (Nat × Instr × Nat) := [(0, .iconst 0, 1), (1, .istore_n 2, 1), (2, .iconst 0, 1), (3, .istore_n 3, 1), (4, .iload_n 3, 1), (5, .iconst 4, 1), (6, .if_icmp .ge 35, 3), (9, .iload_n 2, 1), (10, .iconst 1, 1), (11, .iload_n 0, 1), (12, .iload_n 3, 1), (13, .invokestatic 36, 3), (16, .ishl, 1), (17, .ior, 1), (18, .istore_n 2, 1), (19, .iload_n 3, 1), (20, .iload_n 1, 1), (21, .if_icmp .lt 14, 3), (24, .iload_n 0, 1), (25, .iload_n 3, 1), (26, .invokestatic 36, 3), (29, .iload_n 3, 1), (30, .if_icmp .eq 5, 3), (33, .iconst 0, 1), (34, .ireturn, 1), (35, .iinc 3 1, 3), (38, .goto (-34), 3), (41, .iload_n 2, 1), (42, .bipush 15, 2), (44, .if_icmp .ne 25, 3), (47, .iload_n 1, 1), (48, .iconst 1, 1), (49, .if_icmp .eq 16, 3), (52, .iload_n 0, 1), (53, .iload_n 1, 1), (54, .iconst 1, 1), (55, .isub, 1), (56, .invokestatic 36, 3), (59, .iload_n 1, 1), (60, .iconst 1, 1), (61, .isub, 1), (62, .if_icmp .eq 7, 3), (65, .iconst 1, 1), (66, .goto 4, 3), (69, .iconst 0, 1), (70, .ireturn, 1)]
theorem tk_se_movesJust : ∀ q ∈ tb_se_movesJust, decode M_se_movesJust.2.1 q.1 = .ok q.2 := by decide +kernel
theorem c_se_movesJust {G : ab_G} {S : ab_S} (o n : Nat) (ho : o < 256) (hn1 : 1 ≤ n) (hn4 : n ≤ 4) : ab_C G 1 M_se_movesJust [.int (nI o), .int (nI n)] (sw S) (fun v w' => v = some (.int (if mvJ o n = true then 1 else 0)) ∧ w' = sw S) := by
  refine x_enter [some (.int (nI o)), some (.int (nI n)), none, none] (by decide) (Nat.le_of_ble_eq_true rfl) rfl (fun v w' h => by obtain ⟨rfl, rfl⟩ := h; split <;> rfl) ?_
  have ht := tkn_lt o
  have loop : ∀ (m r : Nat), r + m = 4 → (∀ r', r' < r → n ≤ r' → dg o r' = r') → ab_Ex G 1 M_se_movesJust 4 [some (.int (nI o)), some (.int (nI n)), some (.int (nI (tkn o r))), some (.int (nI r))] [] (sw S) (fun v w' => v = some (.int (if mvJ o n = true then 1 else 0)) ∧ w' = sw S) := by
    intro m
    induction m with
    | zero =>
      intro r hr hall
      have hr4 : r = 4 := by omega
      subst hr4
      have ht4 := ht 4
      refine x_iload_n 5 3 (ab_dd tk_se_movesJust 4 rfl) rfl rfl rfl ?_
      refine x_iconst 6 4 (ab_dd tk_se_movesJust 5 rfl) rfl (by decide) (x_topn 4 rfl ?_)
      refine x_icmp_ge_t 41 (ab_dd tk_se_movesJust 6 rfl) (by decide) ((nI_leI (a := 4) (b := 4) (by omega) (by omega)).mpr (show 4 ≤ 4 by omega)) ?_
      refine x_iload_n 42 2 (ab_dd tk_se_movesJust 27 rfl) rfl rfl rfl ?_
      refine x_bipush 44 15 (ab_dd tk_se_movesJust 28 rfl) rfl (by decide) (x_topn 15 rfl ?_)
      refine xn_icmp_ne 47 69 (ab_dd tk_se_movesJust 29 rfl) rfl (by decide) (by omega) (by omega) (fun h44 => ?_) (fun h44 => ?_)
      · refine x_iconst 70 0 (ab_dd tk_se_movesJust 44 rfl) rfl (by decide) (x_topn 0 rfl ?_)
        exact x_iret (ab_dd tk_se_movesJust 45 rfl) ⟨rI (if_neg (fun z => h44 (mvJ_iff.mp z).2.1)).symm, rfl⟩
      · refine x_iload_n 48 1 (ab_dd tk_se_movesJust 30 rfl) rfl rfl rfl ?_
        refine x_iconst 49 1 (ab_dd tk_se_movesJust 31 rfl) rfl (by decide) (x_topn 1 rfl ?_)
        refine xn_icmp_eq 52 65 (ab_dd tk_se_movesJust 32 rfl) rfl (by decide) (by omega) (by omega) (fun h49 => ?_) (fun h49 => ?_)
        · refine x_iconst 66 1 (ab_dd tk_se_movesJust 42 rfl) rfl (by decide) (x_topn 1 rfl ?_)
          refine x_goto 70 (ab_dd tk_se_movesJust 43 rfl) (by decide) ?_
          exact x_iret (ab_dd tk_se_movesJust 45 rfl) ⟨rI (if_pos (mvJ_iff.mpr ⟨fun r h1 h2 => hall r h1 h2, h44, Or.inl h49⟩)).symm, rfl⟩
        · refine x_iload_n 53 0 (ab_dd tk_se_movesJust 33 rfl) rfl rfl rfl ?_
          refine x_iload_n 54 1 (ab_dd tk_se_movesJust 34 rfl) rfl rfl rfl ?_
          refine x_iconst 55 1 (ab_dd tk_se_movesJust 35 rfl) rfl (by decide) (x_topn 1 rfl ?_)
          refine x_isub 56 (ab_dd tk_se_movesJust 36 rfl) rfl (x_topn (n - 1) (pk_sub (by omega)) ?_)
          refine x_callS 59 M_se_digit 0 2 [_, _] (ab_dd tk_se_movesJust 37 rfl) rfl (by first | decide | omega) K_se_digit T_se_digit L_se_36 rfl (Nat.le_of_ble_eq_true rfl) (c_se_digit o (n - 1) (by omega) (by omega)) (fun v1 w1 h1 => ?_)
          obtain ⟨rfl, rfl⟩ := h1
          have hdl1 := dg_lt o (n - 1)
          refine x_iload_n 60 1 (ab_dd tk_se_movesJust 38 rfl) rfl rfl rfl ?_
          refine x_iconst 61 1 (ab_dd tk_se_movesJust 39 rfl) rfl (by decide) (x_topn 1 rfl ?_)
          refine x_isub 62 (ab_dd tk_se_movesJust 40 rfl) rfl (x_topn (n - 1) (pk_sub (by omega)) ?_)
          refine xn_icmp_eq 65 69 (ab_dd tk_se_movesJust 41 rfl) rfl (by decide) (by omega) (by omega) (fun h62 => ?_) (fun h62 => ?_)
          · refine x_iconst 70 0 (ab_dd tk_se_movesJust 44 rfl) rfl (by decide) (x_topn 0 rfl ?_)
            exact x_iret (ab_dd tk_se_movesJust 45 rfl) ⟨rI (if_neg (fun z => (mvJ_iff.mp z).2.2.elim h49 (fun y => y h62))).symm, rfl⟩
          · refine x_iconst 66 1 (ab_dd tk_se_movesJust 42 rfl) rfl (by decide) (x_topn 1 rfl ?_)
            refine x_goto 70 (ab_dd tk_se_movesJust 43 rfl) (by decide) ?_
            exact x_iret (ab_dd tk_se_movesJust 45 rfl) ⟨rI (if_pos (mvJ_iff.mpr ⟨fun r h1 h2 => hall r h1 h2, h44, Or.inr h62⟩)).symm, rfl⟩
    | succ m ih =>
      intro r hr hall
      have htr := ht r
      refine x_iload_n 5 3 (ab_dd tk_se_movesJust 4 rfl) rfl rfl rfl ?_
      refine x_iconst 6 4 (ab_dd tk_se_movesJust 5 rfl) rfl (by decide) (x_topn 4 rfl ?_)
      refine x_icmp_ge_f 9 (ab_dd tk_se_movesJust 6 rfl) rfl 41 (by decide) (fun z => absurd ((nI_leI (a := 4) (b := r) (by omega) (by omega)).mp z) (show ¬ (4 ≤ r) by omega)) ?_
      refine x_iload_n 10 2 (ab_dd tk_se_movesJust 7 rfl) rfl rfl rfl ?_
      refine x_iconst 11 1 (ab_dd tk_se_movesJust 8 rfl) rfl (by decide) (x_topn 1 rfl ?_)
      refine x_iload_n 12 0 (ab_dd tk_se_movesJust 9 rfl) rfl rfl rfl ?_
      refine x_iload_n 13 3 (ab_dd tk_se_movesJust 10 rfl) rfl rfl rfl ?_
      refine x_callS 16 M_se_digit 0 2 [_, _] (ab_dd tk_se_movesJust 11 rfl) rfl (by first | decide | omega) K_se_digit T_se_digit L_se_36 rfl (Nat.le_of_ble_eq_true rfl) (c_se_digit o r (by omega) (by omega)) (fun v1 w1 h1 => ?_)
      obtain ⟨rfl, rfl⟩ := h1
      have hdl1 := dg_lt o r
      refine x_ishl 17 (ab_dd tk_se_movesJust 12 rfl) rfl (x_topn (2 ^ dg o r) (sh1 _ (dg_lt o r)) ?_)
      refine x_ior 18 (ab_dd tk_se_movesJust 13 rfl) rfl (x_topn (tkn o (r + 1)) (fa_or _ _) ?_)
      refine x_istore_n 19 [some (.int (nI o)), some (.int (nI n)), some (.int (nI (tkn o (r + 1)))), some (.int (nI r))] 2 (ab_dd tk_se_movesJust 14 rfl) rfl rfl (by decide) rfl ?_
      refine x_iload_n 20 3 (ab_dd tk_se_movesJust 15 rfl) rfl rfl rfl ?_
      refine x_iload_n 21 1 (ab_dd tk_se_movesJust 16 rfl) rfl rfl rfl ?_
      refine xn_icmp_lt 24 35 (ab_dd tk_se_movesJust 17 rfl) rfl (by decide) (by omega) (by omega) (fun h21 => ?_) (fun h21 => ?_)
      · refine xn_iinc 38 3 (fun y => [some (.int (nI o)), some (.int (nI n)), some (.int (nI (tkn o (r + 1)))), some (.int y)]) (r + 1) (ab_dd tk_se_movesJust 25 rfl) rfl (by decide) rfl (fun _ => rfl) (iinc_p 1) ?_
        refine x_goto 4 (ab_dd tk_se_movesJust 26 rfl) (by decide) ?_
        exact ih (r + 1) (by omega) (fun r' h1 h2 => by
          by_cases e : r' = r
          · omega
          · exact hall r' (by omega) h2)
      · refine x_iload_n 25 0 (ab_dd tk_se_movesJust 18 rfl) rfl rfl rfl ?_
        refine x_iload_n 26 3 (ab_dd tk_se_movesJust 19 rfl) rfl rfl rfl ?_
        refine x_callS 29 M_se_digit 0 2 [_, _] (ab_dd tk_se_movesJust 20 rfl) rfl (by first | decide | omega) K_se_digit T_se_digit L_se_36 rfl (Nat.le_of_ble_eq_true rfl) (c_se_digit o r (by omega) (by omega)) (fun v1 w1 h1 => ?_)
        obtain ⟨rfl, rfl⟩ := h1
        have hdl2 := dg_lt o r
        refine x_iload_n 30 3 (ab_dd tk_se_movesJust 21 rfl) rfl rfl rfl ?_
        refine xn_icmp_eq 33 35 (ab_dd tk_se_movesJust 22 rfl) rfl (by decide) (by omega) (by omega) (fun h30 => ?_) (fun h30 => ?_)
        · refine xn_iinc 38 3 (fun y => [some (.int (nI o)), some (.int (nI n)), some (.int (nI (tkn o (r + 1)))), some (.int y)]) (r + 1) (ab_dd tk_se_movesJust 25 rfl) rfl (by decide) rfl (fun _ => rfl) (iinc_p 1) ?_
          refine x_goto 4 (ab_dd tk_se_movesJust 26 rfl) (by decide) ?_
          exact ih (r + 1) (by omega) (fun r' h1 h2 => by
            by_cases e : r' = r
            · rw [e]; exact h30
            · exact hall r' (by omega) h2)
        · refine x_iconst 34 0 (ab_dd tk_se_movesJust 23 rfl) rfl (by decide) (x_topn 0 rfl ?_)
          exact x_iret (ab_dd tk_se_movesJust 24 rfl) ⟨rI (if_neg (fun z => h30 ((mvJ_iff.mp z).1 r (by omega) (by omega)))).symm, rfl⟩
  refine x_iconst 1 0 (ab_dd tk_se_movesJust 0 rfl) rfl (by decide) (x_topn 0 rfl ?_)
  refine x_istore_n 2 [some (.int (nI o)), some (.int (nI n)), some (.int (nI 0)), none] 2 (ab_dd tk_se_movesJust 1 rfl) rfl rfl (by decide) rfl ?_
  refine x_iconst 3 0 (ab_dd tk_se_movesJust 2 rfl) rfl (by decide) (x_topn 0 rfl ?_)
  refine x_istore_n 4 [some (.int (nI o)), some (.int (nI n)), some (.int (nI 0)), some (.int (nI 0))] 3 (ab_dd tk_se_movesJust 3 rfl) rfl rfl (by decide) rfl ?_
  exact loop 4 0 (by omega) (fun r' h => absurd h (Nat.not_lt_zero r'))
def tb_se_note : List (Nat × Instr × Nat) := [(0, .aload_n 0, 1), (1, .getfield 21, 3), (4, .iload_n 1, 1), (5, .iload_n 2, 1), (6, .iastore, 1), (7, .iconst 0, 1), (8, .istore_n 3, 1), (9, .iload_n 3, 1), (10, .iconst 4, 1), (11, .if_icmp .ge 39, 3), (14, .aload_n 0, 1), (15, .getfield 9, 3), (18, .iload_n 1, 1), (19, .iconst 4, 1), (20, .imul, 1), (21, .iload_n 3, 1), (22, .iadd, 1), (23, .iload_n 2, 1), (24, .iload_n 3, 1), (25, .invokestatic 36, 3), (28, .iastore, 1), (29, .aload_n 0, 1), (30, .getfield 15, 3), (33, .iload_n 1, 1), (34, .iconst 4, 1), (35, .imul, 1), (36, .iload_n 2, 1), (37, .iload_n 3, 1), (38, .invokestatic 36, 3), (41, .iadd, 1), (42, .iload_n 3, 1), (43, .iastore, 1), (44, .iinc 3 1, 3), (47, .goto (-38), 3), (50, .return_, 1)]
theorem tk_se_note : ∀ q ∈ tb_se_note, decode M_se_note.2.1 q.1 = .ok q.2 := by decide +kernel
theorem c_se_note {G : ab_G} {S : ab_S} {a : Nat} (hS : seK S a) (q : Nat) (hq : q < 24) : ab_C G 1 M_se_note [.ref a, .int (nI q), .int (nI (qO q))] (sw S) (fun v w' => v = none ∧ ∃ S', w' = sw S' ∧ sEq [a + 1, a + 2, a + 4] S S' ∧ (∀ r, r < 4 → sI S' (a + 1) (q * 4 + r) = nI (qSe q r) ∧ sI S' (a + 2) (q * 4 + r) = nI (qRi q r)) ∧ sI S' (a + 4) q = nI (qO q) ∧ (∀ j, j < q * 4 → sI S' (a + 1) j = sI S (a + 1) j ∧ sI S' (a + 2) j = sI S (a + 2) j) ∧ ∀ j, j < q → sI S' (a + 4) j = sI S (a + 4) j) := by
  refine x_enter [some (.ref a), some (.int (nI q)), some (.int (nI (qO q))), none] (by decide) (Nat.le_of_ble_eq_true rfl) rfl (fun v w' h => by obtain ⟨rfl, -⟩ := h; trivial) ?_
  have hq2 := qO_lt q hq
  have hse : ∀ r, dg (qO q) r = qSe q r := fun _ => rfl
  have hb := qB2_ok (R := 4) (q := q) (by decide) hq
  have hse4 : ∀ r, qSe q r < 4 := fun r => dg_lt _ r
  have loop : ∀ (m r : Nat), r + m = 4 → ∀ S1 : ab_S, sEq [a + 1, a + 2, a + 4] S S1 → (∀ i, i < r → sI S1 (a + 1) (q * 4 + i) = nI (qSe q i) ∧ sI S1 (a + 2) (q * 4 + qSe q i) = nI i) → sI S1 (a + 4) q = nI (qO q) → (∀ j, j < q * 4 → sI S1 (a + 1) j = sI S (a + 1) j ∧ sI S1 (a + 2) j = sI S (a + 2) j) → (∀ j, j < q → sI S1 (a + 4) j = sI S (a + 4) j) → ab_Ex G 1 M_se_note 9 [some (.ref a), some (.int (nI q)), some (.int (nI (qO q))), some (.int (nI r))] [] (sw S1) (fun v w' => v = none ∧ ∃ S', w' = sw S' ∧ sEq [a + 1, a + 2, a + 4] S S' ∧ (∀ r, r < 4 → sI S' (a + 1) (q * 4 + r) = nI (qSe q r) ∧ sI S' (a + 2) (q * 4 + r) = nI (qRi q r)) ∧ sI S' (a + 4) q = nI (qO q) ∧ (∀ j, j < q * 4 → sI S' (a + 1) j = sI S (a + 1) j ∧ sI S' (a + 2) j = sI S (a + 2) j) ∧ ∀ j, j < q → sI S' (a + 4) j = sI S (a + 4) j) := by
    intro m
    induction m with
    | zero =>
      intro r hr S1 hE1 h1 h2 h3 h4
      have hr4 : r = 4 := by omega
      subst hr4
      have hS1 : seK S1 a := hS.eq hE1
      refine x_iload_n 10 3 (ab_dd tk_se_note 7 rfl) rfl rfl rfl ?_
      refine x_iconst 11 4 (ab_dd tk_se_note 8 rfl) rfl (by decide) (x_topn 4 rfl ?_)
      refine x_icmp_ge_t 50 (ab_dd tk_se_note 9 rfl) (by decide) ((nI_leI (a := 4) (b := 4) (by omega) (by omega)).mpr (show 4 ≤ 4 by omega)) ?_
      exact x_vret (ab_dd tk_se_note 34 rfl) ⟨rfl, S1, rfl, hE1, fun r hr => ⟨(h1 r hr).1, by have z := (h1 (qRi q r) (by have := (qB1_ok (R := 4) (q := q) (by decide) hq).2.2.2.2.1 r hr; omega)).2; rw [(hb r hr).1] at z; exact z⟩, h2, h3, h4⟩
    | succ m ih =>
      intro r hr S1 hE1 h1 h2 h3 h4
      have hS1 : seK S1 a := hS.eq hE1
      have hs4 := hse4 r
      refine x_iload_n 10 3 (ab_dd tk_se_note 7 rfl) rfl rfl rfl ?_
      refine x_iconst 11 4 (ab_dd tk_se_note 8 rfl) rfl (by decide) (x_topn 4 rfl ?_)
      refine x_icmp_ge_f 14 (ab_dd tk_se_note 9 rfl) rfl 50 (by decide) (fun z => absurd ((nI_leI (a := 4) (b := r) (by omega) (by omega)).mp z) (show ¬ (4 ≤ r) by omega)) ?_
      refine x_aload_n 15 0 (ab_dd tk_se_note 10 rfl) rfl rfl rfl ?_
      refine t_getP 18 (a + 1) (ab_dd tk_se_note 11 rfl) rfl F_se_9 hS1.1 (Nat.lt_of_le_of_lt (Nat.le_add_right a 4) hS1.2.1) hS1.2.2.1 rfl hS1.2.2.2.2.2.2.2.1 ?_
      refine x_iload_n 19 1 (ab_dd tk_se_note 12 rfl) rfl rfl rfl ?_
      refine x_iconst 20 4 (ab_dd tk_se_note 13 rfl) rfl (by decide) (x_topn 4 rfl ?_)
      refine x_imul 21 (ab_dd tk_se_note 14 rfl) rfl (x_topn (q * 4) (pk_mul _ _) ?_)
      refine x_iload_n 22 3 (ab_dd tk_se_note 15 rfl) rfl rfl rfl ?_
      refine x_iadd 23 (ab_dd tk_se_note 16 rfl) rfl (x_topn ((q * 4) + r) (nI_add _ _) ?_)
      refine x_iload_n 24 2 (ab_dd tk_se_note 17 rfl) rfl rfl rfl ?_
      refine x_iload_n 25 3 (ab_dd tk_se_note 18 rfl) rfl rfl rfl ?_
      refine x_callS 28 M_se_digit 0 2 [_, _] (ab_dd tk_se_note 19 rfl) rfl (by first | decide | omega) K_se_digit T_se_digit L_se_36 rfl (Nat.le_of_ble_eq_true rfl) (c_se_digit (qO q) r (by omega) (by omega)) (fun v1 w1 h1 => ?_)
      obtain ⟨rfl, rfl⟩ := h1
      have hdl1 := dg_lt (qO q) r
      refine t_iast 29 ((q * 4) + r) (ab_dd tk_se_note 20 rfl) rfl (Nat.le_trans hS1.1 (Nat.le_add_right a 1)) (Nat.lt_of_le_of_lt (Nat.add_le_add_left (by decide) a) hS1.2.1) hS1.2.2.2.1 rfl (by omega) (by decide) ?_
      refine x_aload_n 30 0 (ab_dd tk_se_note 21 rfl) rfl rfl rfl ?_
      refine t_getP 33 (a + 2) (ab_dd tk_se_note 22 rfl) rfl F_se_15 hS1.1 (Nat.lt_of_le_of_lt (Nat.le_add_right a 4) hS1.2.1) hS1.2.2.1 rfl hS1.2.2.2.2.2.2.2.2.1 ?_
      refine x_iload_n 34 1 (ab_dd tk_se_note 23 rfl) rfl rfl rfl ?_
      refine x_iconst 35 4 (ab_dd tk_se_note 24 rfl) rfl (by decide) (x_topn 4 rfl ?_)
      refine x_imul 36 (ab_dd tk_se_note 25 rfl) rfl (x_topn (q * 4) (pk_mul _ _) ?_)
      refine x_iload_n 37 2 (ab_dd tk_se_note 26 rfl) rfl rfl rfl ?_
      refine x_iload_n 38 3 (ab_dd tk_se_note 27 rfl) rfl rfl rfl ?_
      refine x_callS 41 M_se_digit 0 2 [_, _] (ab_dd tk_se_note 28 rfl) rfl (by first | decide | omega) K_se_digit T_se_digit L_se_36 rfl (Nat.le_of_ble_eq_true rfl) (c_se_digit (qO q) r (by omega) (by omega)) (fun v1 w1 h1 => ?_)
      obtain ⟨rfl, rfl⟩ := h1
      have hdl2 := dg_lt (qO q) r
      refine x_iadd 42 (ab_dd tk_se_note 29 rfl) rfl (x_topn ((q * 4) + (dg (qO q) r)) (nI_add _ _) ?_)
      refine x_iload_n 43 3 (ab_dd tk_se_note 30 rfl) rfl rfl rfl ?_
      refine t_iast 44 ((q * 4) + (dg (qO q) r)) (ab_dd tk_se_note 31 rfl) rfl (Nat.le_trans hS1.1 (Nat.le_add_right a 2)) (Nat.lt_of_le_of_lt (Nat.add_le_add_left (by decide) a) hS1.2.1) hS1.2.2.2.2.1 rfl (by omega) (by decide) ?_
      refine xn_iinc 47 3 (fun y => [some (.ref a), some (.int (nI q)), some (.int (nI (qO q))), some (.int y)]) (r + 1) (ab_dd tk_se_note 32 rfl) rfl (by decide) rfl (fun _ => rfl) (iinc_p 1) ?_
      refine x_goto 9 (ab_dd tk_se_note 33 rfl) (by decide) ?_
      refine ih (r + 1) (by omega) _ ((hE1.pI (by simp)).pI (by simp)) (fun i hi => ?_) ?_ (fun j hj => ?_) (fun j hj => ?_)
      · by_cases e : i = r
        · rw [e]
          refine ⟨?_, ?_⟩
          · rw [gI_o (by omega), gI_s]; rfl
          · exact gI_s
        · have hne : qSe q i ≠ qSe q r := fun z => e (by rw [← (hb i (by omega)).2, ← (hb r (by omega)).2, z])
          refine ⟨?_, ?_⟩
          · rw [gI_o (by omega), gI_k (by omega)]; exact (h1 i (by omega)).1
          · rw [gI_k (by show q * 4 + qSe q i ≠ q * 4 + qSe q r; omega), gI_o (by omega)]; exact (h1 i (by omega)).2
      · rw [gI_o (by omega), gI_o (by omega)]; exact h2
      · refine ⟨?_, ?_⟩
        · rw [gI_o (by omega), gI_k (by omega)]; exact (h3 j hj).1
        · rw [gI_k (by show j ≠ q * 4 + qSe q r; omega), gI_o (by omega)]; exact (h3 j hj).2
      · rw [gI_o (by omega), gI_o (by omega)]; exact h4 j hj
  refine x_aload_n 1 0 (ab_dd tk_se_note 0 rfl) rfl rfl rfl ?_
  refine t_getP 4 (a + 4) (ab_dd tk_se_note 1 rfl) rfl F_se_21 hS.1 (Nat.lt_of_le_of_lt (Nat.le_add_right a 4) hS.2.1) hS.2.2.1 rfl hS.2.2.2.2.2.2.2.2.2.2 ?_
  refine x_iload_n 5 1 (ab_dd tk_se_note 2 rfl) rfl rfl rfl ?_
  refine x_iload_n 6 2 (ab_dd tk_se_note 3 rfl) rfl rfl rfl ?_
  refine t_iast 7 q (ab_dd tk_se_note 4 rfl) rfl (Nat.le_trans hS.1 (Nat.le_add_right a 4)) (Nat.lt_of_le_of_lt (Nat.add_le_add_left (by decide) a) hS.2.1) hS.2.2.2.2.2.2.1 rfl (by omega) (by decide) ?_
  refine x_iconst 8 0 (ab_dd tk_se_note 5 rfl) rfl (by decide) (x_topn 0 rfl ?_)
  refine x_istore_n 9 [some (.ref a), some (.int (nI q)), some (.int (nI (qO q))), some (.int (nI 0))] 3 (ab_dd tk_se_note 6 rfl) rfl rfl (by decide) rfl ?_
  exact loop 4 0 (by omega) _ (sEq.rf.pI (by simp)) (fun i hi => absurd hi (Nat.not_lt_zero i)) gI_s (fun j _ => ⟨by rw [gI_o (by omega)], by rw [gI_o (by omega)]⟩) (fun j hj => gI_k (by omega))
def tb_se_orderBehind : List (Nat × Instr × Nat) := [(0, .iconst 0, 1), (1, .istore_n 3, 1), (2, .iconst 0, 1), (3, .istore 4, 2), (5, .iload 4, 2), (7, .iconst 4, 1), (8, .if_icmp .ge 62, 3), (11, .aload_n 0, 1), (12, .getfield 9, 3), (15, .iload_n 1, 1), (16, .iconst 4, 1), (17, .imul, 1), (18, .iload 4, 2), (20, .iadd, 1), (21, .iaload, 1), (22, .istore 5, 2), (24, .iload_n 2, 1), (25, .ifCond .le 17, 3), (28, .iload 5, 2), (30, .iload_n 2, 1), (31, .if_icmp .ne 11, 3), (34, .iload_n 2, 1), (35, .iconst 1, 1), (36, .isub, 1), (37, .istore 5, 2), (39, .goto 18, 3), (42, .iload_n 2, 1), (43, .ifCond .le 14, 3), (46, .iload 5, 2), (48, .iload_n 2, 1), (49, .iconst 1, 1), (50, .isub, 1), (51, .if_icmp .ne 6, 3), (54, .iload_n 2, 1), (55, .istore 5, 2), (57, .iload_n 3, 1), (58, .iconst 4, 1), (59, .imul, 1), (60, .iload 5, 2), (62, .iadd, 1), (63, .istore_n 3, 1), (64, .iinc 4 1, 3), (67, .goto (-62), 3), (70, .iload_n 3, 1), (71, .ireturn, 1)]
theorem tk_se_orderBehind : ∀ q ∈ tb_se_orderBehind, decode M_se_orderBehind.2.1 q.1 = .ok q.2 := by decide +kernel
theorem c_se_orderBehind {G : ab_G} {S : ab_S} {a : Nat} (hS : seK S a) (q d : Nat) (hq : q < 24) (hd : d < 4) (hv : ∀ r, r < 4 → sI S (a + 1) (q * 4 + r) = nI (qSe q r)) : ab_C G 0 M_se_orderBehind [.ref a, .int (nI q), .int (nI d)] (sw S) (fun v w' => v = some (.int (nI (qO (qCh q d)))) ∧ w' = sw S) := by
  refine x_enter [some (.ref a), some (.int (nI q)), some (.int (nI d)), none, none, none] (by decide) (Nat.le_of_ble_eq_true rfl) rfl (fun v w' h => by obtain ⟨rfl, rfl⟩ := h; rfl) ?_
  obtain ⟨b1, b2, b3⟩ := obN_ok hq hd
  have hse4 : ∀ r, qSe q r < 4 := fun r => dg_lt _ r
  have loop : ∀ (m r : Nat), r + m = 4 → ∀ y5 : Option Value, ab_Ex G 0 M_se_orderBehind 5 [some (.ref a), some (.int (nI q)), some (.int (nI d)), some (.int (nI (obN q d r))), some (.int (nI r)), y5] [] (sw S) (fun v w' => v = some (.int (nI (qO (qCh q d)))) ∧ w' = sw S) := by
    intro m
    induction m with
    | zero =>
      intro r hr y5
      refine x_forget 5 ?_
      have hr4 : r = 4 := by omega
      subst hr4
      refine x_iload 7 4 (ab_dd tk_se_orderBehind 4 rfl) rfl rfl ?_
      refine x_iconst 8 4 (ab_dd tk_se_orderBehind 5 rfl) rfl (by decide) (x_topn 4 rfl ?_)
      refine x_icmp_ge_t 70 (ab_dd tk_se_orderBehind 6 rfl) (by decide) ((nI_leI (a := 4) (b := 4) (by omega) (by omega)).mpr (show 4 ≤ 4 by omega)) ?_
      refine x_iload_n 71 3 (ab_dd tk_se_orderBehind 43 rfl) rfl rfl rfl ?_
      exact x_iret (ab_dd tk_se_orderBehind 44 rfl) ⟨by rw [b1], rfl⟩
    | succ m ih =>
      intro r hr y5
      refine x_forget 5 ?_
      have hs4 := hse4 r
      have hob := b3 r (by omega)
      have hI := ih (r + 1) (by omega)
      rw [show obN q d (r + 1) = obN q d r * 4 + swS d (qSe q r) from rfl] at hI
      refine x_iload 7 4 (ab_dd tk_se_orderBehind 4 rfl) rfl rfl ?_
      refine x_iconst 8 4 (ab_dd tk_se_orderBehind 5 rfl) rfl (by decide) (x_topn 4 rfl ?_)
      refine x_icmp_ge_f 11 (ab_dd tk_se_orderBehind 6 rfl) rfl 70 (by decide) (fun z => absurd ((nI_leI (a := 4) (b := r) (by omega) (by omega)).mp z) (show ¬ (4 ≤ r) by omega)) ?_
      refine x_aload_n 12 0 (ab_dd tk_se_orderBehind 7 rfl) rfl rfl rfl ?_
      refine t_getP 15 (a + 1) (ab_dd tk_se_orderBehind 8 rfl) rfl F_se_9 hS.1 (Nat.lt_of_le_of_lt (Nat.le_add_right a 4) hS.2.1) hS.2.2.1 rfl hS.2.2.2.2.2.2.2.1 ?_
      refine x_iload_n 16 1 (ab_dd tk_se_orderBehind 9 rfl) rfl rfl rfl ?_
      refine x_iconst 17 4 (ab_dd tk_se_orderBehind 10 rfl) rfl (by decide) (x_topn 4 rfl ?_)
      refine x_imul 18 (ab_dd tk_se_orderBehind 11 rfl) rfl (x_topn (q * 4) (pk_mul _ _) ?_)
      refine x_iload 20 4 (ab_dd tk_se_orderBehind 12 rfl) rfl rfl ?_
      refine x_iadd 21 (ab_dd tk_se_orderBehind 13 rfl) rfl (x_topn ((q * 4) + r) (nI_add _ _) ?_)
      refine t_iald 22 ((q * 4) + r) (ab_dd tk_se_orderBehind 14 rfl) rfl (Nat.le_trans hS.1 (Nat.le_add_right a 1)) (Nat.lt_of_le_of_lt (Nat.add_le_add_left (by decide) a) hS.2.1) hS.2.2.2.1 rfl (by omega) (by decide) (x_topn (qSe q r) (hv r (by omega)) ?_)
      refine x_istore 24 [some (.ref a), some (.int (nI q)), some (.int (nI d)), some (.int (nI (obN q d r))), some (.int (nI r)), some (.int (nI (qSe q r)))] 5 (ab_dd tk_se_orderBehind 15 rfl) rfl (by decide) rfl ?_
      refine x_iload_n 25 2 (ab_dd tk_se_orderBehind 16 rfl) rfl rfl rfl ?_
      refine xn_if_le 28 42 (ab_dd tk_se_orderBehind 17 rfl) rfl (by decide) (by omega) (fun h25 => ?_) (fun h25 => ?_)
      · refine x_iload_n 43 2 (ab_dd tk_se_orderBehind 26 rfl) rfl rfl rfl ?_
        refine x_if_le_t 57 (ab_dd tk_se_orderBehind 27 rfl) (by decide) ((nI_leI (a := d) (b := 0) (by omega) (by omega)).mpr (show d ≤ 0 by omega)) ?_
        refine x_iload_n 58 3 (ab_dd tk_se_orderBehind 35 rfl) rfl rfl rfl ?_
        refine x_iconst 59 4 (ab_dd tk_se_orderBehind 36 rfl) rfl (by decide) (x_topn 4 rfl ?_)
        refine x_imul 60 (ab_dd tk_se_orderBehind 37 rfl) rfl (x_topn ((obN q d r) * 4) (pk_mul _ _) ?_)
        refine x_iload 62 5 (ab_dd tk_se_orderBehind 38 rfl) rfl rfl ?_
        refine x_iadd 63 (ab_dd tk_se_orderBehind 39 rfl) rfl (x_topn (((obN q d r) * 4) + (qSe q r)) (nI_add _ _) ?_)
        refine x_istore_n 64 [some (.ref a), some (.int (nI q)), some (.int (nI d)), some (.int (nI (((obN q d r) * 4) + (qSe q r)))), some (.int (nI r)), some (.int (nI (qSe q r)))] 3 (ab_dd tk_se_orderBehind 40 rfl) rfl rfl (by decide) rfl ?_
        refine xn_iinc 67 4 (fun y => [some (.ref a), some (.int (nI q)), some (.int (nI d)), some (.int (nI (((obN q d r) * 4) + (qSe q r)))), some (.int y), some (.int (nI (qSe q r)))]) (r + 1) (ab_dd tk_se_orderBehind 41 rfl) rfl (by decide) rfl (fun _ => rfl) (iinc_p 1) ?_
        refine x_goto 5 (ab_dd tk_se_orderBehind 42 rfl) (by decide) ?_
        rw [show swS d (qSe q r) = qSe q r from (by unfold swS; rw [if_neg (by omega), if_neg (by omega)])] at hI
        exact hI _
      · refine x_iload 30 5 (ab_dd tk_se_orderBehind 18 rfl) rfl rfl ?_
        refine x_iload_n 31 2 (ab_dd tk_se_orderBehind 19 rfl) rfl rfl rfl ?_
        refine xn_icmp_ne 34 42 (ab_dd tk_se_orderBehind 20 rfl) rfl (by decide) (by omega) (by omega) (fun h31 => ?_) (fun h31 => ?_)
        · refine x_iload_n 43 2 (ab_dd tk_se_orderBehind 26 rfl) rfl rfl rfl ?_
          refine x_if_le_f 46 (ab_dd tk_se_orderBehind 27 rfl) rfl 57 (by decide) (fun z => absurd ((nI_leI (a := d) (b := 0) (by omega) (by omega)).mp z) (show ¬ (d ≤ 0) by omega)) ?_
          refine x_iload 48 5 (ab_dd tk_se_orderBehind 28 rfl) rfl rfl ?_
          refine x_iload_n 49 2 (ab_dd tk_se_orderBehind 29 rfl) rfl rfl rfl ?_
          refine x_iconst 50 1 (ab_dd tk_se_orderBehind 30 rfl) rfl (by decide) (x_topn 1 rfl ?_)
          refine x_isub 51 (ab_dd tk_se_orderBehind 31 rfl) rfl (x_topn (d - 1) (pk_sub (by omega)) ?_)
          refine xn_icmp_ne 54 57 (ab_dd tk_se_orderBehind 32 rfl) rfl (by decide) (by omega) (by omega) (fun h51 => ?_) (fun h51 => ?_)
          · refine x_iload_n 58 3 (ab_dd tk_se_orderBehind 35 rfl) rfl rfl rfl ?_
            refine x_iconst 59 4 (ab_dd tk_se_orderBehind 36 rfl) rfl (by decide) (x_topn 4 rfl ?_)
            refine x_imul 60 (ab_dd tk_se_orderBehind 37 rfl) rfl (x_topn ((obN q d r) * 4) (pk_mul _ _) ?_)
            refine x_iload 62 5 (ab_dd tk_se_orderBehind 38 rfl) rfl rfl ?_
            refine x_iadd 63 (ab_dd tk_se_orderBehind 39 rfl) rfl (x_topn (((obN q d r) * 4) + (qSe q r)) (nI_add _ _) ?_)
            refine x_istore_n 64 [some (.ref a), some (.int (nI q)), some (.int (nI d)), some (.int (nI (((obN q d r) * 4) + (qSe q r)))), some (.int (nI r)), some (.int (nI (qSe q r)))] 3 (ab_dd tk_se_orderBehind 40 rfl) rfl rfl (by decide) rfl ?_
            refine xn_iinc 67 4 (fun y => [some (.ref a), some (.int (nI q)), some (.int (nI d)), some (.int (nI (((obN q d r) * 4) + (qSe q r)))), some (.int y), some (.int (nI (qSe q r)))]) (r + 1) (ab_dd tk_se_orderBehind 41 rfl) rfl (by decide) rfl (fun _ => rfl) (iinc_p 1) ?_
            refine x_goto 5 (ab_dd tk_se_orderBehind 42 rfl) (by decide) ?_
            rw [show swS d (qSe q r) = qSe q r from (by unfold swS; rw [if_neg (fun z => h31 z.2), if_neg (fun z => h51 z.2)])] at hI
            exact hI _
          · refine x_iload_n 55 2 (ab_dd tk_se_orderBehind 33 rfl) rfl rfl rfl ?_
            refine x_istore 57 [some (.ref a), some (.int (nI q)), some (.int (nI d)), some (.int (nI (obN q d r))), some (.int (nI r)), some (.int (nI d))] 5 (ab_dd tk_se_orderBehind 34 rfl) rfl (by decide) rfl ?_
            refine x_iload_n 58 3 (ab_dd tk_se_orderBehind 35 rfl) rfl rfl rfl ?_
            refine x_iconst 59 4 (ab_dd tk_se_orderBehind 36 rfl) rfl (by decide) (x_topn 4 rfl ?_)
            refine x_imul 60 (ab_dd tk_se_orderBehind 37 rfl) rfl (x_topn ((obN q d r) * 4) (pk_mul _ _) ?_)
            refine x_iload 62 5 (ab_dd tk_se_orderBehind 38 rfl) rfl rfl ?_
            refine x_iadd 63 (ab_dd tk_se_orderBehind 39 rfl) rfl (x_topn (((obN q d r) * 4) + d) (nI_add _ _) ?_)
            refine x_istore_n 64 [some (.ref a), some (.int (nI q)), some (.int (nI d)), some (.int (nI (((obN q d r) * 4) + d))), some (.int (nI r)), some (.int (nI d))] 3 (ab_dd tk_se_orderBehind 40 rfl) rfl rfl (by decide) rfl ?_
            refine xn_iinc 67 4 (fun y => [some (.ref a), some (.int (nI q)), some (.int (nI d)), some (.int (nI (((obN q d r) * 4) + d))), some (.int y), some (.int (nI d))]) (r + 1) (ab_dd tk_se_orderBehind 41 rfl) rfl (by decide) rfl (fun _ => rfl) (iinc_p 1) ?_
            refine x_goto 5 (ab_dd tk_se_orderBehind 42 rfl) (by decide) ?_
            rw [show swS d (qSe q r) = d from (by unfold swS; rw [if_neg (fun z => h31 z.2), if_pos ⟨by omega, h51⟩])] at hI
            exact hI _
        · refine x_iload_n 35 2 (ab_dd tk_se_orderBehind 21 rfl) rfl rfl rfl ?_
          refine x_iconst 36 1 (ab_dd tk_se_orderBehind 22 rfl) rfl (by decide) (x_topn 1 rfl ?_)
          refine x_isub 37 (ab_dd tk_se_orderBehind 23 rfl) rfl (x_topn (d - 1) (pk_sub (by omega)) ?_)
          refine x_istore 39 [some (.ref a), some (.int (nI q)), some (.int (nI d)), some (.int (nI (obN q d r))), some (.int (nI r)), some (.int (nI (d - 1)))] 5 (ab_dd tk_se_orderBehind 24 rfl) rfl (by decide) rfl ?_
          refine x_goto 57 (ab_dd tk_se_orderBehind 25 rfl) (by decide) ?_
          refine x_iload_n 58 3 (ab_dd tk_se_orderBehind 35 rfl) rfl rfl rfl ?_
          refine x_iconst 59 4 (ab_dd tk_se_orderBehind 36 rfl) rfl (by decide) (x_topn 4 rfl ?_)
          refine x_imul 60 (ab_dd tk_se_orderBehind 37 rfl) rfl (x_topn ((obN q d r) * 4) (pk_mul _ _) ?_)
          refine x_iload 62 5 (ab_dd tk_se_orderBehind 38 rfl) rfl rfl ?_
          refine x_iadd 63 (ab_dd tk_se_orderBehind 39 rfl) rfl (x_topn (((obN q d r) * 4) + (d - 1)) (nI_add _ _) ?_)
          refine x_istore_n 64 [some (.ref a), some (.int (nI q)), some (.int (nI d)), some (.int (nI (((obN q d r) * 4) + (d - 1)))), some (.int (nI r)), some (.int (nI (d - 1)))] 3 (ab_dd tk_se_orderBehind 40 rfl) rfl rfl (by decide) rfl ?_
          refine xn_iinc 67 4 (fun y => [some (.ref a), some (.int (nI q)), some (.int (nI d)), some (.int (nI (((obN q d r) * 4) + (d - 1)))), some (.int y), some (.int (nI (d - 1)))]) (r + 1) (ab_dd tk_se_orderBehind 41 rfl) rfl (by decide) rfl (fun _ => rfl) (iinc_p 1) ?_
          refine x_goto 5 (ab_dd tk_se_orderBehind 42 rfl) (by decide) ?_
          rw [show swS d (qSe q r) = d - 1 from (by unfold swS; rw [if_pos ⟨by omega, h31⟩])] at hI
          exact hI _
  refine x_iconst 1 0 (ab_dd tk_se_orderBehind 0 rfl) rfl (by decide) (x_topn 0 rfl ?_)
  refine x_istore_n 2 [some (.ref a), some (.int (nI q)), some (.int (nI d)), some (.int (nI 0)), none, none] 3 (ab_dd tk_se_orderBehind 1 rfl) rfl rfl (by decide) rfl ?_
  refine x_iconst 3 0 (ab_dd tk_se_orderBehind 2 rfl) rfl (by decide) (x_topn 0 rfl ?_)
  refine x_istore 5 [some (.ref a), some (.int (nI q)), some (.int (nI d)), some (.int (nI 0)), some (.int (nI 0)), none] 4 (ab_dd tk_se_orderBehind 3 rfl) rfl (by decide) rfl ?_
  exact loop 4 0 (by omega) _
