section CROWS
variable {G : ab_G} {d : Nat} {M : ab_M} {pc : Nat} {ls : ab_L} {st : List Value} {S : ab_S} {Q : Option Value → ab_H → Prop}
theorem t_aaldP (pc' t0 j b : Nat) {a n : Nat} {C : String} {i : Int32} (hd : decode M.2.1 pc = .ok (.aaload, 1)) (hp : pc + 1 = pc') (ha : 50 ≤ a) (hn : a < sn S) (ht0 : ab_tl[t0]? = some (.object C)) (hK : sK S a = .inl (.object C, n)) (hi : i = nI j) (hj : j < n) (h31 : n < 2 ^ 31) (hv : sP S a j = some b) (h : ab_Ex G d M pc' ls (.ref b :: st) (sw S) Q) : ab_Ex G d M pc ls (.int i :: .ref a :: st) (sw S) Q :=
  t_aald pc' t0 j hd hp ha hn ht0 hK hi hj h31 (by rw [hv]; exact h)
theorem t_aaldN (pc' t0 j : Nat) {a n : Nat} {C : String} {i : Int32} (hd : decode M.2.1 pc = .ok (.aaload, 1)) (hp : pc + 1 = pc') (ha : 50 ≤ a) (hn : a < sn S) (ht0 : ab_tl[t0]? = some (.object C)) (hK : sK S a = .inl (.object C, n)) (hi : i = nI j) (hj : j < n) (h31 : n < 2 ^ 31) (hv : sP S a j = none) (h : ab_Ex G d M pc' ls (.null :: st) (sw S) Q) : ab_Ex G d M pc ls (.int i :: .ref a :: st) (sw S) Q :=
  t_aald pc' t0 j hd hp ha hn ht0 hK hi hj h31 (by rw [hv]; exact h)
end CROWS
theorem x_58 {S : ab_S} (hx : xSh S) {i : Nat} (h : i < 10) : sP S 58 i = some (59 + i) := hx.2.2 (58, i, 59 + i) (by
  have : ∀ i, i < 10 → (58, i, 59 + i) ∈ xPl := by decide
  exact this i h)
theorem x_69 {S : ab_S} (hx : xSh S) {i : Nat} (h : i < 4) : sP S 69 i = some (109 + 2 * i) := hx.2.2 (69, i, 109 + 2 * i) (by
  have : ∀ i, i < 4 → (69, i, 109 + 2 * i) ∈ xPl := by decide
  exact this i h)
theorem x_71 {S : ab_S} (hx : xSh S) {i : Nat} (h : i < 2) : sP S 71 i = some (117 + i) := hx.2.2 (71, i, 117 + i) (by
  have : ∀ i, i < 2 → (71, i, 117 + i) ∈ xPl := by decide
  exact this i h)
theorem x_110 {S : ab_S} (hx : xSh S) {i : Nat} (h : i < 4) : sP S (109 + 2 * i) 0 = some (110 + 2 * i) := hx.2.2 (109 + 2 * i, 0, 110 + 2 * i) (by
  have : ∀ i, i < 4 → (109 + 2 * i, 0, 110 + 2 * i) ∈ xPl := by decide
  exact this i h)
theorem x_59 {S : ab_S} (hx : xSh S) {i : Nat} (h : i < 10) : sK S (59 + i) = .inr 8 := by
  have h1 : ∀ i, i < 10 → xKd (9 + i) = .inr 8 := by decide
  have := hx.2.1 (9 + i) (by omega)
  rw [show 50 + (9 + i) = 59 + i by omega, h1 i h] at this
  exact this
theorem x_109 {S : ab_S} (hx : xSh S) {i : Nat} (h : i < 4) : sK S (109 + 2 * i) = .inr 10 := by
  have h1 : ∀ i, i < 4 → xKd (59 + 2 * i) = .inr 10 := by decide
  have := hx.2.1 (59 + 2 * i) (by omega)
  rw [show 50 + (59 + 2 * i) = 109 + 2 * i by omega, h1 i h] at this
  exact this
theorem x_110k {S : ab_S} (hx : xSh S) {i : Nat} (h : i < 4) : sK S (110 + 2 * i) = .inl (.long, 40) := by
  have h1 : ∀ i, i < 4 → xKd (60 + 2 * i) = .inl (.long, 40) := by decide
  have := hx.2.1 (60 + 2 * i) (by omega)
  rw [show 50 + (60 + 2 * i) = 110 + 2 * i by omega, h1 i h] at this
  exact this
theorem x_117 {S : ab_S} (hx : xSh S) {i : Nat} (h : i < 2) : sK S (117 + i) = .inr 8 := by
  have h1 : ∀ i, i < 2 → xKd (67 + i) = .inr 8 := by decide
  have := hx.2.1 (67 + i) (by omega)
  rw [show 50 + (67 + i) = 117 + i by omega, h1 i h] at this
  exact this
/-- who sits where, in the class's tables -/
def seOk (S : ab_S) : Prop := (∀ q r, q < 24 → r < 4 → sI S 79 (q * 4 + r) = nI (qSe q r) ∧ sI S 80 (q * 4 + r) = nI (qRi q r) ∧ sI S 81 (q * 4 + r) = nI (qCh q r)) ∧ ∀ q, q < 24 → sI S 82 q = nI (qO q)
theorem seOk.eq {l : List Nat} {S S1 : ab_S} (h : seOk S) (hE : sEq l S S1) (h1 : 79 ∉ l) (h2 : 80 ∉ l) (h3 : 81 ∉ l) (h4 : 82 ∉ l) : seOk S1 := by
  unfold seOk
  rw [hE.2.2.1 79 h1, hE.2.2.1 80 h2, hE.2.2.1 81 h3, hE.2.2.1 82 h4]
  exact h
def tb_se_seatOf : List (Nat × Instr × Nat) := [(0, .iload_n 1, 1), (1, .iconst 4, 1), (2, .imul, 1), (3, .iload_n 2, 1), (4, .iadd, 1), (5, .istore_n 3, 1), (6, .iload_n 3, 1), (7, .ifCond .lt 12, 3), (10, .iload_n 3, 1), (11, .aload_n 0, 1), (12, .getfield 9, 3), (15, .arraylength, 1), (16, .if_icmp .lt 7, 3), (19, .iconst 0, 1), (20, .goto 9, 3), (23, .aload_n 0, 1), (24, .getfield 9, 3), (27, .iload_n 3, 1), (28, .iaload, 1), (29, .ireturn, 1)]
theorem tk_se_seatOf : ∀ q ∈ tb_se_seatOf, decode M_se_seatOf.2.1 q.1 = .ok q.2 := by decide +kernel
theorem c_se_seatOf {G : ab_G} {S : ab_S} (hx : xSh S) (hse : seOk S) (q r : Nat) (hq : q < 24) (hr : r < 4) : ab_C G 0 M_se_seatOf [.ref 78, .int (nI q), .int (nI r)] (sw S) (fun v w' => v = some (.int (nI (qSe q r))) ∧ w' = sw S) := by
  refine x_enter [some (.ref 78), some (.int (nI q)), some (.int (nI r)), none] (by decide) (Nat.le_of_ble_eq_true rfl) rfl (fun v w' h => by obtain ⟨rfl, rfl⟩ := h; rfl) ?_
  refine x_iload_n 1 1 (ab_dd tk_se_seatOf 0 rfl) rfl rfl rfl ?_
  refine x_iconst 2 4 (ab_dd tk_se_seatOf 1 rfl) rfl (by decide) (x_topn 4 rfl ?_)
  refine x_imul 3 (ab_dd tk_se_seatOf 2 rfl) rfl (x_topn (q * 4) (pk_mul _ _) ?_)
  refine x_iload_n 4 2 (ab_dd tk_se_seatOf 3 rfl) rfl rfl rfl ?_
  refine x_iadd 5 (ab_dd tk_se_seatOf 4 rfl) rfl (x_topn ((q * 4) + r) (nI_add _ _) ?_)
  refine x_istore_n 6 [some (.ref 78), some (.int (nI q)), some (.int (nI r)), some (.int (nI ((q * 4) + r)))] 3 (ab_dd tk_se_seatOf 5 rfl) rfl rfl (by decide) rfl ?_
  refine x_iload_n 7 3 (ab_dd tk_se_seatOf 6 rfl) rfl rfl rfl ?_
  refine xn_if_lt 10 19 (ab_dd tk_se_seatOf 7 rfl) rfl (by decide) (by omega) ?_
  refine x_iload_n 11 3 (ab_dd tk_se_seatOf 8 rfl) rfl rfl rfl ?_
  refine x_aload_n 12 0 (ab_dd tk_se_seatOf 9 rfl) rfl rfl rfl ?_
  refine t_getP 15 79 (ab_dd tk_se_seatOf 10 rfl) rfl F_se_9 (by decide) (Nat.lt_of_lt_of_le (by decide) hx.1) (hx.2.1 28 (by decide)) rfl (hx.2.2 (78, 0, 79) (by decide)) ?_
  refine t_alen 16 0 (ab_dd tk_se_seatOf 11 rfl) rfl (by decide) (Nat.lt_of_lt_of_le (by decide) hx.1) rfl (hx.2.1 29 (by decide)) ?_
  refine x_icmp_lt_t 23 (ab_dd tk_se_seatOf 12 rfl) (by decide) ((nI_ltI (a := ((q * 4) + r)) (b := 96) (by omega) (by omega)).mpr (show ((q * 4) + r) < 96 by omega)) ?_
  refine x_aload_n 24 0 (ab_dd tk_se_seatOf 15 rfl) rfl rfl rfl ?_
  refine t_getP 27 79 (ab_dd tk_se_seatOf 16 rfl) rfl F_se_9 (by decide) (Nat.lt_of_lt_of_le (by decide) hx.1) (hx.2.1 28 (by decide)) rfl (hx.2.2 (78, 0, 79) (by decide)) ?_
  refine x_iload_n 28 3 (ab_dd tk_se_seatOf 17 rfl) rfl rfl rfl ?_
  refine t_iald 29 ((q * 4) + r) (ab_dd tk_se_seatOf 18 rfl) rfl (by decide) (Nat.lt_of_lt_of_le (by decide) hx.1) (hx.2.1 29 (by decide)) rfl (by omega) (by decide) (x_topn (qSe q r) ((hse.1 q r hq hr).1) ?_)
  exact x_iret (ab_dd tk_se_seatOf 19 rfl) ⟨rfl, rfl⟩
def tb_se_riderIn : List (Nat × Instr × Nat) := [(0, .iload_n 1, 1), (1, .iconst 4, 1), (2, .imul, 1), (3, .iload_n 2, 1), (4, .iadd, 1), (5, .istore_n 3, 1), (6, .iload_n 3, 1), (7, .ifCond .lt 12, 3), (10, .iload_n 3, 1), (11, .aload_n 0, 1), (12, .getfield 15, 3), (15, .arraylength, 1), (16, .if_icmp .lt 7, 3), (19, .iconst 0, 1), (20, .goto 9, 3), (23, .aload_n 0, 1), (24, .getfield 15, 3), (27, .iload_n 3, 1), (28, .iaload, 1), (29, .ireturn, 1)]
theorem tk_se_riderIn : ∀ q ∈ tb_se_riderIn, decode M_se_riderIn.2.1 q.1 = .ok q.2 := by decide +kernel
theorem c_se_riderIn {G : ab_G} {S : ab_S} (hx : xSh S) (hse : seOk S) (q r : Nat) (hq : q < 24) (hr : r < 4) : ab_C G 0 M_se_riderIn [.ref 78, .int (nI q), .int (nI r)] (sw S) (fun v w' => v = some (.int (nI (qRi q r))) ∧ w' = sw S) := by
  refine x_enter [some (.ref 78), some (.int (nI q)), some (.int (nI r)), none] (by decide) (Nat.le_of_ble_eq_true rfl) rfl (fun v w' h => by obtain ⟨rfl, rfl⟩ := h; rfl) ?_
  refine x_iload_n 1 1 (ab_dd tk_se_riderIn 0 rfl) rfl rfl rfl ?_
  refine x_iconst 2 4 (ab_dd tk_se_riderIn 1 rfl) rfl (by decide) (x_topn 4 rfl ?_)
  refine x_imul 3 (ab_dd tk_se_riderIn 2 rfl) rfl (x_topn (q * 4) (pk_mul _ _) ?_)
  refine x_iload_n 4 2 (ab_dd tk_se_riderIn 3 rfl) rfl rfl rfl ?_
  refine x_iadd 5 (ab_dd tk_se_riderIn 4 rfl) rfl (x_topn ((q * 4) + r) (nI_add _ _) ?_)
  refine x_istore_n 6 [some (.ref 78), some (.int (nI q)), some (.int (nI r)), some (.int (nI ((q * 4) + r)))] 3 (ab_dd tk_se_riderIn 5 rfl) rfl rfl (by decide) rfl ?_
  refine x_iload_n 7 3 (ab_dd tk_se_riderIn 6 rfl) rfl rfl rfl ?_
  refine xn_if_lt 10 19 (ab_dd tk_se_riderIn 7 rfl) rfl (by decide) (by omega) ?_
  refine x_iload_n 11 3 (ab_dd tk_se_riderIn 8 rfl) rfl rfl rfl ?_
  refine x_aload_n 12 0 (ab_dd tk_se_riderIn 9 rfl) rfl rfl rfl ?_
  refine t_getP 15 80 (ab_dd tk_se_riderIn 10 rfl) rfl F_se_15 (by decide) (Nat.lt_of_lt_of_le (by decide) hx.1) (hx.2.1 28 (by decide)) rfl (hx.2.2 (78, 1, 80) (by decide)) ?_
  refine t_alen 16 0 (ab_dd tk_se_riderIn 11 rfl) rfl (by decide) (Nat.lt_of_lt_of_le (by decide) hx.1) rfl (hx.2.1 30 (by decide)) ?_
  refine x_icmp_lt_t 23 (ab_dd tk_se_riderIn 12 rfl) (by decide) ((nI_ltI (a := ((q * 4) + r)) (b := 96) (by omega) (by omega)).mpr (show ((q * 4) + r) < 96 by omega)) ?_
  refine x_aload_n 24 0 (ab_dd tk_se_riderIn 15 rfl) rfl rfl rfl ?_
  refine t_getP 27 80 (ab_dd tk_se_riderIn 16 rfl) rfl F_se_15 (by decide) (Nat.lt_of_lt_of_le (by decide) hx.1) (hx.2.1 28 (by decide)) rfl (hx.2.2 (78, 1, 80) (by decide)) ?_
  refine x_iload_n 28 3 (ab_dd tk_se_riderIn 17 rfl) rfl rfl rfl ?_
  refine t_iald 29 ((q * 4) + r) (ab_dd tk_se_riderIn 18 rfl) rfl (by decide) (Nat.lt_of_lt_of_le (by decide) hx.1) (hx.2.1 30 (by decide)) rfl (by omega) (by decide) (x_topn (qRi q r) ((hse.1 q r hq hr).2.1) ?_)
  exact x_iret (ab_dd tk_se_riderIn 19 rfl) ⟨rfl, rfl⟩
def tb_se_changed : List (Nat × Instr × Nat) := [(0, .iload_n 1, 1), (1, .iconst 4, 1), (2, .imul, 1), (3, .iload_n 2, 1), (4, .iadd, 1), (5, .istore_n 3, 1), (6, .iload_n 3, 1), (7, .ifCond .lt 12, 3), (10, .iload_n 3, 1), (11, .aload_n 0, 1), (12, .getfield 18, 3), (15, .arraylength, 1), (16, .if_icmp .lt 7, 3), (19, .iload_n 1, 1), (20, .goto 9, 3), (23, .aload_n 0, 1), (24, .getfield 18, 3), (27, .iload_n 3, 1), (28, .iaload, 1), (29, .ireturn, 1)]
theorem tk_se_changed : ∀ q ∈ tb_se_changed, decode M_se_changed.2.1 q.1 = .ok q.2 := by decide +kernel
theorem c_se_changed {G : ab_G} {S : ab_S} (hx : xSh S) (hse : seOk S) (q r : Nat) (hq : q < 24) (hr : r < 4) : ab_C G 0 M_se_changed [.ref 78, .int (nI q), .int (nI r)] (sw S) (fun v w' => v = some (.int (nI (qCh q r))) ∧ w' = sw S) := by
  refine x_enter [some (.ref 78), some (.int (nI q)), some (.int (nI r)), none] (by decide) (Nat.le_of_ble_eq_true rfl) rfl (fun v w' h => by obtain ⟨rfl, rfl⟩ := h; rfl) ?_
  refine x_iload_n 1 1 (ab_dd tk_se_changed 0 rfl) rfl rfl rfl ?_
  refine x_iconst 2 4 (ab_dd tk_se_changed 1 rfl) rfl (by decide) (x_topn 4 rfl ?_)
  refine x_imul 3 (ab_dd tk_se_changed 2 rfl) rfl (x_topn (q * 4) (pk_mul _ _) ?_)
  refine x_iload_n 4 2 (ab_dd tk_se_changed 3 rfl) rfl rfl rfl ?_
  refine x_iadd 5 (ab_dd tk_se_changed 4 rfl) rfl (x_topn ((q * 4) + r) (nI_add _ _) ?_)
  refine x_istore_n 6 [some (.ref 78), some (.int (nI q)), some (.int (nI r)), some (.int (nI ((q * 4) + r)))] 3 (ab_dd tk_se_changed 5 rfl) rfl rfl (by decide) rfl ?_
  refine x_iload_n 7 3 (ab_dd tk_se_changed 6 rfl) rfl rfl rfl ?_
  refine xn_if_lt 10 19 (ab_dd tk_se_changed 7 rfl) rfl (by decide) (by omega) ?_
  refine x_iload_n 11 3 (ab_dd tk_se_changed 8 rfl) rfl rfl rfl ?_
  refine x_aload_n 12 0 (ab_dd tk_se_changed 9 rfl) rfl rfl rfl ?_
  refine t_getP 15 81 (ab_dd tk_se_changed 10 rfl) rfl F_se_18 (by decide) (Nat.lt_of_lt_of_le (by decide) hx.1) (hx.2.1 28 (by decide)) rfl (hx.2.2 (78, 2, 81) (by decide)) ?_
  refine t_alen 16 0 (ab_dd tk_se_changed 11 rfl) rfl (by decide) (Nat.lt_of_lt_of_le (by decide) hx.1) rfl (hx.2.1 31 (by decide)) ?_
  refine x_icmp_lt_t 23 (ab_dd tk_se_changed 12 rfl) (by decide) ((nI_ltI (a := ((q * 4) + r)) (b := 96) (by omega) (by omega)).mpr (show ((q * 4) + r) < 96 by omega)) ?_
  refine x_aload_n 24 0 (ab_dd tk_se_changed 15 rfl) rfl rfl rfl ?_
  refine t_getP 27 81 (ab_dd tk_se_changed 16 rfl) rfl F_se_18 (by decide) (Nat.lt_of_lt_of_le (by decide) hx.1) (hx.2.1 28 (by decide)) rfl (hx.2.2 (78, 2, 81) (by decide)) ?_
  refine x_iload_n 28 3 (ab_dd tk_se_changed 17 rfl) rfl rfl rfl ?_
  refine t_iald 29 ((q * 4) + r) (ab_dd tk_se_changed 18 rfl) rfl (by decide) (Nat.lt_of_lt_of_le (by decide) hx.1) (hx.2.1 31 (by decide)) rfl (by omega) (by decide) (x_topn (qCh q r) ((hse.1 q r hq hr).2.2) ?_)
  exact x_iret (ab_dd tk_se_changed 19 rfl) ⟨rfl, rfl⟩
def tb_se_orderOf : List (Nat × Instr × Nat) := [(0, .iload_n 1, 1), (1, .ifCond .lt 12, 3), (4, .iload_n 1, 1), (5, .aload_n 0, 1), (6, .getfield 21, 3), (9, .arraylength, 1), (10, .if_icmp .lt 7, 3), (13, .iconst 0, 1), (14, .goto 9, 3), (17, .aload_n 0, 1), (18, .getfield 21, 3), (21, .iload_n 1, 1), (22, .iaload, 1), (23, .ireturn, 1)]
theorem tk_se_orderOf : ∀ q ∈ tb_se_orderOf, decode M_se_orderOf.2.1 q.1 = .ok q.2 := by decide +kernel
theorem c_se_orderOf {G : ab_G} {S : ab_S} (hx : xSh S) (hse : seOk S) (q : Nat) (hq : q < 24) : ab_C G 0 M_se_orderOf [.ref 78, .int (nI q)] (sw S) (fun v w' => v = some (.int (nI (qO q))) ∧ w' = sw S) := by
  refine x_enter [some (.ref 78), some (.int (nI q))] (by decide) (Nat.le_of_ble_eq_true rfl) rfl (fun v w' h => by obtain ⟨rfl, rfl⟩ := h; rfl) ?_
  refine x_iload_n 1 1 (ab_dd tk_se_orderOf 0 rfl) rfl rfl rfl ?_
  refine xn_if_lt 4 13 (ab_dd tk_se_orderOf 1 rfl) rfl (by decide) (by omega) ?_
  refine x_iload_n 5 1 (ab_dd tk_se_orderOf 2 rfl) rfl rfl rfl ?_
  refine x_aload_n 6 0 (ab_dd tk_se_orderOf 3 rfl) rfl rfl rfl ?_
  refine t_getP 9 82 (ab_dd tk_se_orderOf 4 rfl) rfl F_se_21 (by decide) (Nat.lt_of_lt_of_le (by decide) hx.1) (hx.2.1 28 (by decide)) rfl (hx.2.2 (78, 3, 82) (by decide)) ?_
  refine t_alen 10 0 (ab_dd tk_se_orderOf 5 rfl) rfl (by decide) (Nat.lt_of_lt_of_le (by decide) hx.1) rfl (hx.2.1 32 (by decide)) ?_
  refine x_icmp_lt_t 17 (ab_dd tk_se_orderOf 6 rfl) (by decide) ((nI_ltI (a := q) (b := 24) (by omega) (by omega)).mpr (show q < 24 by omega)) ?_
  refine x_aload_n 18 0 (ab_dd tk_se_orderOf 9 rfl) rfl rfl rfl ?_
  refine t_getP 21 82 (ab_dd tk_se_orderOf 10 rfl) rfl F_se_21 (by decide) (Nat.lt_of_lt_of_le (by decide) hx.1) (hx.2.1 28 (by decide)) rfl (hx.2.2 (78, 3, 82) (by decide)) ?_
  refine x_iload_n 22 1 (ab_dd tk_se_orderOf 11 rfl) rfl rfl rfl ?_
  refine t_iald 23 q (ab_dd tk_se_orderOf 12 rfl) rfl (by decide) (Nat.lt_of_lt_of_le (by decide) hx.1) (hx.2.1 32 (by decide)) rfl (by omega) (by decide) (x_topn (qO q) (hse.2 q hq) ?_)
  exact x_iret (ab_dd tk_se_orderOf 13 rfl) ⟨rfl, rfl⟩
/-- a stand: seasons, warmths, who sits where, month, stops -/
abbrev sT : Type := Nat × Nat × Nat × Nat × Int32
def sdE (S : ab_S) (a : Nat) (t : sT) : Prop := sI S a 0 = nI t.1 ∧ sI S a 1 = nI t.2.1 ∧ sI S a 2 = nI t.2.2.1 ∧ sI S a 3 = nI t.2.2.2.1 ∧ sI S a 4 = t.2.2.2.2
theorem sdE.eq {l : List Nat} {S S1 : ab_S} {a : Nat} {t : sT} (h : sdE S a t) (hE : sEq l S S1) (ha : a ∉ l) : sdE S1 a t := by
  unfold sdE
  rw [hE.2.2.1 a ha]
  exact h
def sdK (S : ab_S) (a : Nat) : Prop := 50 ≤ a ∧ a < sn S ∧ sK S a = .inr 8
def tb_sd_copy : List (Nat × Instr × Nat) := [(0, .aload_n 0, 1), (1, .aload_n 1, 1), (2, .getfield 7, 3), (5, .putfield 7, 3), (8, .aload_n 0, 1), (9, .aload_n 1, 1), (10, .getfield 13, 3), (13, .putfield 13, 3), (16, .aload_n 0, 1), (17, .aload_n 1, 1), (18, .getfield 16, 3), (21, .putfield 16, 3), (24, .aload_n 0, 1), (25, .aload_n 1, 1), (26, .getfield 19, 3), (29, .putfield 19, 3), (32, .aload_n 0, 1), (33, .aload_n 1, 1), (34, .getfield 22, 3), (37, .putfield 22, 3), (40, .return_, 1)]
theorem tk_sd_copy : ∀ q ∈ tb_sd_copy, decode M_sd_copy.2.1 q.1 = .ok q.2 := by decide +kernel
theorem c_sd_copy {G : ab_G} {S : ab_S} {a b : Nat} (ha : sdK S a) (hb : sdK S b) (hne : b ≠ a) {t : sT} (ht : sdE S b t) : ab_C G 0 M_sd_copy [.ref a, .ref b] (sw S) (fun v w' => v = none ∧ ∃ S', w' = sw S' ∧ sEq [a] S S' ∧ sdE S' a t) := by
  refine x_enter [some (.ref a), some (.ref b)] (by decide) (Nat.le_of_ble_eq_true rfl) rfl (fun v w' h => by obtain ⟨rfl, -⟩ := h; trivial) ?_
  refine x_aload_n 1 0 (ab_dd tk_sd_copy 0 rfl) rfl rfl rfl ?_
  refine x_aload_n 2 1 (ab_dd tk_sd_copy 1 rfl) rfl rfl rfl ?_
  refine t_getI 5 (ab_dd tk_sd_copy 2 rfl) rfl F_sd_7 hb.1 hb.2.1 hb.2.2 rfl (x_topn t.1 ht.1 ?_)
  refine t_putI 8 (ab_dd tk_sd_copy 3 rfl) rfl F_sd_7 ha.1 ha.2.1 ha.2.2 rfl rfl rfl ?_
  refine x_aload_n 9 0 (ab_dd tk_sd_copy 4 rfl) rfl rfl rfl ?_
  refine x_aload_n 10 1 (ab_dd tk_sd_copy 5 rfl) rfl rfl rfl ?_
  refine t_getI 13 (ab_dd tk_sd_copy 6 rfl) rfl F_sd_13 hb.1 hb.2.1 hb.2.2 rfl (x_topn t.2.1 ((gI_a hne).trans ht.2.1) ?_)
  refine t_putI 16 (ab_dd tk_sd_copy 7 rfl) rfl F_sd_13 ha.1 ha.2.1 ha.2.2 rfl rfl rfl ?_
  refine x_aload_n 17 0 (ab_dd tk_sd_copy 8 rfl) rfl rfl rfl ?_
  refine x_aload_n 18 1 (ab_dd tk_sd_copy 9 rfl) rfl rfl rfl ?_
  refine t_getI 21 (ab_dd tk_sd_copy 10 rfl) rfl F_sd_16 hb.1 hb.2.1 hb.2.2 rfl (x_topn t.2.2.1 ((gI_a hne).trans ((gI_a hne).trans ht.2.2.1)) ?_)
  refine t_putI 24 (ab_dd tk_sd_copy 11 rfl) rfl F_sd_16 ha.1 ha.2.1 ha.2.2 rfl rfl rfl ?_
  refine x_aload_n 25 0 (ab_dd tk_sd_copy 12 rfl) rfl rfl rfl ?_
  refine x_aload_n 26 1 (ab_dd tk_sd_copy 13 rfl) rfl rfl rfl ?_
  refine t_getI 29 (ab_dd tk_sd_copy 14 rfl) rfl F_sd_19 hb.1 hb.2.1 hb.2.2 rfl (x_topn t.2.2.2.1 ((gI_a hne).trans ((gI_a hne).trans ((gI_a hne).trans ht.2.2.2.1))) ?_)
  refine t_putI 32 (ab_dd tk_sd_copy 15 rfl) rfl F_sd_19 ha.1 ha.2.1 ha.2.2 rfl rfl rfl ?_
  refine x_aload_n 33 0 (ab_dd tk_sd_copy 16 rfl) rfl rfl rfl ?_
  refine x_aload_n 34 1 (ab_dd tk_sd_copy 17 rfl) rfl rfl rfl ?_
  refine t_getI 37 (ab_dd tk_sd_copy 18 rfl) rfl F_sd_22 hb.1 hb.2.1 hb.2.2 rfl (x_topx t.2.2.2.2 ((gI_a hne).trans ((gI_a hne).trans ((gI_a hne).trans ((gI_a hne).trans ht.2.2.2.2)))) ?_)
  refine t_putI 40 (ab_dd tk_sd_copy 19 rfl) rfl F_sd_22 ha.1 ha.2.1 ha.2.2 rfl rfl rfl ?_
  exact x_vret (ab_dd tk_sd_copy 20 rfl) ⟨rfl, _, rfl, (((((sEq.rf.pI (List.Mem.head _)).pI (List.Mem.head _)).pI (List.Mem.head _)).pI (List.Mem.head _)).pI (List.Mem.head _)), ((gI_k (by decide)).trans ((gI_k (by decide)).trans ((gI_k (by decide)).trans ((gI_k (by decide)).trans gI_s)))), ((gI_k (by decide)).trans ((gI_k (by decide)).trans ((gI_k (by decide)).trans gI_s))), ((gI_k (by decide)).trans ((gI_k (by decide)).trans gI_s)), ((gI_k (by decide)).trans gI_s), gI_s⟩
def tb_sd_begin : List (Nat × Instr × Nat) := [(0, .aload_n 0, 1), (1, .aload_n 1, 1), (2, .getfield 25, 3), (5, .putfield 7, 3), (8, .aload_n 0, 1), (9, .aload_n 1, 1), (10, .getfield 28, 3), (13, .putfield 13, 3), (16, .aload_n 0, 1), (17, .iconst 0, 1), (18, .putfield 16, 3), (21, .aload_n 0, 1), (22, .aload_n 1, 1), (23, .getfield 29, 3), (26, .putfield 19, 3), (29, .aload_n 0, 1), (30, .iconst 0, 1), (31, .putfield 22, 3), (34, .return_, 1)]
theorem tk_sd_begin : ∀ q ∈ tb_sd_begin, decode M_sd_begin.2.1 q.1 = .ok q.2 := by decide +kernel
theorem c_sd_begin {G : ab_G} {S : ab_S} {a c : Nat} (ha : sdK S a) (hc1 : 50 ≤ c) (hc2 : c < sn S) (hc3 : sK S c = .inr 0) (hne : c ≠ a) (s w0 m : Nat) (h3 : sI S c 3 = nI s) (h4 : sI S c 4 = nI w0) (h2 : sI S c 2 = nI m) : ab_C G 0 M_sd_begin [.ref a, .ref c] (sw S) (fun v w' => v = none ∧ ∃ S', w' = sw S' ∧ sEq [a] S S' ∧ sdE S' a (s, w0, 0, m, 0)) := by
  refine x_enter [some (.ref a), some (.ref c)] (by decide) (Nat.le_of_ble_eq_true rfl) rfl (fun v w' h => by obtain ⟨rfl, -⟩ := h; trivial) ?_
  refine x_aload_n 1 0 (ab_dd tk_sd_begin 0 rfl) rfl rfl rfl ?_
  refine x_aload_n 2 1 (ab_dd tk_sd_begin 1 rfl) rfl rfl rfl ?_
  refine t_getI 5 (ab_dd tk_sd_begin 2 rfl) rfl F_sd_25 hc1 hc2 hc3 rfl (x_topn s h3 ?_)
  refine t_putI 8 (ab_dd tk_sd_begin 3 rfl) rfl F_sd_7 ha.1 ha.2.1 ha.2.2 rfl rfl rfl ?_
  refine x_aload_n 9 0 (ab_dd tk_sd_begin 4 rfl) rfl rfl rfl ?_
  refine x_aload_n 10 1 (ab_dd tk_sd_begin 5 rfl) rfl rfl rfl ?_
  refine t_getI 13 (ab_dd tk_sd_begin 6 rfl) rfl F_sd_28 hc1 hc2 hc3 rfl (x_topn w0 ((gI_a hne).trans h4) ?_)
  refine t_putI 16 (ab_dd tk_sd_begin 7 rfl) rfl F_sd_13 ha.1 ha.2.1 ha.2.2 rfl rfl rfl ?_
  refine x_aload_n 17 0 (ab_dd tk_sd_begin 8 rfl) rfl rfl rfl ?_
  refine x_iconst 18 0 (ab_dd tk_sd_begin 9 rfl) rfl (by decide) (x_topn 0 rfl ?_)
  refine t_putI 21 (ab_dd tk_sd_begin 10 rfl) rfl F_sd_16 ha.1 ha.2.1 ha.2.2 rfl rfl rfl ?_
  refine x_aload_n 22 0 (ab_dd tk_sd_begin 11 rfl) rfl rfl rfl ?_
  refine x_aload_n 23 1 (ab_dd tk_sd_begin 12 rfl) rfl rfl rfl ?_
  refine t_getI 26 (ab_dd tk_sd_begin 13 rfl) rfl F_sd_29 hc1 hc2 hc3 rfl (x_topn m ((gI_a hne).trans ((gI_a hne).trans ((gI_a hne).trans h2))) ?_)
  refine t_putI 29 (ab_dd tk_sd_begin 14 rfl) rfl F_sd_19 ha.1 ha.2.1 ha.2.2 rfl rfl rfl ?_
  refine x_aload_n 30 0 (ab_dd tk_sd_begin 15 rfl) rfl rfl rfl ?_
  refine x_iconst 31 0 (ab_dd tk_sd_begin 16 rfl) rfl (by decide) (x_topn 0 rfl ?_)
  refine t_putI 34 (ab_dd tk_sd_begin 17 rfl) rfl F_sd_22 ha.1 ha.2.1 ha.2.2 rfl rfl rfl ?_
  exact x_vret (ab_dd tk_sd_begin 18 rfl) ⟨rfl, _, rfl, (((((sEq.rf.pI (List.Mem.head _)).pI (List.Mem.head _)).pI (List.Mem.head _)).pI (List.Mem.head _)).pI (List.Mem.head _)), ((gI_k (by decide)).trans ((gI_k (by decide)).trans ((gI_k (by decide)).trans ((gI_k (by decide)).trans gI_s)))), ((gI_k (by decide)).trans ((gI_k (by decide)).trans ((gI_k (by decide)).trans gI_s))), ((gI_k (by decide)).trans ((gI_k (by decide)).trans gI_s)), ((gI_k (by decide)).trans gI_s), gI_s⟩
theorem gJ_s {S : ab_S} {a k : Nat} {x : Int64} : sJ (pJ S a k x) a k = x := up2_s
theorem gJ_k {S : ab_S} {a k b j : Nat} {x : Int64} (h : j ≠ k) : sJ (pJ S a k x) b j = sJ S b j := up2_k h
theorem gJ_a {S : ab_S} {a k b j : Nat} {x : Int64} (h : b ≠ a) : sJ (pJ S a k x) b j = sJ S b j := up2_a h
def tb_jA_fill_0 : List (Nat × Instr × Nat) := [(0, .iconst 0, 1), (1, .istore_n 2, 1), (2, .aload_n 0, 1), (3, .arraylength, 1), (4, .istore_n 3, 1), (5, .iload_n 2, 1), (6, .iload_n 3, 1), (7, .if_icmp .ge 13, 3), (10, .aload_n 0, 1), (11, .iload_n 2, 1), (12, .iload_n 1, 1), (13, .iastore, 1), (14, .iinc 2 1, 3), (17, .goto (-12), 3), (20, .return_, 1)]
theorem tk_jA_fill_0 : ∀ q ∈ tb_jA_fill_0, decode M_jA_fill_0.2.1 q.1 = .ok q.2 := by decide +kernel
theorem c_jA_fill_0 {G : ab_G} {S : ab_S} {a n : Nat} (ha : 50 ≤ a) (hn : a < sn S) (hK : sK S a = .inl (.int, n)) (hn31 : n < 2 ^ 31) (x : Int32) : ab_C G 0 M_jA_fill_0 [.ref a, .int x] (sw S) (fun v w' => v = none ∧ ∃ S', w' = sw S' ∧ sEq [a] S S' ∧ (sJ S' a = sJ S a) ∧ ∀ i, sI S' a i = if i < n then x else sI S a i) := by
  refine x_enter [some (.ref a), some (.int x), none, none] (by decide) (Nat.le_of_ble_eq_true rfl) rfl (fun v w' h => by obtain ⟨rfl, -⟩ := h; trivial) ?_
  have lp : ∀ (m k : Nat), k + m = n → ∀ S1 : ab_S, sEq [a] S S1 → sJ S1 a = sJ S a → (∀ i, sI S1 a i = if i < k then x else sI S a i) → ab_Ex G 0 M_jA_fill_0 5 [some (.ref a), some (.int x), some (.int (nI k)), some (.int (nI n))] [] (sw S1) (fun v w' => v = none ∧ ∃ S', w' = sw S' ∧ sEq [a] S S' ∧ (sJ S' a = sJ S a) ∧ ∀ i, sI S' a i = if i < n then x else sI S a i) := by
    intro m
    induction m with
    | zero =>
      intro k hk S1 hE ho hV
      have hkn : k = n := by omega
      rw [hkn] at hV ⊢
      refine x_iload_n 6 2 (ab_dd tk_jA_fill_0 5 rfl) rfl rfl rfl ?_
      refine x_iload_n 7 3 (ab_dd tk_jA_fill_0 6 rfl) rfl rfl rfl ?_
      refine x_icmp_ge_t 20 (ab_dd tk_jA_fill_0 7 rfl) (by decide) ((nI_leI (a := n) (b := n) (by omega) (by omega)).mpr (show n ≤ n by omega)) ?_
      exact x_vret (ab_dd tk_jA_fill_0 14 rfl) ⟨rfl, _, rfl, hE, ho, hV⟩
    | succ m ih =>
      intro k hk S1 hE ho hV
      refine x_iload_n 6 2 (ab_dd tk_jA_fill_0 5 rfl) rfl rfl rfl ?_
      refine x_iload_n 7 3 (ab_dd tk_jA_fill_0 6 rfl) rfl rfl rfl ?_
      refine x_icmp_ge_f 10 (ab_dd tk_jA_fill_0 7 rfl) rfl 20 (by decide) (fun z => absurd ((nI_leI (a := n) (b := k) (by omega) (by omega)).mp z) (show ¬ (n ≤ k) by omega)) ?_
      refine x_aload_n 11 0 (ab_dd tk_jA_fill_0 8 rfl) rfl rfl rfl ?_
      refine x_iload_n 12 2 (ab_dd tk_jA_fill_0 9 rfl) rfl rfl rfl ?_
      refine x_iload_n 13 1 (ab_dd tk_jA_fill_0 10 rfl) rfl rfl rfl ?_
      refine t_iast 14 k (ab_dd tk_jA_fill_0 11 rfl) rfl ha (show a < sn S1 by rw [hE.2.2.2.2.2.1]; exact hn) (show sK S1 a = .inl (.int, n) by rw [hE.2.1]; exact hK) rfl (by omega) hn31 ?_
      refine xn_iinc 17 2 (fun y => [some (.ref a), some (.int x), some (.int y), some (.int (nI n))]) (k + 1) (ab_dd tk_jA_fill_0 12 rfl) rfl (by decide) rfl (fun _ => rfl) (iinc_p 1) ?_
      refine x_goto 5 (ab_dd tk_jA_fill_0 13 rfl) (by decide) ?_
      refine ih (k + 1) (by omega) _ (hE.pI (List.Mem.head _)) ho (fun i => ?_)
      by_cases hi : i = k
      · rw [hi, if_pos (by omega)]; exact gI_s
      · rw [gI_k hi, hV i]
        by_cases h1 : i < k
        · rw [if_pos h1, if_pos (by omega)]
        · rw [if_neg h1, if_neg (by omega)]
  refine x_iconst 1 0 (ab_dd tk_jA_fill_0 0 rfl) rfl (by decide) (x_topn 0 rfl ?_)
  refine x_istore_n 2 [some (.ref a), some (.int x), some (.int (nI 0)), none] 2 (ab_dd tk_jA_fill_0 1 rfl) rfl rfl (by decide) rfl ?_
  refine x_aload_n 3 0 (ab_dd tk_jA_fill_0 2 rfl) rfl rfl rfl ?_
  refine t_alen 4 0 (ab_dd tk_jA_fill_0 3 rfl) rfl ha hn rfl hK ?_
  refine x_istore_n 5 [some (.ref a), some (.int x), some (.int (nI 0)), some (.int (nI n))] 3 (ab_dd tk_jA_fill_0 4 rfl) rfl rfl (by decide) rfl ?_
  exact lp n 0 (by omega) S sEq.rf rfl (fun i => by rw [if_neg (Nat.not_lt_zero i)])
def tb_jA_fill_1 : List (Nat × Instr × Nat) := [(0, .iconst 0, 1), (1, .istore_n 3, 1), (2, .aload_n 0, 1), (3, .arraylength, 1), (4, .istore 4, 2), (6, .iload_n 3, 1), (7, .iload 4, 2), (9, .if_icmp .ge 13, 3), (12, .aload_n 0, 1), (13, .iload_n 3, 1), (14, .lload_n 1, 1), (15, .lastore, 1), (16, .iinc 3 1, 3), (19, .goto (-13), 3), (22, .return_, 1)]
theorem tk_jA_fill_1 : ∀ q ∈ tb_jA_fill_1, decode M_jA_fill_1.2.1 q.1 = .ok q.2 := by decide +kernel
theorem c_jA_fill_1 {G : ab_G} {S : ab_S} {a n : Nat} (ha : 50 ≤ a) (hn : a < sn S) (hK : sK S a = .inl (.long, n)) (hn31 : n < 2 ^ 31) (x : Int64) : ab_C G 0 M_jA_fill_1 [.ref a, .long x] (sw S) (fun v w' => v = none ∧ ∃ S', w' = sw S' ∧ sEq [a] S S' ∧ (sI S' a = sI S a) ∧ ∀ i, sJ S' a i = if i < n then x else sJ S a i) := by
  refine x_enter [some (.ref a), some (.long x), none, none, none] (by decide) (Nat.le_of_ble_eq_true rfl) rfl (fun v w' h => by obtain ⟨rfl, -⟩ := h; trivial) ?_
  have lp : ∀ (m k : Nat), k + m = n → ∀ S1 : ab_S, sEq [a] S S1 → sI S1 a = sI S a → (∀ i, sJ S1 a i = if i < k then x else sJ S a i) → ab_Ex G 0 M_jA_fill_1 6 [some (.ref a), some (.long x), none, some (.int (nI k)), some (.int (nI n))] [] (sw S1) (fun v w' => v = none ∧ ∃ S', w' = sw S' ∧ sEq [a] S S' ∧ (sI S' a = sI S a) ∧ ∀ i, sJ S' a i = if i < n then x else sJ S a i) := by
    intro m
    induction m with
    | zero =>
      intro k hk S1 hE ho hV
      have hkn : k = n := by omega
      rw [hkn] at hV ⊢
      refine x_iload_n 7 3 (ab_dd tk_jA_fill_1 5 rfl) rfl rfl rfl ?_
      refine x_iload 9 4 (ab_dd tk_jA_fill_1 6 rfl) rfl rfl ?_
      refine x_icmp_ge_t 22 (ab_dd tk_jA_fill_1 7 rfl) (by decide) ((nI_leI (a := n) (b := n) (by omega) (by omega)).mpr (show n ≤ n by omega)) ?_
      exact x_vret (ab_dd tk_jA_fill_1 14 rfl) ⟨rfl, _, rfl, hE, ho, hV⟩
    | succ m ih =>
      intro k hk S1 hE ho hV
      refine x_iload_n 7 3 (ab_dd tk_jA_fill_1 5 rfl) rfl rfl rfl ?_
      refine x_iload 9 4 (ab_dd tk_jA_fill_1 6 rfl) rfl rfl ?_
      refine x_icmp_ge_f 12 (ab_dd tk_jA_fill_1 7 rfl) rfl 22 (by decide) (fun z => absurd ((nI_leI (a := n) (b := k) (by omega) (by omega)).mp z) (show ¬ (n ≤ k) by omega)) ?_
      refine x_aload_n 13 0 (ab_dd tk_jA_fill_1 8 rfl) rfl rfl rfl ?_
      refine x_iload_n 14 3 (ab_dd tk_jA_fill_1 9 rfl) rfl rfl rfl ?_
      refine x_lload_n 15 1 (ab_dd tk_jA_fill_1 10 rfl) rfl rfl rfl ?_
      refine t_last 16 k (ab_dd tk_jA_fill_1 11 rfl) rfl ha (show a < sn S1 by rw [hE.2.2.2.2.2.1]; exact hn) (show sK S1 a = .inl (.long, n) by rw [hE.2.1]; exact hK) rfl (by omega) hn31 ?_
      refine xn_iinc 19 3 (fun y => [some (.ref a), some (.long x), none, some (.int y), some (.int (nI n))]) (k + 1) (ab_dd tk_jA_fill_1 12 rfl) rfl (by decide) rfl (fun _ => rfl) (iinc_p 1) ?_
      refine x_goto 6 (ab_dd tk_jA_fill_1 13 rfl) (by decide) ?_
      refine ih (k + 1) (by omega) _ (hE.pJ (List.Mem.head _)) ho (fun i => ?_)
      by_cases hi : i = k
      · rw [hi, if_pos (by omega)]; exact gJ_s
      · rw [gJ_k hi, hV i]
        by_cases h1 : i < k
        · rw [if_pos h1, if_pos (by omega)]
        · rw [if_neg h1, if_neg (by omega)]
  refine x_iconst 1 0 (ab_dd tk_jA_fill_1 0 rfl) rfl (by decide) (x_topn 0 rfl ?_)
  refine x_istore_n 2 [some (.ref a), some (.long x), none, some (.int (nI 0)), none] 3 (ab_dd tk_jA_fill_1 1 rfl) rfl rfl (by decide) rfl ?_
  refine x_aload_n 3 0 (ab_dd tk_jA_fill_1 2 rfl) rfl rfl rfl ?_
  refine t_alen 4 2 (ab_dd tk_jA_fill_1 3 rfl) rfl ha hn rfl hK ?_
  refine x_istore 6 [some (.ref a), some (.long x), none, some (.int (nI 0)), some (.int (nI n))] 4 (ab_dd tk_jA_fill_1 4 rfl) rfl (by decide) rfl ?_
  exact lp n 0 (by omega) S sEq.rf rfl (fun i => by rw [if_neg (Nat.not_lt_zero i)])
