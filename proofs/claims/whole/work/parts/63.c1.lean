/-! ===== the class: its cells ===== -/
def xKd (k : Nat) : (FieldType × Nat) ⊕ Nat := match k with
  | 0 => .inr 11
  | 1 => .inl (.byte, 900)
  | 2 => .inr 0
  | 3 => .inl (.int, 4)
  | 4 => .inl (.int, 16)
  | 5 => .inr 8
  | 6 => .inr 8
  | 7 => .inr 4
  | 8 => .inl (.object "SeasonSeat$Stand", 10)
  | 9 => .inr 8
  | 10 => .inr 8
  | 11 => .inr 8
  | 12 => .inr 8
  | 13 => .inr 8
  | 14 => .inr 8
  | 15 => .inr 8
  | 16 => .inr 8
  | 17 => .inr 8
  | 18 => .inr 8
  | 19 => .inl (.object "SeasonSeat$Tray", 4)
  | 20 => .inl (.object "SeasonSeat$Carriage", 2)
  | 21 => .inl (.object "SeasonSeat$Stand", 2)
  | 22 => .inr 5
  | 23 => .inl (.byte, 0)
  | 24 => .inr 0
  | 25 => .inl (.int, 4)
  | 26 => .inl (.int, 16)
  | 27 => .inl (.int, 900)
  | 28 => .inr 7
  | 29 => .inl (.int, 96)
  | 30 => .inl (.int, 96)
  | 31 => .inl (.int, 96)
  | 32 => .inl (.int, 24)
  | 33 => .inl (.int, 256)
  | 34 => .inr 1
  | 35 => .inr 0
  | 36 => .inl (.int, 4)
  | 37 => .inl (.int, 16)
  | 38 => .inl (.int, 0)
  | 39 => .inl (.int, 2160)
  | 40 => .inl (.int, 80)
  | 41 => .inl (.int, 4)
  | 42 => .inl (.int, 10)
  | 43 => .inl (.int, 80)
  | 44 => .inr 1
  | 45 => .inr 0
  | 46 => .inl (.int, 4)
  | 47 => .inl (.int, 16)
  | 48 => .inl (.int, 0)
  | 49 => .inl (.int, 2160)
  | 50 => .inl (.int, 80)
  | 51 => .inl (.int, 4)
  | 52 => .inl (.int, 10)
  | 53 => .inl (.int, 80)
  | 54 => .inr 3
  | 55 => .inl (.int, 626)
  | 56 => .inl (.int, 625)
  | 57 => .inl (.int, 625)
  | 58 => .inl (.int, 625)
  | 59 => .inr 10
  | 60 => .inl (.long, 40)
  | 61 => .inr 10
  | 62 => .inl (.long, 40)
  | 63 => .inr 10
  | 64 => .inl (.long, 40)
  | 65 => .inr 10
  | 66 => .inl (.long, 40)
  | 67 => .inr 8
  | 68 => .inr 8
  | 69 => .inl (.int, 1)
  | _ => .inr 0
def xPl : List (Nat × Nat × Nat) := [(50, 0, 51), (50, 3, 55), (50, 4, 56), (50, 5, 57), (50, 7, 69), (50, 8, 70), (50, 9, 71), (50, 10, 72), (50, 11, 78), (50, 12, 84), (50, 13, 94), (50, 14, 104), (57, 0, 58), (72, 11, 77), (78, 0, 79), (78, 1, 80), (78, 2, 81), (78, 3, 82), (84, 0, 78), (84, 7, 89), (84, 8, 90), (84, 9, 91), (84, 10, 92), (84, 11, 93), (94, 0, 78), (94, 7, 99), (94, 8, 100), (94, 9, 101), (94, 10, 102), (94, 11, 103), (94, 6, 98), (104, 0, 105), (104, 1, 106), (109, 0, 110), (111, 0, 112), (113, 0, 114), (115, 0, 116), (58, 0, 59), (58, 1, 60), (58, 2, 61), (58, 3, 62), (58, 4, 63), (58, 5, 64), (58, 6, 65), (58, 7, 66), (58, 8, 67), (58, 9, 68), (69, 0, 109), (69, 1, 111), (69, 2, 113), (69, 3, 115), (71, 0, 117), (71, 1, 118)]
def xSh (S : ab_S) : Prop := 120 ≤ sn S ∧ (∀ k, k < 70 → sK S (50 + k) = xKd k) ∧ ∀ t ∈ xPl, sP S t.1 t.2.1 = some t.2.2
theorem xSh.eq {l : List Nat} {S S1 : ab_S} (hx : xSh S) (h : sEq l S S1) : xSh S1 := ⟨by rw [h.2.2.2.2.2.1]; exact hx.1, fun k hk => by rw [h.2.1]; exact hx.2.1 k hk, fun t ht => by rw [h.2.2.2.2.1]; exact hx.2.2 t ht⟩
/-! ===== who sits where, by the class's numbers of it ===== -/
def qOl : List Nat := [27, 75, 39, 99, 135, 147, 30, 45, 54, 57, 78, 108, 114, 120, 141, 156, 177, 180, 198, 201, 210, 216, 225, 228]
def qRl : List Nat := [0, 1, 2, 3, 1, 0, 2, 3, 0, 2, 1, 3, 2, 0, 1, 3, 1, 2, 0, 3, 2, 1, 0, 3, 0, 1, 3, 2, 0, 3, 1, 2, 0, 2, 3, 1, 0, 3, 2, 1, 1, 0, 3, 2, 3, 0, 1, 2, 2, 0, 3, 1, 3, 0, 2, 1, 1, 3, 0, 2, 3, 1, 0, 2, 2, 3, 0, 1, 3, 2, 0, 1, 1, 2, 3, 0, 1, 3, 2, 0, 2, 1, 3, 0, 3, 1, 2, 0, 2, 3, 1, 0, 3, 2, 1, 0]
def qCl : List Nat := [0, 1, 2, 6, 1, 0, 4, 10, 2, 3, 0, 8, 3, 2, 5, 12, 4, 5, 1, 18, 5, 4, 3, 20, 6, 10, 7, 0, 7, 11, 6, 9, 8, 12, 9, 2, 9, 13, 8, 7, 10, 6, 14, 1, 11, 7, 15, 13, 12, 8, 16, 3, 13, 9, 17, 11, 14, 15, 10, 19, 15, 14, 11, 21, 16, 17, 12, 22, 17, 16, 13, 23, 18, 20, 19, 4, 19, 21, 18, 14, 20, 18, 22, 5, 21, 19, 23, 15, 22, 23, 20, 16, 23, 22, 21, 17]
def qO (q : Nat) : Nat := qOl.getD q 0
def qSe (q r : Nat) : Nat := qO q / 4 ^ (3 - r) % 4
def qRi (q s : Nat) : Nat := qRl.getD (4 * q + s) 0
def qCh (q d : Nat) : Nat := qCl.getD (4 * q + d) 0
def qU (R q : Nat) : Nat := (if 0 < R then qSe q 0 else 0) + (if 1 < R then 4 * qSe q 1 else 0) + (if 2 < R then 16 * qSe q 2 else 0) + (if 3 < R then 64 * qSe q 3 else 0)
def uSit (n u s : Nat) : Nat := sFirst (fun r => u / 4 ^ r % 4 == s) n 0
def uQ (R u : Nat) : Nat := sFirst (fun q => qU R q == u) 24 0
/-- the reference's number of a stand -/
def cSt (R w q : Nat) : Nat := 625 * qU R q + w
def qB1 (R q : Nat) : Bool := !(decide (q < kFc R)) || (decide (qU R q < 256) && (uQ R (qU R q) == q) && vU R (qU R q) && (List.range 4).all (fun r => qU R q / 4 ^ r % 4 == (if r < R then qSe q r else 0)) && (List.range R).all (fun s => (uSit R (qU R q) s == qRi q s) && decide (qRi q s < R) && decide (qSe q s < R)) && (List.range R).all (fun d => decide (qCh q d < kFc R) && (d == 0 || decide (4 ^ qRi q d ≤ qU R q + 4 ^ qRi q (d - 1)) && (qU R q + 4 ^ qRi q (d - 1) - 4 ^ qRi q d == qU R (qCh q d)))) && (qCh q 0 == q))
theorem qB1_all : (List.range 5).all (fun R => (List.range 24).all (qB1 R)) = true := by decide +kernel
theorem kFc_le (R : Nat) : kFc R ≤ 24 := by unfold kFc; split; (· decide); split; (· decide); split; (· decide); split <;> decide
theorem kFc_pos (R : Nat) : 0 < kFc R := by unfold kFc; split; (· decide); split; (· decide); split; (· decide); split <;> decide
theorem qB1_ok {R q : Nat} (hR : R ≤ 4) (hq : q < kFc R) : qU R q < 256 ∧ uQ R (qU R q) = q ∧ vU R (qU R q) = true ∧ (∀ r, r < 4 → qU R q / 4 ^ r % 4 = if r < R then qSe q r else 0) ∧ (∀ s, s < R → uSit R (qU R q) s = qRi q s ∧ qRi q s < R ∧ qSe q s < R) ∧ (∀ d, d < R → qCh q d < kFc R ∧ (0 < d → 4 ^ qRi q d ≤ qU R q + 4 ^ qRi q (d - 1) ∧ qU R q + 4 ^ qRi q (d - 1) - 4 ^ qRi q d = qU R (qCh q d))) ∧ qCh q 0 = q := by
  have h0 := qB1_all
  rw [List.all_eq_true] at h0
  have h1 := h0 R (List.mem_range.mpr (by omega))
  rw [List.all_eq_true] at h1
  have h2 := h1 q (List.mem_range.mpr (Nat.lt_of_lt_of_le hq (kFc_le R)))
  unfold qB1 at h2
  rw [decide_eq_true hq] at h2
  simp only [Bool.not_true, Bool.false_or, Bool.and_eq_true, Bool.or_eq_true, decide_eq_true_iff, beq_iff_eq, List.all_eq_true, List.mem_range] at h2
  obtain ⟨⟨⟨⟨⟨⟨a1, a2⟩, a3⟩, a4⟩, a5⟩, a6⟩, a7⟩ := h2
  refine ⟨a1, a2, a3, a4, fun s hs => ⟨(a5 s hs).1.1, (a5 s hs).1.2, (a5 s hs).2⟩, fun d hd => ⟨(a6 d hd).1, fun z => ?_⟩, a7⟩
  rcases (a6 d hd).2 with h | h
  · omega
  · exact h
theorem uQ_all : (List.range 5).all (fun R => (List.range 256).all (fun u => !(vU R u) || (decide (uQ R u < kFc R) && (qU R (uQ R u) == u)))) = true := by decide +kernel
theorem uQ_ok {R u : Nat} (hR : R ≤ 4) (hu : u < 256) (h : vU R u = true) : uQ R u < kFc R ∧ qU R (uQ R u) = u := by
  have h0 := uQ_all
  rw [List.all_eq_true] at h0
  have h1 := h0 R (List.mem_range.mpr (by omega))
  rw [List.all_eq_true] at h1
  have h2 := h1 u (List.mem_range.mpr hu)
  rw [h] at h2
  simp only [Bool.not_true, Bool.false_or, Bool.and_eq_true, decide_eq_true_iff, beq_iff_eq] at h2
  exact h2
theorem qU_inj {R q q' : Nat} (hR : R ≤ 4) (hq : q < kFc R) (hq' : q' < kFc R) (h : qU R q = qU R q') : q = q' := by
  rw [← (qB1_ok hR hq).2.1, ← (qB1_ok hR hq').2.1, h]
theorem p5_6 {R : Nat} (hR : R ≤ 4) : 5 ^ R ≤ 625 := Nat.pow_le_pow_right (by decide) hR
theorem cSt_m {R w q : Nat} (hw : w < 625) : cSt R w q % 625 = w := by unfold cSt; omega
theorem cSt_d {R w q : Nat} (hw : w < 625) : cSt R w q / 625 = qU R q := by unfold cSt; omega
theorem cSt_lt {R w q : Nat} (hR : R ≤ 4) (hq : q < kFc R) (hw : w < 625) : cSt R w q < 160000 := by
  have := (qB1_ok hR hq).1
  unfold cSt
  omega
theorem cSt_se {R w q r : Nat} (hR : R ≤ 4) (hq : q < kFc R) (hw : w < 625) (hr : r < 4) : mSe (cSt R w q) r = if r < R then qSe q r else 0 := by
  unfold mSe
  rw [cSt_d hw]
  exact (qB1_ok hR hq).2.2.2.1 r hr
theorem cSt_sit {R w q s : Nat} (hR : R ≤ 4) (hq : q < kFc R) (hw : w < 625) (hs : s < R) : mSit R (cSt R w q) s = qRi q s := by
  show sFirst (fun r => cSt R w q / 625 / 4 ^ r % 4 == s) R 0 = _
  rw [cSt_d hw]
  exact ((qB1_ok hR hq).2.2.2.2.1 s hs).1
theorem cSt_sw {R w q d : Nat} (hR : R ≤ 4) (hq : q < kFc R) (hw : w < 625) (hd : d < R) : mSw R (cSt R w q) d = cSt R w (qCh q d) := by
  unfold mSw
  have h := qB1_ok hR hq
  by_cases z : d = 0
  · rw [if_pos z, z, h.2.2.2.2.2.2]
  · rw [if_neg z, cSt_sit hR hq hw (by omega), cSt_sit hR hq hw hd]
    have h1 := (h.2.2.2.2.2.1 d hd).2 (by omega)
    unfold cSt
    omega
theorem cSt_wa {R w q r : Nat} (hw : w < 625) : mWa (cSt R w q) r = mWa w r := by
  unfold mWa
  rw [cSt_m hw, Nat.mod_eq_of_lt hw]
theorem mWa_w {w r : Nat} (hw : w < 625) : mWa w r = w / 5 ^ r % 5 := by unfold mWa; rw [Nat.mod_eq_of_lt hw]
theorem mWa_hi {R w r : Nat} (hR : R ≤ 4) (hw : w < 5 ^ R) (hr : R ≤ r) : mWa w r = 0 := by
  have h6 := p5_6 hR
  rw [mWa_w (by omega), Nat.div_eq_of_lt (Nat.lt_of_lt_of_le hw (Nat.pow_le_pow_right (by decide) hr))]
theorem mLe_cg {c c' : Nat} : ∀ n, (∀ r, r < n → mWa c r = mWa c' r) → mLe c n = mLe c' n
  | 0, _ => rfl
  | n + 1, h => by unfold mLe; rw [h n (by omega), mLe_cg n (fun r hr => h r (by omega))]
theorem mSu_cg {c c' : Nat} : ∀ n, (∀ r, r < n → mWa c r = mWa c' r) → mSu c n = mSu c' n
  | 0, _ => rfl
  | n + 1, h => by unfold mSu; rw [h n (by omega), mSu_cg n (fun r hr => h r (by omega))]
theorem cSt_le {R w q n : Nat} (hw : w < 625) : mLe (cSt R w q) n = mLe w n := mLe_cg n (fun _ _ => cSt_wa hw)
theorem cSt_su {R w q n : Nat} (hw : w < 625) : mSu (cSt R w q) n = mSu w n := mSu_cg n (fun _ _ => cSt_wa hw)
/-- numbers of base 4 -/
def c4 (f : Nat → Nat) : Nat := f 0 + 4 * f 1 + 16 * f 2 + 64 * f 3
def d4 (c r : Nat) : Nat := c / 4 ^ r % 4
theorem sea_all : (List.range 256).all (fun c => (List.range 4).all (fun r => decide ((nI c >>> ((nI 2 * nI r) &&& 31)) &&& nI 3 = nI (d4 c r)) && (List.range 4).all (fun s => decide (((nI c) &&& ((nI 3 <<< ((nI 2 * nI r) &&& 31)) ^^^ (-1))) ||| (nI s <<< ((nI 2 * nI r) &&& 31)) = nI (c4 (fun i => if i = r then s else d4 c i)))))) = true := by decide +kernel
theorem sea_ok {c r : Nat} (hc : c < 256) (hr : r < 4) : (nI c >>> ((nI 2 * nI r) &&& 31)) &&& nI 3 = nI (d4 c r) ∧ ∀ s, s < 4 → ((nI c) &&& ((nI 3 <<< ((nI 2 * nI r) &&& 31)) ^^^ (-1))) ||| (nI s <<< ((nI 2 * nI r) &&& 31)) = nI (c4 (fun i => if i = r then s else d4 c i)) := by
  have h0 := sea_all
  rw [List.all_eq_true] at h0
  have h1 := h0 c (List.mem_range.mpr hc)
  rw [List.all_eq_true] at h1
  have h2 := h1 r (List.mem_range.mpr hr)
  rw [Bool.and_eq_true, List.all_eq_true] at h2
  exact ⟨of_decide_eq_true h2.1, fun s hs => of_decide_eq_true (h2.2 s (List.mem_range.mpr hs))⟩
theorem d4_lt (c r : Nat) : d4 c r < 4 := Nat.mod_lt _ (by decide)
theorem c4_lt {f : Nat → Nat} (h : ∀ r, r < 4 → f r < 4) : c4 f < 256 := by
  have h0 := h 0 (by decide)
  have h1 := h 1 (by decide)
  have h2 := h 2 (by decide)
  have h3 := h 3 (by decide)
  unfold c4
  omega
theorem c4_d {f : Nat → Nat} (h : ∀ r, r < 4 → f r < 4) : ∀ r, r < 4 → d4 (c4 f) r = f r := by
  have h0 := h 0 (by decide)
  have h1 := h 1 (by decide)
  have h2 := h 2 (by decide)
  have h3 := h 3 (by decide)
  refine r4 ?_ ?_ ?_ ?_ <;> (unfold d4 c4; omega)
theorem c4_cg {f g : Nat → Nat} (h : ∀ r, r < 4 → f r = g r) : c4 f = c4 g := by
  unfold c4
  rw [h 0 (by decide), h 1 (by decide), h 2 (by decide), h 3 (by decide)]
def tb_s_warmthOf : List (Nat × Instr × Nat) := [(0, .iload_n 1, 1), (1, .ifCond .lt 8, 3), (4, .iload_n 1, 1), (5, .iconst 4, 1), (6, .if_icmp .lt 7, 3), (9, .iconst 0, 1), (10, .goto 12, 3), (13, .iload_n 0, 1), (14, .getstatic 322, 3), (17, .iload_n 1, 1), (18, .iaload, 1), (19, .idiv, 1), (20, .iconst 5, 1), (21, .irem, 1), (22, .ireturn, 1)]
theorem tk_s_warmthOf : ∀ q ∈ tb_s_warmthOf, decode M_s_warmthOf.2.1 q.1 = .ok q.2 := by decide +kernel
theorem c_s_warmthOf {G : ab_G} {S : ab_S} (kc : kSh S.1) (h50 : 50 ≤ sn S) (c r : Nat) (hc : c < 625) (hr : r < 4) : ab_C G 0 M_s_warmthOf [.int (nI c), .int (nI r)] (sw S) (fun v w' => v = some (.int (nI (mWa c r))) ∧ w' = sw S) := by
  refine x_enter [some (.int (nI c)), some (.int (nI r))] (by decide) (Nat.le_of_ble_eq_true rfl) rfl (fun v w' h => by obtain ⟨rfl, rfl⟩ := h; rfl) ?_
  have hp5 := p5_le r hr
  have hp0 := p5_pos r
  have hdv : c / 5 ^ r ≤ c := Nat.div_le_self _ _
  refine x_iload_n 1 1 (ab_dd tk_s_warmthOf 0 rfl) rfl rfl rfl ?_
  refine x_if_lt_f 4 (ab_dd tk_s_warmthOf 1 rfl) rfl 9 (by decide) (nI_pos (by omega)) ?_
  refine x_iload_n 5 1 (ab_dd tk_s_warmthOf 2 rfl) rfl rfl rfl ?_
  refine x_iconst 6 4 (ab_dd tk_s_warmthOf 3 rfl) rfl (by decide) (x_topn 4 rfl ?_)
  refine x_icmp_lt_t 13 (ab_dd tk_s_warmthOf 4 rfl) (by decide) ((nI_ltI (a := r) (b := 4) (by omega) (by omega)).mpr (show r < 4 by omega)) ?_
  refine x_iload_n 14 0 (ab_dd tk_s_warmthOf 7 rfl) rfl rfl rfl ?_
  refine x_gets 17 (ab_dd tk_s_warmthOf 8 rfl) rfl (List.mem_of_getElem? (i := 0) rfl) F_s_322 ?_
  refine x_iload_n 18 1 (ab_dd tk_s_warmthOf 9 rfl) rfl rfl rfl ?_
  refine t_ialdK 19 r (ab_dd tk_s_warmthOf 10 rfl) rfl (by decide) h50 (kc.2.1) rfl (by omega) (by decide) (x_topn (kPw r) (kPw_N r (by omega)) ?_)
  refine x_idiv 20 (ab_dd tk_s_warmthOf 11 rfl) rfl (by show nI (kPw r) ≠ 0; unfold kPw; rw [Ne, show (0 : Int32) = nI 0 from rfl, nI_eq (by omega) (by omega)]; omega) (x_topn (c / 5 ^ r) (by unfold kPw; exact pk_div (by omega) (by omega) (by omega)) ?_)
  refine x_iconst 21 5 (ab_dd tk_s_warmthOf 12 rfl) rfl (by decide) (x_topn 5 rfl ?_)
  refine x_irem 22 (ab_dd tk_s_warmthOf 13 rfl) rfl (by decide) (x_topn ((c / 5 ^ r) % 5) (pk_rem (by omega) (by omega) (by omega)) ?_)
  exact x_iret (ab_dd tk_s_warmthOf 14 rfl) ⟨rI (congrArg nI (mWa_w hc).symm), rfl⟩
def tb_s_withWarmth : List (Nat × Instr × Nat) := [(0, .iload_n 1, 1), (1, .ifCond .lt 8, 3), (4, .iload_n 1, 1), (5, .iconst 4, 1), (6, .if_icmp .lt 7, 3), (9, .iload_n 0, 1), (10, .goto 18, 3), (13, .iload_n 0, 1), (14, .iload_n 2, 1), (15, .iload_n 0, 1), (16, .iload_n 1, 1), (17, .invokestatic 148, 3), (20, .isub, 1), (21, .getstatic 322, 3), (24, .iload_n 1, 1), (25, .iaload, 1), (26, .imul, 1), (27, .iadd, 1), (28, .ireturn, 1)]
theorem tk_s_withWarmth : ∀ q ∈ tb_s_withWarmth, decode M_s_withWarmth.2.1 q.1 = .ok q.2 := by decide +kernel
theorem c_s_withWarmth {G : ab_G} {S : ab_S} (kc : kSh S.1) (h50 : 50 ≤ sn S) (c r x : Nat) (hc : c < 625) (hr : r < 4) (hx5 : x < 5) : ab_C G 1 M_s_withWarmth [.int (nI c), .int (nI r), .int (nI x)] (sw S) (fun v w' => v = some (.int (nI (mWi c r x))) ∧ w' = sw S) := by
  refine x_enter [some (.int (nI c)), some (.int (nI r)), some (.int (nI x))] (by decide) (Nat.le_of_ble_eq_true rfl) rfl (fun v w' h => by obtain ⟨rfl, rfl⟩ := h; rfl) ?_
  have hp5 := p5_le r hr
  have hp0 := p5_pos r
  refine x_iload_n 1 1 (ab_dd tk_s_withWarmth 0 rfl) rfl rfl rfl ?_
  refine x_if_lt_f 4 (ab_dd tk_s_withWarmth 1 rfl) rfl 9 (by decide) (nI_pos (by omega)) ?_
  refine x_iload_n 5 1 (ab_dd tk_s_withWarmth 2 rfl) rfl rfl rfl ?_
  refine x_iconst 6 4 (ab_dd tk_s_withWarmth 3 rfl) rfl (by decide) (x_topn 4 rfl ?_)
  refine x_icmp_lt_t 13 (ab_dd tk_s_withWarmth 4 rfl) (by decide) ((nI_ltI (a := r) (b := 4) (by omega) (by omega)).mpr (show r < 4 by omega)) ?_
  refine x_iload_n 14 0 (ab_dd tk_s_withWarmth 7 rfl) rfl rfl rfl ?_
  refine x_iload_n 15 2 (ab_dd tk_s_withWarmth 8 rfl) rfl rfl rfl ?_
  refine x_iload_n 16 0 (ab_dd tk_s_withWarmth 9 rfl) rfl rfl rfl ?_
  refine x_iload_n 17 1 (ab_dd tk_s_withWarmth 10 rfl) rfl rfl rfl ?_
  refine x_callS 20 M_s_warmthOf 0 2 [_, _] (ab_dd tk_s_withWarmth 11 rfl) rfl (by first | decide | omega) K_s_warmthOf T_s_warmthOf L_s_148 rfl (Nat.le_of_ble_eq_true rfl) (c_s_warmthOf (by exact kc) (by exact h50) c r (by omega) (by omega)) (fun v1 w1 h1 => ?_)
  obtain ⟨rfl, rfl⟩ := h1
  refine x_isub 21 (ab_dd tk_s_withWarmth 12 rfl) rfl ?_
  refine x_gets 24 (ab_dd tk_s_withWarmth 13 rfl) rfl (List.mem_of_getElem? (i := 0) rfl) F_s_322 ?_
  refine x_iload_n 25 1 (ab_dd tk_s_withWarmth 14 rfl) rfl rfl rfl ?_
  refine t_ialdK 26 r (ab_dd tk_s_withWarmth 15 rfl) rfl (by decide) h50 (kc.2.1) rfl (by omega) (by decide) (x_topn (kPw r) (kPw_N r (by omega)) ?_)
  refine x_imul 27 (ab_dd tk_s_withWarmth 16 rfl) rfl ?_
  refine x_iadd 28 (ab_dd tk_s_withWarmth 17 rfl) rfl ?_
  exact x_iret (ab_dd tk_s_withWarmth 18 rfl) ⟨rI ((by rw [Int32.mul_comm]; unfold kPw; exact mWi_N (by omega) hr hx5)), rfl⟩
def tb_s_leastOf : List (Nat × Instr × Nat) := [(0, .iconst 4, 1), (1, .istore_n 2, 1), (2, .iload_n 0, 1), (3, .istore_n 3, 1), (4, .iconst 0, 1), (5, .istore 4, 2), (7, .iload 4, 2), (9, .iload_n 1, 1), (10, .if_icmp .ge 21, 3), (13, .iload_n 2, 1), (14, .iload_n 3, 1), (15, .iconst 5, 1), (16, .irem, 1), (17, .invokestatic 433, 3), (20, .istore_n 2, 1), (21, .iload_n 3, 1), (22, .iconst 5, 1), (23, .idiv, 1), (24, .istore_n 3, 1), (25, .iinc 4 1, 3), (28, .goto (-21), 3), (31, .iload_n 2, 1), (32, .ireturn, 1)]
theorem tk_s_leastOf : ∀ q ∈ tb_s_leastOf, decode M_s_leastOf.2.1 q.1 = .ok q.2 := by decide +kernel
theorem c_s_leastOf {G : ab_G} {S : ab_S} (c R : Nat) (hc : c < 625) (hR : R ≤ 4) : ab_C G 1 M_s_leastOf [.int (nI c), .int (nI R)] (sw S) (fun v w' => v = some (.int (nI (mLe c R))) ∧ w' = sw S) := by
  refine x_enter [some (.int (nI c)), some (.int (nI R)), none, none, none] (by decide) (Nat.le_of_ble_eq_true rfl) rfl (fun v w' h => by obtain ⟨rfl, rfl⟩ := h; rfl) ?_
  have lp : ∀ (m k : Nat), k + m = R → ab_Ex G 1 M_s_leastOf 7 [some (.int (nI c)), some (.int (nI R)), some (.int (nI (mLe c k))), some (.int (nI (c / 5 ^ k))), some (.int (nI k))] [] (sw S) (fun v w' => v = some (.int (nI (mLe c R))) ∧ w' = sw S) := by
    intro m
    induction m with
    | zero =>
      intro k hk
      have hkR : k = R := by omega
      rw [hkR]
      refine x_iload 9 4 (ab_dd tk_s_leastOf 6 rfl) rfl rfl ?_
      refine x_iload_n 10 1 (ab_dd tk_s_leastOf 7 rfl) rfl rfl rfl ?_
      refine x_icmp_ge_t 31 (ab_dd tk_s_leastOf 8 rfl) (by decide) ((nI_leI (a := R) (b := R) (by omega) (by omega)).mpr (show R ≤ R by omega)) ?_
      refine x_iload_n 32 2 (ab_dd tk_s_leastOf 21 rfl) rfl rfl rfl ?_
      exact x_iret (ab_dd tk_s_leastOf 22 rfl) ⟨rfl, rfl⟩
    | succ m ih =>
      intro k hk
      have hdv : c / 5 ^ k ≤ c := Nat.div_le_self _ _
      have hF : mLe c k ≤ 4 := mLe_le c k
      have hwa : c / 5 ^ k % 5 = mWa c k := (mWa_w hc).symm
      have hw5 := mWa_lt c k
      refine x_iload 9 4 (ab_dd tk_s_leastOf 6 rfl) rfl rfl ?_
      refine x_iload_n 10 1 (ab_dd tk_s_leastOf 7 rfl) rfl rfl rfl ?_
      refine x_icmp_ge_f 13 (ab_dd tk_s_leastOf 8 rfl) rfl 31 (by decide) (fun z => absurd ((nI_leI (a := R) (b := k) (by omega) (by omega)).mp z) (show ¬ (R ≤ k) by omega)) ?_
      refine x_iload_n 14 2 (ab_dd tk_s_leastOf 9 rfl) rfl rfl rfl ?_
      refine x_iload_n 15 3 (ab_dd tk_s_leastOf 10 rfl) rfl rfl rfl ?_
      refine x_iconst 16 5 (ab_dd tk_s_leastOf 11 rfl) rfl (by decide) (x_topn 5 rfl ?_)
      refine x_irem 17 (ab_dd tk_s_leastOf 12 rfl) rfl (by decide) (x_topn ((c / 5 ^ k) % 5) (pk_rem (by omega) (by omega) (by omega)) ?_)
      refine x_callS 20 M_jM_min 0 2 [_, _] (ab_dd tk_s_leastOf 13 rfl) rfl (by first | decide | omega) K_jM_min T_jM_min L_s_433 rfl (Nat.le_of_ble_eq_true rfl) (w_min _ (mLe c k) ((c / 5 ^ k) % 5) (by omega) (by omega)) (fun v1 w1 h1 => ?_)
      obtain ⟨rfl, rfl⟩ := h1
      refine x_istore_n 21 [some (.int (nI c)), some (.int (nI R)), some (.int (nI (if (mLe c k) ≤ ((c / 5 ^ k) % 5) then (mLe c k) else ((c / 5 ^ k) % 5)))), some (.int (nI (c / 5 ^ k))), some (.int (nI k))] 2 (ab_dd tk_s_leastOf 14 rfl) rfl rfl (by decide) rfl ?_
      refine x_iload_n 22 3 (ab_dd tk_s_leastOf 15 rfl) rfl rfl rfl ?_
      refine x_iconst 23 5 (ab_dd tk_s_leastOf 16 rfl) rfl (by decide) (x_topn 5 rfl ?_)
      refine x_idiv 24 (ab_dd tk_s_leastOf 17 rfl) rfl (by decide) (x_topn ((c / 5 ^ k) / 5) (pk_div (by omega) (by omega) (by omega)) ?_)
      refine x_istore_n 25 [some (.int (nI c)), some (.int (nI R)), some (.int (nI (if (mLe c k) ≤ ((c / 5 ^ k) % 5) then (mLe c k) else ((c / 5 ^ k) % 5)))), some (.int (nI ((c / 5 ^ k) / 5))), some (.int (nI k))] 3 (ab_dd tk_s_leastOf 18 rfl) rfl rfl (by decide) rfl ?_
      refine xn_iinc 28 4 (fun y => [some (.int (nI c)), some (.int (nI R)), some (.int (nI (if (mLe c k) ≤ ((c / 5 ^ k) % 5) then (mLe c k) else ((c / 5 ^ k) % 5)))), some (.int (nI ((c / 5 ^ k) / 5))), some (.int y)]) (k + 1) (ab_dd tk_s_leastOf 19 rfl) rfl (by decide) rfl (fun _ => rfl) (iinc_p 1) ?_
      refine x_goto 7 (ab_dd tk_s_leastOf 20 rfl) (by decide) ?_
      rw [show c / 5 ^ k / 5 = c / 5 ^ (k + 1) by rw [Nat.pow_succ, Nat.div_div_eq_div_mul], show (if mLe c k ≤ c / 5 ^ k % 5 then mLe c k else c / 5 ^ k % 5) = mLe c (k + 1) by rw [hwa]; show _ = (if mWa c k < mLe c k then mWa c k else mLe c k); split <;> split <;> omega]
      exact ih (k + 1) (by omega)
  refine x_iconst 1 4 (ab_dd tk_s_leastOf 0 rfl) rfl (by decide) (x_topn 4 rfl ?_)
  refine x_istore_n 2 [some (.int (nI c)), some (.int (nI R)), some (.int (nI 4)), none, none] 2 (ab_dd tk_s_leastOf 1 rfl) rfl rfl (by decide) rfl ?_
  refine x_iload_n 3 0 (ab_dd tk_s_leastOf 2 rfl) rfl rfl rfl ?_
  refine x_istore_n 4 [some (.int (nI c)), some (.int (nI R)), some (.int (nI 4)), some (.int (nI c)), none] 3 (ab_dd tk_s_leastOf 3 rfl) rfl rfl (by decide) rfl ?_
  refine x_iconst 5 0 (ab_dd tk_s_leastOf 4 rfl) rfl (by decide) (x_topn 0 rfl ?_)
  refine x_istore 7 [some (.int (nI c)), some (.int (nI R)), some (.int (nI 4)), some (.int (nI c)), some (.int (nI 0))] 4 (ab_dd tk_s_leastOf 5 rfl) rfl (by decide) rfl ?_
  have h := lp R 0 (by omega)
  rw [Nat.pow_zero, Nat.div_one] at h
  exact h
def tb_s_sumOf : List (Nat × Instr × Nat) := [(0, .iconst 0, 1), (1, .istore_n 2, 1), (2, .iload_n 0, 1), (3, .istore_n 3, 1), (4, .iconst 0, 1), (5, .istore 4, 2), (7, .iload 4, 2), (9, .iload_n 1, 1), (10, .if_icmp .ge 19, 3), (13, .iload_n 2, 1), (14, .iload_n 3, 1), (15, .iconst 5, 1), (16, .irem, 1), (17, .iadd, 1), (18, .istore_n 2, 1), (19, .iload_n 3, 1), (20, .iconst 5, 1), (21, .idiv, 1), (22, .istore_n 3, 1), (23, .iinc 4 1, 3), (26, .goto (-19), 3), (29, .iload_n 2, 1), (30, .ireturn, 1)]
theorem tk_s_sumOf : ∀ q ∈ tb_s_sumOf, decode M_s_sumOf.2.1 q.1 = .ok q.2 := by decide +kernel
theorem c_s_sumOf {G : ab_G} {S : ab_S} (c R : Nat) (hc : c < 625) (hR : R ≤ 4) : ab_C G 1 M_s_sumOf [.int (nI c), .int (nI R)] (sw S) (fun v w' => v = some (.int (nI (mSu c R))) ∧ w' = sw S) := by
  refine x_enter [some (.int (nI c)), some (.int (nI R)), none, none, none] (by decide) (Nat.le_of_ble_eq_true rfl) rfl (fun v w' h => by obtain ⟨rfl, rfl⟩ := h; rfl) ?_
  have lp : ∀ (m k : Nat), k + m = R → ab_Ex G 1 M_s_sumOf 7 [some (.int (nI c)), some (.int (nI R)), some (.int (nI (mSu c k))), some (.int (nI (c / 5 ^ k))), some (.int (nI k))] [] (sw S) (fun v w' => v = some (.int (nI (mSu c R))) ∧ w' = sw S) := by
    intro m
    induction m with
    | zero =>
      intro k hk
      have hkR : k = R := by omega
      rw [hkR]
      refine x_iload 9 4 (ab_dd tk_s_sumOf 6 rfl) rfl rfl ?_
      refine x_iload_n 10 1 (ab_dd tk_s_sumOf 7 rfl) rfl rfl rfl ?_
      refine x_icmp_ge_t 29 (ab_dd tk_s_sumOf 8 rfl) (by decide) ((nI_leI (a := R) (b := R) (by omega) (by omega)).mpr (show R ≤ R by omega)) ?_
      refine x_iload_n 30 2 (ab_dd tk_s_sumOf 21 rfl) rfl rfl rfl ?_
      exact x_iret (ab_dd tk_s_sumOf 22 rfl) ⟨rfl, rfl⟩
    | succ m ih =>
      intro k hk
      have hdv : c / 5 ^ k ≤ c := Nat.div_le_self _ _
      have hF : mSu c k ≤ 4 * k := mSu_le c k
      have hwa : c / 5 ^ k % 5 = mWa c k := (mWa_w hc).symm
      have hw5 := mWa_lt c k
      refine x_iload 9 4 (ab_dd tk_s_sumOf 6 rfl) rfl rfl ?_
      refine x_iload_n 10 1 (ab_dd tk_s_sumOf 7 rfl) rfl rfl rfl ?_
      refine x_icmp_ge_f 13 (ab_dd tk_s_sumOf 8 rfl) rfl 29 (by decide) (fun z => absurd ((nI_leI (a := R) (b := k) (by omega) (by omega)).mp z) (show ¬ (R ≤ k) by omega)) ?_
      refine x_iload_n 14 2 (ab_dd tk_s_sumOf 9 rfl) rfl rfl rfl ?_
      refine x_iload_n 15 3 (ab_dd tk_s_sumOf 10 rfl) rfl rfl rfl ?_
      refine x_iconst 16 5 (ab_dd tk_s_sumOf 11 rfl) rfl (by decide) (x_topn 5 rfl ?_)
      refine x_irem 17 (ab_dd tk_s_sumOf 12 rfl) rfl (by decide) (x_topn ((c / 5 ^ k) % 5) (pk_rem (by omega) (by omega) (by omega)) ?_)
      refine x_iadd 18 (ab_dd tk_s_sumOf 13 rfl) rfl (x_topn ((mSu c k) + ((c / 5 ^ k) % 5)) (nI_add _ _) ?_)
      refine x_istore_n 19 [some (.int (nI c)), some (.int (nI R)), some (.int (nI ((mSu c k) + ((c / 5 ^ k) % 5)))), some (.int (nI (c / 5 ^ k))), some (.int (nI k))] 2 (ab_dd tk_s_sumOf 14 rfl) rfl rfl (by decide) rfl ?_
      refine x_iload_n 20 3 (ab_dd tk_s_sumOf 15 rfl) rfl rfl rfl ?_
      refine x_iconst 21 5 (ab_dd tk_s_sumOf 16 rfl) rfl (by decide) (x_topn 5 rfl ?_)
      refine x_idiv 22 (ab_dd tk_s_sumOf 17 rfl) rfl (by decide) (x_topn ((c / 5 ^ k) / 5) (pk_div (by omega) (by omega) (by omega)) ?_)
      refine x_istore_n 23 [some (.int (nI c)), some (.int (nI R)), some (.int (nI ((mSu c k) + ((c / 5 ^ k) % 5)))), some (.int (nI ((c / 5 ^ k) / 5))), some (.int (nI k))] 3 (ab_dd tk_s_sumOf 18 rfl) rfl rfl (by decide) rfl ?_
      refine xn_iinc 26 4 (fun y => [some (.int (nI c)), some (.int (nI R)), some (.int (nI ((mSu c k) + ((c / 5 ^ k) % 5)))), some (.int (nI ((c / 5 ^ k) / 5))), some (.int y)]) (k + 1) (ab_dd tk_s_sumOf 19 rfl) rfl (by decide) rfl (fun _ => rfl) (iinc_p 1) ?_
      refine x_goto 7 (ab_dd tk_s_sumOf 20 rfl) (by decide) ?_
      rw [show c / 5 ^ k / 5 = c / 5 ^ (k + 1) by rw [Nat.pow_succ, Nat.div_div_eq_div_mul], show mSu c k + c / 5 ^ k % 5 = mSu c (k + 1) by rw [hwa]; rfl]
      exact ih (k + 1) (by omega)
  refine x_iconst 1 0 (ab_dd tk_s_sumOf 0 rfl) rfl (by decide) (x_topn 0 rfl ?_)
  refine x_istore_n 2 [some (.int (nI c)), some (.int (nI R)), some (.int (nI 0)), none, none] 2 (ab_dd tk_s_sumOf 1 rfl) rfl rfl (by decide) rfl ?_
  refine x_iload_n 3 0 (ab_dd tk_s_sumOf 2 rfl) rfl rfl rfl ?_
  refine x_istore_n 4 [some (.int (nI c)), some (.int (nI R)), some (.int (nI 0)), some (.int (nI c)), none] 3 (ab_dd tk_s_sumOf 3 rfl) rfl rfl (by decide) rfl ?_
  refine x_iconst 5 0 (ab_dd tk_s_sumOf 4 rfl) rfl (by decide) (x_topn 0 rfl ?_)
  refine x_istore 7 [some (.int (nI c)), some (.int (nI R)), some (.int (nI 0)), some (.int (nI c)), some (.int (nI 0))] 4 (ab_dd tk_s_sumOf 5 rfl) rfl (by decide) rfl ?_
  have h := lp R 0 (by omega)
  rw [Nat.pow_zero, Nat.div_one] at h
  exact h
def tb_s_seasonOf : List (Nat × Instr × Nat) := [(0, .iload_n 0, 1), (1, .iconst 2, 1), (2, .iload_n 1, 1), (3, .imul, 1), (4, .ishr, 1), (5, .iconst 3, 1), (6, .iand, 1), (7, .ireturn, 1)]
theorem tk_s_seasonOf : ∀ q ∈ tb_s_seasonOf, decode M_s_seasonOf.2.1 q.1 = .ok q.2 := by decide +kernel
theorem c_s_seasonOf {G : ab_G} {S : ab_S} (c r : Nat) (hc : c < 256) (hr : r < 4) : ab_C G 0 M_s_seasonOf [.int (nI c), .int (nI r)] (sw S) (fun v w' => v = some (.int (nI (d4 c r))) ∧ w' = sw S) := by
  refine x_enter [some (.int (nI c)), some (.int (nI r))] (by decide) (Nat.le_of_ble_eq_true rfl) rfl (fun v w' h => by obtain ⟨rfl, rfl⟩ := h; rfl) ?_
  refine x_iload_n 1 0 (ab_dd tk_s_seasonOf 0 rfl) rfl rfl rfl ?_
  refine x_iconst 2 2 (ab_dd tk_s_seasonOf 1 rfl) rfl (by decide) (x_topn 2 rfl ?_)
  refine x_iload_n 3 1 (ab_dd tk_s_seasonOf 2 rfl) rfl rfl rfl ?_
  refine x_imul 4 (ab_dd tk_s_seasonOf 3 rfl) rfl ?_
  refine x_ishr 5 (ab_dd tk_s_seasonOf 4 rfl) rfl ?_
  refine x_iconst 6 3 (ab_dd tk_s_seasonOf 5 rfl) rfl (by decide) (x_topn 3 rfl ?_)
  refine x_iand 7 (ab_dd tk_s_seasonOf 6 rfl) rfl ?_
  exact x_iret (ab_dd tk_s_seasonOf 7 rfl) ⟨rI (sea_ok hc hr).1, rfl⟩
def tb_s_withSeason : List (Nat × Instr × Nat) := [(0, .iload_n 0, 1), (1, .iconst 3, 1), (2, .iconst 2, 1), (3, .iload_n 1, 1), (4, .imul, 1), (5, .ishl, 1), (6, .iconst (-1), 1), (7, .ixor, 1), (8, .iand, 1), (9, .iload_n 2, 1), (10, .iconst 2, 1), (11, .iload_n 1, 1), (12, .imul, 1), (13, .ishl, 1), (14, .ior, 1), (15, .ireturn, 1)]
theorem tk_s_withSeason : ∀ q ∈ tb_s_withSeason, decode M_s_withSeason.2.1 q.1 = .ok q.2 := by decide +kernel
theorem c_s_withSeason {G : ab_G} {S : ab_S} (c r s : Nat) (hc : c < 256) (hr : r < 4) (hs : s < 4) : ab_C G 0 M_s_withSeason [.int (nI c), .int (nI r), .int (nI s)] (sw S) (fun v w' => v = some (.int (nI (c4 (fun i => if i = r then s else d4 c i)))) ∧ w' = sw S) := by
  refine x_enter [some (.int (nI c)), some (.int (nI r)), some (.int (nI s))] (by decide) (Nat.le_of_ble_eq_true rfl) rfl (fun v w' h => by obtain ⟨rfl, rfl⟩ := h; rfl) ?_
  refine x_iload_n 1 0 (ab_dd tk_s_withSeason 0 rfl) rfl rfl rfl ?_
  refine x_iconst 2 3 (ab_dd tk_s_withSeason 1 rfl) rfl (by decide) (x_topn 3 rfl ?_)
  refine x_iconst 3 2 (ab_dd tk_s_withSeason 2 rfl) rfl (by decide) (x_topn 2 rfl ?_)
  refine x_iload_n 4 1 (ab_dd tk_s_withSeason 3 rfl) rfl rfl rfl ?_
  refine x_imul 5 (ab_dd tk_s_withSeason 4 rfl) rfl ?_
  refine x_ishl 6 (ab_dd tk_s_withSeason 5 rfl) rfl ?_
  refine x_iconst 7 (-1) (ab_dd tk_s_withSeason 6 rfl) rfl (by decide) ?_
  refine x_ixor 8 (ab_dd tk_s_withSeason 7 rfl) rfl ?_
  refine x_iand 9 (ab_dd tk_s_withSeason 8 rfl) rfl ?_
  refine x_iload_n 10 2 (ab_dd tk_s_withSeason 9 rfl) rfl rfl rfl ?_
  refine x_iconst 11 2 (ab_dd tk_s_withSeason 10 rfl) rfl (by decide) (x_topn 2 rfl ?_)
  refine x_iload_n 12 1 (ab_dd tk_s_withSeason 11 rfl) rfl rfl rfl ?_
  refine x_imul 13 (ab_dd tk_s_withSeason 12 rfl) rfl ?_
  refine x_ishl 14 (ab_dd tk_s_withSeason 13 rfl) rfl ?_
  refine x_ior 15 (ab_dd tk_s_withSeason 14 rfl) rfl ?_
  exact x_iret (ab_dd tk_s_withSeason 15 rfl) ⟨rI ((sea_ok hc hr).2 s hs), rfl⟩
