/-! ===== the reference: its cells lie from 120 on (after the class has been made) ===== -/
def mKd (k : Nat) : (FieldType × Nat) ⊕ Nat := match k with
  | 0 => .inr 12
  | 1 => .inl (.int, 3252)
  | 2 => .inl (.boolean, 2)
  | 3 => .inl (.int, 900)
  | 4 => .inl (.int, 1084)
  | 5 => .inl (.int, 900)
  | 6 => .inl (.int, 9)
  | 7 => .inl (.int, 14)
  | 8 => .inl (.int, 15001)
  | 9 => .inl (.int, 160000)
  | 10 => .inl (.int, 15000)
  | 11 => .inl (.int, 60000)
  | 12 => .inl (.int, 15000)
  | 13 => .inl (.int, 15000)
  | 14 => .inl (.long, 15000)
  | 15 => .inl (.long, 15000)
  | 16 => .inl (.int, 4)
  | 17 => .inl (.int, 4)
  | 18 => .inl (.int, 4)
  | 19 => .inl (.int, 4)
  | 20 => .inl (.int, 4)
  | 21 => .inl (.int, 4)
  | 22 => .inl (.int, 4)
  | 23 => .inl (.int, 4)
  | _ => .inl (.long, 160)
def mPf (k : Nat) : Option Nat := match k with
  | 1 => some 121
  | 2 => some 122
  | 3 => some 123
  | 4 => some 124
  | 16 => some 125
  | 17 => some 126
  | 18 => some 127
  | 21 => some 128
  | 22 => some 129
  | 25 => some 130
  | 26 => some 131
  | 27 => some 132
  | 28 => some 133
  | 30 => some 134
  | 31 => some 135
  | 32 => some 136
  | 33 => some 137
  | 36 => some 138
  | 37 => some 139
  | 38 => some 140
  | 39 => some 141
  | 42 => some 142
  | 43 => some 143
  | 44 => some 144
  | _ => none
def mSh (S : ab_S) : Prop := 145 ≤ sn S ∧ (∀ k, k < 25 → sK S (120 + k) = mKd k) ∧ (∀ k, k < 45 → sP S 120 k = mPf k)
/-- two states that differ in the ints and longs of some cells alone -/
def sEq (l : List Nat) (S S' : ab_S) : Prop := S'.1 = S.1 ∧ sK S' = sK S ∧ (∀ a, a ∉ l → sI S' a = sI S a) ∧ (∀ a, a ∉ l → sJ S' a = sJ S a) ∧ sP S' = sP S ∧ sn S' = sn S ∧ sz S' = sz S
theorem sEq.rf {l : List Nat} {S : ab_S} : sEq l S S := ⟨rfl, rfl, fun _ _ => rfl, fun _ _ => rfl, rfl, rfl, rfl⟩
theorem sEq.tr {l : List Nat} {S S1 S2 : ab_S} (h : sEq l S S1) (g : sEq l S1 S2) : sEq l S S2 := ⟨g.1.trans h.1, g.2.1.trans h.2.1, fun a ha => (g.2.2.1 a ha).trans (h.2.2.1 a ha), fun a ha => (g.2.2.2.1 a ha).trans (h.2.2.2.1 a ha), g.2.2.2.2.1.trans h.2.2.2.2.1, g.2.2.2.2.2.1.trans h.2.2.2.2.2.1, g.2.2.2.2.2.2.trans h.2.2.2.2.2.2⟩
theorem sEq.mono {l l' : List Nat} {S S1 : ab_S} (h : sEq l S S1) (hl : ∀ a ∈ l, a ∈ l') : sEq l' S S1 := ⟨h.1, h.2.1, fun a ha => h.2.2.1 a (fun z => ha (hl a z)), fun a ha => h.2.2.2.1 a (fun z => ha (hl a z)), h.2.2.2.2⟩
theorem sEq.pI {l : List Nat} {S S1 : ab_S} {a k : Nat} {x : Int32} (h : sEq l S S1) (ha : a ∈ l) : sEq l S (pI S1 a k x) := ⟨h.1, h.2.1, fun b hb => (up2_o (fun z => hb (by rw [z]; exact ha))).trans (h.2.2.1 b hb), h.2.2.2⟩
theorem sEq.pJ {l : List Nat} {S S1 : ab_S} {a k : Nat} {x : Int64} (h : sEq l S S1) (ha : a ∈ l) : sEq l S (pJ S1 a k x) := ⟨h.1, h.2.1, h.2.2.1, fun b hb => (up2_o (fun z => hb (by rw [z]; exact ha))).trans (h.2.2.2.1 b hb), h.2.2.2.2⟩
theorem mSh.eq {l : List Nat} {S S1 : ab_S} (hm : mSh S) (h : sEq l S S1) : mSh S1 := ⟨by rw [h.2.2.2.2.2.1]; exact hm.1, fun k hk => by rw [h.2.1]; exact hm.2.1 k hk, fun k hk => by rw [h.2.2.2.2.1]; exact hm.2.2 k hk⟩
/-- the reference's row of numbers -/
abbrev mA (S : ab_S) : Nat → Int32 := sI S 121
def mR (S : ab_S) : Nat := (mA S 1).toNatClampNeg
/-- at most four riders, told as a small number -/
def mRo (S : ab_S) : Prop := mA S 1 = nI (mR S) ∧ mR S ≤ 4
theorem w_within {G : ab_G} {S : ab_S} (x lo hi : Int64) : ab_C G 0 M_m_within [.long x, .long lo, .long hi] (sw S) (fun v w' => v = some (.int (if lo ≤ x ∧ x ≤ hi then 1 else 0)) ∧ w' = sw S) := c_m_within x lo hi (sw S)
def tb_m_isRider : List (Nat × Instr × Nat) := [(0, .lload_n 1, 1), (1, .lconst 0, 1), (2, .aload_n 0, 1), (3, .getfield 13, 3), (6, .iconst 1, 1), (7, .iaload, 1), (8, .iconst 1, 1), (9, .isub, 1), (10, .i2l, 1), (11, .invokestatic 159, 3), (14, .ireturn, 1)]
theorem tk_m_isRider : ∀ q ∈ tb_m_isRider, decode M_m_isRider.2.1 q.1 = .ok q.2 := by decide +kernel
theorem c_m_isRider {G : ab_G} {S : ab_S} (hm : mSh S) (r : Int64) : ab_C G 1 M_m_isRider [.ref 120, .long r] (sw S) (fun v w' => v = some (.int (if 0 ≤ r ∧ r ≤ (mA S 1 - 1).toInt64 then 1 else 0)) ∧ w' = sw S) := by
  refine x_enter [some (.ref 120), some (.long r), none] (by decide) (Nat.le_of_ble_eq_true rfl) rfl (fun v w' h => by obtain ⟨rfl, rfl⟩ := h; show narrow _ _ = _; split <;> rfl) ?_
  refine x_lload_n 1 1 (ab_dd tk_m_isRider 0 rfl) rfl rfl rfl ?_
  refine x_lconst 2 0 (ab_dd tk_m_isRider 1 rfl) rfl (by decide) ?_
  refine x_aload_n 3 0 (ab_dd tk_m_isRider 2 rfl) rfl rfl rfl ?_
  refine t_getP 6 121 (ab_dd tk_m_isRider 3 rfl) rfl F_m_13 (by decide) (Nat.lt_of_lt_of_le (by decide) hm.1) (hm.2.1 0 (by decide)) rfl (hm.2.2 1 (by decide)) ?_
  refine x_iconst 7 1 (ab_dd tk_m_isRider 4 rfl) rfl (by decide) ?_
  refine t_iald 8 1 (ab_dd tk_m_isRider 5 rfl) rfl (by decide) (Nat.lt_of_lt_of_le (by decide) hm.1) (hm.2.1 1 (by decide)) (by decide) (by decide) (by decide) ?_
  refine x_iconst 9 1 (ab_dd tk_m_isRider 6 rfl) rfl (by decide) ?_
  refine x_isub 10 (ab_dd tk_m_isRider 7 rfl) rfl ?_
  refine x_i2l 11 (ab_dd tk_m_isRider 8 rfl) rfl ?_
  refine x_callS 14 M_m_within 0 3 [_, _, _] (ab_dd tk_m_isRider 9 rfl) rfl (by decide) K_m_within T_m_within L_m_159 rfl (Nat.le_of_ble_eq_true rfl) (w_within _ _ _) (fun v1 w1 h1 => ?_)
  obtain ⟨rfl, rfl⟩ := h1
  exact x_iret (ab_dd tk_m_isRider 10 rfl) ⟨rfl, rfl⟩
def tb_m_stores : List (Nat × Instr × Nat) := [(0, .iconst 0, 1), (1, .istore_n 1, 1), (2, .iload_n 1, 1), (3, .bipush 14, 2), (5, .if_icmp .ge 24, 3), (8, .aload_n 0, 1), (9, .getfield 36, 3), (12, .iload_n 1, 1), (13, .aload_n 0, 1), (14, .getfield 13, 3), (17, .bipush 28, 2), (19, .iload_n 1, 1), (20, .iadd, 1), (21, .iaload, 1), (22, .iastore, 1), (23, .iinc 1 1, 3), (26, .goto (-24), 3), (29, .return_, 1)]
theorem tk_m_stores : ∀ q ∈ tb_m_stores, decode M_m_stores.2.1 q.1 = .ok q.2 := by decide +kernel
theorem c_m_stores {G : ab_G} {S : ab_S} (hm : mSh S) : ab_C G 0 M_m_stores [.ref 120] (sw S) (fun v w' => v = none ∧ ∃ S', w' = sw S' ∧ sEq [127] S S' ∧ ∀ k, k < 14 → sI S' 127 k = mA S (28 + k)) := by
  refine x_enter [some (.ref 120), none] (by decide) (Nat.le_of_ble_eq_true rfl) rfl (fun v w' h => by obtain ⟨rfl, -⟩ := h; trivial) ?_
  generalize hQ : (fun (v : Option Value) (w' : ab_H) => v = none ∧ ∃ S', w' = sw S' ∧ sEq [127] S S' ∧ ∀ k, k < 14 → sI S' 127 k = mA S (28 + k)) = Q
  have loop : ∀ (m k : Nat), k + m = 14 → ∀ (S1 : ab_S), sEq [127] S S1 ∧ (∀ j, j < k → sI S1 127 j = mA S (28 + j)) → ab_Ex G 0 M_m_stores 2 [some (.ref 120), some (.int (nI k))] [] (sw S1) Q := by
    intro m
    induction m with
    | zero =>
      intro k hk S1 ⟨hE, hV⟩
      have hm1 := hm.eq hE
      refine x_iload_n 3 1 (ab_dd tk_m_stores 2 rfl) rfl rfl rfl ?_
      refine x_bipush 5 14 (ab_dd tk_m_stores 3 rfl) rfl (by decide) ?_
      refine x_icmp_ge_t 29 (ab_dd tk_m_stores 4 rfl) (by decide) (by rw [show k = 14 by omega]; decide) ?_
      exact x_vret (ab_dd tk_m_stores 17 rfl) (by rw [← hQ]; exact ⟨rfl, S1, rfl, hE, fun j hj => hV j (by omega)⟩)
    | succ m ih =>
      intro k hk S1 ⟨hE, hV⟩
      have hm1 := hm.eq hE
      refine x_iload_n 3 1 (ab_dd tk_m_stores 2 rfl) rfl rfl rfl ?_
      refine x_bipush 5 14 (ab_dd tk_m_stores 3 rfl) rfl (by decide) ?_
      refine x_icmp_ge_f 8 (ab_dd tk_m_stores 4 rfl) rfl 29 (by decide) (by rw [show (14 : Int32) = nI 14 from rfl, nI_leI (by decide) (by omega)]; omega) ?_
      refine x_aload_n 9 0 (ab_dd tk_m_stores 5 rfl) rfl rfl rfl ?_
      refine t_getP 12 127 (ab_dd tk_m_stores 6 rfl) rfl F_m_36 (by decide) (Nat.lt_of_lt_of_le (by decide) hm1.1) (hm1.2.1 0 (by decide)) rfl (hm1.2.2 18 (by decide)) ?_
      refine x_iload_n 13 1 (ab_dd tk_m_stores 7 rfl) rfl rfl rfl ?_
      refine x_aload_n 14 0 (ab_dd tk_m_stores 8 rfl) rfl rfl rfl ?_
      refine t_getP 17 121 (ab_dd tk_m_stores 9 rfl) rfl F_m_13 (by decide) (Nat.lt_of_lt_of_le (by decide) hm1.1) (hm1.2.1 0 (by decide)) rfl (hm1.2.2 1 (by decide)) ?_
      refine x_bipush 19 28 (ab_dd tk_m_stores 10 rfl) rfl (by decide) ?_
      refine x_iload_n 20 1 (ab_dd tk_m_stores 11 rfl) rfl rfl rfl ?_
      refine x_iadd 21 (ab_dd tk_m_stores 12 rfl) rfl ?_
      refine t_iald 22 (28 + k) (ab_dd tk_m_stores 13 rfl) rfl (by decide) (Nat.lt_of_lt_of_le (by decide) hm1.1) (hm1.2.1 1 (by decide)) (by rw [show (28 : Int32) = nI 28 from rfl, nI_add]) (by omega) (by decide) ?_
      refine t_iast 23 k (ab_dd tk_m_stores 14 rfl) rfl (by decide) (Nat.lt_of_lt_of_le (by decide) hm1.1) (hm1.2.1 7 (by decide)) rfl (by omega) (by decide) ?_
      refine x_iincN 26 1 1 (fun y => [some (.ref 120), some (.int y)]) (ab_dd tk_m_stores 15 rfl) rfl (by decide) rfl (by decide) (fun _ => rfl) (fun v1 ev1 => ?_)
      refine x_goto 2 (ab_dd tk_m_stores 16 rfl) (by decide) ?_
      have hv : v1 = nI (k + 1) := by rw [ev1, nI_1]
      subst hv
      refine ih (k + 1) (by omega) _ ⟨hE.pI (by decide), fun j hj => ?_⟩
      show up2 (sI S1) 127 k _ 127 j = _
      by_cases hjk : j = k
      · subst hjk
        rw [up2_s, hE.2.2.1 121 (by decide)]
      · rw [up2_k hjk]
        exact hV j (by omega)
  refine x_iconst 1 0 (ab_dd tk_m_stores 0 rfl) rfl (by decide) ?_
  refine x_topi (fun v1 ev1 => ?_)
  refine x_istore_n 2 [some (.ref 120), some (.int v1)] 1 (ab_dd tk_m_stores 1 rfl) rfl rfl (by decide) rfl ?_
  subst ev1
  exact loop 14 0 rfl S ⟨sEq.rf, fun j hj => absurd hj (Nat.not_lt_zero j)⟩
