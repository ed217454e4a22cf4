/-! ===== rows for naturals and truths on the stack ===== -/
section NROWS
variable {G : ab_G} {d : Nat} {M : ab_M} {pc : Nat} {ls : ab_L} {st : List Value} {w : ab_H} {Q : Option Value → ab_H → Prop}
theorem x_topn {x : Int32} (n : Nat) (h : x = nI n) (k : ab_Ex G d M pc ls (.int (nI n) :: st) w Q) : ab_Ex G d M pc ls (.int x :: st) w Q := by rw [h]; exact k
theorem x_topx {x : Int32} (y : Int32) (h : x = y) (k : ab_Ex G d M pc ls (.int y :: st) w Q) : ab_Ex G d M pc ls (.int x :: st) w Q := by rw [h]; exact k
theorem x_topL {x : Int64} (y : Int64) (h : x = y) (k : ab_Ex G d M pc ls (.long y :: st) w Q) : ab_Ex G d M pc ls (.long x :: st) w Q := by rw [h]; exact k
theorem x_topb {x : Int32} (P : Prop) [Decidable P] (h : x = if P then 1 else 0) (k : ab_Ex G d M pc ls (.int (if P then 1 else 0) :: st) w Q) : ab_Ex G d M pc ls (.int x :: st) w Q := by rw [h]; exact k
theorem xb_if_eq {P : Prop} [Decidable P] (pc' tgt : Nat) {off : Int} (hd : decode M.2.1 pc = .ok (.ifCond .eq off, 3)) (hp : pc + 3 = pc') (ht0 : (pc : Int) + off = (tgt : Int)) (kt : ¬ P → ab_Ex G d M tgt ls st w Q) (kf : P → ab_Ex G d M pc' ls st w Q) : ab_Ex G d M pc ls (.int (if P then 1 else 0) :: st) w Q :=
  x_if_eq pc' tgt hd hp ht0 (fun h => kt (fun z => absurd h (by rw [if_pos z]; decide))) (fun h => kf (Decidable.byContradiction (fun z => h (if_neg z))))
theorem xb_if_ne {P : Prop} [Decidable P] (pc' tgt : Nat) {off : Int} (hd : decode M.2.1 pc = .ok (.ifCond .ne off, 3)) (hp : pc + 3 = pc') (ht0 : (pc : Int) + off = (tgt : Int)) (kt : P → ab_Ex G d M tgt ls st w Q) (kf : ¬ P → ab_Ex G d M pc' ls st w Q) : ab_Ex G d M pc ls (.int (if P then 1 else 0) :: st) w Q :=
  x_if_ne pc' tgt hd hp ht0 (fun h => kt (Decidable.byContradiction (fun z => h (if_neg z)))) (fun h => kf (fun z => absurd h (by rw [if_pos z]; decide)))
theorem xn_if_eq (pc' tgt : Nat) {n : Nat} {off : Int} (hd : decode M.2.1 pc = .ok (.ifCond .eq off, 3)) (hp : pc + 3 = pc') (ht0 : (pc : Int) + off = (tgt : Int)) (hn : n < 2 ^ 31) (kt : n = 0 → ab_Ex G d M tgt ls st w Q) (kf : 0 < n → ab_Ex G d M pc' ls st w Q) : ab_Ex G d M pc ls (.int (nI n) :: st) w Q :=
  x_if_eq pc' tgt hd hp ht0 (fun h => kt ((nI_eq hn (b := 0) (by decide)).mp h)) (fun h => kf (Nat.pos_of_ne_zero (fun z => h (by rw [z]; rfl))))
theorem xn_if_ne (pc' tgt : Nat) {n : Nat} {off : Int} (hd : decode M.2.1 pc = .ok (.ifCond .ne off, 3)) (hp : pc + 3 = pc') (ht0 : (pc : Int) + off = (tgt : Int)) (hn : n < 2 ^ 31) (kt : 0 < n → ab_Ex G d M tgt ls st w Q) (kf : n = 0 → ab_Ex G d M pc' ls st w Q) : ab_Ex G d M pc ls (.int (nI n) :: st) w Q :=
  x_if_ne pc' tgt hd hp ht0 (fun h => kt (Nat.pos_of_ne_zero (fun z => h (by rw [z]; rfl)))) (fun h => kf ((nI_eq hn (b := 0) (by decide)).mp h))
theorem xn_if_gt (pc' tgt : Nat) {n : Nat} {off : Int} (hd : decode M.2.1 pc = .ok (.ifCond .gt off, 3)) (hp : pc + 3 = pc') (ht0 : (pc : Int) + off = (tgt : Int)) (hn : n < 2 ^ 31) (kt : 0 < n → ab_Ex G d M tgt ls st w Q) (kf : n = 0 → ab_Ex G d M pc' ls st w Q) : ab_Ex G d M pc ls (.int (nI n) :: st) w Q :=
  x_if_gt pc' tgt hd hp ht0 (fun h => kt ((nI_ltI (a := 0) (by decide) hn).mp h)) (fun h => kf (by have : ¬ (0 < n) := fun z => h ((nI_ltI (a := 0) (by decide) hn).mpr z); omega))
theorem xn_if_le (pc' tgt : Nat) {n : Nat} {off : Int} (hd : decode M.2.1 pc = .ok (.ifCond .le off, 3)) (hp : pc + 3 = pc') (ht0 : (pc : Int) + off = (tgt : Int)) (hn : n < 2 ^ 31) (kt : n = 0 → ab_Ex G d M tgt ls st w Q) (kf : 0 < n → ab_Ex G d M pc' ls st w Q) : ab_Ex G d M pc ls (.int (nI n) :: st) w Q :=
  x_if_le pc' tgt hd hp ht0 (fun h => kt (by have := (nI_leI hn (b := 0) (by decide)).mp h; omega)) (fun h => kf (by have : ¬ (n ≤ 0) := fun z => h ((nI_leI hn (b := 0) (by decide)).mpr z); omega))
theorem xn_if_lt (pc' tgt : Nat) {n : Nat} {off : Int} (hd : decode M.2.1 pc = .ok (.ifCond .lt off, 3)) (hp : pc + 3 = pc') (ht0 : (pc : Int) + off = (tgt : Int)) (hn : n < 2 ^ 31) (kf : ab_Ex G d M pc' ls st w Q) : ab_Ex G d M pc ls (.int (nI n) :: st) w Q :=
  x_if_lt_f pc' hd hp tgt ht0 (nI_pos hn) kf
theorem xn_if_ge (tgt : Nat) {n : Nat} {off : Int} (hd : decode M.2.1 pc = .ok (.ifCond .ge off, 3)) (ht0 : (pc : Int) + off = (tgt : Int)) (hn : n < 2 ^ 31) (kt : ab_Ex G d M tgt ls st w Q) : ab_Ex G d M pc ls (.int (nI n) :: st) w Q :=
  x_if_ge_t tgt hd ht0 (nI_pos' hn) kt
theorem xn_icmp_lt (pc' tgt : Nat) {a b : Nat} {off : Int} (hd : decode M.2.1 pc = .ok (.if_icmp .lt off, 3)) (hp : pc + 3 = pc') (ht0 : (pc : Int) + off = (tgt : Int)) (ha : a < 2 ^ 31) (hb : b < 2 ^ 31) (kt : a < b → ab_Ex G d M tgt ls st w Q) (kf : b ≤ a → ab_Ex G d M pc' ls st w Q) : ab_Ex G d M pc ls (.int (nI b) :: .int (nI a) :: st) w Q :=
  x_icmp_lt pc' tgt hd hp ht0 (fun h => kt ((nI_ltI ha hb).mp h)) (fun h => kf (by have : ¬ (a < b) := fun z => h ((nI_ltI ha hb).mpr z); omega))
theorem xn_icmp_le (pc' tgt : Nat) {a b : Nat} {off : Int} (hd : decode M.2.1 pc = .ok (.if_icmp .le off, 3)) (hp : pc + 3 = pc') (ht0 : (pc : Int) + off = (tgt : Int)) (ha : a < 2 ^ 31) (hb : b < 2 ^ 31) (kt : a ≤ b → ab_Ex G d M tgt ls st w Q) (kf : b < a → ab_Ex G d M pc' ls st w Q) : ab_Ex G d M pc ls (.int (nI b) :: .int (nI a) :: st) w Q :=
  x_icmp_le pc' tgt hd hp ht0 (fun h => kt ((nI_leI ha hb).mp h)) (fun h => kf (by have : ¬ (a ≤ b) := fun z => h ((nI_leI ha hb).mpr z); omega))
theorem xn_icmp_gt (pc' tgt : Nat) {a b : Nat} {off : Int} (hd : decode M.2.1 pc = .ok (.if_icmp .gt off, 3)) (hp : pc + 3 = pc') (ht0 : (pc : Int) + off = (tgt : Int)) (ha : a < 2 ^ 31) (hb : b < 2 ^ 31) (kt : b < a → ab_Ex G d M tgt ls st w Q) (kf : a ≤ b → ab_Ex G d M pc' ls st w Q) : ab_Ex G d M pc ls (.int (nI b) :: .int (nI a) :: st) w Q :=
  x_icmp_gt pc' tgt hd hp ht0 (fun h => kt ((nI_ltI hb ha).mp h)) (fun h => kf (by have : ¬ (b < a) := fun z => h ((nI_ltI hb ha).mpr z); omega))
theorem xn_icmp_ge (pc' tgt : Nat) {a b : Nat} {off : Int} (hd : decode M.2.1 pc = .ok (.if_icmp .ge off, 3)) (hp : pc + 3 = pc') (ht0 : (pc : Int) + off = (tgt : Int)) (ha : a < 2 ^ 31) (hb : b < 2 ^ 31) (kt : b ≤ a → ab_Ex G d M tgt ls st w Q) (kf : a < b → ab_Ex G d M pc' ls st w Q) : ab_Ex G d M pc ls (.int (nI b) :: .int (nI a) :: st) w Q :=
  x_icmp_ge pc' tgt hd hp ht0 (fun h => kt ((nI_leI hb ha).mp h)) (fun h => kf (by have : ¬ (b ≤ a) := fun z => h ((nI_leI hb ha).mpr z); omega))
theorem xn_icmp_eq (pc' tgt : Nat) {a b : Nat} {off : Int} (hd : decode M.2.1 pc = .ok (.if_icmp .eq off, 3)) (hp : pc + 3 = pc') (ht0 : (pc : Int) + off = (tgt : Int)) (ha : a < 2 ^ 31) (hb : b < 2 ^ 31) (kt : a = b → ab_Ex G d M tgt ls st w Q) (kf : a ≠ b → ab_Ex G d M pc' ls st w Q) : ab_Ex G d M pc ls (.int (nI b) :: .int (nI a) :: st) w Q :=
  x_icmp_eq pc' tgt hd hp ht0 (fun h => kt ((nI_eq ha hb).mp h)) (fun h => kf (by have : ¬ (a = b) := fun z => h ((nI_eq ha hb).mpr z); omega))
theorem xn_icmp_ne (pc' tgt : Nat) {a b : Nat} {off : Int} (hd : decode M.2.1 pc = .ok (.if_icmp .ne off, 3)) (hp : pc + 3 = pc') (ht0 : (pc : Int) + off = (tgt : Int)) (ha : a < 2 ^ 31) (hb : b < 2 ^ 31) (kt : a ≠ b → ab_Ex G d M tgt ls st w Q) (kf : a = b → ab_Ex G d M pc' ls st w Q) : ab_Ex G d M pc ls (.int (nI b) :: .int (nI a) :: st) w Q :=
  x_icmp_ne pc' tgt hd hp ht0 (fun h => kt (fun z => h ((nI_eq ha hb).mpr z))) (fun h => kf ((nI_eq ha hb).mp h))
theorem xn_iinc (pc' i : Nat) (F : Int32 → ab_L) {c : Int} {n : Nat} (q : Nat) (hd : decode M.2.1 pc = .ok (.iinc i c, 3)) (hp : pc + 3 = pc') (hn : i < M.2.2.1) (hx0 : ls[i]? = some (some (.int (nI n)))) (hF : ∀ y, ab_s1 ls i (.int y) = F y) (hq : nI n + Int32.ofInt c = nI q) (k : ab_Ex G d M pc' (F (nI q)) st w Q) : ab_Ex G d M pc ls st w Q :=
  x_iincN pc' i (Int32.ofInt c) F hd hp hn hx0 rfl hF (fun y hy => by rw [hy, hq]; exact k)
end NROWS
theorem iinc_p {n : Nat} (c : Nat) : nI n + Int32.ofInt (c : Int) = nI (n + c) := by
  rw [show Int32.ofInt (c : Int) = nI c from rfl, nI_add]
theorem iinc_m {n : Nat} (h : 1 ≤ n) : nI n + Int32.ofInt (-1) = nI (n - 1) := by
  obtain ⟨k, rfl⟩ : ∃ k, n = k + 1 := ⟨n - 1, by omega⟩
  exact pk_m1 k
theorem toI64_le (x y : Int32) : (x.toInt64 ≤ y.toInt64) ↔ x ≤ y := by rw [Int64.le_iff_toInt_le, Int32.toInt_toInt64, Int32.toInt_toInt64, Int32.le_iff_toInt_le]
/-- whether an int lies between two others -/
theorem w_inI {G : ab_G} {S : ab_S} {L H : Int64} (lo hi : Int32) (hL : L = lo.toInt64) (hH : H = hi.toInt64) (x : Int32) : ab_C G 0 M_m_within [.long x.toInt64, .long L, .long H] (sw S) (fun v w' => v = some (.int (if lo ≤ x ∧ x ≤ hi then 1 else 0)) ∧ w' = sw S) :=
  (c_m_within x.toInt64 L H (sw S)).mono (fun v w' h => ⟨by rw [h.1]; subst hL hH; simp only [toI64_le], h.2⟩)
/-- what is kept of an int that lies between 0 and n -/
theorem in_get {x : Int32} {n : Nat} (hn : n < 2 ^ 31) (h : 0 ≤ x ∧ x ≤ nI n) : ∃ q, q ≤ n ∧ x = nI q ∧ cN x = q := by
  obtain ⟨q, hq, e⟩ := nI_of2 (M := nI n) (n := n) (nI_toInt hn) (Int32.not_lt.mpr h.1) h.2
  exact ⟨q, hq, e, by rw [e, cN_nI (by omega)]⟩
