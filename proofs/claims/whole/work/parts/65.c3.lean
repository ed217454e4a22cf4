theorem m59 {n : Nat} (h : n < 10) : 59 + n ∈ [57, 59, 60, 61, 62, 63, 64, 65, 66, 67, 68] := by
  have : ∀ n, n < 10 → 59 + n ∈ [57, 59, 60, 61, 62, 63, 64, 65, 66, 67, 68] := by decide
  exact this n h
/-! ===== carriages: what a text tells; the cells of im never change ===== -/
def cvt (x : Int32) : Int32 := if x < 1000 then x else if x < 3000 then 999 - x else 2990 - x
def lwA (S : ab_S) (im : Nat → Prop) (l : Option Nat) (t : Option (Nat × (Nat → Int32))) : Prop := match t with
  | none => l = none
  | some (n, cd) => ∃ b, l = some b ∧ 50 ≤ b ∧ b < sn S ∧ sK S b = .inl (.int, n) ∧ n ≤ 900 ∧ im b ∧ ∀ j, j < n → sI S b j = cvt (cd j)
def caK (S : ab_S) (im : Nat → Prop) (c : Nat) : Prop := 50 ≤ c ∧ c + 2 < sn S ∧ sK S c = .inr 0 ∧ sK S (c + 1) = .inl (.int, 4) ∧ sK S (c + 2) = .inl (.int, 16) ∧ sP S c 5 = some (c + 1) ∧ sP S c 6 = some (c + 2) ∧ im c ∧ im (c + 1) ∧ im (c + 2)
def caI (S : ab_S) (im : Nat → Prop) (c : Nat) (a : Nat → Int32) : Prop := caK S im c ∧ sI S c 0 = nI (aR a) ∧ sI S c 1 = a 0 ∧ (∀ r, r < 4 → sI S (c + 1) r = a (8 + r)) ∧ (∀ j, j < 16 → sI S (c + 2) j = a (12 + j)) ∧ lwA S im (sP S c 7) (mWl (rwS a)) ∧ lwA S im (sP S c 8) (mMl (rwS a)) ∧ ∃ s m, sI S c 3 = nI s ∧ s < 256 ∧ sI S c 2 = nI m ∧ m < 10
/-- cells of im stay as they are -/
def imE (im : Nat → Prop) (S S' : ab_S) : Prop := sn S ≤ sn S' ∧ ∀ b, im b → b < sn S → sK S' b = sK S b ∧ sI S' b = sI S b ∧ sP S' b = sP S b
theorem imE.of {im : Nat → Prop} {l : List Nat} {S S' : ab_S} (h : sEq l S S') (hl : ∀ x ∈ l, ¬ im x) : imE im S S' := ⟨by rw [h.2.2.2.2.2.1]; exact Nat.le_refl _, fun b hb _ => ⟨by rw [h.2.1], h.2.2.1 b (fun z => hl b z hb), by rw [h.2.2.2.2.1]⟩⟩
theorem imE.tr {im : Nat → Prop} {S S1 S2 : ab_S} (h : imE im S S1) (g : imE im S1 S2) : imE im S S2 := ⟨Nat.le_trans h.1 g.1, fun b hb hn => by
  have h1 := h.2 b hb hn
  have g1 := g.2 b hb (Nat.lt_of_lt_of_le hn h.1)
  exact ⟨g1.1.trans h1.1, g1.2.1.trans h1.2.1, g1.2.2.trans h1.2.2⟩⟩
theorem lwA.im {S S' : ab_S} {im im' : Nat → Prop} {l : Option Nat} {t : Option (Nat × (Nat → Int32))} (h : lwA S im l t) (hE : imE im S S') (hi : ∀ b, im b → im' b) : lwA S' im' l t := by
  unfold lwA at h ⊢
  split
  · exact h
  · obtain ⟨b, h1, h2, h3, h4, h5, h6, h7⟩ := h
    have g := hE.2 b h6 h3
    exact ⟨b, h1, h2, Nat.lt_of_lt_of_le h3 hE.1, by rw [g.1]; exact h4, h5, hi b h6, fun j hj => by rw [g.2.1]; exact h7 j hj⟩
theorem caK.im {S S' : ab_S} {im im' : Nat → Prop} {c : Nat} (h : caK S im c) (hE : imE im S S') (hi : ∀ b, im b → im' b) : caK S' im' c := by
  obtain ⟨h1, h2, h3, h4, h5, h6, h7, h8, h9, h10⟩ := h
  have g0 := hE.2 c h8 (by omega)
  have g1 := hE.2 (c + 1) h9 (by omega)
  have g2 := hE.2 (c + 2) h10 h2
  exact ⟨h1, Nat.lt_of_lt_of_le h2 hE.1, by rw [g0.1]; exact h3, by rw [g1.1]; exact h4, by rw [g2.1]; exact h5, by rw [g0.2.2]; exact h6, by rw [g0.2.2]; exact h7, hi _ h8, hi _ h9, hi _ h10⟩
theorem caI.im {S S' : ab_S} {im im' : Nat → Prop} {c : Nat} {a : Nat → Int32} (h : caI S im c a) (hE : imE im S S') (hi : ∀ b, im b → im' b) : caI S' im' c a := by
  obtain ⟨hk, h1, h2, h3, h4, h5, h6, h7⟩ := h
  have hk0 := hk
  obtain ⟨k1, k2, k3, k4, k5, k6, k7, k8, k9, k10⟩ := hk0
  have g0 := hE.2 c k8 (by omega)
  have g1 := hE.2 (c + 1) k9 (by omega)
  have g2 := hE.2 (c + 2) k10 k2
  refine ⟨hk.im hE hi, by rw [g0.2.1]; exact h1, by rw [g0.2.1]; exact h2, fun r hr => by rw [g1.2.1]; exact h3 r hr, fun j hj => by rw [g2.2.1]; exact h4 j hj, ?_, ?_, ?_⟩
  · rw [g0.2.2]; exact h5.im hE hi
  · rw [g0.2.2]; exact h6.im hE hi
  · rw [g0.2.1]; exact h7
theorem caI.eq {S S' : ab_S} {im : Nat → Prop} {c : Nat} {a : Nat → Int32} {l : List Nat} (h : caI S im c a) (hE : sEq l S S') (hl : ∀ x ∈ l, ¬ im x) : caI S' im c a := h.im (imE.of hE hl) (fun _ z => z)
/-- two rows that tell of the same carriage -/
def sta (a b : Nat → Int32) : Prop := ∀ i, i < 28 ∨ 183 ≤ i → b i = a i
theorem sta.rf {a : Nat → Int32} : sta a a := fun _ _ => rfl
theorem sta.tr {a b c : Nat → Int32} (h : sta a b) (g : sta b c) : sta a c := fun i hi => (g i hi).trans (h i hi)
theorem sta.sy {a b : Nat → Int32} (h : sta a b) : sta b a := fun i hi => (h i hi).symm
theorem sta.R {a b : Nat → Int32} (h : sta a b) : aR b = aR a := by unfold aR; rw [h 1 (by omega)]
theorem sta.cd {a b : Nat → Int32} (h : sta a b) {l : Nat} (hl : l < 2) : mCd (rwS b) l = mCd (rwS a) l ∧ mCn (rwS b) l = mCn (rwS a) l := by
  have e1 : ∀ i, mA (rwS b) i = b i := fun i => rfl
  have e2 : ∀ i, mA (rwS a) i = a i := fun i => rfl
  constructor
  · funext j
    unfold mCd
    rw [e1, e1, e2, e2, h (4 + l) (by omega), h _ (by omega)]
  · unfold mCn
    rw [e1, e2, h (6 + l) (by omega)]
theorem sta.wl {a b : Nat → Int32} (h : sta a b) : mWl (rwS b) = mWl (rwS a) := by
  unfold mWl
  have e1 : mA (rwS b) 2 = b 2 := rfl
  have e2 : mA (rwS a) 2 = a 2 := rfl
  rw [(h.cd (l := 0) (by decide)).1, (h.cd (l := 0) (by decide)).2, e1, e2, h 2 (by omega)]
theorem sta.ml {a b : Nat → Int32} (h : sta a b) : mMl (rwS b) = mMl (rwS a) := by
  unfold mMl
  have e1 : mA (rwS b) 3 = b 3 := rfl
  have e2 : mA (rwS a) 3 = a 3 := rfl
  rw [(h.cd (l := 1) (by decide)).1, (h.cd (l := 1) (by decide)).2, e1, e2, h 3 (by omega)]
theorem caI.sta {S : ab_S} {im : Nat → Prop} {c : Nat} {a b : Nat → Int32} (h : caI S im c a) (hs : sta a b) : caI S im c b := by
  obtain ⟨hk, h1, h2, h3, h4, h5, h6, h7⟩ := h
  refine ⟨hk, by rw [hs.R]; exact h1, by rw [hs 0 (by omega)]; exact h2, fun r hr => by rw [hs _ (by omega)]; exact h3 r hr, fun j hj => by rw [hs _ (by omega)]; exact h4 j hj, by rw [hs.wl]; exact h5, by rw [hs.ml]; exact h6, h7⟩
def tb_s_isRider : List (Nat × Instr × Nat) := [(0, .lload_n 1, 1), (1, .lconst 0, 1), (2, .lcmp, 1), (3, .ifCond .lt 20, 3), (6, .lload_n 1, 1), (7, .aload_n 0, 1), (8, .getfield 20, 3), (11, .getfield 177, 3), (14, .i2l, 1), (15, .lcmp, 1), (16, .ifCond .ge 7, 3), (19, .iconst 1, 1), (20, .goto 4, 3), (23, .iconst 0, 1), (24, .ireturn, 1)]
theorem tk_s_isRider : ∀ q ∈ tb_s_isRider, decode M_s_isRider.2.1 q.1 = .ok q.2 := by decide +kernel
theorem c_s_isRider {G : ab_G} {S : ab_S} (hx : xSh S) {im : Nat → Prop} {c : Nat} (hc : sP S 50 2 = some c) (hk : caK S im c) {R : Nat} (hR : R ≤ 4) (hr : sI S c 0 = nI R) (x : Int64) : ab_C G 0 M_s_isRider [.ref 50, .long x] (sw S) (fun v w' => v = some (.int (if 0 ≤ x ∧ x < lN R then 1 else 0)) ∧ w' = sw S) := by
  refine x_enter [some (.ref 50), some (.long x), none] (by decide) (Nat.le_of_ble_eq_true rfl) rfl (fun v w' h => by obtain ⟨rfl, rfl⟩ := h; show narrow _ _ = _; split <;> rfl) ?_
  refine x_lload_n 1 1 (ab_dd tk_s_isRider 0 rfl) rfl rfl rfl ?_
  refine x_lconst 2 0 (ab_dd tk_s_isRider 1 rfl) rfl (by decide) ?_
  refine x_lcmp 3 (ab_dd tk_s_isRider 2 rfl) rfl ?_
  refine x_if_lt 6 23 (ab_dd tk_s_isRider 3 rfl) rfl (by decide) (fun h3 => ?_) (fun h3 => ?_)
  · refine x_iconst 24 0 (ab_dd tk_s_isRider 13 rfl) rfl (by decide) (x_topn 0 rfl ?_)
    exact x_iret (ab_dd tk_s_isRider 14 rfl) ⟨by simp only [lg_cmp_lt, lg_cmp_ge, Int64.lt_iff_toInt_lt, Int64.le_iff_toInt_le] at *; split <;> first | rfl | (exfalso; omega), rfl⟩
  · refine x_lload_n 7 1 (ab_dd tk_s_isRider 4 rfl) rfl rfl rfl ?_
    refine x_aload_n 8 0 (ab_dd tk_s_isRider 5 rfl) rfl rfl rfl ?_
    refine t_getP 11 c (ab_dd tk_s_isRider 6 rfl) rfl F_s_20 (by decide) (Nat.lt_of_lt_of_le (by decide) hx.1) (hx.2.1 0 (by decide)) rfl hc ?_
    refine t_getI 14 (ab_dd tk_s_isRider 7 rfl) rfl F_s_177 hk.1 (by have := hk.2.1; omega) hk.2.2.1 rfl (x_topn R hr ?_)
    refine x_i2l 15 (ab_dd tk_s_isRider 8 rfl) rfl (x_topL (lN R) (nI_l (by omega)) ?_)
    refine x_lcmp 16 (ab_dd tk_s_isRider 9 rfl) rfl ?_
    refine x_if_ge 19 23 (ab_dd tk_s_isRider 10 rfl) rfl (by decide) (fun h16 => ?_) (fun h16 => ?_)
    · refine x_iconst 24 0 (ab_dd tk_s_isRider 13 rfl) rfl (by decide) (x_topn 0 rfl ?_)
      exact x_iret (ab_dd tk_s_isRider 14 rfl) ⟨by simp only [lg_cmp_lt, lg_cmp_ge, Int64.lt_iff_toInt_lt, Int64.le_iff_toInt_le] at *; split <;> first | rfl | (exfalso; omega), rfl⟩
    · refine x_iconst 20 1 (ab_dd tk_s_isRider 11 rfl) rfl (by decide) (x_topn 1 rfl ?_)
      refine x_goto 24 (ab_dd tk_s_isRider 12 rfl) (by decide) ?_
      exact x_iret (ab_dd tk_s_isRider 14 rfl) ⟨by simp only [lg_cmp_lt, lg_cmp_ge, Int64.lt_iff_toInt_lt, Int64.le_iff_toInt_le] at *; split <;> first | rfl | (exfalso; omega), rfl⟩
theorem isR_iff {R : Nat} (hR : R ≤ 4) (r : Int32) : (0 ≤ r.toInt64 ∧ r.toInt64 < lN R) ↔ (0 ≤ r ∧ cN r < R) := by
  rw [← nI_l (show R < 2 ^ 31 by omega)]
  rw [show ((0 : Int64) ≤ r.toInt64) = ((0 : Int32).toInt64 ≤ r.toInt64) from rfl, toI64_le]
  rw [Int64.lt_iff_toInt_lt, Int32.toInt_toInt64, Int32.toInt_toInt64, nI_toInt (show R < 2 ^ 31 by omega)]
  constructor
  · intro h
    have h0 : 0 ≤ r.toInt := by have := h.1; rw [Int32.le_iff_toInt_le] at this; exact this
    refine ⟨h.1, ?_⟩
    show r.toInt.toNat < R
    omega
  · intro h
    have h0 : 0 ≤ r.toInt := by have := h.1; rw [Int32.le_iff_toInt_le] at this; exact this
    have h1 : r.toInt.toNat < R := h.2
    exact ⟨h.1, by omega⟩
theorem cx_isRider {G : ab_G} {S : ab_S} (hx : xSh S) {im : Nat → Prop} {c : Nat} (hc : sP S 50 2 = some c) (hk : caK S im c) {R : Nat} (hR : R ≤ 4) (hr : sI S c 0 = nI R) (r : Int32) : ab_C G 0 M_s_isRider [.ref 50, .long r.toInt64] (sw S) (fun v w' => v = some (.int (if 0 ≤ r ∧ cN r < R then 1 else 0)) ∧ w' = sw S) := (c_s_isRider hx hc hk hR hr r.toInt64).mono (fun v w' h => ⟨by
  rw [h.1]
  by_cases z : 0 ≤ r ∧ cN r < R
  · rw [if_pos z, if_pos ((isR_iff hR r).mpr z)]
  · rw [if_neg z, if_neg (fun y => z ((isR_iff hR r).mp y))], h.2⟩)
theorem cx_isRiderN {G : ab_G} {S : ab_S} (hx : xSh S) {im : Nat → Prop} {c : Nat} (hc : sP S 50 2 = some c) (hk : caK S im c) {R : Nat} (hR : R ≤ 4) (hr : sI S c 0 = nI R) (u : Nat) (hu : u < 2 ^ 31) : ab_C G 0 M_s_isRider [.ref 50, .long (lN u)] (sw S) (fun v w' => v = some (.int (if u < R then 1 else 0)) ∧ w' = sw S) := (c_s_isRider hx hc hk hR hr (lN u)).mono (fun v w' h => ⟨by
  rw [h.1]
  have e : ((0 : Int64) ≤ lN u ∧ lN u < lN R) ↔ u < R := by
    rw [← nI_l hu, isR_iff hR, cN_nI hu]
    exact ⟨fun z => z.2, fun z => ⟨nI_pos' hu, z⟩⟩
  by_cases z : u < R
  · rw [if_pos z, if_pos (e.mpr z)]
  · rw [if_neg z, if_neg (fun y => z (e.mp y))], h.2⟩)
def tb_s_isWarmth : List (Nat × Instr × Nat) := [(0, .lload_n 0, 1), (1, .lconst 0, 1), (2, .lcmp, 1), (3, .ifCond .lt 15, 3), (6, .lload_n 0, 1), (7, .ldc2_w 240, 3), (10, .lcmp, 1), (11, .ifCond .gt 7, 3), (14, .iconst 1, 1), (15, .goto 4, 3), (18, .iconst 0, 1), (19, .ireturn, 1)]
theorem tk_s_isWarmth : ∀ q ∈ tb_s_isWarmth, decode M_s_isWarmth.2.1 q.1 = .ok q.2 := by decide +kernel
theorem c_s_isWarmth {G : ab_G} {S : ab_S} (x : Int64) : ab_C G 0 M_s_isWarmth [.long x] (sw S) (fun v w' => v = some (.int (if 0 ≤ x ∧ x ≤ 4 then 1 else 0)) ∧ w' = sw S) := by
  refine x_enter [some (.long x), none] (by decide) (Nat.le_of_ble_eq_true rfl) rfl (fun v w' h => by obtain ⟨rfl, rfl⟩ := h; show narrow _ _ = _; split <;> rfl) ?_
  refine x_lload_n 1 0 (ab_dd tk_s_isWarmth 0 rfl) rfl rfl rfl ?_
  refine x_lconst 2 0 (ab_dd tk_s_isWarmth 1 rfl) rfl (by decide) ?_
  refine x_lcmp 3 (ab_dd tk_s_isWarmth 2 rfl) rfl ?_
  refine x_if_lt 6 18 (ab_dd tk_s_isWarmth 3 rfl) rfl (by decide) (fun h3 => ?_) (fun h3 => ?_)
  · refine x_iconst 19 0 (ab_dd tk_s_isWarmth 10 rfl) rfl (by decide) (x_topn 0 rfl ?_)
    exact x_iret (ab_dd tk_s_isWarmth 11 rfl) ⟨by simp only [lg_cmp_lt, lg_cmp_gt, Int64.lt_iff_toInt_lt, Int64.le_iff_toInt_le] at *; split <;> first | rfl | (exfalso; omega), rfl⟩
  · refine x_lload_n 7 0 (ab_dd tk_s_isWarmth 4 rfl) rfl rfl rfl ?_
    refine x_ldc2 10 (ab_dd tk_s_isWarmth 5 rfl) rfl C_s_240 ?_
    refine x_lcmp 11 (ab_dd tk_s_isWarmth 6 rfl) rfl ?_
    refine x_if_gt 14 18 (ab_dd tk_s_isWarmth 7 rfl) rfl (by decide) (fun h11 => ?_) (fun h11 => ?_)
    · refine x_iconst 19 0 (ab_dd tk_s_isWarmth 10 rfl) rfl (by decide) (x_topn 0 rfl ?_)
      exact x_iret (ab_dd tk_s_isWarmth 11 rfl) ⟨by simp only [lg_cmp_lt, lg_cmp_gt, Int64.lt_iff_toInt_lt, Int64.le_iff_toInt_le] at *; split <;> first | rfl | (exfalso; omega), rfl⟩
    · refine x_iconst 15 1 (ab_dd tk_s_isWarmth 8 rfl) rfl (by decide) (x_topn 1 rfl ?_)
      refine x_goto 19 (ab_dd tk_s_isWarmth 9 rfl) (by decide) ?_
      exact x_iret (ab_dd tk_s_isWarmth 11 rfl) ⟨by simp only [lg_cmp_lt, lg_cmp_gt, Int64.lt_iff_toInt_lt, Int64.le_iff_toInt_le] at *; split <;> first | rfl | (exfalso; omega), rfl⟩
theorem cx_isWarmth {G : ab_G} {S : ab_S} (k : Int32) : ab_C G 0 M_s_isWarmth [.long k.toInt64] (sw S) (fun v w' => v = some (.int (if 0 ≤ k ∧ k ≤ 4 then 1 else 0)) ∧ w' = sw S) := (c_s_isWarmth k.toInt64).mono (fun v w' h => ⟨by
  rw [h.1]
  have e : ((0 : Int64) ≤ k.toInt64 ∧ k.toInt64 ≤ 4) ↔ (0 ≤ k ∧ k ≤ 4) := by
    rw [show ((0 : Int64) ≤ k.toInt64) = ((0 : Int32).toInt64 ≤ k.toInt64) from rfl, show (k.toInt64 ≤ (4 : Int64)) = (k.toInt64 ≤ (4 : Int32).toInt64) from rfl, toI64_le, toI64_le]
  by_cases z : 0 ≤ k ∧ k ≤ 4
  · rw [if_pos z, if_pos (e.mpr z)]
  · rw [if_neg z, if_neg (fun y => z (e.mp y))], h.2⟩)
def tb_ca_liking : List (Nat × Instr × Nat) := [(0, .iload_n 1, 1), (1, .iconst 4, 1), (2, .imul, 1), (3, .iload_n 2, 1), (4, .iadd, 1), (5, .istore_n 3, 1), (6, .iload_n 3, 1), (7, .ifCond .lt 12, 3), (10, .iload_n 3, 1), (11, .aload_n 0, 1), (12, .getfield 31, 3), (15, .arraylength, 1), (16, .if_icmp .lt 7, 3), (19, .iconst 0, 1), (20, .goto 9, 3), (23, .aload_n 0, 1), (24, .getfield 31, 3), (27, .iload_n 3, 1), (28, .iaload, 1), (29, .ireturn, 1)]
theorem tk_ca_liking : ∀ q ∈ tb_ca_liking, decode M_ca_liking.2.1 q.1 = .ok q.2 := by decide +kernel
theorem c_ca_liking {G : ab_G} {S : ab_S} {im : Nat → Prop} {c : Nat} {a : Nat → Int32} (h : caI S im c a) (r s : Nat) (hr : r < 4) (hs : s < 4) : ab_C G 0 M_ca_liking [.ref c, .int (nI r), .int (nI s)] (sw S) (fun v w' => v = some (.int (a (12 + 4 * r + s))) ∧ w' = sw S) := by
  refine x_enter [some (.ref c), some (.int (nI r)), some (.int (nI s)), none] (by decide) (Nat.le_of_ble_eq_true rfl) rfl (fun v w' h => by obtain ⟨rfl, rfl⟩ := h; rfl) ?_
  obtain ⟨hk, -, -, -, h4, -⟩ := h
  have h4v := h4 (r * 4 + s) (by omega)
  rw [show 12 + (r * 4 + s) = 12 + 4 * r + s by omega] at h4v
  refine x_iload_n 1 1 (ab_dd tk_ca_liking 0 rfl) rfl rfl rfl ?_
  refine x_iconst 2 4 (ab_dd tk_ca_liking 1 rfl) rfl (by decide) (x_topn 4 rfl ?_)
  refine x_imul 3 (ab_dd tk_ca_liking 2 rfl) rfl (x_topn (r * 4) (pk_mul _ _) ?_)
  refine x_iload_n 4 2 (ab_dd tk_ca_liking 3 rfl) rfl rfl rfl ?_
  refine x_iadd 5 (ab_dd tk_ca_liking 4 rfl) rfl (x_topn ((r * 4) + s) (nI_add _ _) ?_)
  refine x_istore_n 6 [some (.ref c), some (.int (nI r)), some (.int (nI s)), some (.int (nI ((r * 4) + s)))] 3 (ab_dd tk_ca_liking 5 rfl) rfl rfl (by decide) rfl ?_
  refine x_iload_n 7 3 (ab_dd tk_ca_liking 6 rfl) rfl rfl rfl ?_
  refine xn_if_lt 10 19 (ab_dd tk_ca_liking 7 rfl) rfl (by decide) (by omega) ?_
  refine x_iload_n 11 3 (ab_dd tk_ca_liking 8 rfl) rfl rfl rfl ?_
  refine x_aload_n 12 0 (ab_dd tk_ca_liking 9 rfl) rfl rfl rfl ?_
  refine t_getP 15 (c + 2) (ab_dd tk_ca_liking 10 rfl) rfl F_ca_31 hk.1 (by have := hk.2.1; omega) hk.2.2.1 rfl hk.2.2.2.2.2.2.1 ?_
  refine t_alen 16 0 (ab_dd tk_ca_liking 11 rfl) rfl (by have := hk.1; omega) hk.2.1 rfl hk.2.2.2.2.1 ?_
  refine x_icmp_lt_t 23 (ab_dd tk_ca_liking 12 rfl) (by decide) ((nI_ltI (a := ((r * 4) + s)) (b := 16) (by omega) (by omega)).mpr (show ((r * 4) + s) < 16 by omega)) ?_
  refine x_aload_n 24 0 (ab_dd tk_ca_liking 15 rfl) rfl rfl rfl ?_
  refine t_getP 27 (c + 2) (ab_dd tk_ca_liking 16 rfl) rfl F_ca_31 hk.1 (by have := hk.2.1; omega) hk.2.2.1 rfl hk.2.2.2.2.2.2.1 ?_
  refine x_iload_n 28 3 (ab_dd tk_ca_liking 17 rfl) rfl rfl rfl ?_
  refine t_iald 29 ((r * 4) + s) (ab_dd tk_ca_liking 18 rfl) rfl (by have := hk.1; omega) hk.2.1 hk.2.2.2.2.1 rfl (by omega) (by decide) (x_topx (a (12 + 4 * r + s)) h4v ?_)
  exact x_iret (ab_dd tk_ca_liking 19 rfl) ⟨rfl, rfl⟩
def tb_ty_isMissing : List (Nat × Instr × Nat) := [(0, .aload_n 0, 1), (1, .getfield 19, 3), (4, .ifCond .ge 7, 3), (7, .iconst 1, 1), (8, .goto 4, 3), (11, .iconst 0, 1), (12, .ireturn, 1)]
theorem tk_ty_isMissing : ∀ q ∈ tb_ty_isMissing, decode M_ty_isMissing.2.1 q.1 = .ok q.2 := by decide +kernel
theorem c_ty_isMissing {G : ab_G} {S : ab_S} (hx : xSh S) {t : Nat} (ht : t < 4) (x : Int32) (hs : sI S (109 + 2 * t) 2 = x) : ab_C G 0 M_ty_isMissing [.ref (109 + 2 * t)] (sw S) (fun v w' => v = some (.int (if x < 0 then 1 else 0)) ∧ w' = sw S) := by
  refine x_enter [some (.ref (109 + 2 * t))] (by decide) (Nat.le_of_ble_eq_true rfl) rfl (fun v w' h => by obtain ⟨rfl, rfl⟩ := h; show narrow _ _ = _; split <;> rfl) ?_
  refine x_aload_n 1 0 (ab_dd tk_ty_isMissing 0 rfl) rfl rfl rfl ?_
  refine t_getI 4 (ab_dd tk_ty_isMissing 1 rfl) rfl F_ty_19 (by omega) (Nat.lt_of_lt_of_le (show (109 + 2 * t) < 120 by omega) hx.1) (x_109 hx (by omega)) rfl (x_topx x hs ?_)
  refine x_if_ge 7 11 (ab_dd tk_ty_isMissing 2 rfl) rfl (by decide) (fun h4 => ?_) (fun h4 => ?_)
  · refine x_iconst 12 0 (ab_dd tk_ty_isMissing 5 rfl) rfl (by decide) (x_topn 0 rfl ?_)
    exact x_iret (ab_dd tk_ty_isMissing 6 rfl) ⟨rI (if_neg (Int32.not_lt.mpr h4)).symm, rfl⟩
  · refine x_iconst 8 1 (ab_dd tk_ty_isMissing 3 rfl) rfl (by decide) (x_topn 1 rfl ?_)
    refine x_goto 12 (ab_dd tk_ty_isMissing 4 rfl) (by decide) ?_
    exact x_iret (ab_dd tk_ty_isMissing 6 rfl) ⟨rI (if_pos (Int32.not_le.mp h4)).symm, rfl⟩
def tb_ty_numberAt : List (Nat × Instr × Nat) := [(0, .iload_n 1, 1), (1, .ifCond .lt 12, 3), (4, .iload_n 1, 1), (5, .aload_n 0, 1), (6, .getfield 9, 3), (9, .arraylength, 1), (10, .if_icmp .lt 7, 3), (13, .lconst 0, 1), (14, .goto 9, 3), (17, .aload_n 0, 1), (18, .getfield 9, 3), (21, .iload_n 1, 1), (22, .laload, 1), (23, .lreturn, 1)]
theorem tk_ty_numberAt : ∀ q ∈ tb_ty_numberAt, decode M_ty_numberAt.2.1 q.1 = .ok q.2 := by decide +kernel
theorem c_ty_numberAt {G : ab_G} {S : ab_S} (hx : xSh S) {t : Nat} (ht : t < 4) (i : Nat) (hi : i < 40) : ab_C G 0 M_ty_numberAt [.ref (109 + 2 * t), .int (nI i)] (sw S) (fun v w' => v = some (.long (sJ S (110 + 2 * t) i)) ∧ w' = sw S) := by
  refine x_enter [some (.ref (109 + 2 * t)), some (.int (nI i))] (by decide) (Nat.le_of_ble_eq_true rfl) rfl (fun v w' h => by obtain ⟨rfl, rfl⟩ := h; trivial) ?_
  refine x_iload_n 1 1 (ab_dd tk_ty_numberAt 0 rfl) rfl rfl rfl ?_
  refine xn_if_lt 4 13 (ab_dd tk_ty_numberAt 1 rfl) rfl (by decide) (by omega) ?_
  refine x_iload_n 5 1 (ab_dd tk_ty_numberAt 2 rfl) rfl rfl rfl ?_
  refine x_aload_n 6 0 (ab_dd tk_ty_numberAt 3 rfl) rfl rfl rfl ?_
  refine t_getP 9 (110 + 2 * t) (ab_dd tk_ty_numberAt 4 rfl) rfl F_ty_9 (by omega) (Nat.lt_of_lt_of_le (show (109 + 2 * t) < 120 by omega) hx.1) (x_109 hx (by omega)) rfl (x_110 hx (by omega)) ?_
  refine t_alen 10 2 (ab_dd tk_ty_numberAt 5 rfl) rfl (by omega) (Nat.lt_of_lt_of_le (show (110 + 2 * t) < 120 by omega) hx.1) rfl (x_110k hx (by omega)) ?_
  refine x_icmp_lt_t 17 (ab_dd tk_ty_numberAt 6 rfl) (by decide) ((nI_ltI (a := i) (b := 40) (by omega) (by omega)).mpr (show i < 40 by omega)) ?_
  refine x_aload_n 18 0 (ab_dd tk_ty_numberAt 9 rfl) rfl rfl rfl ?_
  refine t_getP 21 (110 + 2 * t) (ab_dd tk_ty_numberAt 10 rfl) rfl F_ty_9 (by omega) (Nat.lt_of_lt_of_le (show (109 + 2 * t) < 120 by omega) hx.1) (x_109 hx (by omega)) rfl (x_110 hx (by omega)) ?_
  refine x_iload_n 22 1 (ab_dd tk_ty_numberAt 11 rfl) rfl rfl rfl ?_
  refine t_lald 23 i (ab_dd tk_ty_numberAt 12 rfl) rfl (by omega) (Nat.lt_of_lt_of_le (show (110 + 2 * t) < 120 by omega) hx.1) (x_110k hx (by omega)) rfl (by omega) (by decide) ?_
  exact x_lret (ab_dd tk_ty_numberAt 13 rfl) ⟨rfl, rfl⟩
def tb_ty_put : List (Nat × Instr × Nat) := [(0, .iload_n 1, 1), (1, .ifCond .lt 12, 3), (4, .iload_n 1, 1), (5, .aload_n 0, 1), (6, .getfield 9, 3), (9, .arraylength, 1), (10, .if_icmp .lt 4, 3), (13, .return_, 1), (14, .aload_n 0, 1), (15, .getfield 15, 3), (18, .tableswitch 64 0 2 #[26, 39, 52], 26), (44, .aload_n 0, 1), (45, .getfield 9, 3), (48, .iload_n 1, 1), (49, .lload_n 2, 1), (50, .l2i, 1), (51, .i2b, 1), (52, .i2l, 1), (53, .lastore, 1), (54, .goto 35, 3), (57, .aload_n 0, 1), (58, .getfield 9, 3), (61, .iload_n 1, 1), (62, .lload_n 2, 1), (63, .l2i, 1), (64, .i2s, 1), (65, .i2l, 1), (66, .lastore, 1), (67, .goto 22, 3), (70, .aload_n 0, 1), (71, .getfield 9, 3), (74, .iload_n 1, 1), (75, .lload_n 2, 1), (76, .l2i, 1), (77, .i2l, 1), (78, .lastore, 1), (79, .goto 10, 3), (82, .aload_n 0, 1), (83, .getfield 9, 3), (86, .iload_n 1, 1), (87, .lload_n 2, 1), (88, .lastore, 1), (89, .return_, 1)]
theorem tk_ty_put : ∀ q ∈ tb_ty_put, decode M_ty_put.2.1 q.1 = .ok q.2 := by decide +kernel
theorem c_ty_put {G : ab_G} {S : ab_S} (hx : xSh S) {t : Nat} (ht : t < 4) (s : Int32) (hs : sI S (109 + 2 * t) 1 = s) (i : Nat) (hi : i < 40) (x : Int64) : ab_C G 0 M_ty_put [.ref (109 + 2 * t), .int (nI i), .long x] (sw S) (fun v w' => v = none ∧ w' = sw (pJ S (110 + 2 * t) i (mCut x s))) := by
  refine x_enter [some (.ref (109 + 2 * t)), some (.int (nI i)), some (.long x), none] (by decide) (Nat.le_of_ble_eq_true rfl) rfl (fun v w' h => by obtain ⟨rfl, rfl⟩ := h; trivial) ?_
  refine x_iload_n 1 1 (ab_dd tk_ty_put 0 rfl) rfl rfl rfl ?_
  refine xn_if_lt 4 13 (ab_dd tk_ty_put 1 rfl) rfl (by decide) (by omega) ?_
  refine x_iload_n 5 1 (ab_dd tk_ty_put 2 rfl) rfl rfl rfl ?_
  refine x_aload_n 6 0 (ab_dd tk_ty_put 3 rfl) rfl rfl rfl ?_
  refine t_getP 9 (110 + 2 * t) (ab_dd tk_ty_put 4 rfl) rfl F_ty_9 (by omega) (Nat.lt_of_lt_of_le (show (109 + 2 * t) < 120 by omega) hx.1) (x_109 hx (by omega)) rfl (x_110 hx (by omega)) ?_
  refine t_alen 10 2 (ab_dd tk_ty_put 5 rfl) rfl (by omega) (Nat.lt_of_lt_of_le (show (110 + 2 * t) < 120 by omega) hx.1) rfl (x_110k hx (by omega)) ?_
  refine x_icmp_lt_t 14 (ab_dd tk_ty_put 6 rfl) (by decide) ((nI_ltI (a := i) (b := 40) (by omega) (by omega)).mpr (show i < 40 by omega)) ?_
  refine x_aload_n 15 0 (ab_dd tk_ty_put 8 rfl) rfl rfl rfl ?_
  refine t_getI 18 (ab_dd tk_ty_put 9 rfl) rfl F_ty_15 (by omega) (Nat.lt_of_lt_of_le (show (109 + 2 * t) < 120 by omega) hx.1) (x_109 hx (by omega)) rfl (x_topx s hs ?_)
  by_cases hT18 : (0 : Int) ≤ Int32.toInt s ∧ Int32.toInt s ≤ (2 : Int)
  · have hc18 : Int32.toInt s = (0 : Int) ∨ Int32.toInt s = (1 : Int) ∨ Int32.toInt s = (2 : Int) := by omega
    rcases hc18 with hc18 | hc18 | hc18
    · refine x_tableIn 44 (ab_dd tk_ty_put 10 rfl) (by omega) (by omega) (by rw [hc18]; rfl) (by decide) ?_
      refine x_aload_n 45 0 (ab_dd tk_ty_put 11 rfl) rfl rfl rfl ?_
      refine t_getP 48 (110 + 2 * t) (ab_dd tk_ty_put 12 rfl) rfl F_ty_9 (by omega) (Nat.lt_of_lt_of_le (show (109 + 2 * t) < 120 by omega) hx.1) (x_109 hx (by omega)) rfl (x_110 hx (by omega)) ?_
      refine x_iload_n 49 1 (ab_dd tk_ty_put 13 rfl) rfl rfl rfl ?_
      refine x_lload_n 50 2 (ab_dd tk_ty_put 14 rfl) rfl rfl rfl ?_
      refine x_l2i 51 (ab_dd tk_ty_put 15 rfl) rfl ?_
      refine x_i2b 52 (ab_dd tk_ty_put 16 rfl) rfl ?_
      refine x_i2l 53 (ab_dd tk_ty_put 17 rfl) rfl ?_
      refine t_last 54 i (ab_dd tk_ty_put 18 rfl) rfl (by omega) (Nat.lt_of_lt_of_le (show (110 + 2 * t) < 120 by omega) hx.1) (x_110k hx (by omega)) rfl (by omega) (by decide) ?_
      refine x_goto 89 (ab_dd tk_ty_put 19 rfl) (by decide) ?_
      exact x_vret (ab_dd tk_ty_put 42 rfl) ⟨rfl, by unfold mCut; rw [if_pos (of_toInt hc18)]⟩
    · refine x_tableIn 57 (ab_dd tk_ty_put 10 rfl) (by omega) (by omega) (by rw [hc18]; rfl) (by decide) ?_
      refine x_aload_n 58 0 (ab_dd tk_ty_put 20 rfl) rfl rfl rfl ?_
      refine t_getP 61 (110 + 2 * t) (ab_dd tk_ty_put 21 rfl) rfl F_ty_9 (by omega) (Nat.lt_of_lt_of_le (show (109 + 2 * t) < 120 by omega) hx.1) (x_109 hx (by omega)) rfl (x_110 hx (by omega)) ?_
      refine x_iload_n 62 1 (ab_dd tk_ty_put 22 rfl) rfl rfl rfl ?_
      refine x_lload_n 63 2 (ab_dd tk_ty_put 23 rfl) rfl rfl rfl ?_
      refine x_l2i 64 (ab_dd tk_ty_put 24 rfl) rfl ?_
      refine x_i2s 65 (ab_dd tk_ty_put 25 rfl) rfl ?_
      refine x_i2l 66 (ab_dd tk_ty_put 26 rfl) rfl ?_
      refine t_last 67 i (ab_dd tk_ty_put 27 rfl) rfl (by omega) (Nat.lt_of_lt_of_le (show (110 + 2 * t) < 120 by omega) hx.1) (x_110k hx (by omega)) rfl (by omega) (by decide) ?_
      refine x_goto 89 (ab_dd tk_ty_put 28 rfl) (by decide) ?_
      exact x_vret (ab_dd tk_ty_put 42 rfl) ⟨rfl, by unfold mCut; rw [if_neg (toInt_ne (n := 0) (y := 0) (by rw [hc18]; decide)), if_pos (of_toInt hc18)]⟩
    · refine x_tableIn 70 (ab_dd tk_ty_put 10 rfl) (by omega) (by omega) (by rw [hc18]; rfl) (by decide) ?_
      refine x_aload_n 71 0 (ab_dd tk_ty_put 29 rfl) rfl rfl rfl ?_
      refine t_getP 74 (110 + 2 * t) (ab_dd tk_ty_put 30 rfl) rfl F_ty_9 (by omega) (Nat.lt_of_lt_of_le (show (109 + 2 * t) < 120 by omega) hx.1) (x_109 hx (by omega)) rfl (x_110 hx (by omega)) ?_
      refine x_iload_n 75 1 (ab_dd tk_ty_put 31 rfl) rfl rfl rfl ?_
      refine x_lload_n 76 2 (ab_dd tk_ty_put 32 rfl) rfl rfl rfl ?_
      refine x_l2i 77 (ab_dd tk_ty_put 33 rfl) rfl ?_
      refine x_i2l 78 (ab_dd tk_ty_put 34 rfl) rfl ?_
      refine t_last 79 i (ab_dd tk_ty_put 35 rfl) rfl (by omega) (Nat.lt_of_lt_of_le (show (110 + 2 * t) < 120 by omega) hx.1) (x_110k hx (by omega)) rfl (by omega) (by decide) ?_
      refine x_goto 89 (ab_dd tk_ty_put 36 rfl) (by decide) ?_
      exact x_vret (ab_dd tk_ty_put 42 rfl) ⟨rfl, by unfold mCut; rw [if_neg (toInt_ne (n := 0) (y := 0) (by rw [hc18]; decide)), if_neg (toInt_ne (n := 0) (y := 1) (by rw [hc18]; decide)), if_pos (of_toInt hc18)]⟩
  · refine x_tableOut 82 (ab_dd tk_ty_put 10 rfl) (by omega) (by decide) ?_
    refine x_aload_n 83 0 (ab_dd tk_ty_put 37 rfl) rfl rfl rfl ?_
    refine t_getP 86 (110 + 2 * t) (ab_dd tk_ty_put 38 rfl) rfl F_ty_9 (by omega) (Nat.lt_of_lt_of_le (show (109 + 2 * t) < 120 by omega) hx.1) (x_109 hx (by omega)) rfl (x_110 hx (by omega)) ?_
    refine x_iload_n 87 1 (ab_dd tk_ty_put 39 rfl) rfl rfl rfl ?_
    refine x_lload_n 88 2 (ab_dd tk_ty_put 40 rfl) rfl rfl rfl ?_
    refine t_last 89 i (ab_dd tk_ty_put 41 rfl) rfl (by omega) (Nat.lt_of_lt_of_le (show (110 + 2 * t) < 120 by omega) hx.1) (x_110k hx (by omega)) rfl (by omega) (by decide) ?_
    exact x_vret (ab_dd tk_ty_put 42 rfl) ⟨rfl, by unfold mCut; rw [if_neg (fun z => hT18 (by rw [z]; decide)), if_neg (fun z => hT18 (by rw [z]; decide)), if_neg (fun z => hT18 (by rw [z]; decide))]⟩
def tb_ty_make : List (Nat × Instr × Nat) := [(0, .aload_n 0, 1), (1, .iload_n 1, 1), (2, .putfield 15, 3), (5, .aload_n 0, 1), (6, .iload_n 2, 1), (7, .putfield 19, 3), (10, .aload_n 0, 1), (11, .getfield 9, 3), (14, .lconst 0, 1), (15, .invokestatic 22, 3), (18, .return_, 1)]
theorem tk_ty_make : ∀ q ∈ tb_ty_make, decode M_ty_make.2.1 q.1 = .ok q.2 := by decide +kernel
theorem c_ty_make {G : ab_G} {S : ab_S} (hx : xSh S) {t : Nat} (ht : t < 4) (s n : Int32) : ab_C G 1 M_ty_make [.ref (109 + 2 * t), .int s, .int n] (sw S) (fun v w' => v = none ∧ ∃ S', w' = sw S' ∧ sEq [109 + 2 * t, 110 + 2 * t] S S' ∧ sI S' (109 + 2 * t) 1 = s ∧ sI S' (109 + 2 * t) 2 = n ∧ ∀ i, i < 40 → sJ S' (110 + 2 * t) i = 0) := by
  refine x_enter [some (.ref (109 + 2 * t)), some (.int s), some (.int n)] (by decide) (Nat.le_of_ble_eq_true rfl) rfl (fun v w' h => by obtain ⟨rfl, -⟩ := h; trivial) ?_
  refine x_aload_n 1 0 (ab_dd tk_ty_make 0 rfl) rfl rfl rfl ?_
  refine x_iload_n 2 1 (ab_dd tk_ty_make 1 rfl) rfl rfl rfl ?_
  refine t_putI 5 (ab_dd tk_ty_make 2 rfl) rfl F_ty_15 (by omega) (Nat.lt_of_lt_of_le (show (109 + 2 * t) < 120 by omega) hx.1) (x_109 hx (by omega)) rfl rfl rfl ?_
  refine x_aload_n 6 0 (ab_dd tk_ty_make 3 rfl) rfl rfl rfl ?_
  refine x_iload_n 7 2 (ab_dd tk_ty_make 4 rfl) rfl rfl rfl ?_
  refine t_putI 10 (ab_dd tk_ty_make 5 rfl) rfl F_ty_19 (by omega) (Nat.lt_of_lt_of_le (show (109 + 2 * t) < 120 by omega) hx.1) (x_109 hx (by omega)) rfl rfl rfl ?_
  refine x_aload_n 11 0 (ab_dd tk_ty_make 6 rfl) rfl rfl rfl ?_
  refine t_getP 14 (110 + 2 * t) (ab_dd tk_ty_make 7 rfl) rfl F_ty_9 (by omega) (Nat.lt_of_lt_of_le (show (109 + 2 * t) < 120 by omega) hx.1) (x_109 hx (by omega)) rfl (x_110 hx (by omega)) ?_
  refine x_lconst 15 0 (ab_dd tk_ty_make 8 rfl) rfl (by decide) ?_
  refine x_callS 18 M_jA_fill_1 0 2 [_, _] (ab_dd tk_ty_make 9 rfl) rfl (by first | decide | omega) K_jA_fill_1 T_jA_fill_1 L_ty_22 rfl (Nat.le_of_ble_eq_true rfl) (c_jA_fill_1 (by omega) (by have := hx.1; exact (show 110 + 2 * t < sn S by omega)) (by exact x_110k hx ht) (by decide) 0) (fun v1 w1 h1 => ?_)
  obtain ⟨rfl, S1, rfl, hE, ho, hV⟩ := h1
  exact x_vret (ab_dd tk_ty_make 10 rfl) ⟨rfl, _, rfl, ((sEq.rf.pI (List.Mem.head _)).pI (List.Mem.head _)).tr (hE.mono (fun b hb => by rw [List.mem_singleton.mp hb]; exact List.Mem.tail _ (List.Mem.head _))), by rw [hE.2.2.1 (109 + 2 * t) (by intro z; have := List.mem_singleton.mp z; omega)]; exact (gI_k (by decide)).trans gI_s, by rw [hE.2.2.1 (109 + 2 * t) (by intro z; have := List.mem_singleton.mp z; omega)]; exact gI_s, fun i hi => by rw [hV i, if_pos hi]⟩
def tb_s_trayAt : List (Nat × Instr × Nat) := [(0, .iload_n 1, 1), (1, .ifCond .lt 21, 3), (4, .iload_n 1, 1), (5, .aload_n 0, 1), (6, .getfield 46, 3), (9, .arraylength, 1), (10, .if_icmp .ge 12, 3), (13, .aload_n 0, 1), (14, .getfield 46, 3), (17, .iload_n 1, 1), (18, .aaload, 1), (19, .goto 4, 3), (22, .aconst_null, 1), (23, .areturn, 1)]
theorem tk_s_trayAt : ∀ q ∈ tb_s_trayAt, decode M_s_trayAt.2.1 q.1 = .ok q.2 := by decide +kernel
theorem c_s_trayAt {G : ab_G} {S : ab_S} (hx : xSh S) (t : Nat) (ht : t < 4) : ab_C G 0 M_s_trayAt [.ref 50, .int (nI t)] (sw S) (fun v w' => v = some (.ref (109 + 2 * t)) ∧ w' = sw S) := by
  refine x_enter [some (.ref 50), some (.int (nI t))] (by decide) (Nat.le_of_ble_eq_true rfl) rfl (fun v w' h => by obtain ⟨rfl, rfl⟩ := h; trivial) ?_
  refine x_iload_n 1 1 (ab_dd tk_s_trayAt 0 rfl) rfl rfl rfl ?_
  refine xn_if_lt 4 22 (ab_dd tk_s_trayAt 1 rfl) rfl (by decide) (by omega) ?_
  refine x_iload_n 5 1 (ab_dd tk_s_trayAt 2 rfl) rfl rfl rfl ?_
  refine x_aload_n 6 0 (ab_dd tk_s_trayAt 3 rfl) rfl rfl rfl ?_
  refine t_getP 9 69 (ab_dd tk_s_trayAt 4 rfl) rfl F_s_46 (by decide) (Nat.lt_of_lt_of_le (by decide) hx.1) (hx.2.1 0 (by decide)) rfl (hx.2.2 (50, 7, 69) (by decide)) ?_
  refine t_alen 10 4 (ab_dd tk_s_trayAt 5 rfl) rfl (by decide) (Nat.lt_of_lt_of_le (by decide) hx.1) rfl (hx.2.1 19 (by decide)) ?_
  refine x_icmp_ge_f 13 (ab_dd tk_s_trayAt 6 rfl) rfl 22 (by decide) (fun z => absurd ((nI_leI (a := 4) (b := t) (by omega) (by omega)).mp z) (show ¬ (4 ≤ t) by omega)) ?_
  refine x_aload_n 14 0 (ab_dd tk_s_trayAt 7 rfl) rfl rfl rfl ?_
  refine t_getP 17 69 (ab_dd tk_s_trayAt 8 rfl) rfl F_s_46 (by decide) (Nat.lt_of_lt_of_le (by decide) hx.1) (hx.2.1 0 (by decide)) rfl (hx.2.2 (50, 7, 69) (by decide)) ?_
  refine x_iload_n 18 1 (ab_dd tk_s_trayAt 9 rfl) rfl rfl rfl ?_
  refine t_aaldP 19 4 t (109 + 2 * t) (ab_dd tk_s_trayAt 10 rfl) rfl (by decide) (Nat.lt_of_lt_of_le (by decide) hx.1) rfl (hx.2.1 19 (by decide)) rfl (by omega) (by decide) (x_69 hx (by omega)) ?_
  refine x_goto 23 (ab_dd tk_s_trayAt 11 rfl) (by decide) ?_
  exact x_aret (ab_dd tk_s_trayAt 13 rfl) ⟨rfl, rfl⟩
theorem c_s_trayAtN {G : ab_G} {S : ab_S} (hx : xSh S) (x : Int32) (hxx : ¬ (0 ≤ x ∧ x ≤ 3)) : ab_C G 0 M_s_trayAt [.ref 50, .int x] (sw S) (fun v w' => v = some .null ∧ w' = sw S) := by
  refine x_enter [some (.ref 50), some (.int x)] (by decide) (Nat.le_of_ble_eq_true rfl) rfl (fun v w' h => by obtain ⟨rfl, rfl⟩ := h; trivial) ?_
  have h4 : ¬ nI 4 ≤ x → ¬ x < 0 → False := fun z y => hxx ⟨Int32.not_lt.mp y, by
    have z1 : x < nI 4 := Int32.not_le.mp z
    rw [Int32.lt_iff_toInt_lt] at z1
    rw [Int32.le_iff_toInt_le]
    have e4 : (nI 4).toInt = 4 := by decide
    have e3 : (3 : Int32).toInt = 3 := by decide
    omega⟩
  refine x_iload_n 1 1 (ab_dd tk_s_trayAt 0 rfl) rfl rfl rfl ?_
  refine x_if_lt 4 22 (ab_dd tk_s_trayAt 1 rfl) rfl (by decide) (fun h1 => ?_) (fun h1 => ?_)
  · refine x_null 23 (ab_dd tk_s_trayAt 12 rfl) rfl ?_
    exact x_aretN (ab_dd tk_s_trayAt 13 rfl) ⟨rfl, rfl⟩
  · refine x_iload_n 5 1 (ab_dd tk_s_trayAt 2 rfl) rfl rfl rfl ?_
    refine x_aload_n 6 0 (ab_dd tk_s_trayAt 3 rfl) rfl rfl rfl ?_
    refine t_getP 9 69 (ab_dd tk_s_trayAt 4 rfl) rfl F_s_46 (by decide) (Nat.lt_of_lt_of_le (by decide) hx.1) (hx.2.1 0 (by decide)) rfl (hx.2.2 (50, 7, 69) (by decide)) ?_
    refine t_alen 10 4 (ab_dd tk_s_trayAt 5 rfl) rfl (by decide) (Nat.lt_of_lt_of_le (by decide) hx.1) rfl (hx.2.1 19 (by decide)) ?_
    refine x_icmp_ge 13 22 (ab_dd tk_s_trayAt 6 rfl) rfl (by decide) (fun h10 => ?_) (fun h10 => ?_)
    · refine x_null 23 (ab_dd tk_s_trayAt 12 rfl) rfl ?_
      exact x_aretN (ab_dd tk_s_trayAt 13 rfl) ⟨rfl, rfl⟩
    · exact (h4 h10 h1).elim
/-- the ring of stands: f i is the one in place i -/
def paI (S : ab_S) (n s : Nat) (f : Nat → sT) : Prop := sI S 57 1 = nI n ∧ n < 10 ∧ sI S 57 2 = nI s ∧ s ≤ 10 ∧ ∀ i, i < 10 → sdE S (59 + i) (f i)
def tb_pa_keep : List (Nat × Instr × Nat) := [(0, .aload_n 0, 1), (1, .getfield 11, 3), (4, .aload_n 0, 1), (5, .getfield 17, 3), (8, .aaload, 1), (9, .aload_n 1, 1), (10, .invokevirtual 25, 3), (13, .aload_n 0, 1), (14, .aload_n 0, 1), (15, .getfield 17, 3), (18, .iconst 1, 1), (19, .iadd, 1), (20, .bipush 10, 2), (22, .irem, 1), (23, .putfield 17, 3), (26, .aload_n 0, 1), (27, .aload_n 0, 1), (28, .getfield 21, 3), (31, .iconst 1, 1), (32, .iadd, 1), (33, .bipush 10, 2), (35, .invokestatic 29, 3), (38, .putfield 21, 3), (41, .return_, 1)]
theorem tk_pa_keep : ∀ q ∈ tb_pa_keep, decode M_pa_keep.2.1 q.1 = .ok q.2 := by decide +kernel
theorem c_pa_keep {G : ab_G} {S : ab_S} (hx : xSh S) {n s : Nat} {f : Nat → sT} (hp : paI S n s f) {b : Nat} (hb : sdK S b) (hbn : b < 57 ∨ 68 < b) {t : sT} (ht : sdE S b t) : ab_C G 1 M_pa_keep [.ref 57, .ref b] (sw S) (fun v w' => v = none ∧ ∃ S', w' = sw S' ∧ sEq [57, 59, 60, 61, 62, 63, 64, 65, 66, 67, 68] S S' ∧ paI S' ((n + 1) % 10) (if s + 1 ≤ 10 then s + 1 else 10) (up1 f n t)) := by
  refine x_enter [some (.ref 57), some (.ref b)] (by decide) (Nat.le_of_ble_eq_true rfl) rfl (fun v w' h => by obtain ⟨rfl, -⟩ := h; trivial) ?_
  obtain ⟨p1, p2, p3, p4, p5⟩ := hp
  have hm10 : (n + 1) % 10 < 10 := Nat.mod_lt _ (by decide)
  refine x_aload_n 1 0 (ab_dd tk_pa_keep 0 rfl) rfl rfl rfl ?_
  refine t_getP 4 58 (ab_dd tk_pa_keep 1 rfl) rfl F_pa_11 (by decide) (Nat.lt_of_lt_of_le (by decide) hx.1) (hx.2.1 7 (by decide)) rfl (hx.2.2 (57, 0, 58) (by decide)) ?_
  refine x_aload_n 5 0 (ab_dd tk_pa_keep 2 rfl) rfl rfl rfl ?_
  refine t_getI 8 (ab_dd tk_pa_keep 3 rfl) rfl F_pa_17 (by decide) (Nat.lt_of_lt_of_le (by decide) hx.1) (hx.2.1 7 (by decide)) rfl (x_topn n p1 ?_)
  refine t_aaldP 9 6 n (59 + n) (ab_dd tk_pa_keep 4 rfl) rfl (by decide) (Nat.lt_of_lt_of_le (by decide) hx.1) rfl (hx.2.1 8 (by decide)) rfl (by omega) (by decide) (x_58 hx (by omega)) ?_
  refine x_aload_n 10 1 (ab_dd tk_pa_keep 5 rfl) rfl rfl rfl ?_
  refine t_callV 13 M_sd_copy 0 1 [_] (ab_dd tk_pa_keep 6 rfl) rfl (by first | decide | omega) K_sd_copy V_sd_copy.1 V_sd_copy.2 L_pa_25 rfl (Nat.le_of_ble_eq_true rfl) (by omega) (Nat.lt_of_lt_of_le (show (59 + n) < 120 by omega) hx.1) (x_59 hx (by omega)) rfl (c_sd_copy (show sdK S (59 + n) from ⟨by omega, by have := hx.1; omega, x_59 hx p2⟩) hb (by omega) ht) (fun v1 w1 h1 => ?_)
  obtain ⟨rfl, S1, rfl, hE1, hT1⟩ := h1
  have hx1 : xSh S1 := hx.eq hE1
  have hE : sEq [57, 59, 60, 61, 62, 63, 64, 65, 66, 67, 68] S S1 := hE1.mono (fun x hx => by rw [List.mem_singleton.mp hx]; exact m59 p2)
  have q1 : sI S1 57 1 = nI n := by rw [hE1.2.2.1 57 (by intro z; have := List.mem_singleton.mp z; omega)]; exact p1
  have q3 : sI S1 57 2 = nI s := by rw [hE1.2.2.1 57 (by intro z; have := List.mem_singleton.mp z; omega)]; exact p3
  refine x_aload_n 14 0 (ab_dd tk_pa_keep 7 rfl) rfl rfl rfl ?_
  refine x_aload_n 15 0 (ab_dd tk_pa_keep 8 rfl) rfl rfl rfl ?_
  refine t_getI 18 (ab_dd tk_pa_keep 9 rfl) rfl F_pa_17 (by decide) (Nat.lt_of_lt_of_le (by decide) hx1.1) (hx1.2.1 7 (by decide)) rfl (x_topn n q1 ?_)
  refine x_iconst 19 1 (ab_dd tk_pa_keep 10 rfl) rfl (by decide) (x_topn 1 rfl ?_)
  refine x_iadd 20 (ab_dd tk_pa_keep 11 rfl) rfl (x_topn (n + 1) (nI_add _ _) ?_)
  refine x_bipush 22 10 (ab_dd tk_pa_keep 12 rfl) rfl (by decide) (x_topn 10 rfl ?_)
  refine x_irem 23 (ab_dd tk_pa_keep 13 rfl) rfl (by decide) (x_topn ((n + 1) % 10) (pk_rem (by omega) (by omega) (by omega)) ?_)
  refine t_putI 26 (ab_dd tk_pa_keep 14 rfl) rfl F_pa_17 (by decide) (Nat.lt_of_lt_of_le (by decide) hx1.1) (hx1.2.1 7 (by decide)) rfl rfl rfl ?_
  refine x_aload_n 27 0 (ab_dd tk_pa_keep 15 rfl) rfl rfl rfl ?_
  refine x_aload_n 28 0 (ab_dd tk_pa_keep 16 rfl) rfl rfl rfl ?_
  refine t_getI 31 (ab_dd tk_pa_keep 17 rfl) rfl F_pa_21 (by decide) (Nat.lt_of_lt_of_le (by decide) hx1.1) (hx1.2.1 7 (by decide)) rfl (x_topn s ((gI_k (by decide)).trans q3) ?_)
  refine x_iconst 32 1 (ab_dd tk_pa_keep 18 rfl) rfl (by decide) (x_topn 1 rfl ?_)
  refine x_iadd 33 (ab_dd tk_pa_keep 19 rfl) rfl (x_topn (s + 1) (nI_add _ _) ?_)
  refine x_bipush 35 10 (ab_dd tk_pa_keep 20 rfl) rfl (by decide) (x_topn 10 rfl ?_)
  refine x_callS 38 M_jM_min 0 2 [_, _] (ab_dd tk_pa_keep 21 rfl) rfl (by first | decide | omega) K_jM_min T_jM_min L_pa_29 rfl (Nat.le_of_ble_eq_true rfl) (w_min _ (s + 1) 10 (by omega) (by omega)) (fun v1 w1 h1 => ?_)
  obtain ⟨rfl, rfl⟩ := h1
  refine t_putI 41 (ab_dd tk_pa_keep 22 rfl) rfl F_pa_21 (by decide) (Nat.lt_of_lt_of_le (by decide) hx1.1) (hx1.2.1 7 (by decide)) rfl rfl rfl ?_
  refine x_vret (ab_dd tk_pa_keep 23 rfl) ⟨rfl, _, rfl, ((hE.pI (by decide)).pI (by decide)), ((gI_k (by decide)).trans gI_s), hm10, gI_s, by split <;> omega, fun i hi => ?_⟩
  unfold sdE
  rw [gI_o (by omega), gI_o (by omega)]
  show sdE S1 (59 + i) _
  unfold up1
  by_cases z : i = n
  · rw [if_pos z, z]; exact hT1
  · rw [if_neg z]; exact (p5 i hi).eq hE1 (by intro y; have := List.mem_singleton.mp y; omega)
def tb_jM_floorMod : List (Nat × Instr × Nat) := [(0, .iload_n 0, 1), (1, .iload_n 1, 1), (2, .irem, 1), (3, .istore_n 2, 1), (4, .iload_n 0, 1), (5, .iload_n 1, 1), (6, .ixor, 1), (7, .ifCond .ge 11, 3), (10, .iload_n 2, 1), (11, .ifCond .eq 7, 3), (14, .iload_n 2, 1), (15, .iload_n 1, 1), (16, .iadd, 1), (17, .ireturn, 1), (18, .iload_n 2, 1), (19, .ireturn, 1)]
theorem tk_jM_floorMod : ∀ q ∈ tb_jM_floorMod, decode M_jM_floorMod.2.1 q.1 = .ok q.2 := by decide +kernel
theorem fm_all : (List.range 10).all (fun n => (List.range 11).all (fun k => k == 0 || (decide ((nI n - nI k) - (nI n - nI k) / nI 10 * nI 10 = nI ((n + 10 - k) % 10)) || (decide ((nI n - nI k) ^^^ nI 10 < 0) && decide ((nI n - nI k) - (nI n - nI k) / nI 10 * nI 10 ≠ 0) && decide ((nI n - nI k) - (nI n - nI k) / nI 10 * nI 10 + nI 10 = nI ((n + 10 - k) % 10)))))) = true := by decide +kernel
theorem fm2_all : (List.range 10).all (fun n => (List.range 11).all (fun k => k == 0 || (decide ((nI n - nI k) ^^^ nI 10 < 0) && decide ((nI n - nI k) - (nI n - nI k) / nI 10 * nI 10 ≠ 0)) == decide ((nI n - nI k) - (nI n - nI k) / nI 10 * nI 10 ≠ nI ((n + 10 - k) % 10)))) = true := by decide +kernel
theorem c_jM_floorMod {G : ab_G} (S : ab_S) (n k : Nat) (hn : n < 10) (hk : 1 ≤ k) (hk2 : k ≤ 10) : ab_C G 0 M_jM_floorMod [.int (nI n - nI k), .int (nI 10)] (sw S) (fun v w' => v = some (.int (nI ((n + 10 - k) % 10))) ∧ w' = sw S) := by
  refine x_enterF [some (.int (nI n - nI k)), some (.int (nI 10)), none] (by decide +kernel) (Nat.le_of_ble_eq_true rfl) rfl (fun v w' h => by obtain ⟨rfl, rfl⟩ := h; rfl) ?_
  have g := fm_all
  rw [List.all_eq_true] at g
  have g1 := g n (List.mem_range.mpr hn)
  rw [List.all_eq_true] at g1
  have g2 := g1 k (List.mem_range.mpr (by omega))
  have f := fm2_all
  rw [List.all_eq_true] at f
  have f1 := f n (List.mem_range.mpr hn)
  rw [List.all_eq_true] at f1
  have f2 := f1 k (List.mem_range.mpr (by omega))
  have hk0 : (k == 0) = false := by rw [beq_eq_false_iff_ne]; omega
  rw [hk0, Bool.false_or] at g2 f2
  rw [Bool.or_eq_true, decide_eq_true_iff, Bool.and_eq_true, Bool.and_eq_true, decide_eq_true_iff, decide_eq_true_iff, decide_eq_true_iff] at g2
  rw [beq_iff_eq, Bool.eq_iff_iff, Bool.and_eq_true, decide_eq_true_iff, decide_eq_true_iff, decide_eq_true_iff] at f2
  refine x_iload_n 1 0 (ab_dd tk_jM_floorMod 0 rfl) rfl rfl rfl ?_
  refine x_iload_n 2 1 (ab_dd tk_jM_floorMod 1 rfl) rfl rfl rfl ?_
  refine x_irem 3 (ab_dd tk_jM_floorMod 2 rfl) rfl (by decide) ?_
  refine x_topi (fun v1 ev1 => ?_)
  refine x_istore_n 4 [some (.int (nI n - nI k)), some (.int (nI 10)), some (.int v1)] 2 (ab_dd tk_jM_floorMod 3 rfl) rfl rfl (by decide) rfl ?_
  refine x_iload_n 5 0 (ab_dd tk_jM_floorMod 4 rfl) rfl rfl rfl ?_
  refine x_iload_n 6 1 (ab_dd tk_jM_floorMod 5 rfl) rfl rfl rfl ?_
  refine x_ixor 7 (ab_dd tk_jM_floorMod 6 rfl) rfl ?_
  refine x_if_ge 10 18 (ab_dd tk_jM_floorMod 7 rfl) rfl (by decide) (fun h7 => ?_) (fun h7 => ?_)
  · refine x_iload_n 19 2 (ab_dd tk_jM_floorMod 14 rfl) rfl rfl rfl ?_
    exact x_iret (ab_dd tk_jM_floorMod 15 rfl) ⟨rI (by rw [ev1]; rcases g2 with z | z; (· exact z); (· exact absurd z.1.1 (Int32.not_lt.mpr h7))), rfl⟩
  · refine x_iload_n 11 2 (ab_dd tk_jM_floorMod 8 rfl) rfl rfl rfl ?_
    refine x_if_eq 14 18 (ab_dd tk_jM_floorMod 9 rfl) rfl (by decide) (fun h11 => ?_) (fun h11 => ?_)
    · refine x_iload_n 19 2 (ab_dd tk_jM_floorMod 14 rfl) rfl rfl rfl ?_
      exact x_iret (ab_dd tk_jM_floorMod 15 rfl) ⟨rI (by rw [ev1]; rcases g2 with z | z; (· exact z); (· exact absurd (ev1.symm.trans h11) z.1.2)), rfl⟩
    · refine x_iload_n 15 2 (ab_dd tk_jM_floorMod 10 rfl) rfl rfl rfl ?_
      refine x_iload_n 16 1 (ab_dd tk_jM_floorMod 11 rfl) rfl rfl rfl ?_
      refine x_iadd 17 (ab_dd tk_jM_floorMod 12 rfl) rfl ?_
      exact x_iret (ab_dd tk_jM_floorMod 13 rfl) ⟨rI (by rcases g2 with z | z; (· exact absurd z (f2.mp ⟨Int32.not_le.mp h7, by rw [ev1] at h11; exact h11⟩)); (· rw [ev1]; exact z.2)), rfl⟩
def tb_pa_bringBack : List (Nat × Instr × Nat) := [(0, .aload_n 0, 1), (1, .aload_n 0, 1), (2, .getfield 17, 3), (5, .iload_n 1, 1), (6, .isub, 1), (7, .bipush 10, 2), (9, .invokestatic 35, 3), (12, .putfield 17, 3), (15, .aload_n 0, 1), (16, .dup, 1), (17, .getfield 21, 3), (20, .iload_n 1, 1), (21, .isub, 1), (22, .putfield 21, 3), (25, .aload_n 2, 1), (26, .aload_n 0, 1), (27, .getfield 11, 3), (30, .aload_n 0, 1), (31, .getfield 17, 3), (34, .aaload, 1), (35, .invokevirtual 25, 3), (38, .return_, 1)]
theorem tk_pa_bringBack : ∀ q ∈ tb_pa_bringBack, decode M_pa_bringBack.2.1 q.1 = .ok q.2 := by decide +kernel
theorem c_pa_bringBack {G : ab_G} {S : ab_S} (hx : xSh S) {n s : Nat} {f : Nat → sT} (hp : paI S n s f) {b : Nat} (hb : sdK S b) (hbn : b < 57 ∨ 68 < b) (k : Nat) (hk : 1 ≤ k) (hks : k ≤ s) : ab_C G 1 M_pa_bringBack [.ref 57, .int (nI k), .ref b] (sw S) (fun v w' => v = none ∧ ∃ S', w' = sw S' ∧ sEq [57, b] S S' ∧ paI S' ((n + 10 - k) % 10) (s - k) f ∧ sdE S' b (f ((n + 10 - k) % 10))) := by
  refine x_enter [some (.ref 57), some (.int (nI k)), some (.ref b)] (by decide) (Nat.le_of_ble_eq_true rfl) rfl (fun v w' h => by obtain ⟨rfl, -⟩ := h; trivial) ?_
  obtain ⟨p1, p2, p3, p4, p5⟩ := hp
  have hm10 : (n + 10 - k) % 10 < 10 := Nat.mod_lt _ (by decide)
  refine x_aload_n 1 0 (ab_dd tk_pa_bringBack 0 rfl) rfl rfl rfl ?_
  refine x_aload_n 2 0 (ab_dd tk_pa_bringBack 1 rfl) rfl rfl rfl ?_
  refine t_getI 5 (ab_dd tk_pa_bringBack 2 rfl) rfl F_pa_17 (by decide) (Nat.lt_of_lt_of_le (by decide) hx.1) (hx.2.1 7 (by decide)) rfl (x_topn n p1 ?_)
  refine x_iload_n 6 1 (ab_dd tk_pa_bringBack 3 rfl) rfl rfl rfl ?_
  refine x_isub 7 (ab_dd tk_pa_bringBack 4 rfl) rfl ?_
  refine x_bipush 9 10 (ab_dd tk_pa_bringBack 5 rfl) rfl (by decide) (x_topn 10 rfl ?_)
  refine x_callS 12 M_jM_floorMod 0 2 [_, _] (ab_dd tk_pa_bringBack 6 rfl) rfl (by first | decide | omega) K_jM_floorMod T_jM_floorMod L_pa_35 rfl (Nat.le_of_ble_eq_true rfl) (c_jM_floorMod _ n k p2 hk (by omega)) (fun v1 w1 h1 => ?_)
  obtain ⟨rfl, rfl⟩ := h1
  refine t_putI 15 (ab_dd tk_pa_bringBack 7 rfl) rfl F_pa_17 (by decide) (Nat.lt_of_lt_of_le (by decide) hx.1) (hx.2.1 7 (by decide)) rfl rfl rfl ?_
  refine x_aload_n 16 0 (ab_dd tk_pa_bringBack 8 rfl) rfl rfl rfl ?_
  refine x_dup 17 (ab_dd tk_pa_bringBack 9 rfl) rfl rfl ?_
  refine t_getI 20 (ab_dd tk_pa_bringBack 10 rfl) rfl F_pa_21 (by decide) (Nat.lt_of_lt_of_le (by decide) hx.1) (hx.2.1 7 (by decide)) rfl (x_topn s ((gI_k (by decide)).trans p3) ?_)
  refine x_iload_n 21 1 (ab_dd tk_pa_bringBack 11 rfl) rfl rfl rfl ?_
  refine x_isub 22 (ab_dd tk_pa_bringBack 12 rfl) rfl (x_topn (s - k) (pk_sub (by omega)) ?_)
  refine t_putI 25 (ab_dd tk_pa_bringBack 13 rfl) rfl F_pa_21 (by decide) (Nat.lt_of_lt_of_le (by decide) hx.1) (hx.2.1 7 (by decide)) rfl rfl rfl ?_
  refine x_aload_n 26 2 (ab_dd tk_pa_bringBack 14 rfl) rfl rfl rfl ?_
  refine x_aload_n 27 0 (ab_dd tk_pa_bringBack 15 rfl) rfl rfl rfl ?_
  refine t_getP 30 58 (ab_dd tk_pa_bringBack 16 rfl) rfl F_pa_11 (by decide) (Nat.lt_of_lt_of_le (by decide) hx.1) (hx.2.1 7 (by decide)) rfl (hx.2.2 (57, 0, 58) (by decide)) ?_
  refine x_aload_n 31 0 (ab_dd tk_pa_bringBack 17 rfl) rfl rfl rfl ?_
  refine t_getI 34 (ab_dd tk_pa_bringBack 18 rfl) rfl F_pa_17 (by decide) (Nat.lt_of_lt_of_le (by decide) hx.1) (hx.2.1 7 (by decide)) rfl (x_topn ((n + 10 - k) % 10) ((gI_k (by decide)).trans gI_s) ?_)
  refine t_aaldP 35 6 ((n + 10 - k) % 10) (59 + ((n + 10 - k) % 10)) (ab_dd tk_pa_bringBack 19 rfl) rfl (by decide) (Nat.lt_of_lt_of_le (by decide) hx.1) rfl (hx.2.1 8 (by decide)) rfl (by omega) (by decide) (x_58 hx (by omega)) ?_
  refine t_callV 38 M_sd_copy 0 1 [_] (ab_dd tk_pa_bringBack 20 rfl) rfl (by first | decide | omega) K_sd_copy V_sd_copy.1 V_sd_copy.2 L_pa_25 rfl (Nat.le_of_ble_eq_true rfl) hb.1 hb.2.1 hb.2.2 rfl (c_sd_copy (b := 59 + (n + 10 - k) % 10) (by exact hb) (by exact (show sdK S (59 + (n + 10 - k) % 10) from ⟨by omega, by have := hx.1; omega, x_59 hx hm10⟩)) (by omega) (t := f ((n + 10 - k) % 10)) (by unfold sdE; rw [gI_o (by omega), gI_o (by omega)]; exact p5 _ hm10)) (fun v1 w1 h1 => ?_)
  obtain ⟨rfl, S1, rfl, hE1, hT1⟩ := h1
  refine x_vret (ab_dd tk_pa_bringBack 21 rfl) ⟨rfl, _, rfl, ((sEq.rf.pI (List.Mem.head _)).pI (List.Mem.head _)).tr (hE1.mono (fun x hx => by rw [List.mem_singleton.mp hx]; exact List.Mem.tail _ (List.Mem.head _))), ⟨?_, hm10, ?_, by omega, fun i hi => ?_⟩, hT1⟩
  · rw [hE1.2.2.1 57 (by intro z; have := List.mem_singleton.mp z; omega)]; exact (gI_k (by decide)).trans gI_s
  · rw [hE1.2.2.1 57 (by intro z; have := List.mem_singleton.mp z; omega)]; exact gI_s
  · refine sdE.eq ?_ hE1 (by intro z; have := List.mem_singleton.mp z; omega)
    unfold sdE
    rw [gI_o (by omega), gI_o (by omega)]
    exact p5 i hi
def tb_pa_forget : List (Nat × Instr × Nat) := [(0, .aload_n 0, 1), (1, .iconst 0, 1), (2, .putfield 21, 3), (5, .return_, 1)]
theorem tk_pa_forget : ∀ q ∈ tb_pa_forget, decode M_pa_forget.2.1 q.1 = .ok q.2 := by decide +kernel
theorem c_pa_forget {G : ab_G} {S : ab_S} (hx : xSh S) : ab_C G 0 M_pa_forget [.ref 57] (sw S) (fun v w' => v = none ∧ w' = sw (pI S 57 2 (nI 0))) := by
  refine x_enter [some (.ref 57)] (by decide) (Nat.le_of_ble_eq_true rfl) rfl (fun v w' h => by obtain ⟨rfl, rfl⟩ := h; trivial) ?_
  refine x_aload_n 1 0 (ab_dd tk_pa_forget 0 rfl) rfl rfl rfl ?_
  refine x_iconst 2 0 (ab_dd tk_pa_forget 1 rfl) rfl (by decide) (x_topn 0 rfl ?_)
  refine t_putI 5 (ab_dd tk_pa_forget 2 rfl) rfl F_pa_21 (by decide) (Nat.lt_of_lt_of_le (by decide) hx.1) (hx.2.1 7 (by decide)) rfl rfl rfl ?_
  exact x_vret (ab_dd tk_pa_forget 3 rfl) ⟨rfl, rfl⟩
