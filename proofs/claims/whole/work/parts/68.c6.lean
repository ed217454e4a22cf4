/-! ===== what a climate keeps ===== -/
/-- a row's laws are well made, for the class too -/
def aTy (a : Nat → Int32) : Prop := (∀ n cd, mWl (rwS a) = some (n, cd) → lawOk (nI 1009) cd n) ∧ (∀ n cd, mMl (rwS a) = some (n, cd) → lawOk (nI 1006) cd n ∧ ∀ wd, lvV wd cd n = 0 ∨ lvV wd cd n = 1)
theorem aTy.sta {a b : Nat → Int32} (h : aTy a) (hs : sta a b) : aTy b := by
  unfold aTy
  rw [hs.wl, hs.ml]
  exact h
def seaC (b : Nat → Int32) : Nat := c4 (fun r => cN (b (28 + r)))
def bsd (R s : Nat) : Nat := (if 1 ≤ s then 1 else 0) + (if s + 1 < R then 1 else 0)
/-- the stand behind a stop, by warmths alone -/
def cB (b : Nat → Int32) (w q : Nat) : Nat := aS b (b 40) (cSt (aR b) w q) 0 % 625
def bK (b : Nat → Int32) (i : Nat) : Nat := cB b (i % 5 ^ aR b) (i / 5 ^ aR b)
def wV (b : Nat → Int32) (r own seat heat same : Nat) : Nat := match mWl (rwS b) with
  | none => 0
  | some (n, cd) => cl4 (lvV (spW (nI r) (mSea (rwS b) r) (mCls (rwS b) r) (nI own) (nI seat) (b 40) (nI (bsd (aR b) seat)) (nI heat) (nI same)) cd n)
def wK (b : Nat → Int32) (i : Nat) : Nat := wV b (i / 540) (i / 108 % 5) (i / 27 % 4) (i / 3 % 9) (i % 3)
def mV1 (b : Nat → Int32) (r wa seat : Nat) : Nat := match mMl (rwS b) with
  | none => 0
  | some (n, cd) => if lvV (spW (nI r) (mSea (rwS b) r) (mCls (rwS b) r) (nI wa) (nI seat) (b 40) 0 0 0) cd n = 1 then 1 else 0
def mK (b : Nat → Int32) (i : Nat) : Nat := mV1 b (i / 20) (i / 4 % 5) (i % 4)
/-- entries that bear the stamp st hold val -/
def chE (S : ab_S) (a len st Q : Nat) (val : Nat → Nat) : Prop := ∀ i, i < len → ∃ e, sI S a i = nI e ∧ e < 2 ^ 31 ∧ e / Q ≤ st ∧ (e / Q = st → e % Q = val i)
theorem chE.up {S S' : ab_S} {a len st Q i v : Nat} {val : Nat → Nat} (h : chE S a len st Q val) (hf : sI S' a = upd (sI S a) i (nI (Q * st + v))) (hQ : v < Q) (hv : v = val i) (hb : Q * st + v < 2 ^ 31) : chE S' a len st Q val := by
  intro j hj
  rw [hf]
  unfold upd
  by_cases z : j = i
  · refine ⟨Q * st + v, if_pos z, hb, ?_, fun _ => ?_⟩
    · rw [Nat.mul_add_div (by omega), Nat.div_eq_of_lt hQ]
      omega
    · rw [Nat.mul_add_mod, Nat.mod_eq_of_lt hQ, z, hv]
  · obtain ⟨e, h1, h2⟩ := h j hj
    exact ⟨e, (if_neg z).trans h1, h2⟩
theorem chE.eq {S S' : ab_S} {a len st Q : Nat} {val : Nat → Nat} (h : chE S a len st Q val) (hf : sI S' a = sI S a) : chE S' a len st Q val := by
  unfold chE
  rw [hf]
  exact h
theorem chE.next {S S' : ab_S} {a len st Q : Nat} {val val' : Nat → Nat} (h : chE S a len st Q val) (hf : sI S' a = sI S a) : chE S' a len (st + 1) Q val' := by
  intro i hi
  obtain ⟨e, h1, h2, h3, h4⟩ := h i hi
  exact ⟨e, by rw [hf]; exact h1, h2, by omega, fun z => absurd z (by omega)⟩
/-- im is about carriages alone -/
def imO (im : Nat → Prop) : Prop := ∀ y, im y → y = 52 ∨ y = 53 ∨ y = 54 ∨ 145 ≤ y
def clI (S : ab_S) (im : Nat → Prop) (x c : Nat) (b : Nat → Int32) (bh nb st : Nat) : Prop := caI S im c b ∧ sP S x 2 = some c ∧ sI S x 3 = nI (seaC b) ∧ sI S x 4 = b 40 ∧ sI S x 5 = nI st ∧ (1 ≤ st ∧ st < 2 ^ 20) ∧ sP S x 6 = some bh ∧ (50 ≤ bh ∧ bh < sn S) ∧ sK S bh = .inl (.int, nb) ∧ nb < 2 ^ 26 ∧ ¬ im bh ∧ (bh = x + 4 ∨ bh = 119 ∨ 145 ≤ bh) ∧ chE S bh nb st 1024 (bK b) ∧ chE S (x + 5) 2160 st 8 (wK b) ∧ chE S (x + 6) 80 st 2 (mK b)
/-- the row goes for the class's stand too -/
def aGood (b : Nat → Int32) : Prop := aOk b ∧ aTy b
theorem clI.mk {S S' : ab_S} {im : Nat → Prop} {x c bh nb st : Nat} {b : Nat → Int32} {l : List Nat} (h : clI S im x c b bh nb st) (hE : sEq l S S') (hx : x ∉ l) (hl : ∀ y ∈ l, ¬ im y) (h1 : chE S' bh nb st 1024 (bK b)) (h2 : chE S' (x + 5) 2160 st 8 (wK b)) (h3 : chE S' (x + 6) 80 st 2 (mK b)) : clI S' im x c b bh nb st := by
  obtain ⟨a1, a2, a3, a4, a5, a6, a7, a8, a9, a10, a11, a12, -, -, -⟩ := h
  refine ⟨a1.eq hE hl, by rw [hE.2.2.2.2.1]; exact a2, by rw [hE.2.2.1 x hx]; exact a3, by rw [hE.2.2.1 x hx]; exact a4, by rw [hE.2.2.1 x hx]; exact a5, a6, by rw [hE.2.2.2.2.1]; exact a7, by rw [hE.2.2.2.2.2.1]; exact a8, by rw [hE.2.1]; exact a9, a10, a11, a12, h1, h2, h3⟩
theorem clI.eq {S S' : ab_S} {im : Nat → Prop} {x c bh nb st : Nat} {b : Nat → Int32} {l : List Nat} (h : clI S im x c b bh nb st) (hE : sEq l S S') (hx : x ∉ l) (hl : ∀ y ∈ l, ¬ im y) (h1 : bh ∉ l) (h2 : x + 5 ∉ l) (h3 : x + 6 ∉ l) : clI S' im x c b bh nb st := by
  have g := h
  obtain ⟨-, -, -, -, -, -, -, -, -, -, -, -, b1, b2, b3⟩ := g
  exact h.mk hE hx hl (b1.eq (hE.2.2.1 _ h1)) (b2.eq (hE.2.2.1 _ h2)) (b3.eq (hE.2.2.1 _ h3))
/-- what of a row a climate looks at -/
def alk (a b : Nat → Int32) : Prop := sta a b ∧ (∀ r, r < 4 → b (28 + r) = a (28 + r)) ∧ b 40 = a 40
theorem alk.sea {a b : Nat → Int32} (h : alk a b) : mSea (rwS b) = mSea (rwS a) ∧ mCls (rwS b) = mCls (rwS a) := by
  constructor
  · funext r
    unfold mSea
    split
    · exact h.2.1 r ‹_›
    · rfl
  · funext r
    unfold mCls
    split
    · exact h.1 (8 + r) (by omega)
    · rfl
theorem alk.vals {a b : Nat → Int32} (h : alk a b) : bK b = bK a ∧ wK b = wK a ∧ mK b = mK a ∧ seaC b = seaC a := by
  have hR := h.1.R
  refine ⟨?_, ?_, ?_, ?_⟩
  · funext i
    unfold bK cB aS
    rw [hR, h.1.wl, h.sea.1, h.sea.2, h.2.2]
  · funext i
    unfold wK wV
    rw [hR, h.1.wl, h.sea.1, h.sea.2, h.2.2]
  · funext i
    unfold mK mV1
    rw [h.1.ml, h.sea.1, h.sea.2, h.2.2]
  · unfold seaC
    exact c4_cg (fun r hr => by rw [h.2.1 r hr])
theorem clI.alk {S : ab_S} {im : Nat → Prop} {x c bh nb st : Nat} {a b : Nat → Int32} (h : clI S im x c a bh nb st) (hab : alk a b) : clI S im x c b bh nb st := by
  obtain ⟨a1, a2, a3, a4, a5, a6, a7, a8, a9, a10, a11, a12, b1, b2, b3⟩ := h
  obtain ⟨e1, e2, e3, e4⟩ := hab.vals
  refine ⟨a1.sta hab.1, a2, by rw [e4]; exact a3, by rw [hab.2.2]; exact a4, a5, a6, a7, a8, a9, a10, a11, a12, by rw [e1]; exact b1, by rw [e2]; exact b2, by rw [e3]; exact b3⟩
theorem aOk.sn {b : Nat → Int32} (h : aOk b) {r : Nat} (hr : r < 4) : b (28 + r) = nI (cN (b (28 + r))) ∧ cN (b (28 + r)) < 4 := (h.1.2.1 r hr).2.2
theorem seaC_lt {b : Nat → Int32} (h : aOk b) : seaC b < 256 := c4_lt (fun _ hr => (h.sn hr).2)
theorem seaC_d {b : Nat → Int32} (h : aOk b) {r : Nat} (hr : r < 4) : d4 (seaC b) r = cN (b (28 + r)) := c4_d (fun _ hr => (h.sn hr).2) r hr
theorem seaC_v {b : Nat → Int32} (h : aOk b) {r : Nat} (hr : r < 4) : nI (d4 (seaC b) r) = b (28 + r) := by rw [seaC_d h hr]; exact (h.sn hr).1.symm
theorem aOk.m40 {b : Nat → Int32} (h : aOk b) : b 40 = nI (cN (b 40)) ∧ cN (b 40) < 10 := ⟨h.1.2.2.1, h.1.2.2.2⟩
def tb_cl_suppose : List (Nat × Instr × Nat) := [(0, .iload_n 1, 1), (1, .aload_n 0, 1), (2, .getfield 18, 3), (5, .if_icmp .ne 11, 3), (8, .iload_n 2, 1), (9, .aload_n 0, 1), (10, .getfield 22, 3), (13, .if_icmp .eq 23, 3), (16, .aload_n 0, 1), (17, .iload_n 1, 1), (18, .putfield 18, 3), (21, .aload_n 0, 1), (22, .iload_n 2, 1), (23, .putfield 22, 3), (26, .aload_n 0, 1), (27, .dup, 1), (28, .getfield 25, 3), (31, .iconst 1, 1), (32, .iadd, 1), (33, .putfield 25, 3), (36, .return_, 1)]
theorem tk_cl_suppose : ∀ q ∈ tb_cl_suppose, decode M_cl_suppose.2.1 q.1 = .ok q.2 := by decide +kernel
theorem c_cl_suppose {G : ab_G} {S : ab_S} {im : Nat → Prop} {x c bh nb st : Nat} {a : Nat → Int32} (hK : clK S x) (him : imO im) (hcl : clI S im x c a bh nb st) (ha : aOk a) {b : Nat → Int32} (hb : aOk b) (hs : sta a b) (hst : st + 1 < 2 ^ 20) : ab_C G 0 M_cl_suppose [.ref x, .int (nI (seaC b)), .int (b 40)] (sw S) (fun v w' => v = none ∧ ∃ S' st', w' = sw S' ∧ sEq [x] S S' ∧ clI S' im x c b bh nb st' ∧ st ≤ st' ∧ st' ≤ st + 1) := by
  rw [hb.m40.1]
  refine x_enter [some (.ref x), some (.int (nI (seaC b))), some (.int (nI (cN (b 40))))] (by decide) (Nat.le_of_ble_eq_true rfl) rfl (fun v w' h => by obtain ⟨rfl, -⟩ := h; trivial) ?_
  have g := hcl
  obtain ⟨a1, a2, a3, a4, a5, a6, a7, a8, a9, a10, a11, a12, b1, b2, b3⟩ := g
  have hxx := hK.1
  have hsl := seaC_lt hb
  have hsl2 := seaC_lt ha
  have hm := hb.m40
  have hm2 := ha.m40
  have a4b : sI S x 4 = nI (cN (a 40)) := a4.trans hm2.1
  have hnx : ¬ im x := fun z => by have := him x z; omega
  have new : clI (pI (pI (pI S x 3 (nI (seaC b))) x 4 (nI (cN (b 40)))) x 5 (nI (st + 1))) im x c b bh nb (st + 1) := by
    have hE : sEq [x] S (pI (pI (pI S x 3 (nI (seaC b))) x 4 (nI (cN (b 40)))) x 5 (nI (st + 1))) := ((sEq.rf.pI (List.Mem.head _)).pI (List.Mem.head _)).pI (List.Mem.head _)
    have ho : ∀ y, y ≠ x → sI (pI (pI (pI S x 3 (nI (seaC b))) x 4 (nI (cN (b 40)))) x 5 (nI (st + 1))) y = sI S y := fun y hy => hE.2.2.1 y (fun z => hy (List.mem_singleton.mp z))
    refine ⟨(a1.eq hE (fun y hy => by rw [List.mem_singleton.mp hy]; exact hnx)).sta hs, a2, (gI_k (by decide)).trans ((gI_k (by decide)).trans gI_s), (gI_k (by decide)).trans (gI_s.trans hm.1.symm), gI_s, ⟨by omega, hst⟩, a7, a8, a9, a10, a11, a12, b1.next (ho _ (by omega)), b2.next (ho _ (by omega)), b3.next (ho _ (by omega))⟩
  refine x_iload_n 1 1 (ab_dd tk_cl_suppose 0 rfl) rfl rfl rfl ?_
  refine x_aload_n 2 0 (ab_dd tk_cl_suppose 1 rfl) rfl rfl rfl ?_
  refine t_getI 5 (ab_dd tk_cl_suppose 2 rfl) rfl F_cl_18 (by rcases hK.1 with z | z <;> omega) (Nat.lt_of_le_of_lt (Nat.le_add_right x 9) hK.2.1) hK.2.2.1 rfl (x_topn (seaC a) a3 ?_)
  refine xn_icmp_ne 8 16 (ab_dd tk_cl_suppose 3 rfl) rfl (by decide) (by omega) (by omega) (fun h5 => ?_) (fun h5 => ?_)
  · refine x_aload_n 17 0 (ab_dd tk_cl_suppose 8 rfl) rfl rfl rfl ?_
    refine x_iload_n 18 1 (ab_dd tk_cl_suppose 9 rfl) rfl rfl rfl ?_
    refine t_putI 21 (ab_dd tk_cl_suppose 10 rfl) rfl F_cl_18 (by rcases hK.1 with z | z <;> omega) (Nat.lt_of_le_of_lt (Nat.le_add_right x 9) hK.2.1) hK.2.2.1 rfl rfl rfl ?_
    refine x_aload_n 22 0 (ab_dd tk_cl_suppose 11 rfl) rfl rfl rfl ?_
    refine x_iload_n 23 2 (ab_dd tk_cl_suppose 12 rfl) rfl rfl rfl ?_
    refine t_putI 26 (ab_dd tk_cl_suppose 13 rfl) rfl F_cl_22 (by rcases hK.1 with z | z <;> omega) (Nat.lt_of_le_of_lt (Nat.le_add_right x 9) hK.2.1) hK.2.2.1 rfl rfl rfl ?_
    refine x_aload_n 27 0 (ab_dd tk_cl_suppose 14 rfl) rfl rfl rfl ?_
    refine x_dup 28 (ab_dd tk_cl_suppose 15 rfl) rfl rfl ?_
    refine t_getI 31 (ab_dd tk_cl_suppose 16 rfl) rfl F_cl_25 (by rcases hK.1 with z | z <;> omega) (Nat.lt_of_le_of_lt (Nat.le_add_right x 9) hK.2.1) hK.2.2.1 rfl (x_topn st ((gI_k (by decide)).trans ((gI_k (by decide)).trans a5)) ?_)
    refine x_iconst 32 1 (ab_dd tk_cl_suppose 17 rfl) rfl (by decide) (x_topn 1 rfl ?_)
    refine x_iadd 33 (ab_dd tk_cl_suppose 18 rfl) rfl (x_topn (st + 1) (nI_add _ _) ?_)
    refine t_putI 36 (ab_dd tk_cl_suppose 19 rfl) rfl F_cl_25 (by rcases hK.1 with z | z <;> omega) (Nat.lt_of_le_of_lt (Nat.le_add_right x 9) hK.2.1) hK.2.2.1 rfl rfl rfl ?_
    exact x_vret (ab_dd tk_cl_suppose 20 rfl) ⟨rfl, _, st + 1, rfl, ((sEq.rf.pI (List.Mem.head _)).pI (List.Mem.head _)).pI (List.Mem.head _), new, by omega, Nat.le_refl _⟩
  · refine x_iload_n 9 2 (ab_dd tk_cl_suppose 4 rfl) rfl rfl rfl ?_
    refine x_aload_n 10 0 (ab_dd tk_cl_suppose 5 rfl) rfl rfl rfl ?_
    refine t_getI 13 (ab_dd tk_cl_suppose 6 rfl) rfl F_cl_22 (by rcases hK.1 with z | z <;> omega) (Nat.lt_of_le_of_lt (Nat.le_add_right x 9) hK.2.1) hK.2.2.1 rfl (x_topn (cN (a 40)) a4b ?_)
    refine xn_icmp_eq 16 36 (ab_dd tk_cl_suppose 7 rfl) rfl (by decide) (by omega) (by omega) (fun h13 => ?_) (fun h13 => ?_)
    · exact x_vret (ab_dd tk_cl_suppose 20 rfl) ⟨rfl, S, st, rfl, sEq.rf, hcl.alk ⟨hs, fun r hr => by rw [← seaC_v hb hr, ← seaC_v ha hr, h5], by rw [hm.1, hm2.1, h13]⟩, Nat.le_refl _, by omega⟩
    · refine x_aload_n 17 0 (ab_dd tk_cl_suppose 8 rfl) rfl rfl rfl ?_
      refine x_iload_n 18 1 (ab_dd tk_cl_suppose 9 rfl) rfl rfl rfl ?_
      refine t_putI 21 (ab_dd tk_cl_suppose 10 rfl) rfl F_cl_18 (by rcases hK.1 with z | z <;> omega) (Nat.lt_of_le_of_lt (Nat.le_add_right x 9) hK.2.1) hK.2.2.1 rfl rfl rfl ?_
      refine x_aload_n 22 0 (ab_dd tk_cl_suppose 11 rfl) rfl rfl rfl ?_
      refine x_iload_n 23 2 (ab_dd tk_cl_suppose 12 rfl) rfl rfl rfl ?_
      refine t_putI 26 (ab_dd tk_cl_suppose 13 rfl) rfl F_cl_22 (by rcases hK.1 with z | z <;> omega) (Nat.lt_of_le_of_lt (Nat.le_add_right x 9) hK.2.1) hK.2.2.1 rfl rfl rfl ?_
      refine x_aload_n 27 0 (ab_dd tk_cl_suppose 14 rfl) rfl rfl rfl ?_
      refine x_dup 28 (ab_dd tk_cl_suppose 15 rfl) rfl rfl ?_
      refine t_getI 31 (ab_dd tk_cl_suppose 16 rfl) rfl F_cl_25 (by rcases hK.1 with z | z <;> omega) (Nat.lt_of_le_of_lt (Nat.le_add_right x 9) hK.2.1) hK.2.2.1 rfl (x_topn st ((gI_k (by decide)).trans ((gI_k (by decide)).trans a5)) ?_)
      refine x_iconst 32 1 (ab_dd tk_cl_suppose 17 rfl) rfl (by decide) (x_topn 1 rfl ?_)
      refine x_iadd 33 (ab_dd tk_cl_suppose 18 rfl) rfl (x_topn (st + 1) (nI_add _ _) ?_)
      refine t_putI 36 (ab_dd tk_cl_suppose 19 rfl) rfl F_cl_25 (by rcases hK.1 with z | z <;> omega) (Nat.lt_of_le_of_lt (Nat.le_add_right x 9) hK.2.1) hK.2.2.1 rfl rfl rfl ?_
      exact x_vret (ab_dd tk_cl_suppose 20 rfl) ⟨rfl, _, st + 1, rfl, ((sEq.rf.pI (List.Mem.head _)).pI (List.Mem.head _)).pI (List.Mem.head _), new, by omega, Nat.le_refl _⟩
def tb_cl_nameRider : List (Nat × Instr × Nat) := [(0, .aload_n 0, 1), (1, .getfield 41, 3), (4, .iconst 1, 1), (5, .iload_n 1, 1), (6, .iastore, 1), (7, .aload_n 0, 1), (8, .getfield 41, 3), (11, .iconst 2, 1), (12, .aload_n 0, 1), (13, .getfield 18, 3), (16, .iload_n 1, 1), (17, .invokestatic 96, 3), (20, .iastore, 1), (21, .aload_n 0, 1), (22, .getfield 41, 3), (25, .iconst 3, 1), (26, .iload_n 1, 1), (27, .ifCond .lt 8, 3), (30, .iload_n 1, 1), (31, .iconst 4, 1), (32, .if_icmp .lt 7, 3), (35, .iconst 0, 1), (36, .goto 12, 3), (39, .aload_n 0, 1), (40, .getfield 12, 3), (43, .getfield 110, 3), (46, .iload_n 1, 1), (47, .iaload, 1), (48, .iastore, 1), (49, .aload_n 0, 1), (50, .getfield 41, 3), (53, .iconst 4, 1), (54, .iload_n 2, 1), (55, .iastore, 1), (56, .aload_n 0, 1), (57, .getfield 41, 3), (60, .iconst 5, 1), (61, .iload_n 3, 1), (62, .iastore, 1), (63, .aload_n 0, 1), (64, .getfield 41, 3), (67, .bipush 6, 2), (69, .aload_n 0, 1), (70, .getfield 22, 3), (73, .iastore, 1), (74, .return_, 1)]
theorem tk_cl_nameRider : ∀ q ∈ tb_cl_nameRider, decode M_cl_nameRider.2.1 q.1 = .ok q.2 := by decide +kernel
theorem c_cl_nameRider {G : ab_G} {S : ab_S} {im : Nat → Prop} {x c bh nb st : Nat} {a : Nat → Int32} (hK : clK S x) (him : imO im) (hcl : clI S im x c a bh nb st) (ha : aOk a) (r wa seat : Nat) (hr : r < 4) (hwa : wa < 5) (hseat : seat < 4) : ab_C G 1 M_cl_nameRider [.ref x, .int (nI r), .int (nI wa), .int (nI seat)] (sw S) (fun v w' => v = none ∧ ∃ S', w' = sw S' ∧ sEq [x + 8] S S' ∧ sI S' (x + 8) 1 = nI r ∧ sI S' (x + 8) 2 = a (28 + r) ∧ sI S' (x + 8) 3 = a (8 + r) ∧ sI S' (x + 8) 4 = nI wa ∧ sI S' (x + 8) 5 = nI seat ∧ sI S' (x + 8) 6 = a 40 ∧ ∀ j, 6 < j → sI S' (x + 8) j = sI S (x + 8) j) := by
  refine x_enter [some (.ref x), some (.int (nI r)), some (.int (nI wa)), some (.int (nI seat))] (by decide) (Nat.le_of_ble_eq_true rfl) rfl (fun v w' h => by obtain ⟨rfl, -⟩ := h; trivial) ?_
  obtain ⟨a1, a2, a3, a4, a5, a6, a7, a8, a9, a10, a11, a12, -, -, -⟩ := hcl
  have hxx := hK.1
  obtain ⟨hk, -, -, hcl4, -⟩ := a1
  have hci := him c hk.2.2.2.2.2.2.2.1
  have hci1 := him (c + 1) hk.2.2.2.2.2.2.2.2.1
  have hsl := seaC_lt ha
  have hsv := seaC_v ha hr
  have hcv := hcl4 r hr
  refine x_aload_n 1 0 (ab_dd tk_cl_nameRider 0 rfl) rfl rfl rfl ?_
  refine t_getP 4 (x + 8) (ab_dd tk_cl_nameRider 1 rfl) rfl F_cl_41 (by rcases hK.1 with z | z <;> omega) (Nat.lt_of_le_of_lt (Nat.le_add_right x 9) hK.2.1) hK.2.2.1 rfl hK.2.2.2.2.2.2.2.2.2.2.2.2.1 ?_
  refine x_iconst 5 1 (ab_dd tk_cl_nameRider 2 rfl) rfl (by decide) (x_topn 1 rfl ?_)
  refine x_iload_n 6 1 (ab_dd tk_cl_nameRider 3 rfl) rfl rfl rfl ?_
  refine t_iast 7 1 (ab_dd tk_cl_nameRider 4 rfl) rfl (by rcases hK.1 with z | z <;> omega) (Nat.lt_of_le_of_lt (Nat.add_le_add_left (by decide) x) hK.2.1) hK.2.2.2.2.2.2.1 rfl (by decide) (by decide) ?_
  refine x_aload_n 8 0 (ab_dd tk_cl_nameRider 5 rfl) rfl rfl rfl ?_
  refine t_getP 11 (x + 8) (ab_dd tk_cl_nameRider 6 rfl) rfl F_cl_41 (by rcases hK.1 with z | z <;> omega) (Nat.lt_of_le_of_lt (Nat.le_add_right x 9) hK.2.1) hK.2.2.1 rfl hK.2.2.2.2.2.2.2.2.2.2.2.2.1 ?_
  refine x_iconst 12 2 (ab_dd tk_cl_nameRider 7 rfl) rfl (by decide) (x_topn 2 rfl ?_)
  refine x_aload_n 13 0 (ab_dd tk_cl_nameRider 8 rfl) rfl rfl rfl ?_
  refine t_getI 16 (ab_dd tk_cl_nameRider 9 rfl) rfl F_cl_18 (by rcases hK.1 with z | z <;> omega) (Nat.lt_of_le_of_lt (Nat.le_add_right x 9) hK.2.1) hK.2.2.1 rfl (x_topn (seaC a) ((gI_a (by omega)).trans a3) ?_)
  refine x_iload_n 17 1 (ab_dd tk_cl_nameRider 10 rfl) rfl rfl rfl ?_
  refine x_callS 20 M_s_seasonOf 0 2 [_, _] (ab_dd tk_cl_nameRider 11 rfl) rfl (by first | decide | omega) K_s_seasonOf T_s_seasonOf L_cl_96 rfl (Nat.le_of_ble_eq_true rfl) (c_s_seasonOf (seaC a) r (by omega) (by omega)) (fun v1 w1 h1 => ?_)
  obtain ⟨rfl, rfl⟩ := h1
  refine t_iast 21 2 (ab_dd tk_cl_nameRider 12 rfl) rfl (by rcases hK.1 with z | z <;> omega) (Nat.lt_of_le_of_lt (Nat.add_le_add_left (by decide) x) hK.2.1) hK.2.2.2.2.2.2.1 rfl (by decide) (by decide) ?_
  refine x_aload_n 22 0 (ab_dd tk_cl_nameRider 13 rfl) rfl rfl rfl ?_
  refine t_getP 25 (x + 8) (ab_dd tk_cl_nameRider 14 rfl) rfl F_cl_41 (by rcases hK.1 with z | z <;> omega) (Nat.lt_of_le_of_lt (Nat.le_add_right x 9) hK.2.1) hK.2.2.1 rfl hK.2.2.2.2.2.2.2.2.2.2.2.2.1 ?_
  refine x_iconst 26 3 (ab_dd tk_cl_nameRider 15 rfl) rfl (by decide) (x_topn 3 rfl ?_)
  refine x_iload_n 27 1 (ab_dd tk_cl_nameRider 16 rfl) rfl rfl rfl ?_
  refine xn_if_lt 30 35 (ab_dd tk_cl_nameRider 17 rfl) rfl (by decide) (by omega) ?_
  refine x_iload_n 31 1 (ab_dd tk_cl_nameRider 18 rfl) rfl rfl rfl ?_
  refine x_iconst 32 4 (ab_dd tk_cl_nameRider 19 rfl) rfl (by decide) (x_topn 4 rfl ?_)
  refine x_icmp_lt_t 39 (ab_dd tk_cl_nameRider 20 rfl) (by decide) ((nI_ltI (a := r) (b := 4) (by omega) (by omega)).mpr (show r < 4 by omega)) ?_
  refine x_aload_n 40 0 (ab_dd tk_cl_nameRider 23 rfl) rfl rfl rfl ?_
  refine t_getP 43 c (ab_dd tk_cl_nameRider 24 rfl) rfl F_cl_12 (by rcases hK.1 with z | z <;> omega) (Nat.lt_of_le_of_lt (Nat.le_add_right x 9) hK.2.1) hK.2.2.1 rfl a2 ?_
  refine t_getP 46 (c + 1) (ab_dd tk_cl_nameRider 25 rfl) rfl F_cl_110 hk.1 (Nat.lt_of_le_of_lt (Nat.le_add_right c 2) hk.2.1) hk.2.2.1 rfl hk.2.2.2.2.2.1 ?_
  refine x_iload_n 47 1 (ab_dd tk_cl_nameRider 26 rfl) rfl rfl rfl ?_
  refine t_iald 48 r (ab_dd tk_cl_nameRider 27 rfl) rfl (Nat.le_trans hk.1 (Nat.le_add_right c 1)) (Nat.lt_of_le_of_lt (Nat.add_le_add_left (by decide) c) hk.2.1) hk.2.2.2.1 rfl (by omega) (by decide) (x_topx (a (8 + r)) ((gI_a (by omega)).trans ((gI_a (by omega)).trans hcv)) ?_)
  refine t_iast 49 3 (ab_dd tk_cl_nameRider 28 rfl) rfl (by rcases hK.1 with z | z <;> omega) (Nat.lt_of_le_of_lt (Nat.add_le_add_left (by decide) x) hK.2.1) hK.2.2.2.2.2.2.1 rfl (by decide) (by decide) ?_
  refine x_aload_n 50 0 (ab_dd tk_cl_nameRider 29 rfl) rfl rfl rfl ?_
  refine t_getP 53 (x + 8) (ab_dd tk_cl_nameRider 30 rfl) rfl F_cl_41 (by rcases hK.1 with z | z <;> omega) (Nat.lt_of_le_of_lt (Nat.le_add_right x 9) hK.2.1) hK.2.2.1 rfl hK.2.2.2.2.2.2.2.2.2.2.2.2.1 ?_
  refine x_iconst 54 4 (ab_dd tk_cl_nameRider 31 rfl) rfl (by decide) (x_topn 4 rfl ?_)
  refine x_iload_n 55 2 (ab_dd tk_cl_nameRider 32 rfl) rfl rfl rfl ?_
  refine t_iast 56 4 (ab_dd tk_cl_nameRider 33 rfl) rfl (by rcases hK.1 with z | z <;> omega) (Nat.lt_of_le_of_lt (Nat.add_le_add_left (by decide) x) hK.2.1) hK.2.2.2.2.2.2.1 rfl (by decide) (by decide) ?_
  refine x_aload_n 57 0 (ab_dd tk_cl_nameRider 34 rfl) rfl rfl rfl ?_
  refine t_getP 60 (x + 8) (ab_dd tk_cl_nameRider 35 rfl) rfl F_cl_41 (by rcases hK.1 with z | z <;> omega) (Nat.lt_of_le_of_lt (Nat.le_add_right x 9) hK.2.1) hK.2.2.1 rfl hK.2.2.2.2.2.2.2.2.2.2.2.2.1 ?_
  refine x_iconst 61 5 (ab_dd tk_cl_nameRider 36 rfl) rfl (by decide) (x_topn 5 rfl ?_)
  refine x_iload_n 62 3 (ab_dd tk_cl_nameRider 37 rfl) rfl rfl rfl ?_
  refine t_iast 63 5 (ab_dd tk_cl_nameRider 38 rfl) rfl (by rcases hK.1 with z | z <;> omega) (Nat.lt_of_le_of_lt (Nat.add_le_add_left (by decide) x) hK.2.1) hK.2.2.2.2.2.2.1 rfl (by decide) (by decide) ?_
  refine x_aload_n 64 0 (ab_dd tk_cl_nameRider 39 rfl) rfl rfl rfl ?_
  refine t_getP 67 (x + 8) (ab_dd tk_cl_nameRider 40 rfl) rfl F_cl_41 (by rcases hK.1 with z | z <;> omega) (Nat.lt_of_le_of_lt (Nat.le_add_right x 9) hK.2.1) hK.2.2.1 rfl hK.2.2.2.2.2.2.2.2.2.2.2.2.1 ?_
  refine x_bipush 69 6 (ab_dd tk_cl_nameRider 41 rfl) rfl (by decide) (x_topn 6 rfl ?_)
  refine x_aload_n 70 0 (ab_dd tk_cl_nameRider 42 rfl) rfl rfl rfl ?_
  refine t_getI 73 (ab_dd tk_cl_nameRider 43 rfl) rfl F_cl_22 (by rcases hK.1 with z | z <;> omega) (Nat.lt_of_le_of_lt (Nat.le_add_right x 9) hK.2.1) hK.2.2.1 rfl (x_topx (a 40) ((gI_a (by omega)).trans ((gI_a (by omega)).trans ((gI_a (by omega)).trans ((gI_a (by omega)).trans ((gI_a (by omega)).trans a4))))) ?_)
  refine t_iast 74 6 (ab_dd tk_cl_nameRider 44 rfl) rfl (by rcases hK.1 with z | z <;> omega) (Nat.lt_of_le_of_lt (Nat.add_le_add_left (by decide) x) hK.2.1) hK.2.2.2.2.2.2.1 rfl (by decide) (by decide) ?_
  exact x_vret (ab_dd tk_cl_nameRider 45 rfl) ⟨rfl, _, rfl, ((((((sEq.rf.pI (List.Mem.head _)).pI (List.Mem.head _)).pI (List.Mem.head _)).pI (List.Mem.head _)).pI (List.Mem.head _)).pI (List.Mem.head _)), ((gI_k (by decide)).trans ((gI_k (by decide)).trans ((gI_k (by decide)).trans ((gI_k (by decide)).trans ((gI_k (by decide)).trans gI_s))))), (((gI_k (by decide)).trans ((gI_k (by decide)).trans ((gI_k (by decide)).trans ((gI_k (by decide)).trans gI_s))))).trans hsv, ((gI_k (by decide)).trans ((gI_k (by decide)).trans ((gI_k (by decide)).trans gI_s))), ((gI_k (by decide)).trans ((gI_k (by decide)).trans gI_s)), ((gI_k (by decide)).trans gI_s), gI_s, fun j hj => ((gI_k (by omega)).trans ((gI_k (by omega)).trans ((gI_k (by omega)).trans ((gI_k (by omega)).trans ((gI_k (by omega)).trans ((gI_k (by omega)).trans rfl))))))⟩
