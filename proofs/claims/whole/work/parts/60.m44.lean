/-! ===== lines ===== -/
abbrev nR : Type := (Nat × Nat) ⊕ (Nat × Nat)
abbrev lR : Type := (Nat × Nat) ⊕ (Nat × (Nat → Int32))
def xN (tp : Nat → Nat) (n hi p : Nat) : nR := if tK tp n p = 23 then (if tN tp n p ≤ hi then .inr (tE tp n p, tN tp n p) else .inl (pE tp n p 3)) else .inl (pE tp n p 2)
def xM (tp : Nat → Nat) (n K hi p : Nat) : nR := if tK tp n p = K then xN tp n hi (tE tp n p) else .inl (pE tp n p 2)
def bN (r : nR) (f : Nat → Nat → lR) : lR := match r with
  | .inl e => .inl e
  | .inr x => f x.1 x.2
def lB (r : lR) (f : Nat → (Nat → Int32) → lR) : lR := match r with
  | .inl e => .inl e
  | .inr x => f x.1 x.2
def wX (tp : Nat → Nat) (n K p : Nat) (f : Nat → lR) : lR := if tK tp n p = K then f (tE tp n p) else .inl (pE tp n p 2)
/-- the likings of the rider r from the season k on -/
def lks (tp : Nat → Nat) (n r : Nat) : Nat → Nat → Nat → (Nat → Int32) → lR
  | 0, _, p, F => .inr (p, F)
  | m + 1, k, p, F => bN (xN tp n 9 p) (fun q v => lks tp n r m (k + 1) q (up1 F (12 + 4 * r + k) (nI v)))
def fg (tp : Nat → Nat) (n r p : Nat) (F : Nat → Int32) : lR := if tK tp n p = 5 then bN (xN tp n 4 (tE tp n p)) (fun q v => .inr (q, up1 F (32 + r) (nI v))) else lks tp n r 4 0 (tE tp n p) F
def fl (tp : Nat → Nat) (n r : Nat) : Nat → Nat → (Nat → Int32) → lR
  | 0, p, F => .inr (p, F)
  | g + 1, p, F => if tK tp n p = 5 ∨ tK tp n p = 6 then lB (fg tp n r p F) (fun q F => fl tp n r g q F) else .inr (p, F)
def rdr (tp : Nat → Nat) (n p : Nat) (F : Nat → Int32) : lR := if cN (F 1) = 4 then .inl (pE tp n p 4) else bN (xM tp n 3 3 (tE tp n p)) (fun p1 s => bN (xM tp n 4 9 p1) (fun p2 c => lB (fl tp n (cN (F 1)) 1000 p2 (up1 (up1 (up1 (up1 F (28 + cN (F 1)) (nI s)) (8 + cN (F 1)) (nI c)) (32 + cN (F 1)) (nI 2)) (36 + cN (F 1)) (nI (cN (F 1))))) (fun p3 F3 => .inr (p3, up1 F3 1 (nI (cN (F 1) + 1))))))
def lwF (la N : Nat) (F : Nat → Int32) (c : List Nat) : Nat → Int32 := up1 (up1 (up1 (appC N F c) (2 + la) (nI 1)) (4 + la) (nI N)) (6 + la) (nI c.length)
def lwr (tp : Nat → Nat) (n la p : Nat) (F : Nat → Int32) : lR := wX tp n 31 (tE tp n p) (fun p1 => match pS tp n la 8000 (if la = 0 then 2 else 5) 0 p1 with
  | .inl e => .inl e
  | .inr x => .inr (x.1, lwF la (cN (F 183)) F x.2))
def lnr (tp : Nat → Nat) (n p : Nat) (F : Nat → Int32) : lR := if tK tp n p = 2 then rdr tp n p F else if tK tp n p = 7 ∨ tK tp n p = 8 then lwr tp n (tK tp n p - 7) p F else .inl (pE tp n p 2)
def cls (tp : Nat → Nat) (n p : Nat) (F : Nat → Int32) : lR := wX tp n 30 p (fun q => .inr (q, up1 F 0 (F 0 + 1)))
def trL (tp : Nat → Nat) (n : Nat) : Nat → Nat → (Nat → Int32) → lR
  | 0, p, F => .inr (p, F)
  | g + 1, p, F => if tK tp n p = 24 then .inr (p, F) else lB (lnr tp n p F) (fun q F => lB (cls tp n q F) (fun q F => trL tp n g q F))
def trn (tp : Nat → Nat) (n : Nat) (F : Nat → Int32) : lR := wX tp n 0 0 (fun p1 => bN (xM tp n 1 9 p1) (fun p2 m => lB (cls tp n p2 (up1 F 40 (nI m))) (fun p3 F => trL tp n 1000 p3 F)))
theorem up2_row {f : Nat → Nat → Int32} {a k : Nat} {x : Int32} : up2 f a k x a = up1 (f a) k x := by
  funext j
  unfold up2 up1
  rw [if_pos rfl]
theorem row_up {S : ab_S} {F : Nat → Int32} (j : Nat) (x : Int32) (h : sI S 124 = F) : sI (pI S 124 j x) 124 = up1 F j x := by
  rw [← h]
  exact (up2_row : up2 (sI S) 124 j x 124 = _)
theorem rF.p4 {S U : ab_S} {j : Nat} {x : Int32} (h : rF S U) : rF S (pI U 124 j x) := ⟨h.1.pI (by decide), h.2⟩
theorem rL.p4 {U : ab_S} {tp : Nat → Nat} {n p j : Nat} {x : Int32} (h : rL U tp n p) : rL (pI U 124 j x) tp n p := h.eq (sEq.pI (l := [124]) sEq.rf (by decide)) (by decide) (by decide)
theorem rD.p4 {U : ab_S} {e : Nat × Nat} {j : Nat} {x : Int32} (h : rD U e) : rD (pI U 124 j x) e := h
def rN (S : ab_S) (tp : Nat → Nat) (n hi : Nat) (r : nR) (v : Option Value) (w' : ab_H) : Prop := ∃ S', w' = sw S' ∧ rF S S' ∧ sI S' 124 = sI S 124 ∧ (match r with
  | .inl e => rD S' e ∧ ∃ x : Int32, v = some (.int x)
  | .inr y => v = some (.int (nI y.2)) ∧ rL S' tp n y.1 ∧ y.2 ≤ hi)
theorem rN_ok {S : ab_S} {tp : Nat → Nat} {n hi : Nat} {r : nR} {v : Option Value} {w' : ab_H} (h : rN S tp n hi r v w') : ∃ x : Int32, v = some (.int x) := by
  obtain ⟨S', -, -, -, h⟩ := h
  split at h
  · exact h.2
  · exact ⟨_, h.1⟩
theorem xN_g {tp : Nat → Nat} {n hi p q v : Nat} (hp : p ≤ n) (h : xN tp n hi p = .inr (q, v)) : p < q ∧ q ≤ n ∧ v ≤ hi := by
  unfold xN at h
  split at h
  · split at h
    · obtain ⟨rfl, rfl⟩ := Prod.mk.inj (Sum.inr.inj h)
      have := tE_g (tp := tp) hp (show tK tp n p ≠ 24 by omega)
      omega
    · cases h
  · cases h
theorem xM_g {tp : Nat → Nat} {n K hi p q v : Nat} (hK : K ≠ 24) (hp : p ≤ n) (h : xM tp n K hi p = .inr (q, v)) : p < q ∧ q ≤ n ∧ v ≤ hi := by
  unfold xM at h
  split at h
  · have := tE_g (tp := tp) hp (show tK tp n p ≠ 24 by omega)
    have := xN_g this.2 h
    omega
  · cases h
def tb_m_takes : List (Nat × Instr × Nat) := [(0, .aload_n 0, 1), (1, .bipush 23, 2), (3, .invokevirtual 149, 3), (6, .ifCond .ne 11, 3), (9, .aload_n 0, 1), (10, .iconst 2, 1), (11, .invokevirtual 155, 3), (14, .goto 23, 3), (17, .aload_n 0, 1), (18, .getfield 138, 3), (21, .i2l, 1), (22, .iload_n 1, 1), (23, .i2l, 1), (24, .iload_n 2, 1), (25, .i2l, 1), (26, .invokestatic 159, 3), (29, .ifCond .ne 8, 3), (32, .aload_n 0, 1), (33, .iconst 3, 1), (34, .invokevirtual 155, 3), (37, .aload_n 0, 1), (38, .getfield 138, 3), (41, .istore_n 3, 1), (42, .aload_n 0, 1), (43, .getfield 143, 3), (46, .ifCond .ne 7, 3), (49, .aload_n 0, 1), (50, .invokevirtual 152, 3), (53, .iload_n 3, 1), (54, .ireturn, 1)]
theorem tk_m_takes : ∀ q ∈ tb_m_takes, decode M_m_takes.2.1 q.1 = .ok q.2 := by decide +kernel
theorem L_takes {G : ab_G} {S : ab_S} {tp : Nat → Nat} {n p : Nat} (hL : rL S tp n p) (hi : Nat) (hhi : hi < 1000) : ab_C G 6 M_m_takes [.ref 120, .int (nI 0), .int (nI hi)] (sw S) (rN S tp n hi (xN tp n hi p)) := by
  refine x_enter [some (.ref 120), some (.int (nI 0)), some (.int (nI hi)), none] (by decide) (Nat.le_of_ble_eq_true rfl) rfl (fun v w' h => by obtain ⟨x, rfl⟩ := rN_ok h; rfl) ?_
  have hk42 := tK_lt tp n p
  have hp := hL.2.2.2.2.2.1
  have hn9 := hL.2.2.2.1
  have hr42 := tN_lt (tp := tp) hp
  refine x_aload_n 1 0 (ab_dd tk_m_takes 0 rfl) rfl rfl rfl ?_
  refine x_bipush 3 23 (ab_dd tk_m_takes 1 rfl) rfl (by decide) (x_topn 23 rfl ?_)
  refine t_callV 6 M_m_is 0 1 [_] (ab_dd tk_m_takes 2 rfl) rfl (by first | decide | omega) K_m_is V_m_is.1 V_m_is.2 L_m_149 rfl (Nat.le_of_ble_eq_true rfl) (by decide) (Nat.lt_of_lt_of_le (by decide) hL.1.1) (hL.1.2.1 0 (by decide)) rfl (L_is hL 23 (by decide)) (fun v1 w1 h1 => ?_)
  obtain ⟨rfl, rfl⟩ := h1
  refine xb_if_ne 9 17 (ab_dd tk_m_takes 3 rfl) rfl (by decide) (fun h6 => ?_) (fun h6 => ?_)
  · have hr43 := hr42 h6
    refine x_aload_n 18 0 (ab_dd tk_m_takes 8 rfl) rfl rfl rfl ?_
    refine t_getI 21 (ab_dd tk_m_takes 9 rfl) rfl F_m_138 (by decide) (Nat.lt_of_lt_of_le (by decide) hL.1.1) (hL.1.2.1 0 (by decide)) rfl (x_topn (tN tp n p) (hL.2.2.2.2.2.2.1.2.2.2 h6) ?_)
    refine x_i2l 22 (ab_dd tk_m_takes 10 rfl) rfl (x_topL (lN (tN tp n p)) (nI_l (by omega)) ?_)
    refine x_iload_n 23 1 (ab_dd tk_m_takes 11 rfl) rfl rfl rfl ?_
    refine x_i2l 24 (ab_dd tk_m_takes 12 rfl) rfl (x_topL (lN 0) (nI_l (by omega)) ?_)
    refine x_iload_n 25 2 (ab_dd tk_m_takes 13 rfl) rfl rfl rfl ?_
    refine x_i2l 26 (ab_dd tk_m_takes 14 rfl) rfl (x_topL (lN hi) (nI_l (by omega)) ?_)
    refine x_callS 29 M_m_within 0 3 [_, _, _] (ab_dd tk_m_takes 15 rfl) rfl (by first | decide | omega) K_m_within T_m_within L_m_159 rfl (Nat.le_of_ble_eq_true rfl) (w_inN 0 hi (tN tp n p) rfl rfl (by decide) (by omega) (by omega)) (fun v1 w1 h1 => ?_)
    obtain ⟨rfl, rfl⟩ := h1
    refine xb_if_ne 32 37 (ab_dd tk_m_takes 16 rfl) rfl (by decide) (fun h29 => ?_) (fun h29 => ?_)
    · refine x_aload_n 38 0 (ab_dd tk_m_takes 20 rfl) rfl rfl rfl ?_
      refine t_getI 41 (ab_dd tk_m_takes 21 rfl) rfl F_m_138 (by decide) (Nat.lt_of_lt_of_le (by decide) hL.1.1) (hL.1.2.1 0 (by decide)) rfl (x_topn (tN tp n p) (hL.2.2.2.2.2.2.1.2.2.2 h6) ?_)
      refine x_istore_n 42 [some (.ref 120), some (.int (nI 0)), some (.int (nI hi)), some (.int (nI (tN tp n p)))] 3 (ab_dd tk_m_takes 22 rfl) rfl rfl (by decide) rfl ?_
      refine x_aload_n 43 0 (ab_dd tk_m_takes 23 rfl) rfl rfl rfl ?_
      refine t_getI 46 (ab_dd tk_m_takes 24 rfl) rfl F_m_143 (by decide) (Nat.lt_of_lt_of_le (by decide) hL.1.1) (hL.1.2.1 0 (by decide)) rfl (x_topn 0 hL.2.2.2.2.2.2.2 ?_)
      refine x_if_ne_f 49 (ab_dd tk_m_takes 25 rfl) rfl 53 (by decide) ((nI_eq (a := 0) (b := 0) (by omega) (by omega)).mpr (show 0 = 0 by omega)) ?_
      refine x_aload_n 50 0 (ab_dd tk_m_takes 26 rfl) rfl rfl rfl ?_
      refine t_callV 53 M_m_next 5 0 [] (ab_dd tk_m_takes 27 rfl) rfl (by first | decide | omega) K_m_next V_m_next.1 V_m_next.2 L_m_152 rfl (Nat.le_of_ble_eq_true rfl) (by decide) (Nat.lt_of_lt_of_le (by decide) hL.1.1) (hL.1.2.1 0 (by decide)) rfl (L_next hL (by omega)) (fun v1 w1 h1 => ?_)
      obtain ⟨rfl, U1, rfl, uF1, uC1, uL1⟩ := h1
      have ht1 := tE_g hL.2.2.2.2.2.1 (show tK tp n p ≠ 24 by omega)
      refine x_iload_n 54 3 (ab_dd tk_m_takes 28 rfl) rfl rfl rfl ?_
      have hsp : xN tp n hi p = .inr (tE tp n p, tN tp n p) := by unfold xN; rw [if_pos h6, if_pos h29.2]
      exact x_iret (ab_dd tk_m_takes 29 rfl) ⟨_, rfl, (rF.rf.tr uF1), (uC1.trans rfl), by rw [hsp]; exact ⟨rfl, uL1, h29.2⟩⟩
    · refine x_aload_n 33 0 (ab_dd tk_m_takes 17 rfl) rfl rfl rfl ?_
      refine x_iconst 34 3 (ab_dd tk_m_takes 18 rfl) rfl (by decide) (x_topn 3 rfl ?_)
      refine t_callV 37 M_m_fails 0 1 [_] (ab_dd tk_m_takes 19 rfl) rfl (by first | decide | omega) K_m_fails V_m_fails.1 V_m_fails.2 L_m_155 rfl (Nat.le_of_ble_eq_true rfl) (by decide) (Nat.lt_of_lt_of_le (by decide) hL.1.1) (hL.1.2.1 0 (by decide)) rfl (L_fails hL 3 (by decide) (by decide)) (fun v1 w1 h1 => ?_)
      obtain ⟨rfl, U2, rfl, uF2, uQ2, uD2⟩ := h1
      have hu2 := uD2.2.2.2
      refine x_aload_n 38 0 (ab_dd tk_m_takes 20 rfl) rfl rfl rfl ?_
      refine t_getI 41 (ab_dd tk_m_takes 21 rfl) rfl F_m_138 (by decide) (Nat.lt_of_lt_of_le (by decide) uD2.1.1) (uD2.1.2.1 0 (by decide)) rfl (x_topx (sI U2 120 10) rfl ?_)
      refine x_istore_n 42 [some (.ref 120), some (.int (nI 0)), some (.int (nI hi)), some (.int ((sI U2 120 10)))] 3 (ab_dd tk_m_takes 22 rfl) rfl rfl (by decide) rfl ?_
      refine x_aload_n 43 0 (ab_dd tk_m_takes 23 rfl) rfl rfl rfl ?_
      refine t_getI 46 (ab_dd tk_m_takes 24 rfl) rfl F_m_143 (by decide) (Nat.lt_of_lt_of_le (by decide) uD2.1.1) (uD2.1.2.1 0 (by decide)) rfl (x_topn ((pE tp n p 3).1) uD2.2.1 ?_)
      refine x_if_ne_t 53 (ab_dd tk_m_takes 25 rfl) (by decide) (fun z => absurd ((nI_eq (a := ((pE tp n p 3).1)) (b := 0) (by omega) (by omega)).mp z) (show ¬ (((pE tp n p 3).1) = 0) by (show (pE tp n p 3).1 ≠ 0; omega))) ?_
      refine x_iload_n 54 3 (ab_dd tk_m_takes 28 rfl) rfl rfl rfl ?_
      have hsp : xN tp n hi p = .inl (pE tp n p 3) := by unfold xN; rw [if_pos h6, if_neg (by omega)]
      exact x_iret (ab_dd tk_m_takes 29 rfl) ⟨_, rfl, (rF.rf.tr uF2), uQ2.2.2.1 124 (by decide), by rw [hsp]; exact ⟨uD2, _, rfl⟩⟩
  · refine x_aload_n 10 0 (ab_dd tk_m_takes 4 rfl) rfl rfl rfl ?_
    refine x_iconst 11 2 (ab_dd tk_m_takes 5 rfl) rfl (by decide) (x_topn 2 rfl ?_)
    refine t_callV 14 M_m_fails 0 1 [_] (ab_dd tk_m_takes 6 rfl) rfl (by first | decide | omega) K_m_fails V_m_fails.1 V_m_fails.2 L_m_155 rfl (Nat.le_of_ble_eq_true rfl) (by decide) (Nat.lt_of_lt_of_le (by decide) hL.1.1) (hL.1.2.1 0 (by decide)) rfl (L_fails hL 2 (by decide) (by decide)) (fun v1 w1 h1 => ?_)
    obtain ⟨rfl, U3, rfl, uF3, uQ3, uD3⟩ := h1
    have hu3 := uD3.2.2.2
    refine x_goto 37 (ab_dd tk_m_takes 7 rfl) (by decide) ?_
    refine x_aload_n 38 0 (ab_dd tk_m_takes 20 rfl) rfl rfl rfl ?_
    refine t_getI 41 (ab_dd tk_m_takes 21 rfl) rfl F_m_138 (by decide) (Nat.lt_of_lt_of_le (by decide) uD3.1.1) (uD3.1.2.1 0 (by decide)) rfl (x_topx (sI U3 120 10) rfl ?_)
    refine x_istore_n 42 [some (.ref 120), some (.int (nI 0)), some (.int (nI hi)), some (.int ((sI U3 120 10)))] 3 (ab_dd tk_m_takes 22 rfl) rfl rfl (by decide) rfl ?_
    refine x_aload_n 43 0 (ab_dd tk_m_takes 23 rfl) rfl rfl rfl ?_
    refine t_getI 46 (ab_dd tk_m_takes 24 rfl) rfl F_m_143 (by decide) (Nat.lt_of_lt_of_le (by decide) uD3.1.1) (uD3.1.2.1 0 (by decide)) rfl (x_topn ((pE tp n p 2).1) uD3.2.1 ?_)
    refine x_if_ne_t 53 (ab_dd tk_m_takes 25 rfl) (by decide) (fun z => absurd ((nI_eq (a := ((pE tp n p 2).1)) (b := 0) (by omega) (by omega)).mp z) (show ¬ (((pE tp n p 2).1) = 0) by (show (pE tp n p 2).1 ≠ 0; omega))) ?_
    refine x_iload_n 54 3 (ab_dd tk_m_takes 28 rfl) rfl rfl rfl ?_
    have hsp : xN tp n hi p = .inl (pE tp n p 2) := by unfold xN; rw [if_neg h6]
    exact x_iret (ab_dd tk_m_takes 29 rfl) ⟨_, rfl, (rF.rf.tr uF3), uQ3.2.2.1 124 (by decide), by rw [hsp]; exact ⟨uD3, _, rfl⟩⟩
theorem D_takes {G : ab_G} {S : ab_S} {e : Nat × Nat} (hD : rD S e) (x y : Int32) : ab_C G 6 M_m_takes [.ref 120, .int x, .int y] (sw S) (fun v w' => (∃ z : Int32, v = some (.int z)) ∧ w' = sw S) := by
  refine x_enter [some (.ref 120), some (.int x), some (.int y), none] (by decide) (Nat.le_of_ble_eq_true rfl) rfl (fun v w' h => by obtain ⟨⟨z, rfl⟩, rfl⟩ := h; rfl) ?_
  have hu := hD.2.2.2
  refine x_aload_n 1 0 (ab_dd tk_m_takes 0 rfl) rfl rfl rfl ?_
  refine x_bipush 3 23 (ab_dd tk_m_takes 1 rfl) rfl (by decide) (x_topn 23 rfl ?_)
  refine t_callV 6 M_m_is 0 1 [_] (ab_dd tk_m_takes 2 rfl) rfl (by first | decide | omega) K_m_is V_m_is.1 V_m_is.2 L_m_149 rfl (Nat.le_of_ble_eq_true rfl) (by decide) (Nat.lt_of_lt_of_le (by decide) hD.1.1) (hD.1.2.1 0 (by decide)) rfl (D_is hD _) (fun v1 w1 h1 => ?_)
  obtain ⟨rfl, rfl⟩ := h1
  refine x_if_ne_f 9 (ab_dd tk_m_takes 3 rfl) rfl 17 (by decide) (by decide) ?_
  refine x_aload_n 10 0 (ab_dd tk_m_takes 4 rfl) rfl rfl rfl ?_
  refine x_iconst 11 2 (ab_dd tk_m_takes 5 rfl) rfl (by decide) (x_topn 2 rfl ?_)
  refine t_callV 14 M_m_fails 0 1 [_] (ab_dd tk_m_takes 6 rfl) rfl (by first | decide | omega) K_m_fails V_m_fails.1 V_m_fails.2 L_m_155 rfl (Nat.le_of_ble_eq_true rfl) (by decide) (Nat.lt_of_lt_of_le (by decide) hD.1.1) (hD.1.2.1 0 (by decide)) rfl (D_fails hD _) (fun v1 w1 h1 => ?_)
  obtain ⟨rfl, rfl⟩ := h1
  refine x_goto 37 (ab_dd tk_m_takes 7 rfl) (by decide) ?_
  refine x_aload_n 38 0 (ab_dd tk_m_takes 20 rfl) rfl rfl rfl ?_
  refine t_getI 41 (ab_dd tk_m_takes 21 rfl) rfl F_m_138 (by decide) (Nat.lt_of_lt_of_le (by decide) hD.1.1) (hD.1.2.1 0 (by decide)) rfl (x_topx (sI S 120 10) rfl ?_)
  refine x_istore_n 42 [some (.ref 120), some (.int x), some (.int y), some (.int ((sI S 120 10)))] 3 (ab_dd tk_m_takes 22 rfl) rfl rfl (by decide) rfl ?_
  refine x_aload_n 43 0 (ab_dd tk_m_takes 23 rfl) rfl rfl rfl ?_
  refine t_getI 46 (ab_dd tk_m_takes 24 rfl) rfl F_m_143 (by decide) (Nat.lt_of_lt_of_le (by decide) hD.1.1) (hD.1.2.1 0 (by decide)) rfl (x_topn e.1 hD.2.1 ?_)
  refine x_if_ne_t 53 (ab_dd tk_m_takes 25 rfl) (by decide) (fun z => absurd ((nI_eq (a := e.1) (b := 0) (by omega) (by omega)).mp z) (show ¬ (e.1 = 0) by omega)) ?_
  refine x_iload_n 54 3 (ab_dd tk_m_takes 28 rfl) rfl rfl rfl ?_
  exact x_iret (ab_dd tk_m_takes 29 rfl) ⟨⟨_, rfl⟩, rfl⟩
def tb_m_named : List (Nat × Instr × Nat) := [(0, .aload_n 0, 1), (1, .iload_n 1, 1), (2, .invokevirtual 178, 3), (5, .ifCond .ne 8, 3), (8, .aload_n 0, 1), (9, .iconst 2, 1), (10, .invokevirtual 155, 3), (13, .aload_n 0, 1), (14, .iload_n 2, 1), (15, .iload_n 3, 1), (16, .invokevirtual 199, 3), (19, .ireturn, 1)]
theorem tk_m_named : ∀ q ∈ tb_m_named, decode M_m_named.2.1 q.1 = .ok q.2 := by decide +kernel
theorem L_named {G : ab_G} {S : ab_S} {tp : Nat → Nat} {n p : Nat} (hL : rL S tp n p) (K hi : Nat) (hK : K < 100) (hK4 : K ≠ 24) (hhi : hi < 1000) : ab_C G 7 M_m_named [.ref 120, .int (nI K), .int (nI 0), .int (nI hi)] (sw S) (rN S tp n hi (xM tp n K hi p)) := by
  refine x_enter [some (.ref 120), some (.int (nI K)), some (.int (nI 0)), some (.int (nI hi))] (by decide) (Nat.le_of_ble_eq_true rfl) rfl (fun v w' h => by obtain ⟨x, rfl⟩ := rN_ok h; rfl) ?_
  have hk42 := tK_lt tp n p
  have hp := hL.2.2.2.2.2.1
  have hn9 := hL.2.2.2.1
  have hr42 := tN_lt (tp := tp) hp
  refine x_aload_n 1 0 (ab_dd tk_m_named 0 rfl) rfl rfl rfl ?_
  refine x_iload_n 2 1 (ab_dd tk_m_named 1 rfl) rfl rfl rfl ?_
  refine t_callV 5 M_m_eats 6 1 [_] (ab_dd tk_m_named 2 rfl) rfl (by first | decide | omega) K_m_eats V_m_eats.1 V_m_eats.2 L_m_178 rfl (Nat.le_of_ble_eq_true rfl) (by decide) (Nat.lt_of_lt_of_le (by decide) hL.1.1) (hL.1.2.1 0 (by decide)) rfl (L_eats hL K hK hK4) (fun v1 w1 h1 => ?_)
  rcases h1 with ⟨hk1, rfl, U1, rfl, uF1, uC1, uL1⟩ | ⟨hk1, rfl, rfl⟩
  · have ht1 := tE_g hL.2.2.2.2.2.1 (show tK tp n p ≠ 24 by omega)
    refine x_if_ne_t 13 (ab_dd tk_m_named 3 rfl) (by decide) (by decide) ?_
    refine x_aload_n 14 0 (ab_dd tk_m_named 7 rfl) rfl rfl rfl ?_
    refine x_iload_n 15 2 (ab_dd tk_m_named 8 rfl) rfl rfl rfl ?_
    refine x_iload_n 16 3 (ab_dd tk_m_named 9 rfl) rfl rfl rfl ?_
    refine t_callV 19 M_m_takes 6 2 [_, _] (ab_dd tk_m_named 10 rfl) rfl (by first | decide | omega) K_m_takes V_m_takes.1 V_m_takes.2 L_m_199 rfl (Nat.le_of_ble_eq_true rfl) (by decide) (Nat.lt_of_lt_of_le (by decide) uL1.1.1) (uL1.1.2.1 0 (by decide)) rfl (L_takes uL1 hi (by first | decide | omega)) (fun v1 w1 h1 => ?_)
    obtain ⟨U2, rfl, uF2, uC2, uO2⟩ := h1
    rcases hX2 : xN tp n hi (tE tp n p) with e2 | ⟨q2, v2⟩
    · rw [hX2] at uO2
      obtain ⟨uD2, x2, rfl⟩ := uO2
      have hu2 := uD2.2.2.2
      have hsp : xM tp n K hi p = .inl e2 := by unfold xM; rw [if_pos hk1, hX2]
      exact x_iret (ab_dd tk_m_named 11 rfl) ⟨_, rfl, ((rF.rf.tr uF1).tr uF2), uC2.trans uC1, by rw [hsp]; exact ⟨uD2, _, rfl⟩⟩
    · rw [hX2] at uO2
      obtain ⟨rfl, uL2, uH2⟩ := uO2
      have hg2 := xN_g uL1.2.2.2.2.2.1 hX2
      have hsp : xM tp n K hi p = .inr (q2, v2) := by unfold xM; rw [if_pos hk1, hX2]
      exact x_iret (ab_dd tk_m_named 11 rfl) ⟨_, rfl, ((rF.rf.tr uF1).tr uF2), uC2.trans uC1, by rw [hsp]; exact ⟨rfl, uL2, uH2⟩⟩
  · skip
    refine x_if_ne_f 8 (ab_dd tk_m_named 3 rfl) rfl 13 (by decide) (by decide) ?_
    refine x_aload_n 9 0 (ab_dd tk_m_named 4 rfl) rfl rfl rfl ?_
    refine x_iconst 10 2 (ab_dd tk_m_named 5 rfl) rfl (by decide) (x_topn 2 rfl ?_)
    refine t_callV 13 M_m_fails 0 1 [_] (ab_dd tk_m_named 6 rfl) rfl (by first | decide | omega) K_m_fails V_m_fails.1 V_m_fails.2 L_m_155 rfl (Nat.le_of_ble_eq_true rfl) (by decide) (Nat.lt_of_lt_of_le (by decide) hL.1.1) (hL.1.2.1 0 (by decide)) rfl (L_fails hL 2 (by decide) (by decide)) (fun v1 w1 h1 => ?_)
    obtain ⟨rfl, U3, rfl, uF3, uQ3, uD3⟩ := h1
    have hu3 := uD3.2.2.2
    refine x_aload_n 14 0 (ab_dd tk_m_named 7 rfl) rfl rfl rfl ?_
    refine x_iload_n 15 2 (ab_dd tk_m_named 8 rfl) rfl rfl rfl ?_
    refine x_iload_n 16 3 (ab_dd tk_m_named 9 rfl) rfl rfl rfl ?_
    refine t_callV 19 M_m_takes 6 2 [_, _] (ab_dd tk_m_named 10 rfl) rfl (by first | decide | omega) K_m_takes V_m_takes.1 V_m_takes.2 L_m_199 rfl (Nat.le_of_ble_eq_true rfl) (by decide) (Nat.lt_of_lt_of_le (by decide) uD3.1.1) (uD3.1.2.1 0 (by decide)) rfl (D_takes uD3 _ _) (fun v1 w1 h1 => ?_)
    obtain ⟨⟨x4, rfl⟩, rfl⟩ := h1
    have hsp : xM tp n K hi p = .inl (pE tp n p 2) := by unfold xM; rw [if_neg hk1]
    exact x_iret (ab_dd tk_m_named 11 rfl) ⟨_, rfl, (rF.rf.tr uF3), uQ3.2.2.1 124 (by decide), by rw [hsp]; exact ⟨uD3, _, rfl⟩⟩
theorem D_named {G : ab_G} {S : ab_S} {e : Nat × Nat} (hD : rD S e) (x y z : Int32) : ab_C G 7 M_m_named [.ref 120, .int x, .int y, .int z] (sw S) (fun v w' => (∃ z : Int32, v = some (.int z)) ∧ w' = sw S) := by
  refine x_enter [some (.ref 120), some (.int x), some (.int y), some (.int z)] (by decide) (Nat.le_of_ble_eq_true rfl) rfl (fun v w' h => by obtain ⟨⟨z, rfl⟩, rfl⟩ := h; rfl) ?_
  refine x_aload_n 1 0 (ab_dd tk_m_named 0 rfl) rfl rfl rfl ?_
  refine x_iload_n 2 1 (ab_dd tk_m_named 1 rfl) rfl rfl rfl ?_
  refine t_callV 5 M_m_eats 6 1 [_] (ab_dd tk_m_named 2 rfl) rfl (by first | decide | omega) K_m_eats V_m_eats.1 V_m_eats.2 L_m_178 rfl (Nat.le_of_ble_eq_true rfl) (by decide) (Nat.lt_of_lt_of_le (by decide) hD.1.1) (hD.1.2.1 0 (by decide)) rfl (D_eats hD _) (fun v1 w1 h1 => ?_)
  obtain ⟨rfl, rfl⟩ := h1
  refine x_if_ne_f 8 (ab_dd tk_m_named 3 rfl) rfl 13 (by decide) (by decide) ?_
  refine x_aload_n 9 0 (ab_dd tk_m_named 4 rfl) rfl rfl rfl ?_
  refine x_iconst 10 2 (ab_dd tk_m_named 5 rfl) rfl (by decide) (x_topn 2 rfl ?_)
  refine t_callV 13 M_m_fails 0 1 [_] (ab_dd tk_m_named 6 rfl) rfl (by first | decide | omega) K_m_fails V_m_fails.1 V_m_fails.2 L_m_155 rfl (Nat.le_of_ble_eq_true rfl) (by decide) (Nat.lt_of_lt_of_le (by decide) hD.1.1) (hD.1.2.1 0 (by decide)) rfl (D_fails hD _) (fun v1 w1 h1 => ?_)
  obtain ⟨rfl, rfl⟩ := h1
  refine x_aload_n 14 0 (ab_dd tk_m_named 7 rfl) rfl rfl rfl ?_
  refine x_iload_n 15 2 (ab_dd tk_m_named 8 rfl) rfl rfl rfl ?_
  refine x_iload_n 16 3 (ab_dd tk_m_named 9 rfl) rfl rfl rfl ?_
  refine t_callV 19 M_m_takes 6 2 [_, _] (ab_dd tk_m_named 10 rfl) rfl (by first | decide | omega) K_m_takes V_m_takes.1 V_m_takes.2 L_m_199 rfl (Nat.le_of_ble_eq_true rfl) (by decide) (Nat.lt_of_lt_of_le (by decide) hD.1.1) (hD.1.2.1 0 (by decide)) rfl (D_takes hD _ _) (fun v1 w1 h1 => ?_)
  obtain ⟨⟨x1, rfl⟩, rfl⟩ := h1
  exact x_iret (ab_dd tk_m_named 11 rfl) ⟨⟨_, rfl⟩, rfl⟩
def rK (S : ab_S) (tp : Nat → Nat) (n : Nat) (r : lR) (v : Option Value) (w' : ab_H) : Prop := v = none ∧ ∃ S', w' = sw S' ∧ rF S S' ∧ (match r with
  | .inl e => rD S' e
  | .inr y => rL S' tp n y.1 ∧ sI S' 124 = y.2)
def tb_m_closes : List (Nat × Instr × Nat) := [(0, .aload_n 0, 1), (1, .bipush 30, 2), (3, .invokevirtual 178, 3), (6, .ifCond .ne 8, 3), (9, .aload_n 0, 1), (10, .iconst 2, 1), (11, .invokevirtual 155, 3), (14, .aload_n 0, 1), (15, .getfield 24, 3), (18, .iconst 0, 1), (19, .dup2, 1), (20, .iaload, 1), (21, .iconst 1, 1), (22, .iadd, 1), (23, .iastore, 1), (24, .return_, 1)]
theorem tk_m_closes : ∀ q ∈ tb_m_closes, decode M_m_closes.2.1 q.1 = .ok q.2 := by decide +kernel
theorem L_closes {G : ab_G} {S : ab_S} {tp : Nat → Nat} {n p : Nat} (hL : rL S tp n p) : ab_C G 7 M_m_closes [.ref 120] (sw S) (rK S tp n (cls tp n p (sI S 124))) := by
  refine x_enter [some (.ref 120)] (by decide) (Nat.le_of_ble_eq_true rfl) rfl (fun v w' h => by obtain ⟨rfl, -⟩ := h; trivial) ?_
  have hk42 := tK_lt tp n p
  have hp := hL.2.2.2.2.2.1
  have hn9 := hL.2.2.2.1
  have hr42 := tN_lt (tp := tp) hp
  refine x_aload_n 1 0 (ab_dd tk_m_closes 0 rfl) rfl rfl rfl ?_
  refine x_bipush 3 30 (ab_dd tk_m_closes 1 rfl) rfl (by decide) (x_topn 30 rfl ?_)
  refine t_callV 6 M_m_eats 6 1 [_] (ab_dd tk_m_closes 2 rfl) rfl (by first | decide | omega) K_m_eats V_m_eats.1 V_m_eats.2 L_m_178 rfl (Nat.le_of_ble_eq_true rfl) (by decide) (Nat.lt_of_lt_of_le (by decide) hL.1.1) (hL.1.2.1 0 (by decide)) rfl (L_eats hL 30 (by decide) (by decide)) (fun v1 w1 h1 => ?_)
  rcases h1 with ⟨hk1, rfl, U1, rfl, uF1, uC1, uL1⟩ | ⟨hk1, rfl, rfl⟩
  · have ht1 := tE_g hL.2.2.2.2.2.1 (show tK tp n p ≠ 24 by omega)
    refine x_if_ne_t 14 (ab_dd tk_m_closes 3 rfl) (by decide) (by decide) ?_
    refine x_aload_n 15 0 (ab_dd tk_m_closes 7 rfl) rfl rfl rfl ?_
    refine t_getP 18 124 (ab_dd tk_m_closes 8 rfl) rfl F_m_24 (by decide) (Nat.lt_of_lt_of_le (by decide) uL1.1.1) (uL1.1.2.1 0 (by decide)) rfl (uL1.1.2.2 4 (by decide)) ?_
    refine x_iconst 19 0 (ab_dd tk_m_closes 9 rfl) rfl (by decide) (x_topn 0 rfl ?_)
    refine x_dup2 20 (ab_dd tk_m_closes 10 rfl) rfl rfl rfl ?_
    refine t_iald 21 0 (ab_dd tk_m_closes 11 rfl) rfl (by decide) (Nat.lt_of_lt_of_le (by decide) uL1.1.1) (uL1.1.2.1 4 (by decide)) rfl (by decide) (by decide) (x_topx (sI S 124 0) (congrFun (by exact (uC1.trans rfl)) 0) ?_)
    refine x_iconst 22 1 (ab_dd tk_m_closes 12 rfl) rfl (by decide) (x_topn 1 rfl ?_)
    refine x_iadd 23 (ab_dd tk_m_closes 13 rfl) rfl (x_topx (sI S 124 0 + 1) rfl ?_)
    refine t_iast 24 0 (ab_dd tk_m_closes 14 rfl) rfl (by decide) (Nat.lt_of_lt_of_le (by decide) uL1.1.1) (uL1.1.2.1 4 (by decide)) rfl (by decide) (by decide) ?_
    have hsp : cls tp n p (sI S 124) = .inr (tE tp n p, up1 (sI S 124) 0 (sI S 124 0 + 1)) := by unfold cls wX; rw [if_pos hk1]
    exact x_vret (ab_dd tk_m_closes 15 rfl) ⟨rfl, _, rfl, (rF.p4 (rF.rf.tr uF1)), by rw [hsp]; exact ⟨(rL.p4 uL1), (row_up 0 (sI S 124 0 + 1) (uC1.trans rfl))⟩⟩
  · skip
    refine x_if_ne_f 9 (ab_dd tk_m_closes 3 rfl) rfl 14 (by decide) (by decide) ?_
    refine x_aload_n 10 0 (ab_dd tk_m_closes 4 rfl) rfl rfl rfl ?_
    refine x_iconst 11 2 (ab_dd tk_m_closes 5 rfl) rfl (by decide) (x_topn 2 rfl ?_)
    refine t_callV 14 M_m_fails 0 1 [_] (ab_dd tk_m_closes 6 rfl) rfl (by first | decide | omega) K_m_fails V_m_fails.1 V_m_fails.2 L_m_155 rfl (Nat.le_of_ble_eq_true rfl) (by decide) (Nat.lt_of_lt_of_le (by decide) hL.1.1) (hL.1.2.1 0 (by decide)) rfl (L_fails hL 2 (by decide) (by decide)) (fun v1 w1 h1 => ?_)
    obtain ⟨rfl, U2, rfl, uF2, uQ2, uD2⟩ := h1
    have hu2 := uD2.2.2.2
    refine x_aload_n 15 0 (ab_dd tk_m_closes 7 rfl) rfl rfl rfl ?_
    refine t_getP 18 124 (ab_dd tk_m_closes 8 rfl) rfl F_m_24 (by decide) (Nat.lt_of_lt_of_le (by decide) uD2.1.1) (uD2.1.2.1 0 (by decide)) rfl (uD2.1.2.2 4 (by decide)) ?_
    refine x_iconst 19 0 (ab_dd tk_m_closes 9 rfl) rfl (by decide) (x_topn 0 rfl ?_)
    refine x_dup2 20 (ab_dd tk_m_closes 10 rfl) rfl rfl rfl ?_
    refine t_iald 21 0 (ab_dd tk_m_closes 11 rfl) rfl (by decide) (Nat.lt_of_lt_of_le (by decide) uD2.1.1) (uD2.1.2.1 4 (by decide)) rfl (by decide) (by decide) (x_topx (sI U2 124 0) rfl ?_)
    refine x_iconst 22 1 (ab_dd tk_m_closes 12 rfl) rfl (by decide) (x_topn 1 rfl ?_)
    refine x_iadd 23 (ab_dd tk_m_closes 13 rfl) rfl ?_
    refine t_iast 24 0 (ab_dd tk_m_closes 14 rfl) rfl (by decide) (Nat.lt_of_lt_of_le (by decide) uD2.1.1) (uD2.1.2.1 4 (by decide)) rfl (by decide) (by decide) ?_
    have hsp : cls tp n p (sI S 124) = .inl (pE tp n p 2) := by unfold cls wX; rw [if_neg hk1]
    exact x_vret (ab_dd tk_m_closes 15 rfl) ⟨rfl, _, rfl, (rF.p4 (rF.rf.tr uF2)), by rw [hsp]; exact (rD.p4 uD2)⟩
theorem D_closes {G : ab_G} {S : ab_S} {e : Nat × Nat} (hD : rD S e) : ab_C G 7 M_m_closes [.ref 120] (sw S) (fun v w' => v = none ∧ ∃ S', w' = sw S' ∧ rF S S' ∧ rD S' e) := by
  refine x_enter [some (.ref 120)] (by decide) (Nat.le_of_ble_eq_true rfl) rfl (fun v w' h => by obtain ⟨rfl, -⟩ := h; trivial) ?_
  refine x_aload_n 1 0 (ab_dd tk_m_closes 0 rfl) rfl rfl rfl ?_
  refine x_bipush 3 30 (ab_dd tk_m_closes 1 rfl) rfl (by decide) (x_topn 30 rfl ?_)
  refine t_callV 6 M_m_eats 6 1 [_] (ab_dd tk_m_closes 2 rfl) rfl (by first | decide | omega) K_m_eats V_m_eats.1 V_m_eats.2 L_m_178 rfl (Nat.le_of_ble_eq_true rfl) (by decide) (Nat.lt_of_lt_of_le (by decide) hD.1.1) (hD.1.2.1 0 (by decide)) rfl (D_eats hD _) (fun v1 w1 h1 => ?_)
  obtain ⟨rfl, rfl⟩ := h1
  refine x_if_ne_f 9 (ab_dd tk_m_closes 3 rfl) rfl 14 (by decide) (by decide) ?_
  refine x_aload_n 10 0 (ab_dd tk_m_closes 4 rfl) rfl rfl rfl ?_
  refine x_iconst 11 2 (ab_dd tk_m_closes 5 rfl) rfl (by decide) (x_topn 2 rfl ?_)
  refine t_callV 14 M_m_fails 0 1 [_] (ab_dd tk_m_closes 6 rfl) rfl (by first | decide | omega) K_m_fails V_m_fails.1 V_m_fails.2 L_m_155 rfl (Nat.le_of_ble_eq_true rfl) (by decide) (Nat.lt_of_lt_of_le (by decide) hD.1.1) (hD.1.2.1 0 (by decide)) rfl (D_fails hD _) (fun v1 w1 h1 => ?_)
  obtain ⟨rfl, rfl⟩ := h1
  refine x_aload_n 15 0 (ab_dd tk_m_closes 7 rfl) rfl rfl rfl ?_
  refine t_getP 18 124 (ab_dd tk_m_closes 8 rfl) rfl F_m_24 (by decide) (Nat.lt_of_lt_of_le (by decide) hD.1.1) (hD.1.2.1 0 (by decide)) rfl (hD.1.2.2 4 (by decide)) ?_
  refine x_iconst 19 0 (ab_dd tk_m_closes 9 rfl) rfl (by decide) (x_topn 0 rfl ?_)
  refine x_dup2 20 (ab_dd tk_m_closes 10 rfl) rfl rfl rfl ?_
  refine t_iald 21 0 (ab_dd tk_m_closes 11 rfl) rfl (by decide) (Nat.lt_of_lt_of_le (by decide) hD.1.1) (hD.1.2.1 4 (by decide)) rfl (by decide) (by decide) ?_
  refine x_iconst 22 1 (ab_dd tk_m_closes 12 rfl) rfl (by decide) (x_topn 1 rfl ?_)
  refine x_iadd 23 (ab_dd tk_m_closes 13 rfl) rfl ?_
  refine t_iast 24 0 (ab_dd tk_m_closes 14 rfl) rfl (by decide) (Nat.lt_of_lt_of_le (by decide) hD.1.1) (hD.1.2.1 4 (by decide)) rfl (by decide) (by decide) ?_
  exact x_vret (ab_dd tk_m_closes 15 rfl) ⟨rfl, _, rfl, (rF.p4 rF.rf), (rD.p4 hD)⟩
def tb_m_readFlag : List (Nat × Instr × Nat) := [(0, .aload_n 0, 1), (1, .iconst 5, 1), (2, .invokevirtual 178, 3), (5, .ifCond .eq 21, 3), (8, .aload_n 0, 1), (9, .getfield 24, 3), (12, .bipush 32, 2), (14, .iload_n 1, 1), (15, .iadd, 1), (16, .aload_n 0, 1), (17, .iconst 0, 1), (18, .iconst 4, 1), (19, .invokevirtual 199, 3), (22, .iastore, 1), (23, .goto 57, 3), (26, .aload_n 0, 1), (27, .bipush 6, 2), (29, .invokevirtual 178, 3), (32, .ifCond .eq 46, 3), (35, .iconst 0, 1), (36, .istore_n 2, 1), (37, .iload_n 2, 1), (38, .iconst 4, 1), (39, .if_icmp .ge 36, 3), (42, .aload_n 0, 1), (43, .getfield 143, 3), (46, .ifCond .ne 29, 3), (49, .aload_n 0, 1), (50, .getfield 24, 3), (53, .bipush 12, 2), (55, .iconst 4, 1), (56, .iload_n 1, 1), (57, .imul, 1), (58, .iadd, 1), (59, .iload_n 2, 1), (60, .iadd, 1), (61, .aload_n 0, 1), (62, .iconst 0, 1), (63, .bipush 9, 2), (65, .invokevirtual 199, 3), (68, .iastore, 1), (69, .iinc 2 1, 3), (72, .goto (-35), 3), (75, .goto 5, 3), (78, .iconst 0, 1), (79, .ireturn, 1), (80, .aload_n 0, 1), (81, .getfield 143, 3), (84, .ifCond .ne 7, 3), (87, .iconst 1, 1), (88, .goto 4, 3), (91, .iconst 0, 1), (92, .ireturn, 1)]
theorem tk_m_readFlag : ∀ q ∈ tb_m_readFlag, decode M_m_readFlag.2.1 q.1 = .ok q.2 := by decide +kernel
def rG (S : ab_S) (tp : Nat → Nat) (n p : Nat) (r : lR) (v : Option Value) (w' : ab_H) : Prop := ∃ S', w' = sw S' ∧ rF S S' ∧ ((¬ (tK tp n p = 5 ∨ tK tp n p = 6) ∧ v = some (.int 0) ∧ S' = S) ∨ ((tK tp n p = 5 ∨ tK tp n p = 6) ∧ (match r with
  | .inl e => rD S' e ∧ v = some (.int 0)
  | .inr y => v = some (.int 1) ∧ rL S' tp n y.1 ∧ sI S' 124 = y.2)))
theorem rG_ok {S : ab_S} {tp : Nat → Nat} {n p : Nat} {r : lR} {v : Option Value} {w' : ab_H} (h : rG S tp n p r v w') : v = some (.int 0) ∨ v = some (.int 1) := by
  obtain ⟨S', -, -, h⟩ := h
  rcases h with h | ⟨-, h⟩
  · exact Or.inl h.2.1
  · split at h
    · exact Or.inl h.2
    · exact Or.inr h.1
theorem L_readFlag {G : ab_G} {S : ab_S} {tp : Nat → Nat} {n p : Nat} (hL : rL S tp n p) (r : Nat) (hr4 : r < 4) : ab_C G 7 M_m_readFlag [.ref 120, .int (nI r)] (sw S) (rG S tp n p (fg tp n r p (sI S 124))) := by
  refine x_enter [some (.ref 120), some (.int (nI r)), none] (by decide) (Nat.le_of_ble_eq_true rfl) rfl (fun v w' h => by rcases rG_ok h with rfl | rfl <;> rfl) ?_
  have hk42 := tK_lt tp n p
  have hp := hL.2.2.2.2.2.1
  have hn9 := hL.2.2.2.1
  have hr42 := tN_lt (tp := tp) hp
  have lp : ¬ tK tp n p = 5 → tK tp n p = 6 → ∀ (m k : Nat), k + m = 4 → ∀ (U : ab_S) (q : Nat) (F : Nat → Int32), rF S U → rL U tp n q → sI U 124 = F → fg tp n r p (sI S 124) = lks tp n r m k q F → ab_Ex G 7 M_m_readFlag 37 [some (.ref 120), some (.int (nI r)), some (.int (nI k))] [] (sw U) (rG S tp n p (fg tp n r p (sI S 124))) := by
    intro hno hk6 m
    induction m with
    | zero =>
      intro k hk U q F uF0 uL0 uf0 hsp0
      obtain rfl : k = 4 := by omega
      refine x_iload_n 38 2 (ab_dd tk_m_readFlag 21 rfl) rfl rfl rfl ?_
      refine x_iconst 39 4 (ab_dd tk_m_readFlag 22 rfl) rfl (by decide) (x_topn 4 rfl ?_)
      refine x_icmp_ge_t 75 (ab_dd tk_m_readFlag 23 rfl) (by decide) ((nI_leI (a := 4) (b := 4) (by omega) (by omega)).mpr (show 4 ≤ 4 by omega)) ?_
      refine x_goto 80 (ab_dd tk_m_readFlag 43 rfl) (by decide) ?_
      refine x_aload_n 81 0 (ab_dd tk_m_readFlag 46 rfl) rfl rfl rfl ?_
      refine t_getI 84 (ab_dd tk_m_readFlag 47 rfl) rfl F_m_143 (by decide) (Nat.lt_of_lt_of_le (by decide) uL0.1.1) (uL0.1.2.1 0 (by decide)) rfl (x_topn 0 uL0.2.2.2.2.2.2.2 ?_)
      refine x_if_ne_f 87 (ab_dd tk_m_readFlag 48 rfl) rfl 91 (by decide) ((nI_eq (a := 0) (b := 0) (by omega) (by omega)).mpr (show 0 = 0 by omega)) ?_
      refine x_iconst 88 1 (ab_dd tk_m_readFlag 49 rfl) rfl (by decide) (x_topn 1 rfl ?_)
      refine x_goto 92 (ab_dd tk_m_readFlag 50 rfl) (by decide) ?_
      exact x_iret (ab_dd tk_m_readFlag 52 rfl) ⟨_, rfl, uF0, Or.inr ⟨Or.inr hk6, by rw [hsp0]; exact ⟨rfl, uL0, uf0⟩⟩⟩
    | succ m ih =>
      intro k hk U q F uF0 uL0 uf0 hsp0
      have hun : lks tp n r (m + 1) k q F = bN (xN tp n 9 q) (fun q v => lks tp n r m (k + 1) q (up1 F (12 + 4 * r + k) (nI v))) := rfl
      refine x_iload_n 38 2 (ab_dd tk_m_readFlag 21 rfl) rfl rfl rfl ?_
      refine x_iconst 39 4 (ab_dd tk_m_readFlag 22 rfl) rfl (by decide) (x_topn 4 rfl ?_)
      refine x_icmp_ge_f 42 (ab_dd tk_m_readFlag 23 rfl) rfl 75 (by decide) (fun z => absurd ((nI_leI (a := 4) (b := k) (by omega) (by omega)).mp z) (show ¬ (4 ≤ k) by omega)) ?_
      refine x_aload_n 43 0 (ab_dd tk_m_readFlag 24 rfl) rfl rfl rfl ?_
      refine t_getI 46 (ab_dd tk_m_readFlag 25 rfl) rfl F_m_143 (by decide) (Nat.lt_of_lt_of_le (by decide) uL0.1.1) (uL0.1.2.1 0 (by decide)) rfl (x_topn 0 uL0.2.2.2.2.2.2.2 ?_)
      refine x_if_ne_f 49 (ab_dd tk_m_readFlag 26 rfl) rfl 75 (by decide) ((nI_eq (a := 0) (b := 0) (by omega) (by omega)).mpr (show 0 = 0 by omega)) ?_
      refine x_aload_n 50 0 (ab_dd tk_m_readFlag 27 rfl) rfl rfl rfl ?_
      refine t_getP 53 124 (ab_dd tk_m_readFlag 28 rfl) rfl F_m_24 (by decide) (Nat.lt_of_lt_of_le (by decide) uL0.1.1) (uL0.1.2.1 0 (by decide)) rfl (uL0.1.2.2 4 (by decide)) ?_
      refine x_bipush 55 12 (ab_dd tk_m_readFlag 29 rfl) rfl (by decide) (x_topn 12 rfl ?_)
      refine x_iconst 56 4 (ab_dd tk_m_readFlag 30 rfl) rfl (by decide) (x_topn 4 rfl ?_)
      refine x_iload_n 57 1 (ab_dd tk_m_readFlag 31 rfl) rfl rfl rfl ?_
      refine x_imul 58 (ab_dd tk_m_readFlag 32 rfl) rfl (x_topn (4 * r) (pk_mul _ _) ?_)
      refine x_iadd 59 (ab_dd tk_m_readFlag 33 rfl) rfl (x_topn (12 + (4 * r)) (nI_add _ _) ?_)
      refine x_iload_n 60 2 (ab_dd tk_m_readFlag 34 rfl) rfl rfl rfl ?_
      refine x_iadd 61 (ab_dd tk_m_readFlag 35 rfl) rfl (x_topn ((12 + (4 * r)) + k) (nI_add _ _) ?_)
      refine x_aload_n 62 0 (ab_dd tk_m_readFlag 36 rfl) rfl rfl rfl ?_
      refine x_iconst 63 0 (ab_dd tk_m_readFlag 37 rfl) rfl (by decide) (x_topn 0 rfl ?_)
      refine x_bipush 65 9 (ab_dd tk_m_readFlag 38 rfl) rfl (by decide) (x_topn 9 rfl ?_)
      refine t_callV 68 M_m_takes 6 2 [_, _] (ab_dd tk_m_readFlag 39 rfl) rfl (by first | decide | omega) K_m_takes V_m_takes.1 V_m_takes.2 L_m_199 rfl (Nat.le_of_ble_eq_true rfl) (by decide) (Nat.lt_of_lt_of_le (by decide) uL0.1.1) (uL0.1.2.1 0 (by decide)) rfl (L_takes uL0 9 (by first | decide | omega)) (fun v1 w1 h1 => ?_)
      obtain ⟨U1, rfl, uF1, uC1, uO1⟩ := h1
      rcases hX1 : xN tp n 9 q with e1 | ⟨q1, v1⟩
      · rw [hX1] at uO1
        obtain ⟨uD1, x1, rfl⟩ := uO1
        have hu1 := uD1.2.2.2
        refine t_iast 69 ((12 + (4 * r)) + k) (ab_dd tk_m_readFlag 40 rfl) rfl (by decide) (Nat.lt_of_lt_of_le (by decide) uD1.1.1) (uD1.1.2.1 4 (by decide)) rfl (by omega) (by decide) ?_
        refine xn_iinc 72 2 (fun y => [some (.ref 120), some (.int (nI r)), some (.int y)]) (k + 1) (ab_dd tk_m_readFlag 41 rfl) rfl (by decide) rfl (fun _ => rfl) (iinc_p 1) ?_
        refine x_goto 37 (ab_dd tk_m_readFlag 42 rfl) (by decide) ?_
        refine x_iload_n 38 2 (ab_dd tk_m_readFlag 21 rfl) rfl rfl rfl ?_
        refine x_iconst 39 4 (ab_dd tk_m_readFlag 22 rfl) rfl (by decide) (x_topn 4 rfl ?_)
        refine xn_icmp_ge 42 75 (ab_dd tk_m_readFlag 23 rfl) rfl (by decide) (by omega) (by omega) (fun h39 => ?_) (fun h39 => ?_)
        · refine x_goto 80 (ab_dd tk_m_readFlag 43 rfl) (by decide) ?_
          refine x_aload_n 81 0 (ab_dd tk_m_readFlag 46 rfl) rfl rfl rfl ?_
          refine t_getI 84 (ab_dd tk_m_readFlag 47 rfl) rfl F_m_143 (by decide) (Nat.lt_of_lt_of_le (by decide) uD1.1.1) (uD1.1.2.1 0 (by decide)) rfl (x_topn ((e1).1) ((gI_a (by decide)).trans uD1.2.1) ?_)
          refine x_if_ne_t 91 (ab_dd tk_m_readFlag 48 rfl) (by decide) (fun z => absurd ((nI_eq (a := ((e1).1)) (b := 0) (by omega) (by omega)).mp z) (show ¬ (((e1).1) = 0) by omega)) ?_
          refine x_iconst 92 0 (ab_dd tk_m_readFlag 51 rfl) rfl (by decide) (x_topn 0 rfl ?_)
          exact x_iret (ab_dd tk_m_readFlag 52 rfl) ⟨_, rfl, (rF.p4 (uF0.tr uF1)), Or.inr ⟨Or.inr hk6, by rw [hsp0, hun, hX1]; exact ⟨(rD.p4 uD1), rfl⟩⟩⟩
        · refine x_aload_n 43 0 (ab_dd tk_m_readFlag 24 rfl) rfl rfl rfl ?_
          refine t_getI 46 (ab_dd tk_m_readFlag 25 rfl) rfl F_m_143 (by decide) (Nat.lt_of_lt_of_le (by decide) uD1.1.1) (uD1.1.2.1 0 (by decide)) rfl (x_topn ((e1).1) ((gI_a (by decide)).trans uD1.2.1) ?_)
          refine x_if_ne_t 75 (ab_dd tk_m_readFlag 26 rfl) (by decide) (fun z => absurd ((nI_eq (a := ((e1).1)) (b := 0) (by omega) (by omega)).mp z) (show ¬ (((e1).1) = 0) by omega)) ?_
          refine x_goto 80 (ab_dd tk_m_readFlag 43 rfl) (by decide) ?_
          refine x_aload_n 81 0 (ab_dd tk_m_readFlag 46 rfl) rfl rfl rfl ?_
          refine t_getI 84 (ab_dd tk_m_readFlag 47 rfl) rfl F_m_143 (by decide) (Nat.lt_of_lt_of_le (by decide) uD1.1.1) (uD1.1.2.1 0 (by decide)) rfl (x_topn ((e1).1) ((gI_a (by decide)).trans uD1.2.1) ?_)
          refine x_if_ne_t 91 (ab_dd tk_m_readFlag 48 rfl) (by decide) (fun z => absurd ((nI_eq (a := ((e1).1)) (b := 0) (by omega) (by omega)).mp z) (show ¬ (((e1).1) = 0) by omega)) ?_
          refine x_iconst 92 0 (ab_dd tk_m_readFlag 51 rfl) rfl (by decide) (x_topn 0 rfl ?_)
          exact x_iret (ab_dd tk_m_readFlag 52 rfl) ⟨_, rfl, (rF.p4 (uF0.tr uF1)), Or.inr ⟨Or.inr hk6, by rw [hsp0, hun, hX1]; exact ⟨(rD.p4 uD1), rfl⟩⟩⟩
      · rw [hX1] at uO1
        obtain ⟨rfl, uL1, uH1⟩ := uO1
        have hg1 := xN_g uL0.2.2.2.2.2.1 hX1
        refine t_iast 69 ((12 + (4 * r)) + k) (ab_dd tk_m_readFlag 40 rfl) rfl (by decide) (Nat.lt_of_lt_of_le (by decide) uL1.1.1) (uL1.1.2.1 4 (by decide)) rfl (by omega) (by decide) ?_
        refine xn_iinc 72 2 (fun y => [some (.ref 120), some (.int (nI r)), some (.int y)]) (k + 1) (ab_dd tk_m_readFlag 41 rfl) rfl (by decide) rfl (fun _ => rfl) (iinc_p 1) ?_
        refine x_goto 37 (ab_dd tk_m_readFlag 42 rfl) (by decide) ?_
        exact ih (k + 1) (by omega) _ _ _ (rF.p4 (uF0.tr uF1)) (rL.p4 uL1) (row_up ((12 + (4 * r)) + k) (nI v1) (uC1.trans uf0)) (by rw [hsp0, hun, hX1]; rfl)
  refine x_aload_n 1 0 (ab_dd tk_m_readFlag 0 rfl) rfl rfl rfl ?_
  refine x_iconst 2 5 (ab_dd tk_m_readFlag 1 rfl) rfl (by decide) (x_topn 5 rfl ?_)
  refine t_callV 5 M_m_eats 6 1 [_] (ab_dd tk_m_readFlag 2 rfl) rfl (by first | decide | omega) K_m_eats V_m_eats.1 V_m_eats.2 L_m_178 rfl (Nat.le_of_ble_eq_true rfl) (by decide) (Nat.lt_of_lt_of_le (by decide) hL.1.1) (hL.1.2.1 0 (by decide)) rfl (L_eats hL 5 (by decide) (by decide)) (fun v1 w1 h1 => ?_)
  rcases h1 with ⟨hk1, rfl, U1, rfl, uF1, uC1, uL1⟩ | ⟨hk1, rfl, rfl⟩
  · have ht1 := tE_g hL.2.2.2.2.2.1 (show tK tp n p ≠ 24 by omega)
    refine x_if_eq_f 8 (ab_dd tk_m_readFlag 3 rfl) rfl 26 (by decide) (by decide) ?_
    refine x_aload_n 9 0 (ab_dd tk_m_readFlag 4 rfl) rfl rfl rfl ?_
    refine t_getP 12 124 (ab_dd tk_m_readFlag 5 rfl) rfl F_m_24 (by decide) (Nat.lt_of_lt_of_le (by decide) uL1.1.1) (uL1.1.2.1 0 (by decide)) rfl (uL1.1.2.2 4 (by decide)) ?_
    refine x_bipush 14 32 (ab_dd tk_m_readFlag 6 rfl) rfl (by decide) (x_topn 32 rfl ?_)
    refine x_iload_n 15 1 (ab_dd tk_m_readFlag 7 rfl) rfl rfl rfl ?_
    refine x_iadd 16 (ab_dd tk_m_readFlag 8 rfl) rfl (x_topn (32 + r) (nI_add _ _) ?_)
    refine x_aload_n 17 0 (ab_dd tk_m_readFlag 9 rfl) rfl rfl rfl ?_
    refine x_iconst 18 0 (ab_dd tk_m_readFlag 10 rfl) rfl (by decide) (x_topn 0 rfl ?_)
    refine x_iconst 19 4 (ab_dd tk_m_readFlag 11 rfl) rfl (by decide) (x_topn 4 rfl ?_)
    refine t_callV 22 M_m_takes 6 2 [_, _] (ab_dd tk_m_readFlag 12 rfl) rfl (by first | decide | omega) K_m_takes V_m_takes.1 V_m_takes.2 L_m_199 rfl (Nat.le_of_ble_eq_true rfl) (by decide) (Nat.lt_of_lt_of_le (by decide) uL1.1.1) (uL1.1.2.1 0 (by decide)) rfl (L_takes uL1 4 (by first | decide | omega)) (fun v1 w1 h1 => ?_)
    obtain ⟨U2, rfl, uF2, uC2, uO2⟩ := h1
    rcases hX2 : xN tp n 4 (tE tp n p) with e2 | ⟨q2, v2⟩
    · rw [hX2] at uO2
      obtain ⟨uD2, x2, rfl⟩ := uO2
      have hu2 := uD2.2.2.2
      refine t_iast 23 (32 + r) (ab_dd tk_m_readFlag 13 rfl) rfl (by decide) (Nat.lt_of_lt_of_le (by decide) uD2.1.1) (uD2.1.2.1 4 (by decide)) rfl (by omega) (by decide) ?_
      refine x_goto 80 (ab_dd tk_m_readFlag 14 rfl) (by decide) ?_
      refine x_aload_n 81 0 (ab_dd tk_m_readFlag 46 rfl) rfl rfl rfl ?_
      refine t_getI 84 (ab_dd tk_m_readFlag 47 rfl) rfl F_m_143 (by decide) (Nat.lt_of_lt_of_le (by decide) uD2.1.1) (uD2.1.2.1 0 (by decide)) rfl (x_topn ((e2).1) ((gI_a (by decide)).trans uD2.2.1) ?_)
      refine x_if_ne_t 91 (ab_dd tk_m_readFlag 48 rfl) (by decide) (fun z => absurd ((nI_eq (a := ((e2).1)) (b := 0) (by omega) (by omega)).mp z) (show ¬ (((e2).1) = 0) by omega)) ?_
      refine x_iconst 92 0 (ab_dd tk_m_readFlag 51 rfl) rfl (by decide) (x_topn 0 rfl ?_)
      have hsp : fg tp n r p (sI S 124) = .inl e2 := by unfold fg; rw [if_pos hk1, hX2]; rfl
      exact x_iret (ab_dd tk_m_readFlag 52 rfl) ⟨_, rfl, (rF.p4 ((rF.rf.tr uF1).tr uF2)), Or.inr ⟨Or.inl hk1, by rw [hsp]; exact ⟨(rD.p4 uD2), rfl⟩⟩⟩
    · rw [hX2] at uO2
      obtain ⟨rfl, uL2, uH2⟩ := uO2
      have hg2 := xN_g uL1.2.2.2.2.2.1 hX2
      refine t_iast 23 (32 + r) (ab_dd tk_m_readFlag 13 rfl) rfl (by decide) (Nat.lt_of_lt_of_le (by decide) uL2.1.1) (uL2.1.2.1 4 (by decide)) rfl (by omega) (by decide) ?_
      refine x_goto 80 (ab_dd tk_m_readFlag 14 rfl) (by decide) ?_
      refine x_aload_n 81 0 (ab_dd tk_m_readFlag 46 rfl) rfl rfl rfl ?_
      refine t_getI 84 (ab_dd tk_m_readFlag 47 rfl) rfl F_m_143 (by decide) (Nat.lt_of_lt_of_le (by decide) uL2.1.1) (uL2.1.2.1 0 (by decide)) rfl (x_topn 0 ((gI_a (by decide)).trans uL2.2.2.2.2.2.2.2) ?_)
      refine x_if_ne_f 87 (ab_dd tk_m_readFlag 48 rfl) rfl 91 (by decide) ((nI_eq (a := 0) (b := 0) (by omega) (by omega)).mpr (show 0 = 0 by omega)) ?_
      refine x_iconst 88 1 (ab_dd tk_m_readFlag 49 rfl) rfl (by decide) (x_topn 1 rfl ?_)
      refine x_goto 92 (ab_dd tk_m_readFlag 50 rfl) (by decide) ?_
      have hsp : fg tp n r p (sI S 124) = .inr (q2, up1 (sI S 124) (32 + r) (nI v2)) := by unfold fg; rw [if_pos hk1, hX2]; rfl
      exact x_iret (ab_dd tk_m_readFlag 52 rfl) ⟨_, rfl, (rF.p4 ((rF.rf.tr uF1).tr uF2)), Or.inr ⟨Or.inl hk1, by rw [hsp]; exact ⟨rfl, (rL.p4 uL2), (row_up (32 + r) (nI v2) (uC2.trans (uC1.trans rfl)))⟩⟩⟩
  · skip
    refine x_if_eq_t 26 (ab_dd tk_m_readFlag 3 rfl) (by decide) (by decide) ?_
    refine x_aload_n 27 0 (ab_dd tk_m_readFlag 15 rfl) rfl rfl rfl ?_
    refine x_bipush 29 6 (ab_dd tk_m_readFlag 16 rfl) rfl (by decide) (x_topn 6 rfl ?_)
    refine t_callV 32 M_m_eats 6 1 [_] (ab_dd tk_m_readFlag 17 rfl) rfl (by first | decide | omega) K_m_eats V_m_eats.1 V_m_eats.2 L_m_178 rfl (Nat.le_of_ble_eq_true rfl) (by decide) (Nat.lt_of_lt_of_le (by decide) hL.1.1) (hL.1.2.1 0 (by decide)) rfl (L_eats hL 6 (by decide) (by decide)) (fun v1 w1 h1 => ?_)
    rcases h1 with ⟨hk3, rfl, U3, rfl, uF3, uC3, uL3⟩ | ⟨hk3, rfl, rfl⟩
    · have ht3 := tE_g hL.2.2.2.2.2.1 (show tK tp n p ≠ 24 by omega)
      refine x_if_eq_f 35 (ab_dd tk_m_readFlag 18 rfl) rfl 78 (by decide) (by decide) ?_
      refine x_iconst 36 0 (ab_dd tk_m_readFlag 19 rfl) rfl (by decide) (x_topn 0 rfl ?_)
      refine x_istore_n 37 [some (.ref 120), some (.int (nI r)), some (.int (nI 0))] 2 (ab_dd tk_m_readFlag 20 rfl) rfl rfl (by decide) rfl ?_
      exact lp hk1 hk3 4 0 rfl _ _ _ (rF.rf.tr uF3) uL3 (uC3.trans rfl) (by unfold fg; rw [if_neg hk1])
    · skip
      refine x_if_eq_t 78 (ab_dd tk_m_readFlag 18 rfl) (by decide) (by decide) ?_
      refine x_iconst 79 0 (ab_dd tk_m_readFlag 44 rfl) rfl (by decide) (x_topn 0 rfl ?_)
      exact x_iret (ab_dd tk_m_readFlag 45 rfl) ⟨_, rfl, rF.rf, Or.inl ⟨by omega, rfl, rfl⟩⟩
