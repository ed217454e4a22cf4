/-! ===== the laws of the carriage that is being told ===== -/
theorem rdr_o {tp : Nat → Nat} {n p q : Nat} {F F' : Nat → Int32} (hp : p ≤ n) (h24 : tK tp n p ≠ 24) (hI : rwI p F) (h : rdr tp n p F = .inr (q, F')) : ∀ j, (2 ≤ j ∧ j < 8) ∨ 40 ≤ j ∨ j = 0 → F' j = F j := by
  obtain ⟨r, N, hr, h1, hN, hNp⟩ := hI
  have hcr : cN (F 1) = r := by rw [h1]; exact cN_nI (by omega)
  have g0 := tE_g hp h24
  unfold rdr at h
  rw [hcr] at h
  split at h
  · cases h
  · rcases hX : xM tp n 3 3 (tE tp n p) with e | ⟨q1, v1⟩
    · rw [hX] at h; cases h
    · rw [hX, bN_r] at h
      rcases hY : xM tp n 4 9 q1 with e | ⟨q2, v2⟩
      · rw [hY] at h; cases h
      · rw [hY, bN_r] at h
        have g1 := xM_g (by decide) g0.2 hX
        have g2 := xM_g (by decide) g1.2.1 hY
        rcases hZ : fl tp n r 1000 q2 (up1 (up1 (up1 (up1 F (28 + r) (nI v1)) (8 + r) (nI v2)) (32 + r) (nI 2)) (36 + r) (nI r)) with e | ⟨q3, F3⟩
        · rw [hZ] at h; cases h
        · rw [hZ, lB_r] at h
          obtain ⟨rfl, rfl⟩ := Prod.mk.inj (Sum.inr.inj h)
          have g3 := fl_g (show r < 4 by omega) _ _ _ _ _ g2.2.1 hZ
          intro j hj
          rw [up1_o (by omega), g3.2.2 j (by omega), up1_o (by omega), up1_o (by omega), up1_o (by omega), up1_o (by omega)]
/-- a law in the told carriage -/
def tW1 (S : ab_S) (c : Nat) (F : Nat → Int32) (N la : Nat) : Prop := (F (2 + la) = 0 ∧ sP S c (7 + la) = none) ∨ (F (2 + la) = 1 ∧ ∃ s l b, F (4 + la) = nI s ∧ F (6 + la) = nI l ∧ s + l ≤ N ∧ sP S c (7 + la) = some b ∧ c + 2 < b ∧ b < sn S ∧ sK S b = .inl (.int, l) ∧ l ≤ 900 ∧ ∀ j, j < l → sI S b j = cvt (F (184 + s + j)))
def tW (S : ab_S) (c : Nat) (F : Nat → Int32) (N : Nat) : Prop := F 183 = nI N ∧ N ≤ 900 ∧ tW1 S c F N 0 ∧ tW1 S c F N 1
theorem tW1.cg {S S' : ab_S} {c N N' la : Nat} {F F' : Nat → Int32} (h : tW1 S c F N la) (hla : la < 2) (hN : N ≤ N') (hF : ∀ j, (2 ≤ j ∧ j < 8) ∨ (184 ≤ j ∧ j < 184 + N) → F' j = F j) (hP : sP S' c (7 + la) = sP S c (7 + la)) (hn : sn S ≤ sn S') (hb : ∀ b, c + 2 < b → b < sn S → sK S' b = sK S b ∧ sI S' b = sI S b) : tW1 S' c F' N' la := by
  rcases h with ⟨h1, h2⟩ | ⟨h1, s, l, b, e1, e2, e3, e4, e5, e6, e7, e8, e9⟩
  · exact Or.inl ⟨by rw [hF (2 + la) (by omega)]; exact h1, by rw [hP]; exact h2⟩
  · refine Or.inr ⟨by rw [hF (2 + la) (by omega)]; exact h1, s, l, b, by rw [hF (4 + la) (by omega)]; exact e1, by rw [hF (6 + la) (by omega)]; exact e2, by omega, by rw [hP]; exact e4, e5, by omega, by rw [(hb b e5 e6).1]; exact e7, e8, fun j hj => ?_⟩
    rw [(hb b e5 e6).2, hF (184 + s + j) (by omega)]
    exact e9 j hj
theorem tW.cg {S S' : ab_S} {c N : Nat} {F F' : Nat → Int32} (h : tW S c F N) (hF : ∀ j, (2 ≤ j ∧ j < 8) ∨ 40 ≤ j → F' j = F j) (hP : sP S' c = sP S c) (hn : sn S ≤ sn S') (hb : ∀ b, c + 2 < b → b < sn S → sK S' b = sK S b ∧ sI S' b = sI S b) : tW S' c F' N :=
  ⟨by rw [hF 183 (by omega)]; exact h.1, h.2.1, h.2.2.1.cg (by decide) (Nat.le_refl _) (fun j hj => hF j (by omega)) (by rw [hP]) hn hb, h.2.2.2.cg (by decide) (Nat.le_refl _) (fun j hj => hF j (by omega)) (by rw [hP]) hn hb⟩
/-- cells more, and others in the reader, the told cells, two of its references -/
def lF (c : Nat) (S S' : ab_S) (m z : Nat) : Prop := S'.1 = S.1 ∧ sn S' = sn S + m ∧ sz S' = sz S + z ∧ (∀ b, b < sn S → sK S' b = sK S b) ∧ (∀ b, b < sn S → b ≠ c → sP S' b = sP S b) ∧ (∀ k, k < 7 → sP S' c k = sP S c k) ∧ (∀ b, b < sn S → b ≠ 72 → b ≠ 77 → b ≠ c → b ≠ c + 1 → b ≠ c + 2 → sI S' b = sI S b ∧ sJ S' b = sJ S b) ∧ ∀ j, j < 2 → sI S' 72 j = sI S 72 j
theorem lF.tr {c m m' z z' : Nat} {S S1 S2 : ab_S} (h : lF c S S1 m z) (g : lF c S1 S2 m' z') : lF c S S2 (m + m') (z + z') := by
  obtain ⟨h1, h2, h3, h4, h5, h6, h7, h8⟩ := h
  obtain ⟨g1, g2, g3, g4, g5, g6, g7, g8⟩ := g
  refine ⟨g1.trans h1, by omega, by omega, fun b hb => (g4 b (by omega)).trans (h4 b hb), fun b hb hc => (g5 b (by omega) hc).trans (h5 b hb hc), fun k hk => (g6 k hk).trans (h6 k hk), fun b hb a1 a2 a3 a4 a5 => ?_, fun j hj => (g8 j hj).trans (h8 j hj)⟩
  obtain ⟨x1, x2⟩ := g7 b (by omega) a1 a2 a3 a4 a5
  obtain ⟨y1, y2⟩ := h7 b hb a1 a2 a3 a4 a5
  exact ⟨x1.trans y1, x2.trans y2⟩
theorem lF.of {c : Nat} {S S1 : ab_S} {l : List Nat} (h : sEq l S S1) (hl : ∀ y ∈ l, y = 72 ∨ y = 77 ∨ y = c ∨ y = c + 1 ∨ y = c + 2) (h72 : ∀ j, j < 2 → sI S1 72 j = sI S 72 j) : lF c S S1 0 0 := by
  obtain ⟨h1, h2, h3, h4, h5, h6, h7⟩ := h
  refine ⟨h1, h6, h7, fun b _ => by rw [h2], fun b _ _ => by rw [h5], fun k _ => by rw [h5], fun b hb a1 a2 a3 a4 a5 => ?_, h72⟩
  have hb2 : b ∉ l := fun y => by have := hl b y; omega
  exact ⟨h3 b hb2, h4 b hb2⟩
theorem lF.t {c : Nat} {S S1 : ab_S} (h : tF c S S1) : lF c S S1 0 0 := lF.of h.1 (fun y hy => by simp only [List.mem_cons, List.not_mem_nil, or_false] at hy; omega) (fun j hj => h.2 j (by omega))
theorem lF.n {c z : Nat} {S S1 : ab_S} (hc : c < sn S) (h : qN S S1 z) : lF c S S1 1 z := by
  obtain ⟨h1, h2, h3, h4, h5⟩ := h
  exact ⟨h1, h2, h3, fun b hb => (h4 b hb).1, fun b hb _ => (h4 b hb).2.1, fun k _ => by rw [(h4 c hc).2.1], fun b hb a1 a2 _ _ _ => (h4 b hb).2.2 a1 a2, fun j hj => h5 j (by omega)⟩
theorem lF.pp {c k : Nat} {x : Option Nat} {S : ab_S} (hk : 7 ≤ k) : lF c S (pP S c k x) 0 0 :=
  ⟨rfl, rfl, rfl, fun _ _ => rfl, fun b _ hb => gP_o hb, fun j hj => gP_k (by omega), fun _ _ _ _ _ _ _ => ⟨rfl, rfl⟩, fun _ _ => rfl⟩
theorem xSh.tp {S : ab_S} {c k : Nat} {x : Option Nat} (hx : xSh S) (hc : 145 ≤ c) : xSh (pP S c k x) := hx.rR (fun t ht => by have := (show ∀ t ∈ xPl, t.1 < 120 by decide) t ht; omega)
theorem qLv.pp {S : ab_S} {tp : Nat → Nat} {n p c k : Nat} {x : Option Nat} (h : qLv S tp n p) (hc : 145 ≤ c) : qLv (pP S c k x) tp n p := by
  obtain ⟨a1, a2, a3, a4, a5, a6⟩ := h
  exact ⟨a1.tp hc, a2, a3, a4, by rw [gP_o (by omega)]; exact a5, a6⟩
theorem qD.pp {S : ab_S} {n c k : Nat} {e : Nat × Nat} {x : Option Nat} (h : qD S n e) (hc : 145 ≤ c) : qD (pP S c k x) n e := by
  obtain ⟨a1, a2, a3, a4, a5⟩ := h
  exact ⟨a1.tp hc, a2, a3, by rw [gP_o (by omega)]; exact a4, a5⟩
theorem tcK.pp {S : ab_S} {c k : Nat} {x : Option Nat} (h : tcK S c) (hk : 7 ≤ k) : tcK (pP S c k x) c := by
  obtain ⟨a1, a2, a3, a4, a5, a6, a7⟩ := h
  exact ⟨a1, a2, a3, a4, a5, by rw [gP_k (by omega)]; exact a6, by rw [gP_k (by omega)]; exact a7⟩
theorem tcK.n {S S1 : ab_S} {c z : Nat} (h : tcK S c) (g : qN S S1 z) : tcK S1 c := by
  obtain ⟨a1, a2, a3, a4, a5, a6, a7⟩ := h
  obtain ⟨g1, g2, g3, g4, g5⟩ := g
  refine ⟨a1, by omega, by rw [(g4 c (by omega)).1]; exact a3, by rw [(g4 (c + 1) (by omega)).1]; exact a4, by rw [(g4 (c + 2) (by omega)).1]; exact a5, by rw [(g4 c (by omega)).2.1]; exact a6, by rw [(g4 c (by omega)).2.1]; exact a7⟩
theorem tL.law {S S1 : ab_S} {tp : Nat → Nat} {n p q c r r0 z : Nat} {F : Nat → Int32} (h : tL S tp n p c F r r0) (g : qN S S1 z) (hq : qLv S1 tp n q) {k : Nat} {x : Option Nat} (hk : 7 ≤ k) : tL (pP S1 c k x) tp n q c F r r0 := by
  obtain ⟨a1, a2, a3, ⟨v1, v2, v3, v4, v5, v6, v7⟩, a5⟩ := h
  have k1 := a3.n g
  obtain ⟨b1, b2, -⟩ := a3
  obtain ⟨g1, g2, g3, g4, g5⟩ := g
  have h72 : 72 < sn S := by omega
  have i0 := ((g4 c (by omega)).2.2 (by omega) (by omega)).1
  have i1 := ((g4 (c + 1) (by omega)).2.2 (by omega) (by omega)).1
  have i2 := ((g4 (c + 2) (by omega)).2.2 (by omega) (by omega)).1
  refine ⟨hq.pp b1, by rw [gP_o (by omega), (g4 72 h72).2.1]; exact a2, k1.pp hk, ⟨?_, ?_, ?_, ?_, ?_, ?_, v7⟩, ?_⟩
  · show sI S1 c 1 = _; rw [i0]; exact v1
  · show sI S1 c 2 = _; rw [i0]; exact v2
  · show sI S1 c 3 = _; rw [i0]; exact v3
  · show sI S1 c 4 = _; rw [i0]; exact v4
  · show ∀ i, i < 4 → sI S1 (c + 1) i = _; rw [i1]; exact v5
  · show ∀ j, j < 16 → sI S1 (c + 2) j = _; rw [i2]; exact v6
  · show sI S1 c 0 = _; rw [i0]; exact a5
theorem tL.lawD {S S1 : ab_S} {tp : Nat → Nat} {n p c r r0 z : Nat} {e : Nat × Nat} {F : Nat → Int32} (h : tL S tp n p c F r r0) (hr : r0 ≤ 4) (g : qN S S1 z) (hq : qD S1 n e) {k : Nat} {x : Option Nat} (hk : 7 ≤ k) : tD (pP S1 c k x) n e c := by
  obtain ⟨a1, a2, a3, a4, a5⟩ := h
  have k1 := a3.n g
  obtain ⟨b1, b2, -⟩ := a3
  obtain ⟨g1, g2, g3, g4, g5⟩ := g
  have h72 : 72 < sn S := by omega
  have i0 := ((g4 c (by omega)).2.2 (by omega) (by omega)).1
  refine ⟨hq.pp b1, by rw [gP_o (by omega), (g4 72 h72).2.1]; exact a2, k1.pp hk, ⟨r0, hr, ?_⟩, ⟨seaC F, (seaC_l a4.2.2.2.2.2.2.2.2.1).1, ?_⟩, ⟨wC F, (wC_l a4.2.2.2.2.2.2.2.2.2).1, ?_⟩⟩
  · show sI S1 c 0 = _; rw [i0]; exact a5
  · show sI S1 c 3 = _; rw [i0]; exact a4.2.2.1
  · show sI S1 c 4 = _; rw [i0]; exact a4.2.2.2.1
theorem lwr_O {tp : Nat → Nat} {n la p : Nat} {F : Nat → Int32} : lwr tp n la p F = match lwO tp n la (tE tp n p) with
  | .inl e => .inl e
  | .inr x => .inr (x.1, lwF la (cN (F 183)) F x.2) := by
  unfold lwr wX lwO
  by_cases h : tK tp n (tE tp n p) = 31
  · rw [if_pos h, if_pos h]; rfl
  · rw [if_neg h, if_neg h]
theorem lwF_o {la N j : Nat} {F : Nat → Int32} {cs : List Nat} (h1 : j ≠ 2 + la) (h2 : j ≠ 4 + la) (h3 : j ≠ 6 + la) (h4 : j < 183 ∨ (184 ≤ j ∧ j < 184 + N)) : lwF la N F cs j = F j := by
  unfold lwF
  rw [up1_o h3, up1_o h2, up1_o h1]
  unfold appC
  rw [if_neg (by omega), if_neg (by omega)]
/-- a told law more -/
theorem tW.law {S S1 : ab_S} {c N la z : Nat} {F : Nat → Int32} {cs : List Nat} (h : tW S c F N) (hc : 145 ≤ c) (hcn : c + 2 < sn S) (hla : la < 2) (g : qN S S1 z) (hK : sK S1 (sn S) = .inl (.int, cs.length)) (hV : ∀ j, j < cs.length → sI S1 (sn S) j = cvt (nI (cs.getD j 0))) (hN : N + cs.length ≤ 900) : tW (pP S1 c (7 + la) (some (sn S))) c (lwF la N F cs) (N + cs.length) := by
  obtain ⟨h1, h2, h3, h4⟩ := h
  obtain ⟨g1, g2, g3, g4, g5⟩ := g
  have hnew : tW1 (pP S1 c (7 + la) (some (sn S))) c (lwF la N F cs) (N + cs.length) la := by
    refine Or.inr ⟨?_, N, cs.length, sn S, ?_, ?_, Nat.le_refl _, gP_s, hcn, ?_, hK, by omega, fun j hj => ?_⟩
    · unfold lwF
      rw [up1_o (by omega), up1_o (by omega), up1_s]; rfl
    · unfold lwF
      rw [up1_o (by omega), up1_s]
    · unfold lwF
      rw [up1_s]
    · show sn S < sn S1; omega
    · show sI S1 (sn S) j = _
      rw [hV j hj]
      unfold lwF
      rw [up1_o (by omega), up1_o (by omega), up1_o (by omega)]
      unfold appC
      rw [if_neg (by omega), if_pos (by omega), show 184 + N + j - 184 - N = j by omega]
  have hold : ∀ lb, lb < 2 → lb ≠ la → tW1 S c F N lb → tW1 (pP S1 c (7 + la) (some (sn S))) c (lwF la N F cs) (N + cs.length) lb := fun lb hlb hne hx => by
    rcases hx with ⟨x1, x2⟩ | ⟨x1, s, l, b, e1, e2, e3, e4, e5, e6, e7, e8, e9⟩
    · exact Or.inl ⟨by rw [lwF_o (by omega) (by omega) (by omega) (by omega)]; exact x1, by rw [gP_k (by omega), (g4 c (by omega)).2.1]; exact x2⟩
    · refine Or.inr ⟨by rw [lwF_o (by omega) (by omega) (by omega) (by omega)]; exact x1, s, l, b, by rw [lwF_o (by omega) (by omega) (by omega) (by omega)]; exact e1, by rw [lwF_o (by omega) (by omega) (by omega) (by omega)]; exact e2, by omega, by rw [gP_k (by omega), (g4 c (by omega)).2.1]; exact e4, e5, ?_, ?_, e8, fun j hj => ?_⟩
      · show b < sn S1; omega
      · show sK S1 b = _; rw [(g4 b e6).1]; exact e7
      · show sI S1 b j = _
        rw [((g4 b e6).2.2 (by omega) (by omega)).1, lwF_o (by omega) (by omega) (by omega) (by omega)]
        exact e9 j hj
  refine ⟨?_, hN, ?_, ?_⟩
  · unfold lwF
    rw [up1_o (by omega), up1_o (by omega), up1_o (by omega)]
    exact appC_N N F cs
  · by_cases y : 0 = la
    · rw [← y] at hnew ⊢; exact hnew
    · exact hold 0 (by decide) y h3
  · by_cases y : 1 = la
    · rw [← y] at hnew ⊢; exact hnew
    · exact hold 1 (by decide) y h4
/-- a told row with a law more is told as before -/
theorem tL.lwf {S : ab_S} {tp : Nat → Nat} {n p c r r0 la N : Nat} {F : Nat → Int32} {cs : List Nat} (h : tL S tp n p c F r r0) (hla : la < 2) : tL S tp n p c (lwF la N F cs) r r0 := by
  have ho : ∀ j, j < 2 ∨ (8 ≤ j ∧ j < 183) → lwF la N F cs j = F j := fun j hj => lwF_o (by omega) (by omega) (by omega) (by omega)
  obtain ⟨a1, a2, a3, ⟨v1, v2, v3, v4, v5, v6, v7, v8, v9, v10⟩, a5⟩ := h
  refine ⟨a1, a2, a3, ⟨?_, ?_, ?_, ?_, fun i hi => ?_, fun i hi => ?_, ?_, v8, fun i hi => ?_, fun i hi => ?_⟩, a5⟩
  · rw [ho 0 (by omega)]; exact v1
  · rw [ho 40 (by omega)]; exact v2
  · rw [v3]; exact congrArg nI (c4_cg (fun j hj => by rw [ho (28 + j) (by omega)]))
  · rw [v4]
    unfold wC
    rw [ho 32 (by omega), ho 33 (by omega), ho 34 (by omega), ho 35 (by omega)]
  · rw [ho (8 + i) (by omega)]; exact v5 i hi
  · rw [ho (12 + i) (by omega)]; exact v6 i hi
  · rw [ho 1 (by omega)]; exact v7
  · rw [ho (28 + i) (by omega)]; exact v9 i hi
  · rw [ho (32 + i) (by omega)]; exact v10 i hi
theorem tW.cg2 {S S' : ab_S} {c N : Nat} {F F' : Nat → Int32} (h : tW S c F N) (hF : ∀ j, (2 ≤ j ∧ j < 8) ∨ 183 ≤ j → F' j = F j) (hP : sP S' c = sP S c) (hn : sn S ≤ sn S') (hb : ∀ b, c + 2 < b → b < sn S → sK S' b = sK S b ∧ sI S' b = sI S b) : tW S' c F' N :=
  ⟨by rw [hF 183 (by omega)]; exact h.1, h.2.1, h.2.2.1.cg (by decide) (Nat.le_refl _) (fun j hj => hF j (by omega)) (by rw [hP]) hn hb, h.2.2.2.cg (by decide) (Nat.le_refl _) (fun j hj => hF j (by omega)) (by rw [hP]) hn hb⟩
theorem tW.tf {S S' : ab_S} {c N : Nat} {F F' : Nat → Int32} (h : tW S c F N) (hc : 145 ≤ c) (g : tF c S S') (hF : ∀ j, (2 ≤ j ∧ j < 8) ∨ 183 ≤ j → F' j = F j) : tW S' c F' N :=
  h.cg2 hF (by rw [g.1.2.2.2.2.1]) (by rw [g.1.2.2.2.2.2.1]; exact Nat.le_refl _) (fun b h1 h2 => ⟨by rw [g.1.2.1], g.1.2.2.1 b (by simp only [List.mem_cons, List.not_mem_nil, or_false, not_or]; omega)⟩)
section
variable {S : ab_S} {tp : Nat → Nat} {n p c r r0 : Nat} {F : Nat → Int32} {e : Nat × Nat}
theorem tD.puto {k : Nat} {x : Int32} (h : tD S n e c) (hk : k = 1 ∨ k = 2) : tD (pI S c k x) n e c := by
  obtain ⟨a1, a2, a3, ⟨r, b1, b2⟩, ⟨s, d1, d2⟩, w, e1, e2⟩ := h
  have hc := a3.1
  have hE : sEq [c] S (pI S c k x) := sEq.rf.pI (by simp)
  exact ⟨a1.o hE (by rw [List.mem_singleton]; omega), a2, a3.eq hE, ⟨r, b1, (gI_k (by omega)).trans b2⟩, ⟨s, d1, (gI_k (by omega)).trans d2⟩, w, e1, (gI_k (by omega)).trans e2⟩
theorem tL.lin {x : Int32} (h : tL S tp n p c F r r0) : tL (pI S c 1 x) tp n p c (up1 F 0 x) r r0 := by
  obtain ⟨o1, o2, o3⟩ := h.o (b := c) (k := 1) (x := x) (Or.inl rfl)
  obtain ⟨-, -, a3, ⟨v1, v2, v3, v4, v5, v6, v7, v8, v9, v10⟩, a5⟩ := h
  refine ⟨o1, o2, o3, ⟨?_, ?_, ?_, ?_, fun i hi => ?_, fun i hi => ?_, ?_, v8, fun i hi => ?_, fun i hi => ?_⟩, ?_⟩
  · rw [gI_s, up1_s]
  · rw [gI_k (by decide), up1_o (by omega)]; exact v2
  · rw [gI_k (by decide), v3]; exact congrArg nI (c4_cg (fun j hj => by rw [up1_o (by omega)]))
  · rw [gI_k (by decide), v4]
    unfold wC
    rw [up1_o (by omega), up1_o (by omega), up1_o (by omega), up1_o (by omega)]
  · rw [gI_o (by omega), up1_o (by omega)]; exact v5 i hi
  · rw [gI_o (by omega), up1_o (by omega)]; exact v6 i hi
  · rw [up1_o (by omega)]; exact v7
  · rw [up1_o (by omega)]; exact v9 i hi
  · rw [up1_o (by omega)]; exact v10 i hi
  · rw [gI_k (by decide)]; exact a5
theorem tL.mon {x : Int32} (h : tL S tp n p c F r r0) : tL (pI S c 2 x) tp n p c (up1 F 40 x) r r0 := by
  obtain ⟨o1, o2, o3⟩ := h.o (b := c) (k := 2) (x := x) (Or.inl rfl)
  obtain ⟨-, -, a3, ⟨v1, v2, v3, v4, v5, v6, v7, v8, v9, v10⟩, a5⟩ := h
  refine ⟨o1, o2, o3, ⟨?_, ?_, ?_, ?_, fun i hi => ?_, fun i hi => ?_, ?_, v8, fun i hi => ?_, fun i hi => ?_⟩, ?_⟩
  · rw [gI_k (by decide), up1_o (by omega)]; exact v1
  · rw [gI_s, up1_s]
  · rw [gI_k (by decide), v3]; exact congrArg nI (c4_cg (fun j hj => by rw [up1_o (by omega)]))
  · rw [gI_k (by decide), v4]
    unfold wC
    rw [up1_o (by omega), up1_o (by omega), up1_o (by omega), up1_o (by omega)]
  · rw [gI_o (by omega), up1_o (by omega)]; exact v5 i hi
  · rw [gI_o (by omega), up1_o (by omega)]; exact v6 i hi
  · rw [up1_o (by omega)]; exact v7
  · rw [up1_o (by omega)]; exact v9 i hi
  · rw [up1_o (by omega)]; exact v10 i hi
  · rw [gI_k (by decide)]; exact a5
end
