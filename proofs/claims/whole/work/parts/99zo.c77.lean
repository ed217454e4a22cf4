/-! ===== both asked ===== -/
theorem sQ.re2 {S S' : ab_S} {im : Nat → Prop} {l : List Nat} {n s t : Nat} {f : Nat → sT} {tp : Nat → Nat} (h : sQ S im n s f t tp) (him : imO im) (hE : sEq l S S') (hl : ∀ y, y ∈ l → y = 120 ∨ y = 121 ∨ (124 ≤ y ∧ y ≤ 141)) (hA : mA S' = mA S) (hF : fEq S S') : sQ S' im n s f t tp := by
  obtain ⟨q1, q2, q3, q4, q5, q6, q7, q8⟩ := h
  have n : ∀ y, y < 120 ∨ (121 < y ∧ y < 124) ∨ 141 < y → y ∉ l := fun y y1 z => by have := hl y z; omega
  have c : ∀ y, y < 120 ∨ (121 < y ∧ y < 124) ∨ 141 < y → sI S' y = sI S y := fun y hy => hE.2.2.1 y (n y hy)
  exact ⟨q1.eq hE, by rw [hA]; exact q2.eq hE (n _ (by omega)), q3.cg (q3.1.eq hE (fun y h1 h2 => n y (by omega))) hA, q4.cg (congrFun (c 50 (by omega)) 1) (c 51 (by omega)) hF.1 (c 123 (by omega)), q5.cg (c 72 (by omega)) hF.2.1 hF.2.2, fun q hq => (q6 q hq).cg (c _ (by omega)) (hE.2.2.2.1 _ (n _ (by omega))) (c 142 (by omega)) (c 143 (by omega)) (hE.2.2.2.1 _ (n _ (by omega))), q7.cg (c 143 (by omega)), fun i hi => (q8 i hi).cg hA (c 122 (by omega)) (by rw [hE.2.2.2.2.1]) (c _ (by omega)) ((gF.sE hE).im (fun y z w => by have := him y z; have := hl y w; omega))⟩
theorem pQ.D {S : ab_S} {v0 v : Option Value} {w' : ab_H} (h : pQ S v0 v w') : pD S v0 (mA S) v w' := by
  obtain ⟨h1, S', h2, h3, h4, h5, h6⟩ := h
  exact ⟨h1, S', h2, h3, h4, h5.mono (fun y hy => List.mem_cons_of_mem _ hy), h6⟩
theorem m0_D {S S' : ab_S} {l : List Nat} (hm : mSh S) (hE : sEq l (m0 S) S') (hl : ∀ y, y ∈ l → 124 ≤ y ∧ y ≤ 141) : mSh S' ∧ mA S' = mA S ∧ sEq (121 :: qL) S S' ∧ fEq S S' := by
  have h0 : sEq [120] S (m0 S) := sEq.rf.pI (List.mem_singleton.mpr rfl)
  have n : ∀ y, y < 124 → y ∉ l := fun y y1 z => by have := hl y z; omega
  have e120 := hE.2.2.1 120 (n _ (by decide))
  have hq : ∀ y, y ∈ l → y ∈ (121 :: qL) := fun y hy => by
    have := hl y hy
    unfold qL
    simp only [List.mem_cons, List.not_mem_nil, or_false]
    omega
  refine ⟨(hm.eq h0).eq hE, (hE.2.2.1 121 (n _ (by decide))).trans (h0.2.2.1 121 (by decide)), (h0.mono (by decide)).tr (hE.mono hq), ?_, ?_, ?_⟩ <;> rw [e120] <;> exact gI_k (by decide)
theorem ask {G : ab_G} {S : ab_S} {u d1 d2 m z : Nat} {M1 M2 : ab_M} {A1 A2 : List Value} {im : Nat → Prop} {c bh nb st st2 n s t : Nat} {b : Nat → Int32} {f : Nat → sT} {tp : Nat → Nat} (h : kBd S im (mA S) c b bh nb st st2 u) (hQ : sQ S im n s f t tp) {P P' : Value → Prop} (hk0 : ∀ x, P x → rkd M1.2.2.2 (some x)) (hC : ab_C G d1 M1 A1 (sw S) (fun v w' => ∃ v0, pAs S im (mA S) c bh nb u m z (some v0) v w' ∧ P v0)) (hR : ∀ S1, mSh S1 → mA S1 = mA S → sQ S1 im n s f t tp → (∀ y, 120 ≤ y → y ≤ 144 → sI S1 y = sI S y ∧ sJ S1 y = sJ S y) → ab_C G d2 M2 A2 (sw S1) (fun v w' => ∃ v0, pD S1 (some v0) (mA S1) v w' ∧ P' v0)) (hP : ∀ x y, P x → P' y → y = x) (hm : m ≤ 904) (hz : z ≤ 929) : two G S u d1 M1 A1 d2 M2 A2 := by
  refine hC.mono (fun v w1 hv => ?_)
  obtain ⟨v0, ⟨rfl, S1, b', st', st2', rfl, hF, hG, hB, hd⟩, hp⟩ := hv
  obtain ⟨hQ1, hA⟩ := fAs.cls h hQ hF hd
  obtain ⟨q1, q2⟩ := h.bh
  have him := h.2.2.2.1.1
  have hx1 := hB.1
  have hk : ∀ y, 120 ≤ y → y ≤ 144 → sI S1 y = sI S y ∧ sJ S1 y = sJ S y := fun y h1 h2 => by
    have e := hF.1.2.2.2 y (by have := hQ.1.1; omega) (fun w => by have w : y = 50 ∨ y = 56 ∨ (84 ≤ y ∧ y ≤ 108) ∨ y = bh ∨ (145 ≤ y ∧ ¬ im y) := w; omega)
    exact ⟨e.1, e.2.1⟩
  refine ⟨S1, rfl, hk0 v0 hp, hQ1.1, hx1.1, hx1.2.1 0 (by decide), (hR S1 hQ1.1 hA hQ1 hk).mono (fun v' w2 hv' => ?_)⟩
  obtain ⟨v0', ⟨rfl, S2, rfl, m1, m2, m3, m4⟩, hp'⟩ := hv'
  rw [hP v0 v0' hp hp']
  have hB1 : kBd S1 im (mA S2) c b' bh nb st' st2' (u + 128) := by rw [m2, hA]; exact hB.up (by omega)
  refine ⟨rfl, S2, rfl, ⟨im, c, b', bh, nb, st', st2', n, s, f, t, tp, hB1.rfc m3 (fun y hy => by have := qD_in y hy; omega), hQ1.re2 him m3 (fun y hy => by have := qD_in y hy; omega) m2 m4⟩, (hG.tr (gA.sE m3)).le (by omega) (by omega), m3.1.trans hF.1.1⟩
theorem T_ex {G : ab_G} {S : ab_S} (hm : mSh S) (ha : aOk (mA S)) : ∃ T, (cL (mA S) T).length = T := by
  obtain ⟨v, w', -, N, -, e⟩ := c_m_stands (G := G) hm rfl ha
  exact ⟨N, (cL_aL ha N).trans e⟩
theorem NT {a : Nat → Int32} (ha : aOk a) {T N : Nat} (h1 : (cL a T).length = T) (h2 : (aL a N).length = N) : N = T := by
  have e : (cL a N).length = N := (cL_aL ha N).trans h2
  have t1 := cL_lt h1 (Nat.le_of_eq e.symm)
  have t2 := cL_lt e (Nat.le_of_eq h1.symm)
  omega
theorem w_stands {G : ab_G} {S : ab_S} {u : Nat} {im : Nat → Prop} {c bh nb st st2 n s t : Nat} {b : Nat → Int32} {f : Nat → sT} {tp : Nat → Nat} (h : kBd S im (mA S) c b bh nb st st2 u) (hQ : sQ S im n s f t tp) (hu : u + 128 < 2 ^ 20) : two G S u 7 M_s_stands [.ref 50] 6 M_m_stands [.ref 120] := by
  have ha := h.2.2.2.2.1
  have ht := hQ.2.1
  obtain ⟨T, hT⟩ := T_ex (G := G) hQ.1 ha.1
  exact ask h hQ (fun x hx => by first | (rw [show x = _ from hx]; exact ⟨_, rfl⟩) | (obtain ⟨v0, rfl, -⟩ := hx; exact ⟨_, rfl⟩)) (P := fun x => x = .int (nI T)) (P' := fun x => x = .int (nI T)) ((p_s_stands h ht (by omega) hT).mono (fun v w' z => ⟨_, z, rfl⟩)) (fun S1 hm1 hA1 hQ1 hk1 => (c_m_stands hm1 hA1 ha.1).mono (fun v w' z => by
    obtain ⟨N, z1, z2⟩ := z
    rw [NT ha.1 hT z2] at z1
    exact ⟨_, z1.D, rfl⟩)) (fun x y h1 h2 => h2.trans h1.symm) (by omega) (by omega)
theorem w_keeps {G : ab_G} {S : ab_S} {u : Nat} {im : Nat → Prop} {c bh nb st st2 n s t : Nat} {b : Nat → Int32} {f : Nat → sT} {tp : Nat → Nat} (h : kBd S im (mA S) c b bh nb st st2 u) (hQ : sQ S im n s f t tp) (hu : u + 128 < 2 ^ 20) (k : Int32) : two G S u 7 M_s_keeps [.ref 50, .int k] 7 M_m_keeps [.ref 120, .int k] := by
  have ha := h.2.2.2.2.1
  have ht := hQ.2.1
  obtain ⟨T, hT⟩ := T_ex (G := G) hQ.1 ha.1
  refine ask h hQ (fun x hx => by first | (rw [show x = _ from hx]; exact ⟨_, rfl⟩) | (obtain ⟨v0, rfl, -⟩ := hx; exact ⟨_, rfl⟩)) (P := fun x => ∃ v0, x = .int v0 ∧ ((¬ (0 ≤ k ∧ k ≤ 4) ∧ v0 = -3) ∨ ((0 ≤ k ∧ k ≤ 4) ∧ lgst (fun m => kp (gI (mA S) T) (gW (mA S) T (cN k)) m 0) v0))) ((p_s_keeps h ht (by omega) hT k).mono (fun v w' z => by obtain ⟨v0, z1, z2⟩ := z; exact ⟨_, z1, v0, rfl, z2⟩)) (P' := fun x => ∃ v0, x = .int v0 ∧ ((¬ (0 ≤ k ∧ k ≤ 4) ∧ v0 = -3) ∨ ((0 ≤ k ∧ k ≤ 4) ∧ ∃ N, (aL (mA S) N).length = N ∧ lgst (fun m => kp (gI (mA S) N) (gW (mA S) N (cN k)) m 0) v0))) (fun S1 hm1 hA1 hQ1 hk1 => (c_m_keeps hm1 hA1 ha.1 k).mono (fun v w' z => by obtain ⟨v0, z1, z2⟩ := z; exact ⟨_, z1.D, v0, rfl, z2⟩)) (fun x y h1 h2 => ?_) (by omega) (by omega)
  obtain ⟨v0, rfl, h1⟩ := h1
  obtain ⟨v1, rfl, h2⟩ := h2
  congr 1
  rcases h1 with ⟨n1, e1⟩ | ⟨n1, e1⟩ <;> rcases h2 with ⟨n2, e2⟩ | ⟨n2, e2⟩
  · rw [e1, e2]
  · exact absurd n2 n1
  · exact absurd n1 n2
  · obtain ⟨N, eN, e2⟩ := e2
    rw [NT ha.1 hT eN] at e2
    exact lgst_one (P := fun m => kp (gI (mA S) T) (gW (mA S) T (cN k)) m 0) (fun m j z => kp_le j 0 z) e2 e1
theorem w_soonest {G : ab_G} {S : ab_S} {u : Nat} {im : Nat → Prop} {c bh nb st st2 n s t : Nat} {b : Nat → Int32} {f : Nat → sT} {tp : Nat → Nat} (h : kBd S im (mA S) c b bh nb st st2 u) (hQ : sQ S im n s f t tp) (hu : u + 128 < 2 ^ 20) (k : Int32) : two G S u 7 M_s_soonest [.ref 50, .int k] 7 M_m_soonest [.ref 120, .int k] := by
  have ha := h.2.2.2.2.1
  have ht := hQ.2.1
  obtain ⟨T, hT⟩ := T_ex (G := G) hQ.1 ha.1
  refine ask h hQ (fun x hx => by first | (rw [show x = _ from hx]; exact ⟨_, rfl⟩) | (obtain ⟨v0, rfl, -⟩ := hx; exact ⟨_, rfl⟩)) (P := fun x => ∃ v0, x = .int v0 ∧ ((¬ (0 ≤ k ∧ k ≤ 4) ∧ v0 = -3) ∨ ((0 ≤ k ∧ k ≤ 4) ∧ fstM (fun m => m < gFAR ∧ pth (gI (mA S) T) (gW (mA S) T (cN k)) m 0) v0))) ((p_s_soonest h ht (by omega) hT k).mono (fun v w' z => by obtain ⟨v0, z1, z2⟩ := z; exact ⟨_, z1, v0, rfl, z2⟩)) (P' := fun x => ∃ v0, x = .int v0 ∧ ((¬ (0 ≤ k ∧ k ≤ 4) ∧ v0 = -3) ∨ ((0 ≤ k ∧ k ≤ 4) ∧ ∃ N, (aL (mA S) N).length = N ∧ fstM (fun m => m < gFAR ∧ pth (gI (mA S) N) (gW (mA S) N (cN k)) m 0) v0))) (fun S1 hm1 hA1 hQ1 hk1 => (c_m_soonest hm1 hA1 ha.1 k).mono (fun v w' z => by obtain ⟨v0, z1, z2⟩ := z; exact ⟨_, z1.D, v0, rfl, z2⟩)) (fun x y h1 h2 => ?_) (by omega) (by omega)
  obtain ⟨v0, rfl, h1⟩ := h1
  obtain ⟨v1, rfl, h2⟩ := h2
  congr 1
  rcases h1 with ⟨n1, e1⟩ | ⟨n1, e1⟩ <;> rcases h2 with ⟨n2, e2⟩ | ⟨n2, e2⟩
  · rw [e1, e2]
  · exact absurd n2 n1
  · exact absurd n1 n2
  · obtain ⟨N, eN, e2⟩ := e2
    rw [NT ha.1 hT eN] at e2
    exact fstM_one e2 e1
theorem w_way {G : ab_G} {S : ab_S} {u : Nat} {im : Nat → Prop} {c bh nb st st2 n s t : Nat} {b : Nat → Int32} {f : Nat → sT} {tp : Nat → Nat} (h : kBd S im (mA S) c b bh nb st st2 u) (hQ : sQ S im n s f t tp) (hu : u + 128 < 2 ^ 20) (k : Int32) (i : Int32) : two G S u 7 M_s_way [.ref 50, .int k, .int i] 7 M_m_way [.ref 120, .int k, .int i] := by
  have ha := h.2.2.2.2.1
  have ht := hQ.2.1
  obtain ⟨T, hT⟩ := T_ex (G := G) hQ.1 ha.1
  refine ask h hQ (fun x hx => by first | (rw [show x = _ from hx]; exact ⟨_, rfl⟩) | (obtain ⟨v0, rfl, -⟩ := hx; exact ⟨_, rfl⟩)) (P := fun x => ∃ v0, x = .int v0 ∧ ((¬ ((0 ≤ k ∧ k ≤ 4) ∧ 0 ≤ i) ∧ v0 = -3) ∨ (((0 ≤ k ∧ k ≤ 4) ∧ 0 ≤ i) ∧ wR (gI (mA S) T) (gW (mA S) T (cN k)) (cN i) 0 v0))) ((p_s_way h ht (by omega) hT k i).mono (fun v w' z => by obtain ⟨v0, z1, z2⟩ := z; exact ⟨_, z1, v0, rfl, z2⟩)) (P' := fun x => ∃ v0, x = .int v0 ∧ ((¬ ((0 ≤ k ∧ k ≤ 4) ∧ 0 ≤ i) ∧ v0 = -3) ∨ (((0 ≤ k ∧ k ≤ 4) ∧ 0 ≤ i) ∧ ∃ N, (aL (mA S) N).length = N ∧ wR (gI (mA S) N) (gW (mA S) N (cN k)) (cN i) 0 v0))) (fun S1 hm1 hA1 hQ1 hk1 => (c_m_way hm1 hA1 ha.1 k i).mono (fun v w' z => by obtain ⟨v0, z1, z2⟩ := z; exact ⟨_, z1.D, v0, rfl, z2⟩)) (fun x y h1 h2 => ?_) (by omega) (by omega)
  obtain ⟨v0, rfl, h1⟩ := h1
  obtain ⟨v1, rfl, h2⟩ := h2
  congr 1
  rcases h1 with ⟨n1, e1⟩ | ⟨n1, e1⟩ <;> rcases h2 with ⟨n2, e2⟩ | ⟨n2, e2⟩
  · rw [e1, e2]
  · exact absurd n2 n1
  · exact absurd n1 n2
  · obtain ⟨N, eN, e2⟩ := e2
    rw [NT ha.1 hT eN] at e2
    exact wR_one _ _ e2 e1
theorem w_rows {G : ab_G} {S : ab_S} {u : Nat} {im : Nat → Prop} {c bh nb st st2 n s t : Nat} {b : Nat → Int32} {f : Nat → sT} {tp : Nat → Nat} (h : kBd S im (mA S) c b bh nb st st2 u) (hQ : sQ S im n s f t tp) (hu : u + 128 < 2 ^ 20) (k : Int32) (i : Int32) : two G S u 7 M_s_rows [.ref 50, .int k, .int i] 6 M_m_rows [.ref 120, .int k, .int i] := by
  have ha := h.2.2.2.2.1
  have ht := hQ.2.1
  obtain ⟨T, hT⟩ := T_ex (G := G) hQ.1 ha.1
  refine ask h hQ (fun x hx => by first | (rw [show x = _ from hx]; exact ⟨_, rfl⟩) | (obtain ⟨v0, rfl, -⟩ := hx; exact ⟨_, rfl⟩)) (P := fun x => ∃ v0, x = .long v0 ∧ ((¬ ((0 ≤ k ∧ k ≤ 4) ∧ (0 ≤ i ∧ i ≤ 12)) ∧ v0 = -3) ∨ (((0 ≤ k ∧ k ≤ 4) ∧ (0 ≤ i ∧ i ≤ 12)) ∧ v0 = lN (gT (gI (mA S) T) (gWb (mA S) T (cN k)) (cN i) 0)))) ((p_s_rows h ht (by omega) hT k i).mono (fun v w' z => by obtain ⟨v0, z1, z2⟩ := z; exact ⟨_, z1, v0, rfl, z2⟩)) (P' := fun x => ∃ v0, x = .long v0 ∧ ((¬ ((0 ≤ k ∧ k ≤ 4) ∧ (0 ≤ i ∧ i ≤ 12)) ∧ v0 = -3) ∨ (((0 ≤ k ∧ k ≤ 4) ∧ (0 ≤ i ∧ i ≤ 12)) ∧ ∃ N, (aL (mA S) N).length = N ∧ v0 = lN (gT (gI (mA S) N) (gWb (mA S) N (cN k)) (cN i) 0)))) (fun S1 hm1 hA1 hQ1 hk1 => (c_m_rows hm1 hA1 ha.1 k i).mono (fun v w' z => by obtain ⟨v0, z1, z2⟩ := z; exact ⟨_, z1.D, v0, rfl, z2⟩)) (fun x y h1 h2 => ?_) (by omega) (by omega)
  obtain ⟨v0, rfl, h1⟩ := h1
  obtain ⟨v1, rfl, h2⟩ := h2
  congr 1
  rcases h1 with ⟨n1, e1⟩ | ⟨n1, e1⟩ <;> rcases h2 with ⟨n2, e2⟩ | ⟨n2, e2⟩
  · rw [e1, e2]
  · exact absurd n2 n1
  · exact absurd n1 n2
  · obtain ⟨N, eN, e2⟩ := e2
    rw [NT ha.1 hT eN] at e2
    rw [e1, e2]
theorem w_most {G : ab_G} {S : ab_S} {u : Nat} {im : Nat → Prop} {c bh nb st st2 n s t : Nat} {b : Nat → Int32} {f : Nat → sT} {tp : Nat → Nat} (h : kBd S im (mA S) c b bh nb st st2 u) (hQ : sQ S im n s f t tp) (hu : u + 128 < 2 ^ 20) (p : Int32) : two G S u 7 M_s_most [.ref 50, .int p] 6 M_m_most [.ref 120, .int p] := by
  have ha := h.2.2.2.2.1
  have ht := hQ.2.1
  obtain ⟨T, hT⟩ := T_ex (G := G) hQ.1 ha.1
  refine ask h hQ (fun x hx => by first | (rw [show x = _ from hx]; exact ⟨_, rfl⟩) | (obtain ⟨v0, rfl, -⟩ := hx; exact ⟨_, rfl⟩)) (P := fun x => ∃ v0, x = .int v0 ∧ ((¬ (0 ≤ p ∧ cN p < aR (mA S)) ∧ v0 = -2) ∨ ((0 ≤ p ∧ cN p < aR (mA S)) ∧ v0 = nI (mxW (gC (mA S) T) (cN p) T)))) ((p_s_most h ht (by omega) hT p).mono (fun v w' z => by obtain ⟨v0, z1, z2⟩ := z; exact ⟨_, z1, v0, rfl, z2⟩)) (P' := fun x => ∃ v0, x = .int v0 ∧ ((¬ (0 ≤ p ∧ cN p < aR (mA S)) ∧ v0 = -2) ∨ ((0 ≤ p ∧ cN p < aR (mA S)) ∧ ∃ N, (aL (mA S) N).length = N ∧ v0 = nI (mxW (gC (mA S) N) (cN p) N)))) (fun S1 hm1 hA1 hQ1 hk1 => (c_m_most hm1 hA1 ha.1 p).mono (fun v w' z => by obtain ⟨v0, z1, z2⟩ := z; exact ⟨_, z1.D, v0, rfl, z2⟩)) (fun x y h1 h2 => ?_) (by omega) (by omega)
  obtain ⟨v0, rfl, h1⟩ := h1
  obtain ⟨v1, rfl, h2⟩ := h2
  congr 1
  rcases h1 with ⟨n1, e1⟩ | ⟨n1, e1⟩ <;> rcases h2 with ⟨n2, e2⟩ | ⟨n2, e2⟩
  · rw [e1, e2]
  · exact absurd n2 n1
  · exact absurd n1 n2
  · obtain ⟨N, eN, e2⟩ := e2
    rw [NT ha.1 hT eN] at e2
    rw [e1, e2]
theorem w_when {G : ab_G} {S : ab_S} {u : Nat} {im : Nat → Prop} {c bh nb st st2 n s t : Nat} {b : Nat → Int32} {f : Nat → sT} {tp : Nat → Nat} (h : kBd S im (mA S) c b bh nb st st2 u) (hQ : sQ S im n s f t tp) (hu : u + 128 < 2 ^ 20) (k : Int32) : two G S u 7 M_s_when [.ref 50, .int k] 6 M_m_when [.ref 120, .int k] := by
  have ha := h.2.2.2.2.1
  have ht := hQ.2.1
  refine ask h hQ (fun x hx => by first | (rw [show x = _ from hx]; exact ⟨_, rfl⟩) | (obtain ⟨v0, rfl, -⟩ := hx; exact ⟨_, rfl⟩)) (P := fun x => ∃ v0, x = .int v0 ∧ ((¬ (0 ≤ k ∧ k ≤ 4) ∧ v0 = -3) ∨ ((0 ≤ k ∧ k ≤ 4) ∧ fstM (fun m => cN k ≤ mLe (aI (mA S) ((mA S) 40) m) (aR (mA S))) v0))) ((p_s_when h ht (by omega) k).mono (fun v w' z => by obtain ⟨v0, z1, z2⟩ := z; exact ⟨_, z1, v0, rfl, z2⟩)) (P' := fun x => ∃ v0, x = .int v0 ∧ ((¬ (0 ≤ k ∧ k ≤ 4) ∧ v0 = -3) ∨ ((0 ≤ k ∧ k ≤ 4) ∧ fstM (fun m => cN k ≤ mLe (aI (mA S) ((mA S) 40) m) (aR (mA S))) v0))) (fun S1 hm1 hA1 hQ1 hk1 => (c_m_when hm1 hA1 ha.1 k).mono (fun v w' z => by obtain ⟨v0, z1, z2⟩ := z; exact ⟨_, z1.D, v0, rfl, z2⟩)) (fun x y h1 h2 => ?_) (by omega) (by omega)
  obtain ⟨v0, rfl, h1⟩ := h1
  obtain ⟨v1, rfl, h2⟩ := h2
  congr 1
  rcases h1 with ⟨n1, e1⟩ | ⟨n1, e1⟩ <;> rcases h2 with ⟨n2, e2⟩ | ⟨n2, e2⟩
  · rw [e1, e2]
  · exact absurd n2 n1
  · exact absurd n1 n2
  · exact fstM_one e2 e1
theorem w_round {G : ab_G} {S : ab_S} {u : Nat} {im : Nat → Prop} {c bh nb st st2 n s t : Nat} {b : Nat → Int32} {f : Nat → sT} {tp : Nat → Nat} (h : kBd S im (mA S) c b bh nb st st2 u) (hQ : sQ S im n s f t tp) (hu : u + 128 < 2 ^ 20) (x0 : Int32) : two G S u 7 M_s_round [.ref 50, .int x0] 6 M_m_round [.ref 120, .int x0] := by
  have ha := h.2.2.2.2.1
  have ht := hQ.2.1
  refine ask h hQ (fun x hx => by first | (rw [show x = _ from hx]; exact ⟨_, rfl⟩) | (obtain ⟨v0, rfl, -⟩ := hx; exact ⟨_, rfl⟩)) (P := fun x => ∃ v0, x = .int v0 ∧ ((¬ (0 ≤ x0 ∧ x0 ≤ 1) ∧ v0 = -2) ∨ ((0 ≤ x0 ∧ x0 ≤ 1) ∧ ∃ n t, isLas (aI (mA S) ((mA S) 40)) n t ∧ n ≤ 625 ∧ v0 = if x0 = 0 then nI t else nI (n - t)))) ((p_s_round h ht (by omega) x0).mono (fun v w' z => by obtain ⟨v0, z1, z2⟩ := z; exact ⟨_, z1, v0, rfl, z2⟩)) (P' := fun x => ∃ v0, x = .int v0 ∧ ((¬ (0 ≤ x0 ∧ x0 ≤ 1) ∧ v0 = -2) ∨ ((0 ≤ x0 ∧ x0 ≤ 1) ∧ ∃ n t, isLas (aI (mA S) ((mA S) 40)) n t ∧ n ≤ 625 ∧ v0 = if x0 = 0 then nI t else nI (n - t)))) (fun S1 hm1 hA1 hQ1 hk1 => (c_m_round hm1 hA1 ha.1 x0).mono (fun v w' z => by obtain ⟨v0, z1, z2⟩ := z; exact ⟨_, z1.D, v0, rfl, z2⟩)) (fun x y h1 h2 => ?_) (by omega) (by omega)
  obtain ⟨v0, rfl, h1⟩ := h1
  obtain ⟨v1, rfl, h2⟩ := h2
  congr 1
  rcases h1 with ⟨n1, e1⟩ | ⟨n1, e1⟩ <;> rcases h2 with ⟨n2, e2⟩ | ⟨n2, e2⟩
  · rw [e1, e2]
  · exact absurd n2 n1
  · exact absurd n1 n2
  · obtain ⟨n3, t3, i1, -, e1⟩ := e1
    obtain ⟨n4, t4, i2, -, e2⟩ := e2
    obtain ⟨z1, z2⟩ := isLas_one i1 i2
    rw [e1, e2, z1, z2]
theorem w_lies {G : ab_G} {S : ab_S} {u : Nat} {im : Nat → Prop} {c bh nb st st2 n s t : Nat} {b : Nat → Int32} {f : Nat → sT} {tp : Nat → Nat} (h : kBd S im (mA S) c b bh nb st st2 u) (hQ : sQ S im n s f t tp) (hu : u + 128 < 2 ^ 20) (p : Int32) (k : Int32) : two G S u 7 M_s_lies [.ref 50, .int p, .int k] 6 M_m_lies [.ref 120, .int p, .int k] := by
  have ha := h.2.2.2.2.1
  have ht := hQ.2.1
  exact ask h hQ (fun x hx => by first | (rw [show x = _ from hx]; exact ⟨_, rfl⟩) | (obtain ⟨v0, rfl, -⟩ := hx; exact ⟨_, rfl⟩)) (P := fun x => x = .int (if (0 ≤ p ∧ cN p < aR (mA S)) then (if 0 ≤ k ∧ k ≤ 99999 then nI (mWa (aI (mA S) ((mA S) 40) (cN k)) (cN p)) else -3) else -2)) (P' := fun x => x = .int (if (0 ≤ p ∧ cN p < aR (mA S)) then (if 0 ≤ k ∧ k ≤ 99999 then nI (mWa (aI (mA S) ((mA S) 40) (cN k)) (cN p)) else -3) else -2)) ((p_s_lies h ht (by omega) p k).mono (fun v w' z => ⟨_, z, rfl⟩)) (fun S1 hm1 hA1 hQ1 hk1 => (c_m_lies hm1 hA1 ha.1 p k).mono (fun v w' z => ⟨_, z.D, rfl⟩)) (fun x y h1 h2 => h2.trans h1.symm) (by omega) (by omega)
theorem w_chance {G : ab_G} {S : ab_S} {u : Nat} {im : Nat → Prop} {c bh nb st st2 n s t : Nat} {b : Nat → Int32} {f : Nat → sT} {tp : Nat → Nat} (h : kBd S im (mA S) c b bh nb st st2 u) (hQ : sQ S im n s f t tp) (hu : u + 128 < 2 ^ 20) (k : Int32) (i : Int32) (x0 : Int32) : two G S u 7 M_s_chance [.ref 50, .int k, .int i, .int x0] 46 M_m_chance [.ref 120, .int k, .int i, .int x0] := by
  have ha := h.2.2.2.2.1
  have ht := hQ.2.1
  exact ask h hQ (fun x hx => by first | (rw [show x = _ from hx]; exact ⟨_, rfl⟩) | (obtain ⟨v0, rfl, -⟩ := hx; exact ⟨_, rfl⟩)) (P := fun x => x = .int (if (0 ≤ x0 ∧ x0 ≤ 1) then (if (0 ≤ k ∧ k ≤ 4) ∧ (0 ≤ i ∧ i ≤ 6) then aPa (tot (aNx (mA S)) (aR (mA S)) (fWm (mA S) (cN k)) (cN i) (aE (mA S))) (10 ^ cN i) x0 else -3) else -2)) (P' := fun x => x = .int (if (0 ≤ x0 ∧ x0 ≤ 1) then (if (0 ≤ k ∧ k ≤ 4) ∧ (0 ≤ i ∧ i ≤ 6) then aPa (tot (aNx (mA S)) (aR (mA S)) (fWm (mA S) (cN k)) (cN i) (aE (mA S))) (10 ^ cN i) x0 else -3) else -2)) ((p_s_chance h ht (by omega) k i x0).mono (fun v w' z => ⟨_, z, rfl⟩)) (fun S1 hm1 hA1 hQ1 hk1 => (c_m_chance hm1 hA1 ha.1 k i x0).mono (fun v w' z => ⟨_, z.D, rfl⟩)) (fun x y h1 h2 => h2.trans h1.symm) (by omega) (by omega)
theorem w_mean {G : ab_G} {S : ab_S} {u : Nat} {im : Nat → Prop} {c bh nb st st2 n s t : Nat} {b : Nat → Int32} {f : Nat → sT} {tp : Nat → Nat} (h : kBd S im (mA S) c b bh nb st st2 u) (hQ : sQ S im n s f t tp) (hu : u + 128 < 2 ^ 20) (i : Int32) (x0 : Int32) : two G S u 7 M_s_mean [.ref 50, .int i, .int x0] 46 M_m_mean [.ref 120, .int i, .int x0] := by
  have ha := h.2.2.2.2.1
  have ht := hQ.2.1
  exact ask h hQ (fun x hx => by first | (rw [show x = _ from hx]; exact ⟨_, rfl⟩) | (obtain ⟨v0, rfl, -⟩ := hx; exact ⟨_, rfl⟩)) (P := fun x => x = .int (if (0 ≤ x0 ∧ x0 ≤ 1) then (if (0 ≤ i ∧ i ≤ 6) then aPa (tot (aNx (mA S)) (aR (mA S)) (fSm (mA S)) (cN i) (aE (mA S))) (10 ^ cN i) x0 else -3) else -2)) (P' := fun x => x = .int (if (0 ≤ x0 ∧ x0 ≤ 1) then (if (0 ≤ i ∧ i ≤ 6) then aPa (tot (aNx (mA S)) (aR (mA S)) (fSm (mA S)) (cN i) (aE (mA S))) (10 ^ cN i) x0 else -3) else -2)) ((p_s_mean h ht (by omega) i x0).mono (fun v w' z => ⟨_, z, rfl⟩)) (fun S1 hm1 hA1 hQ1 hk1 => (c_m_mean hm1 hA1 ha.1 i x0).mono (fun v w' z => ⟨_, z.D, rfl⟩)) (fun x y h1 h2 => h2.trans h1.symm) (by omega) (by omega)
theorem w_trades {G : ab_G} {S : ab_S} {u : Nat} {im : Nat → Prop} {c bh nb st st2 n s t : Nat} {b : Nat → Int32} {f : Nat → sT} {tp : Nat → Nat} (h : kBd S im (mA S) c b bh nb st st2 u) (hQ : sQ S im n s f t tp) (hu : u + 128 < 2 ^ 20) (p : Int32) (x0 : Int32) : two G S u 7 M_s_trades [.ref 50, .int p, .int x0] 3 M_m_trades [.ref 120, .int p, .int x0] := by
  have ha := h.2.2.2.2.1
  have ht := hQ.2.1
  exact ask h hQ (fun x hx => by first | (rw [show x = _ from hx]; exact ⟨_, rfl⟩) | (obtain ⟨v0, rfl, -⟩ := hx; exact ⟨_, rfl⟩)) (P := fun x => x = .int (if (0 ≤ p ∧ cN p < aR (mA S)) ∧ (0 ≤ x0 ∧ x0 ≤ 1) then (if x0 = 0 then nI (aTd (mA S) (cN p)).1 else nI (aTd (mA S) (cN p)).2) else -2)) (P' := fun x => x = .int (if (0 ≤ p ∧ cN p < aR (mA S)) ∧ (0 ≤ x0 ∧ x0 ≤ 1) then (if x0 = 0 then nI (aTd (mA S) (cN p)).1 else nI (aTd (mA S) (cN p)).2) else -2)) ((p_s_trades h ht (by omega) p x0).mono (fun v w' z => ⟨_, z, rfl⟩)) (fun S1 hm1 hA1 hQ1 hk1 => (c_m_trades hm1 hA1 ha.1 p x0).mono (fun v w' z => ⟨_, z.D, rfl⟩)) (fun x y h1 h2 => h2.trans h1.symm) (by omega) (by omega)
theorem w_glad {G : ab_G} {S : ab_S} {u : Nat} {im : Nat → Prop} {c bh nb st st2 n s t : Nat} {b : Nat → Int32} {f : Nat → sT} {tp : Nat → Nat} (h : kBd S im (mA S) c b bh nb st st2 u) (hQ : sQ S im n s f t tp) (hu : u + 128 < 2 ^ 20) : two G S u 7 M_s_glad [.ref 50] 3 M_m_glad [.ref 120] := by
  have ha := h.2.2.2.2.1
  have ht := hQ.2.1
  exact ask h hQ (fun x hx => by first | (rw [show x = _ from hx]; exact ⟨_, rfl⟩) | (obtain ⟨v0, rfl, -⟩ := hx; exact ⟨_, rfl⟩)) (P := fun x => x = .int (nI (aGl (mA S) (aR (mA S))))) (P' := fun x => x = .int (nI (aGl (mA S) (aR (mA S))))) ((p_s_glad h ht (by omega) ).mono (fun v w' z => ⟨_, z, rfl⟩)) (fun S1 hm1 hA1 hQ1 hk1 => (c_m_glad hm1 hA1 ha.1 ).mono (fun v w' z => ⟨_, z.D, rfl⟩)) (fun x y h1 h2 => h2.trans h1.symm) (by omega) (by omega)
theorem w_forces {G : ab_G} {S : ab_S} {u : Nat} {im : Nat → Prop} {c bh nb st st2 n s t : Nat} {b : Nat → Int32} {f : Nat → sT} {tp : Nat → Nat} (h : kBd S im (mA S) c b bh nb st st2 u) (hQ : sQ S im n s f t tp) (hu : u + 128 < 2 ^ 20) (p : Int32) (k : Int32) : two G S u 7 M_s_forces [.ref 50, .int p, .int k] 7 M_m_forces [.ref 120, .int p, .int k] := by
  have ha := h.2.2.2.2.1
  have ht := hQ.2.1
  obtain ⟨T, hT⟩ := T_ex (G := G) hQ.1 ha.1
  refine ask h hQ (fun x hx => by first | (rw [show x = _ from hx]; exact ⟨_, rfl⟩) | (obtain ⟨v0, rfl, -⟩ := hx; exact ⟨_, rfl⟩)) (P := fun x => ∃ v0, x = .int v0 ∧ ((¬ aNo (aR (mA S)) p k = 0 ∧ v0 = aNo (aR (mA S)) p k) ∨ (aNo (aR (mA S)) p k = 0 ∧ fstM (fun m => m < gFAR ∧ fw (gI (mA S) T) (gV (mA S) T (cN p) (cN k)) m true 0) v0))) ((p_s_forces h ht (by omega) hT p k).mono (fun v w' z => by obtain ⟨v0, z1, z2⟩ := z; exact ⟨_, z1, v0, rfl, z2⟩)) (P' := fun x => ∃ v0, x = .int v0 ∧ ((¬ aNo (aR (mA S)) p k = 0 ∧ v0 = aNo (aR (mA S)) p k) ∨ (aNo (aR (mA S)) p k = 0 ∧ ∃ N, (aL (mA S) N).length = N ∧ fstM (fun m => m < gFAR ∧ fw (gI (mA S) N) (gV (mA S) N (cN p) (cN k)) m true 0) v0))) (fun S1 hm1 hA1 hQ1 hk1 => (c_m_forces hm1 hA1 ha.1 p k).mono (fun v w' z => by obtain ⟨v0, z1, z2⟩ := z; exact ⟨_, z1.D, v0, rfl, z2⟩)) (fun x y h1 h2 => ?_) (by omega) (by omega)
  obtain ⟨v0, rfl, h1⟩ := h1
  obtain ⟨v1, rfl, h2⟩ := h2
  congr 1
  rcases h1 with ⟨n1, e1⟩ | ⟨n1, e1⟩ <;> rcases h2 with ⟨n2, e2⟩ | ⟨n2, e2⟩
  · rw [e1, e2]
  · exact absurd n2 n1
  · exact absurd n1 n2
  · obtain ⟨N, eN, e2⟩ := e2
    rw [NT ha.1 hT eN] at e2
    exact fstM_one e2 e1
theorem w_best {G : ab_G} {S : ab_S} {u : Nat} {im : Nat → Prop} {c bh nb st st2 n s t : Nat} {b : Nat → Int32} {f : Nat → sT} {tp : Nat → Nat} (h : kBd S im (mA S) c b bh nb st st2 u) (hQ : sQ S im n s f t tp) (hu : u + 128 < 2 ^ 20) (p : Int32) (k : Int32) : two G S u 7 M_s_best [.ref 50, .int p, .int k] 7 M_m_best [.ref 120, .int p, .int k] := by
  have ha := h.2.2.2.2.1
  have ht := hQ.2.1
  obtain ⟨T, hT⟩ := T_ex (G := G) hQ.1 ha.1
  refine ask h hQ (fun x hx => by first | (rw [show x = _ from hx]; exact ⟨_, rfl⟩) | (obtain ⟨v0, rfl, -⟩ := hx; exact ⟨_, rfl⟩)) (P := fun x => ∃ v0, x = .int v0 ∧ ((¬ aNo (aR (mA S)) p k = 0 ∧ v0 = aNo (aR (mA S)) p k) ∨ (aNo (aR (mA S)) p k = 0 ∧ bsR (gI (mA S) T) (gV (mA S) T (cN p) (cN k)) 0 v0))) ((p_s_best h ht (by omega) hT p k).mono (fun v w' z => by obtain ⟨v0, z1, z2⟩ := z; exact ⟨_, z1, v0, rfl, z2⟩)) (P' := fun x => ∃ v0, x = .int v0 ∧ ((¬ aNo (aR (mA S)) p k = 0 ∧ v0 = aNo (aR (mA S)) p k) ∨ (aNo (aR (mA S)) p k = 0 ∧ ∃ N, (aL (mA S) N).length = N ∧ bsR (gI (mA S) N) (gV (mA S) N (cN p) (cN k)) 0 v0))) (fun S1 hm1 hA1 hQ1 hk1 => (c_m_best hm1 hA1 ha.1 p k).mono (fun v w' z => by obtain ⟨v0, z1, z2⟩ := z; exact ⟨_, z1.D, v0, rfl, z2⟩)) (fun x y h1 h2 => ?_) (by omega) (by omega)
  obtain ⟨v0, rfl, h1⟩ := h1
  obtain ⟨v1, rfl, h2⟩ := h2
  congr 1
  rcases h1 with ⟨n1, e1⟩ | ⟨n1, e1⟩ <;> rcases h2 with ⟨n2, e2⟩ | ⟨n2, e2⟩
  · rw [e1, e2]
  · exact absurd n2 n1
  · exact absurd n1 n2
  · obtain ⟨N, eN, e2⟩ := e2
    rw [NT ha.1 hT eN] at e2
    exact bsR_one e2 e1
theorem w_placing {G : ab_G} {S : ab_S} {u : Nat} {im : Nat → Prop} {c bh nb st st2 n s t : Nat} {b : Nat → Int32} {f : Nat → sT} {tp : Nat → Nat} (h : kBd S im (mA S) c b bh nb st st2 u) (hQ : sQ S im n s f t tp) (hu : u + 128 < 2 ^ 20) (k : Int32) (x0 : Int32) : two G S u 7 M_s_placing [.ref 50, .int k, .int x0] 10 M_m_placing [.ref 120, .int k, .int x0] := by
  have ha := h.2.2.2.2.1
  have ht := hQ.2.1
  refine ask h hQ (fun x hx => by first | (rw [show x = _ from hx]; exact ⟨_, rfl⟩) | (obtain ⟨v0, rfl, -⟩ := hx; exact ⟨_, rfl⟩)) (P := fun x => ∃ v0, x = .int v0 ∧ ((¬ plO x0 (aR (mA S)) ∧ v0 = -2) ∨ (plO x0 (aR (mA S)) ∧ ¬ (0 ≤ k ∧ k ≤ 20) ∧ v0 = -3) ∨ (plO x0 (aR (mA S)) ∧ (0 ≤ k ∧ k ≤ 20) ∧ aR (mA S) = 0 ∧ v0 = -1) ∨ (plO x0 (aR (mA S)) ∧ (0 ≤ k ∧ k ≤ 20) ∧ 0 < aR (mA S) ∧ ∀ q0, v0 = plV x0 ((plX (aR (mA S)) (aR (mA S)) 0 0 (fun _ => 0)).foldl (plU (mA S) (cN k)) (-1, -1, q0))))) ((p_s_placing h ht (by omega) k x0).mono (fun v w' z => by obtain ⟨v0, z1, z2⟩ := z; exact ⟨_, z1, v0, rfl, z2⟩)) (P' := fun x => ∃ v0, x = .int v0 ∧ ((¬ plO x0 (aR (mA S)) ∧ v0 = -2) ∨ (plO x0 (aR (mA S)) ∧ ¬ (0 ≤ k ∧ k ≤ 20) ∧ v0 = -3) ∨ (plO x0 (aR (mA S)) ∧ (0 ≤ k ∧ k ≤ 20) ∧ aR (mA S) = 0 ∧ v0 = -1) ∨ (plO x0 (aR (mA S)) ∧ (0 ≤ k ∧ k ≤ 20) ∧ 0 < aR (mA S) ∧ ∃ q0, v0 = plV x0 ((plX (aR (mA S)) (aR (mA S)) 0 0 (fun _ => 0)).foldl (plU (mA S) (cN k)) (-1, -1, q0))))) (fun S1 hm1 hA1 hQ1 hk1 => (c_m_placing hm1 hA1 ha.1 k x0).mono (fun v w' z => by obtain ⟨v0, z1, z2⟩ := z; exact ⟨_, z1.D, v0, rfl, z2⟩)) (fun x y h1 h2 => ?_) (by omega) (by omega)
  obtain ⟨v0, rfl, h1⟩ := h1
  obtain ⟨v1, rfl, h2⟩ := h2
  congr 1
  rcases h1 with ⟨n1, e1⟩ | ⟨n1, m1, e1⟩ | ⟨n1, m1, r1, e1⟩ | ⟨n1, m1, r1, e1⟩ <;> rcases h2 with ⟨n2, e2⟩ | ⟨n2, m2, e2⟩ | ⟨n2, m2, r2, e2⟩ | ⟨n2, m2, r2, e2⟩
  all_goals first | exact absurd n2 n1 | exact absurd n1 n2 | exact absurd m2 m1 | exact absurd m1 m2 | (exfalso; omega) | (rw [e1, e2]; done) | (obtain ⟨q0, e2⟩ := e2; rw [e2, e1 q0])
