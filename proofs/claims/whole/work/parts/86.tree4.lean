/-! ===== the class's rows are the reference's ===== -/
theorem bfT.cong {N : Nat} {g g' : Nat → Nat → Option Nat} {pf D : Nat → Nat} (h : bfT g pf D N) (e : ∀ i d, i < N → d < 4 → g i d = g' i d) : bfT g' pf D N := by
  obtain ⟨t1, t2, t3, t4, t5, d0, dS⟩ := h
  refine ⟨fun i h0 hi => ?_, fun i d j hi hd z => t2 i d j hi hd (by rw [e i d hi hd]; exact z), fun i d j hi hd z => t3 i d j hi hd (by rw [e i d hi hd]; exact z), t4, fun p d d' u j hp hd hdd z hno h1 h2 z' => t5 p d d' u j hp hd hdd (by rw [e p d hp hd]; exact z) (fun b hb y => hno b hb (by rw [← e p b hp (by omega)]; exact y)) h1 h2 (by rw [e p d' hp (by omega)]; exact z'), d0, dS⟩
  obtain ⟨q1, d, q2, q3⟩ := t1 i h0 hi
  exact ⟨q1, d, q2, by rw [← e _ d (by omega) q2]; exact q3⟩
section TREE4
variable {a : Nat → Int32} {N : Nat}
theorem cL_aL (h : aOk a) (k : Nat) : (cL a k).length = (aL a k).length := by rw [aL_map h, List.length_map]
theorem cL_nd (k : Nat) : (cL a k).Nodup := bfB_nd k
theorem aL_nd (k : Nat) : (aL a k).Nodup := bfB_nd k
theorem cL_15 (h : aOk a) (k : Nat) : (cL a k).length ≤ 15000 := by
  have h1 := nd_len (cL_nd k) (fun c hc => cL_all h k c hc)
  have h2 := p5_6 h.R.2
  have h3 := kFc_le (aR a)
  have h4 : kFc (aR a) * 5 ^ aR a ≤ 24 * 625 := Nat.mul_le_mul h3 h2
  omega
theorem cL_lt (hN : (cL a N).length = N) {k : Nat} (hk : k ≤ (cL a k).length) : k ≤ N := by
  rcases Nat.le_total k N with z | z
  · exact z
  · have e : cL a (N + (k - N)) = cL a N := bfB_end hN (k - N)
    rw [show N + (k - N) = k by omega] at e
    rw [e, hN] at hk
    exact hk
theorem cL_pre (hN : (cL a N).length = N) {k : Nat} (hk : k ≤ (cL a k).length) : pfx (cL a k) (cL a N) := bfB_mono (cL_lt hN hk)
theorem gC_c (h : aOk a) (hN : (cL a N).length = N) {i : Nat} (hi : i < N) : gC a N i = fiC a ((cL a N).getD i 0) := by
  unfold gC
  rw [aL_map h]
  exact getD_map (by omega)
theorem gI_c (h : aOk a) (hN : (cL a N).length = N) {i d : Nat} (hi : i < N) (hd : d < 4) : gT2 (nxC a) (cL a N) i d = gI a N i d := by
  have hm : (cL a N).getD i 0 ∈ cL a N := get_mem (by omega)
  have hv := cL_all h N _ hm
  have e : gI a N i d = (aN a (gC a N i) d).map (fun s => (aL a N).idxOf s) := rfl
  rw [e, gC_c h hN hi, aN_fi h hv]
  unfold gT2
  cases z : nxC a ((cL a N).getD i 0) d with
  | none => rfl
  | some s =>
    show some ((cL a N).idxOf s) = some ((aL a N).idxOf (fiC a s))
    have hs : s ∈ cL a N := bfB_clo N i d s hi (show i < (cL a N).length by omega) hd z
    have hl := ix_lt hs
    have e1 : (aL a N).getD ((cL a N).idxOf s) 0 = fiC a s := by
      rw [aL_map h, getD_map hl, ix_get hs]
    rw [← e1, get_ix (aL_nd N) (by rw [← cL_aL h]; exact hl)]
def cP (a : Nat → Int32) (N : Nat) : Nat → Nat := pfB (nxC a) (cL a N)
def cD (a : Nat → Int32) (N : Nat) : Nat → Nat := dB (cP a N)
theorem bfT_c (h : aOk a) (hN : (cL a N).length = N) : bfT (gI a N) (cP a N) (cD a N) N := (bfT_of hN).cong (fun i d hi hd => gI_c h hN hi hd)
theorem roF_c {S : ab_S} {r k : Nat} (hN : (cL a N).length = N) (hk : k ≤ (cL a k).length) (hF : roF S r a (cL a k)) : ∀ i, 0 < i → i < (cL a k).length → sI S (r + 3) i = nI (cP a N i) ∧ cP a N i < i := fun i h0 hi => by
  have hp := cL_pre hN hk
  have hl := hp.len
  obtain ⟨p, p1, p2, ⟨d, p3, p4⟩, p5⟩ := hF.2 i h0 hi
  rw [← hp.get hi, ← hp.get (show p < (cL a k).length by omega)] at p4
  obtain ⟨q1, ⟨d', q2, q3⟩, -⟩ := pfB_ok (show p < (cL a N).length by omega) p3 p4
  have e : cP a N i = p := by
    refine Nat.le_antisymm q1 (Nat.not_lt.mp (fun z => ?_))
    have z' : cP a N i < p := z
    refine p5 _ d' z' q2 ?_
    rw [← hp.get hi, ← hp.get (show cP a N i < (cL a k).length by omega)]
    exact q3
  rw [e]
  exact ⟨p1, p2⟩
theorem roN_c {S : ab_S} {r M x k : Nat} (h : aOk a) (hN : (cL a N).length = N) (hI : roI S r M x a k) : ∀ i d, i < (cL a k).length → d < 4 → (∃ j, 0 < j ∧ j < (cL a k).length ∧ cP a N j = i) → sI S (r + 4) (i * 4 + d) = encN (gI a N i d) := by
  intro i d hi hd ⟨j, j0, j1, j2⟩
  obtain ⟨-, hk, -, -, -, -, -, h8, -⟩ := hI
  have hp := cL_pre hN hk
  have hl := hp.len
  have hat := (pfB_at (nx := nxC a) hN j0 (show j < N by omega)).1
  have hat2 : (cL a (cP a N j)).length ≤ j := hat
  rw [j2] at hat2
  have hik : i < k := by
    refine Nat.not_le.mp (fun z => ?_)
    have hz : pfx (cL a k) (cL a i) := bfB_mono z
    have := hz.len
    omega
  have h9 := (h8 i d hik hd).pre hp hi (fun s e => bfB_clo k i d s hik hi hd e)
  rw [← gI_c h hN (show i < N by omega) hd]
  exact h9
theorem gI_31 (h : aOk a) {i d j : Nat} (e : gI a N i d = some j) : j < 2 ^ 31 := by
  unfold gI at e
  cases z : aN a ((aL a N).getD i 0) d with
  | none => rw [z] at e; cases e
  | some s =>
    rw [z] at e
    have e1 : (aL a N).idxOf s = j := Option.some.inj e
    have h1 := cL_15 h N
    have h2 := cL_aL h N
    have h3 : (aL a N).idxOf s ≤ (aL a N).length := List.idxOf_le_length
    omega
theorem cW_6 (h : aOk a) (v : Nat) : v % 5 ^ aR a < 625 := Nat.lt_of_lt_of_le (Nat.mod_lt _ (p5_pos _)) (p5_6 h.R.2)
theorem gC_le (h : aOk a) (hN : (cL a N).length = N) {i n : Nat} (hi : i < N) : mLe (gC a N i) n = mLe (cWm a N i) n := by
  rw [gC_c h hN hi]
  exact cSt_le (cW_6 h _)
theorem gC_wa (h : aOk a) (hN : (cL a N).length = N) {i n : Nat} (hi : i < N) : mWa (gC a N i) n = mWa (cWm a N i) n := by
  rw [gC_c h hN hi]
  exact cSt_wa (cW_6 h _)
theorem cWm_pre (hN : (cL a N).length = N) {k : Nat} (hk : k ≤ (cL a k).length) {i : Nat} (hi : i < (cL a k).length) : cWm a N i = cWm a k i := by
  unfold cWm
  rw [(cL_pre hN hk).get hi]
theorem fsW_c (h : aOk a) (hN : (cL a N).length = N) {k hh t : Nat} (hk : k ≤ (cL a k).length) (ht : t < (cL a k).length) (hw : hh ≤ mLe (cWm a k t) (aR a)) (hno : ∀ i, i < t → ¬ hh ≤ mLe (cWm a k i) (aR a)) : fsW (gW a N hh) N t := by
  have hl := (cL_pre hN hk).len
  refine ⟨by omega, ?_, fun i hi z => hno i hi ?_⟩
  · show hh ≤ mLe (gC a N t) (aR a)
    rw [gC_le h hN (by omega), cWm_pre hN hk ht]
    exact hw
  · have z' : hh ≤ mLe (gC a N i) (aR a) := z
    rw [gC_le h hN (by omega), cWm_pre hN hk (by omega)] at z'
    exact z'
theorem noW_c (h : aOk a) (hN : (cL a N).length = N) {k hh : Nat} (hk : k = (cL a k).length) (hno : ∀ i, i < k → ¬ hh ≤ mLe (cWm a k i) (aR a)) : ∀ i, i < N → ¬ gW a N hh i := by
  have e : k = N := bfB_one hk.symm hN
  intro i hi z
  have z' : hh ≤ mLe (gC a N i) (aR a) := z
  rw [gC_le h hN hi, ← e] at z'
  exact hno i (by omega) z'
theorem mxC_c (h : aOk a) (hN : (cL a N).length = N) {k p : Nat} (hk : k ≤ (cL a k).length) : ∀ j, j ≤ (cL a k).length → mxC a k p j = mxW (gC a N) p j
  | 0, _ => rfl
  | j + 1, hj => by
    have hl := (cL_pre hN hk).len
    unfold mxC mxW
    rw [mxC_c h hN hk j (by omega), gC_wa h hN (show j < N by omega), cWm_pre hN hk (show j < (cL a k).length by omega)]
    by_cases z : mWa (cWm a k j) p ≤ mxW (gC a N) p j
    · rw [if_pos z, if_neg (by omega)]
    · rw [if_neg z, if_pos (by omega)]
theorem mxW_mono (c : Nat → Nat) (r : Nat) (j : Nat) : ∀ m, mxW c r j ≤ mxW c r (j + m)
  | 0 => Nat.le_refl _
  | m + 1 => by
    have ih := mxW_mono c r j m
    show _ ≤ mxW c r (j + m + 1)
    have e : mxW c r (j + m + 1) = if mxW c r (j + m) < mWa (c (j + m)) r then mWa (c (j + m)) r else mxW c r (j + m) := rfl
    rw [e]
    split <;> omega
theorem most_c (h : aOk a) (hN : (cL a N).length = N) {k p : Nat} (hk : k ≤ (cL a k).length) (hz : k = (cL a k).length ∨ mxC a k p (cL a k).length = 4) : mxC a k p (cL a k).length = mxW (gC a N) p N := by
  have hl := (cL_pre hN hk).len
  have e := mxC_c h hN hk (p := p) (cL a k).length (Nat.le_refl _)
  rcases hz with z | z
  · have y : k = N := bfB_one z.symm hN
    rw [e, ← z, y]
  · have h1 := mxW_mono (gC a N) p (cL a k).length (N - (cL a k).length)
    rw [show (cL a k).length + (N - (cL a k).length) = N by omega] at h1
    have h2 := mxW_lt (gC a N) p N
    omega
end TREE4
