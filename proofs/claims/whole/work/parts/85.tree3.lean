/-! ===== what is found breadth first is such a tree ===== -/
section TREE3
variable {nx : Nat → Nat → Option Nat} {c0 N : Nat}
theorem pfB_in (hN : (bfB nx c0 N).length = N) {i : Nat} (h0 : 0 < i) (hi : i < N) : pfB nx (bfB nx c0 N) i < N ∧ (∃ d, d < 4 ∧ nx ((bfB nx c0 N).getD (pfB nx (bfB nx c0 N) i) 0) d = some ((bfB nx c0 N).getD i 0)) ∧ ∀ p' d', p' < pfB nx (bfB nx c0 N) i → d' < 4 → nx ((bfB nx c0 N).getD p' 0) d' ≠ some ((bfB nx c0 N).getD i 0) := by
  have hm : (bfB nx c0 N).getD i 0 ∈ bfB nx c0 N := get_mem (by omega)
  rcases bfB_src N _ hm with z | ⟨p, d, h1, h2, h3, h4⟩
  · have hq := bfB_pos (nx := nx) (c0 := c0) N
    have := get_inj (bfB_nd N) (show i < (bfB nx c0 N).length by omega) hq.1 (by rw [z, hq.2])
    omega
  · obtain ⟨q1, q2, q3⟩ := pfB_ok h2 h3 h4
    exact ⟨by omega, q2, q3⟩
/-- the place of what one stand's opening finds -/
theorem pfB_at (hN : (bfB nx c0 N).length = N) {i : Nat} (h0 : 0 < i) (hi : i < N) : (bfB nx c0 (pfB nx (bfB nx c0 N) i)).length ≤ i ∧ i < (bfB nx c0 (pfB nx (bfB nx c0 N) i + 1)).length := by
  obtain ⟨q1, ⟨d, q2, q3⟩, q4⟩ := pfB_in hN h0 hi
  generalize pfB nx (bfB nx c0 N) i = p at q1 q3 q4 ⊢
  have hgt := bfB_gt hN q1
  have hst := (bfB_step (nx := nx) (c0 := c0) p).len
  have hp1 := bfB_mono (nx := nx) (c0 := c0) (show p + 1 ≤ N by omega)
  have hp0 := bfB_mono (nx := nx) (c0 := c0) (show p ≤ N by omega)
  constructor
  · refine Nat.not_lt.mp (fun z => ?_)
    have hm := (bfB_ix (nx := nx) (c0 := c0) (show p ≤ N by omega) (by omega)).mpr z
    rcases bfB_src p _ hm with e | ⟨i', d', h1, h2, h3, h4⟩
    · have hq := bfB_pos (nx := nx) (c0 := c0) N
      have := get_inj (bfB_nd N) (show i < (bfB nx c0 N).length by omega) hq.1 (by rw [e, hq.2])
      omega
    · rw [← hp0.get h2] at h4
      exact q4 i' d' h1 h3 h4
  · refine (bfB_ix (nx := nx) (c0 := c0) (show p + 1 ≤ N by omega) (by omega)).mp ?_
    exact bfB_clo (p + 1) p d _ (by omega) (by omega) q2 (by rw [← hp1.get (by omega)]; exact q3)
/-- how far, by fuel -/
def dF (pf : Nat → Nat) : Nat → Nat → Nat
  | 0, _ => 0
  | m + 1, i => if i = 0 then 0 else dF pf m (pf i) + 1
theorem dF_eq {pf : Nat → Nat} (hpf : ∀ i, 0 < i → i < N → pf i < i) : ∀ m m' i, i ≤ m → i ≤ m' → i < N → dF pf m i = dF pf m' i
  | 0, 0, _, _, _, _ => rfl
  | 0, m' + 1, i, h, _, _ => by
    have e : i = 0 := by omega
    rw [e]; rfl
  | m + 1, 0, i, _, h, _ => by
    have e : i = 0 := by omega
    rw [e]; rfl
  | m + 1, m' + 1, i, h1, h2, hi => by
    unfold dF
    by_cases z : i = 0
    · rw [if_pos z, if_pos z]
    · rw [if_neg z, if_neg z]
      have h3 := hpf i (by omega) hi
      rw [dF_eq hpf m m' (pf i) (by omega) (by omega) (by omega)]
def dB (pf : Nat → Nat) (i : Nat) : Nat := dF pf i i
theorem dB_0 (pf : Nat → Nat) : dB pf 0 = 0 := rfl
theorem dB_s {pf : Nat → Nat} (hpf : ∀ i, 0 < i → i < N → pf i < i) {i : Nat} (h0 : 0 < i) (hi : i < N) : dB pf i = dB pf (pf i) + 1 := by
  obtain ⟨m, rfl⟩ : ∃ m, i = m + 1 := ⟨i - 1, by omega⟩
  have h1 := hpf _ h0 hi
  show (if m + 1 = 0 then 0 else dF pf m (pf (m + 1)) + 1) = _
  rw [if_neg (by omega), dF_eq hpf m (pf (m + 1)) _ (by omega) (Nat.le_refl _) (by omega)]
  rfl
theorem bfT_of (hN : (bfB nx c0 N).length = N) : bfT (gT2 nx (bfB nx c0 N)) (pfB nx (bfB nx c0 N)) (dB (pfB nx (bfB nx c0 N))) N := by
  have t1 : ∀ i, 0 < i → i < N → pfB nx (bfB nx c0 N) i < i := fun i h0 hi => by
    have h1 := (pfB_at hN h0 hi).1
    have h2 := bfB_gt hN (pfB_in hN h0 hi).1
    omega
  refine ⟨fun i h0 hi => ⟨t1 i h0 hi, ?_⟩, fun i d j hi hd e => ((gT2_iff hN hi hd).mp e).1, ?_, ?_, ?_, dB_0 _, fun i h0 hi => dB_s t1 h0 hi⟩
  · obtain ⟨q1, ⟨d, q2, q3⟩, q4⟩ := pfB_in hN h0 hi
    exact ⟨d, q2, (gT2_iff hN q1 q2).mpr ⟨hi, q3⟩⟩
  · intro i d j hi hd e h0
    obtain ⟨e1, e2⟩ := (gT2_iff hN hi hd).mp e
    exact (pfB_ok (by omega) hd e2).1
  · intro i j h0 hij hj
    refine Nat.not_lt.mp (fun z => ?_)
    have h1 := (pfB_at hN (show 0 < j by omega) hj).2
    have h2 := (pfB_at hN h0 (show i < N by omega)).1
    have h3 := (bfB_mono (nx := nx) (c0 := c0) (show pfB nx (bfB nx c0 N) j + 1 ≤ pfB nx (bfB nx c0 N) i by omega)).len
    omega
  · intro p d d' u j hp hd hdd e hno hpf h0 e'
    obtain ⟨e1, e2⟩ := (gT2_iff hN hp hd).mp e
    obtain ⟨j1, j2⟩ := (gT2_iff hN hp (show d' < 4 by omega)).mp e'
    have hat := (pfB_at hN h0 e1).1
    rw [hpf] at hat
    have hgt := bfB_gt hN hp
    have hp0 := bfB_mono (nx := nx) (c0 := c0) (show p ≤ N by omega)
    have hp1 := bfB_mono (nx := nx) (c0 := c0) (show p + 1 ≤ N by omega)
    rw [bfB_s hgt] at hp1
    have hc : (bfB nx c0 p).getD p 0 = (bfB nx c0 N).getD p 0 := (hp0.get hgt).symm
    rw [hc] at hp1
    have hpd := (bfO_mono (nx := nx) (bfB nx c0 p) ((bfB nx c0 N).getD p 0) (show d ≤ 4 by omega)).tr hp1
    have hj : (bfB nx c0 N).getD j 0 ∈ bfO nx (bfB nx c0 p) ((bfB nx c0 N).getD p 0) d := bfO_mem hdd j2
    have hjl := ix_lt hj
    rw [← hpd.ix hj, get_ix (bfB_nd N) (by omega)] at hjl
    refine Nat.lt_of_lt_of_le hjl (Nat.not_lt.mp (fun z => ?_))
    have hu : (bfB nx c0 N).getD u 0 ∈ bfO nx (bfB nx c0 p) ((bfB nx c0 N).getD p 0) d := by
      rw [hpd.get z]; exact get_mem z
    rcases bfO_src d hu with y | ⟨b, b1, b2⟩
    · have := (bfB_ix (nx := nx) (c0 := c0) (show p ≤ N by omega) (by omega)).mp y
      omega
    · exact hno b b1 ((gT2_iff hN hp (by omega)).mpr ⟨e1, b2⟩)
end TREE3
