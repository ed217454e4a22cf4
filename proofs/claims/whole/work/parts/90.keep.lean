/-! ===== rows: what other cells' changes leave ===== -/
theorem roI.keep {S S' : ab_S} {r N x k : Nat} {a : Nat → Int32} {l : List Nat} (h : roI S r N x a k) (hE : sEq l S S') (h0 : r ∉ l) (h1 : r + 1 ∉ l) (h2 : r + 2 ∉ l) (h3 : r + 3 ∉ l) (h4 : r + 4 ∉ l) : roI S' r N x a k := by
  unfold roI roL roF roN at h ⊢
  rw [hE.2.2.1 r h0, hE.2.2.1 _ h1, hE.2.2.1 _ h2, hE.2.2.1 _ h3, hE.2.2.1 _ h4, hE.2.2.2.2.1]
  exact h
/-- what an opened stand leads to -/
theorem roN_o {S : ab_S} {r M x k T : Nat} {a : Nat → Int32} (h : aOk a) (hT : (cL a T).length = T) (hI : roI S r M x a k) {i d : Nat} (hi : i < k) (hd : d < 4) : sI S (r + 4) (i * 4 + d) = encN (gI a T i d) := by
  obtain ⟨-, hk, -, -, -, -, -, h8, -⟩ := hI
  have hp := cL_pre hT hk
  have hl := hp.len
  have hil : i < (cL a k).length := by omega
  have h9 := (h8 i d hi hd).pre hp hil (fun s e => bfB_clo k i d s hi hil hd e)
  rw [← gI_c h hT (show i < T by omega) hd]
  exact h9
/-- where it leads is found by then -/
theorem gI_in {a : Nat → Int32} {k T : Nat} (h : aOk a) (hT : (cL a T).length = T) (hk : k ≤ (cL a k).length) {i d j : Nat} (hi : i < k) (hd : d < 4) (e : gI a T i d = some j) : j < (cL a k).length := by
  have hp := cL_pre hT hk
  have hl := hp.len
  rw [← gI_c h hT (show i < T by omega) hd] at e
  obtain ⟨e1, e2⟩ := (gT2_iff hT (show i < T by omega) hd).mp e
  have hil : i < (cL a k).length := by omega
  have e3 : nxC a ((cL a T).getD i 0) d = some ((cL a T).getD j 0) := e2
  rw [hp.get hil] at e3
  have hm : (cL a T).getD j 0 ∈ cL a k := bfB_clo k i d _ hi hil hd e3
  exact (bfB_ix (N := T) (cL_lt hT hk) (show j < (cL a T).length by omega)).mp hm
/-- a class's answer of the soonest and the way -/
theorem soon_c {a : Nat → Int32} {k T h t : Nat} (ha : aOk a) (hT : (cL a T).length = T) (hk : k ≤ (cL a k).length) (ht : t < (cL a k).length) (hw : h ≤ mLe (cWm a k t) (aR a)) (hno : ∀ i, i < t → ¬ h ≤ mLe (cWm a k i) (aR a)) : fstM (fun m => m < gFAR ∧ pth (gI a T) (gW a T h) m 0) (nI (cD a T t)) := by
  have h15 := cL_15 ha T
  exact (bfT_c ha hT).soon (fsW_c ha hT hk ht hw hno) (by unfold gFAR; omega)
theorem soon_n {a : Nat → Int32} {k T h : Nat} (ha : aOk a) (hT : (cL a T).length = T) (hk : k = (cL a k).length) (hno : ∀ i, i < k → ¬ h ≤ mLe (cWm a k i) (aR a)) : fstM (fun m => m < gFAR ∧ pth (gI a T) (gW a T h) m 0) (-1) := by
  have hT0 : 0 < T := by
    have : 0 < (cL a T).length := (bfB_pos T).1
    omega
  exact Or.inr ⟨fun m z => (bfT_c ha hT).never hT0 (noW_c ha hT hk hno) m z.2, rfl⟩
