/-! ===== rows of two stands with the same laws, seasons and month ===== -/
theorem alk.nx {a b : Nat → Int32} (h : alk a b) : nxC b = nxC a := by
  funext v d
  unfold nxC fiC cB aY aS
  rw [h.1.R, h.1.ml, h.1.wl, h.sea.1, h.sea.2, h.2.2]
theorem alk.cl {a b : Nat → Int32} (h : alk a b) (e : aQ b * 5 ^ aR b + aW b = aQ a * 5 ^ aR a + aW a) (k : Nat) : cL b k = cL a k := by
  unfold cL
  rw [h.nx, e]
theorem roI.alk {S : ab_S} {r N x k : Nat} {a b : Nat → Int32} (hI : roI S r N x a k) (h : alk a b) (e : aQ b * 5 ^ aR b + aW b = aQ a * 5 ^ aR a + aW a) : roI S r N x b k := by
  have h1 := h.cl e k
  have h2 := h.nx
  have h3 := h.1.R
  unfold roI roF roN at hI ⊢
  rw [h1, h2, h3]
  exact hI
/-- the rows that lie there, of some stand: good for a only where the stamp is the climate's -/
def roW (S : ab_S) (r N st : Nat) (a : Nat → Int32) : Prop := roK S r N ∧ (∀ v, v < N → ∃ e, sI S (r + 2) v = nI e ∧ e < 15000) ∧ ∃ kn, sI S r 12 = nI kn ∧ kn < 2 ^ 31 ∧ (0 < kn → ∃ b k, aOk b ∧ roI S r N 84 b k ∧ (sI S r 9 = nI st → alk b a))
