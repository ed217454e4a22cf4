/-! ===== a law's worth, by a list: what lay on the pile before doesn't matter ===== -/
def lvS (wd : Nat → Int32) (k : Int32) (st : List Int32) : List Int32 :=
  if k < 3000 then (if k < 1000 then k else wd (cN (k - 1000))) :: st
  else if k = 3006 then (match st with
    | x :: t => (1 - x) :: t
    | t => t)
  else if k = 3009 then (match st with
    | z :: y :: x :: t => (if x = 1 then y else z) :: t
    | t => t)
  else (match st with
    | y :: x :: t => lwB k x y :: t
    | t => t)
def lvE (wd cd : Nat → Int32) : Nat → List Int32
  | 0 => []
  | j + 1 => lvS wd (cd j) (lvE wd cd j)
def lvH (cd : Nat → Int32) : Nat → Nat
  | 0 => 0
  | j + 1 => if cd j < 3000 then lvH cd j + 1 else if cd j = 3006 then lvH cd j else if cd j = 3009 then lvH cd j - 2 else lvH cd j - 1
/-- codes that never want more than there is on the pile, and leave something; words below u -/
def lwW (u : Int32) (cd : Nat → Int32) (n : Nat) : Prop := (∀ j, j < n → lwK (cd j) (lvH cd j) ∧ (cd j < 3000 → cd j < u)) ∧ 0 < lvH cd n
def lvR (st : List Int32) (q : Nat × (Nat → Int32)) : Prop := st.length = q.1 ∧ ∀ i, i < q.1 → q.2 i = st.getD (q.1 - 1 - i) 0
theorem lvS_ok {wd : Nat → Int32} {k : Int32} {st : List Int32} {q : Nat × (Nat → Int32)} (h : lvR st q) (hk : lwK k q.1) : lvR (lvS wd k st) (lwS wd k q) := by
  obtain ⟨n, f⟩ := q
  obtain ⟨h1, h2⟩ := h
  dsimp only at h1 h2 hk
  unfold lwK at hk
  unfold lvS lwS
  split
  · refine ⟨by simp [h1], fun i hi => ?_⟩
    dsimp only at hi ⊢
    by_cases e : i = n
    · subst e
      simp [upd]
    · rw [show (upd f n _ i : Int32) = f i from if_neg e, h2 i (by omega), show n + 1 - 1 - i = (n - 1 - i) + 1 by omega]
      rfl
  · rename_i hn
    rw [if_neg hn] at hk
    split
    · rename_i h6
      rw [if_pos h6] at hk
      match st, h1, h2 with
      | [], h1, _ => exact absurd hk (by simp at h1; omega)
      | x :: t, h1, h2 =>
        refine ⟨by simpa using h1, fun i hi => ?_⟩
        dsimp only at hi ⊢
        by_cases e : i = n - 1
        · subst e
          have := h2 (n - 1) (by omega)
          rw [show n - 1 - (n - 1) = 0 by omega] at this
          rw [show (upd f (n - 1) (1 - f (n - 1)) (n - 1) : Int32) = 1 - f (n - 1) from if_pos rfl, this, show n - 1 - (n - 1) = 0 by omega]
          rfl
        · rw [show (upd f (n - 1) (1 - f (n - 1)) i : Int32) = f i from if_neg e, h2 i hi, show n - 1 - i = (n - 2 - i) + 1 by omega]
          rfl
    · rename_i h6
      rw [if_neg h6] at hk
      split
      · rename_i h9
        rw [if_pos h9] at hk
        match st, h1, h2 with
        | [], h1, _ => exact absurd hk (by simp at h1; omega)
        | [_], h1, _ => exact absurd hk (by simp at h1; omega)
        | [_, _], h1, _ => exact absurd hk (by simp at h1; omega)
        | z :: y :: x :: t, h1, h2 =>
          have a1 := h2 (n - 1) (by omega)
          have a2 := h2 (n - 2) (by omega)
          have a3 := h2 (n - 3) (by omega)
          rw [show n - 1 - (n - 1) = 0 by omega] at a1
          rw [show n - 1 - (n - 2) = 1 by omega] at a2
          rw [show n - 1 - (n - 3) = 2 by omega] at a3
          refine ⟨by simp at h1 ⊢; omega, fun i hi => ?_⟩
          dsimp only at hi ⊢
          by_cases e : i = n - 3
          · subst e
            rw [show (upd f (n - 3) (if f (n - 3) = 1 then f (n - 2) else f (n - 1)) (n - 3) : Int32) = if f (n - 3) = 1 then f (n - 2) else f (n - 1) from if_pos rfl, a1, a2, a3, show n - 2 - 1 - (n - 3) = 0 by omega]
            rfl
          · rw [show (upd f (n - 3) (if f (n - 3) = 1 then f (n - 2) else f (n - 1)) i : Int32) = f i from if_neg e, h2 i (by omega), show n - 1 - i = (n - 4 - i) + 3 by omega, show n - 2 - 1 - i = (n - 4 - i) + 1 by omega]
            rfl
      · rename_i h9
        rw [if_neg h9] at hk
        match st, h1, h2 with
        | [], h1, _ => exact absurd hk (by simp at h1; omega)
        | [_], h1, _ => exact absurd hk (by simp at h1; omega)
        | y :: x :: t, h1, h2 =>
          have a1 := h2 (n - 1) (by omega)
          have a2 := h2 (n - 2) (by omega)
          rw [show n - 1 - (n - 1) = 0 by omega] at a1
          rw [show n - 1 - (n - 2) = 1 by omega] at a2
          refine ⟨by simp at h1 ⊢; omega, fun i hi => ?_⟩
          dsimp only at hi ⊢
          by_cases e : i = n - 2
          · subst e
            rw [show (upd f (n - 2) (lwB k (f (n - 2)) (f (n - 1))) (n - 2) : Int32) = lwB k (f (n - 2)) (f (n - 1)) from if_pos rfl, a1, a2, show n - 1 - 1 - (n - 2) = 0 by omega]
            rfl
          · rw [show (upd f (n - 2) (lwB k (f (n - 2)) (f (n - 1))) i : Int32) = f i from if_neg e, h2 i (by omega), show n - 1 - i = (n - 3 - i) + 2 by omega, show n - 1 - 1 - i = (n - 3 - i) + 1 by omega]
            rfl
theorem lwS_ht (wd : Nat → Int32) (k : Int32) (q : Nat × (Nat → Int32)) : (lwS wd k q).1 = if k < 3000 then q.1 + 1 else if k = 3006 then q.1 else if k = 3009 then q.1 - 2 else q.1 - 1 := by
  unfold lwS
  split
  · rfl
  · split
    · rfl
    · split <;> rfl
theorem lwE_ht (wd cd f : Nat → Int32) : ∀ j, (lwE wd cd j (0, f)).1 = lvH cd j
  | 0 => rfl
  | j + 1 => by
    show (lwS wd (cd j) (lwE wd cd j (0, f))).1 = _
    rw [lwS_ht, lwE_ht wd cd f j]
    rfl
theorem lvE_ok {wd cd f : Nat → Int32} {n : Nat} (h : ∀ j, j < n → lwK (cd j) (lvH cd j)) : ∀ j, j ≤ n → lvR (lvE wd cd j) (lwE wd cd j (0, f))
  | 0, _ => ⟨rfl, fun i hi => absurd hi (Nat.not_lt_zero i)⟩
  | j + 1, hj => lvS_ok (lvE_ok h j (by omega)) (by rw [lwE_ht]; exact h j (by omega))
/-- what a law tells -/
def lvV (wd cd : Nat → Int32) (n : Nat) : Int32 := (lvE wd cd n).getD (lvH cd n - 1) 0
theorem lvV_ok {u : Int32} {wd cd : Nat → Int32} {n : Nat} (h : lwW u cd n) (f : Nat → Int32) : (lwE wd cd n (0, f)).2 0 = lvV wd cd n := by
  have h1 := lvE_ok (wd := wd) (f := f) (fun j hj => (h.1 j hj).1) n (Nat.le_refl n)
  have h2 := lwE_ht wd cd f n
  rw [h1.2 0 (by rw [h2]; exact h.2), h2]
  rfl
theorem lvS_cg {wd wd' : Nat → Int32} {k : Int32} {st : List Int32} {u : Nat} (hu : u ≤ 9) (hw : ∀ i, i < u → wd i = wd' i) (hk : k < 3000 → k < nI (1000 + u)) : lvS wd k st = lvS wd' k st := by
  unfold lvS
  split
  · rename_i h3
    split
    · rfl
    · rename_i h1
      have h1' : 1000 ≤ k := Int32.not_lt.mp h1
      have h9 : k < 1009 := by
        have := hk h3
        refine Int32.lt_of_lt_of_le this ?_
        exact nI_le (a := 1000 + u) (b := 1009) (by omega) (by decide)
      obtain ⟨q, hq1, hq2⟩ := lw_word h1' h9
      rw [hq2, cN_nI (by omega), hw q ?_]
      have hk' := hk h3
      have e : k = nI (1000 + q) := by
        have : k = nI q + 1000 := by rw [← hq2, Int32.sub_add_cancel]
        rw [this, show (1000 : Int32) = nI 1000 from rfl, nI_add, Nat.add_comm]
      rw [e, nI_ltI (by omega) (by omega)] at hk'
      omega
  · rfl
theorem lvE_cg {wd wd' cd : Nat → Int32} {u n : Nat} (hu : u ≤ 9) (hw : ∀ i, i < u → wd i = wd' i) (h : ∀ j, j < n → (cd j < 3000 → cd j < nI (1000 + u))) : ∀ j, j ≤ n → lvE wd cd j = lvE wd' cd j
  | 0, _ => rfl
  | j + 1, hj => by
    show lvS wd (cd j) (lvE wd cd j) = lvS wd' (cd j) (lvE wd' cd j)
    rw [lvE_cg hu hw h j (by omega), lvS_cg hu hw (h j (by omega))]
theorem lvV_cg {wd wd' cd : Nat → Int32} {u n : Nat} (hu : u ≤ 9) (hw : ∀ i, i < u → wd i = wd' i) (h : lwW (nI (1000 + u)) cd n) : lvV wd cd n = lvV wd' cd n := by
  unfold lvV
  rw [lvE_cg hu hw (fun j hj => (h.1 j hj).2) n (Nat.le_refl n)]
/-- the words of a law -/
def spW (r sea cls wa seat mo be he sa : Int32) : Nat → Int32 := fun i => if i = 0 then r else if i = 1 then sea else if i = 2 then cls else if i = 3 then wa else if i = 4 then seat else if i = 5 then mo else if i = 6 then be else if i = 7 then he else sa
/-- beside, heat, same, of those below q -/
def spB (sea : Nat → Int32) (c r : Nat) : Nat → Nat × Nat × Nat
  | 0 => (0, 0, 0)
  | q + 1 => if mSe c q = mSe c r + 1 ∨ mSe c r = mSe c q + 1 then ((spB sea c r q).1 + 1, (spB sea c r q).2.1 + mWa c q, (spB sea c r q).2.2 + (if sea q = sea r then 1 else 0)) else spB sea c r q
theorem spB_le (sea : Nat → Int32) (c r : Nat) : ∀ q, (spB sea c r q).1 ≤ q ∧ (spB sea c r q).2.1 ≤ 4 * q ∧ (spB sea c r q).2.2 ≤ q
  | 0 => ⟨Nat.le_refl _, Nat.le_refl _, Nat.le_refl _⟩
  | q + 1 => by
    have h := spB_le sea c r q
    have h2 := mWa_lt c q
    unfold spB
    split
    · refine ⟨by show _ + 1 ≤ _; omega, by show _ + mWa c q ≤ _; omega, ?_⟩
      show _ + (if sea q = sea r then 1 else 0) ≤ _
      split <;> omega
    · omega
def cl4 (x : Int32) : Nat := if x < 0 then 0 else if 4 < x then 4 else cN x
theorem cl4_lt (x : Int32) : cl4 x < 5 := by
  unfold cl4
  split
  · decide
  · split
    · decide
    · rename_i h1 h2
      obtain ⟨j, hj, e⟩ := nI_of2 (M := 4) (n := 4) (by decide) h1 (Int32.not_lt.mp h2)
      rw [e, cN_nI (by omega)]
      omega
/-- the law warms, or none: how many codes, which -/
def spT (wl : Option (Nat × (Nat → Int32))) (sea cls : Nat → Int32) (n : Nat) (mo : Int32) (c r : Nat) : Nat := cl4 (match wl with
  | none => if mWa c r * (spB sea c r n).1 < (spB sea c r n).2.1 then nI (mWa c r) + 1 else if (spB sea c r n).2.1 < mWa c r * (spB sea c r n).1 then nI (mWa c r) - 1 else nI (mWa c r)
  | some (k, cd) => lvV (spW (nI r) (sea r) (cls r) (nI (mWa c r)) (nI (mSe c r)) mo (nI (spB sea c r n).1) (nI (spB sea c r n).2.1) (nI (spB sea c r n).2.2)) cd k)
theorem spT_lt (wl : Option (Nat × (Nat → Int32))) (sea cls : Nat → Int32) (n : Nat) (mo : Int32) (c r : Nat) : spT wl sea cls n mo c r < 5 := cl4_lt _
def mSea (S : ab_S) : Nat → Int32 := fun r => if r < 4 then mA S (28 + r) else 0
def mCls (S : ab_S) : Nat → Int32 := fun r => if r < 4 then mA S (8 + r) else 0
theorem mSea_eq {S : ab_S} {r : Nat} (h : r < 4) : mSea S r = mA S (28 + r) := if_pos h
theorem mCls_eq {S : ab_S} {r : Nat} (h : r < 4) : mCls S r = mA S (8 + r) := if_pos h
def mWl (S : ab_S) : Option (Nat × (Nat → Int32)) := if mA S 2 = 1 then some (mCn S 0, mCd S 0) else none
def mMl (S : ab_S) : Option (Nat × (Nat → Int32)) := if mA S 3 = 0 then none else some (mCn S 1, mCd S 1)
/-- the laws are well made -/
def mLw (S : ab_S) : Prop := mLo S 0 ∧ mLo S 1 ∧ (mA S 2 = 1 → lwW (nI 1009) (mCd S 0) (mCn S 0)) ∧ (mA S 3 = 0 ∨ lwW (nI 1006) (mCd S 1) (mCn S 1))
