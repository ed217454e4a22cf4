/-! ===== stands in the order found: the first that is warm is nearest, and its way is the first ===== -/
/-- pf and D: by which each was found, how far it is -/
def bfT (g : Nat → Nat → Option Nat) (pf D : Nat → Nat) (N : Nat) : Prop := (∀ i, 0 < i → i < N → pf i < i ∧ ∃ d, d < 4 ∧ g (pf i) d = some i) ∧ (∀ i d j, i < N → d < 4 → g i d = some j → j < N) ∧ (∀ i d j, i < N → d < 4 → g i d = some j → 0 < j → pf j ≤ i) ∧ (∀ i j, 0 < i → i < j → j < N → pf i ≤ pf j) ∧ (∀ p d d' u j, p < N → d < 4 → d' < d → g p d = some u → (∀ e, e < d → g p e ≠ some u) → pf u = p → 0 < u → g p d' = some j → j < u) ∧ D 0 = 0 ∧ (∀ i, 0 < i → i < N → D i = D (pf i) + 1)
section TREE
variable {g : Nat → Nat → Option Nat} {pf D : Nat → Nat} {N : Nat}
theorem bfT.mono (h : bfT g pf D N) : ∀ m i j, j ≤ m → i ≤ j → j < N → D i ≤ D j
  | 0, i, j, h1, h2, _ => by rw [show i = j by omega]; exact Nat.le_refl _
  | m + 1, i, j, h1, h2, h3 => by
    obtain ⟨t1, t2, t3, t4, t5, d0, dS⟩ := id h
    by_cases z : i = j
    · rw [z]; exact Nat.le_refl _
    · by_cases y : i = 0
      · rw [y, d0]; exact Nat.zero_le _
      · have e1 := t4 i j (by omega) (by omega) h3
        have e2 := (t1 j (by omega) h3).1
        have e3 := bfT.mono h m (pf i) (pf j) (by omega) e1 (by omega)
        rw [dS i (by omega) (by omega), dS j (by omega) h3]
        omega
theorem bfT.lt (h : bfT g pf D N) {i j : Nat} (hi : i < N) (hD : D i < D j) : i < j := by
  apply Nat.lt_of_not_le
  intro z
  have := h.mono i j i (Nat.le_refl _) z hi
  omega
theorem bfT.step (h : bfT g pf D N) {i d j : Nat} (hi : i < N) (hd : d < 4) (e : g i d = some j) : D j ≤ D i + 1 := by
  obtain ⟨t1, t2, t3, t4, t5, d0, dS⟩ := id h
  by_cases z : j = 0
  · rw [z, d0]; omega
  · have hj := t2 i d j hi hd e
    have h1 := t3 i d j hi hd e (by omega)
    have h2 := h.mono i (pf j) i (Nat.le_refl _) h1 hi
    rw [dS j (by omega) hj]
    omega
theorem bfT.reach (h : bfT g pf D N) {W : Nat → Prop} : ∀ m i, i < N → pth g W m i → ∃ j, j < N ∧ W j ∧ D j ≤ D i + m
  | 0, i, hi, hp => ⟨i, hi, hp, Nat.le_refl _⟩
  | m + 1, i, hi, hp => by
    obtain ⟨d, j, hd, e, hp⟩ := hp
    have hj := h.2.1 i d j hi hd e
    obtain ⟨k, h1, h2, h3⟩ := bfT.reach h m j hj hp
    have := h.step hi hd e
    exact ⟨k, h1, h2, by omega⟩
theorem bfT.pf2 (h : bfT g pf D N) : ∀ i, 0 < i → i < N → pf i < i := fun i h1 h2 => (h.1 i h1 h2).1
theorem bfT.an (h : bfT g pf D N) {t : Nat} (ht : t < N) (m : Nat) (hm : m ≤ D t) : anc pf t m < N ∧ D (anc pf t m) + m = D t := anc_D h.pf2 h.2.2.2.2.2.1 h.2.2.2.2.2.2 ht m hm
theorem bfT.path (h : bfT g pf D N) {W : Nat → Prop} {t : Nat} (ht : t < N) (hW : W t) : ∀ m, m ≤ D t → pth g W m (anc pf t m)
  | 0, _ => hW
  | m + 1, hm => by
    obtain ⟨h1, h2⟩ := h.an ht m (by omega)
    have hp : 0 < anc pf t m := Nat.pos_of_ne_zero (fun z => by rw [z, h.2.2.2.2.2.1] at h2; omega)
    obtain ⟨-, d, hd, e⟩ := h.1 _ hp h1
    exact ⟨d, anc pf t m, hd, e, bfT.path h ht hW m (by omega)⟩
/-- t is the first warm one -/
def fsW (W : Nat → Prop) (N t : Nat) : Prop := t < N ∧ W t ∧ ∀ i, i < t → ¬ W i
theorem bfT.ds (h : bfT g pf D N) {W : Nat → Prop} {t : Nat} (hf : fsW W N t) (hN : N < gFAR) {m : Nat} (hm : m ≤ D t) : dst g W (anc pf t m) m := by
  obtain ⟨ht, hW, hno⟩ := hf
  obtain ⟨h1, h2⟩ := h.an ht m hm
  have hDt := D_le h.pf2 h.2.2.2.2.2.1 h.2.2.2.2.2.2 t t (Nat.le_refl _) ht
  refine ⟨by omega, h.path ht hW m hm, fun m' hm' hp => ?_⟩
  obtain ⟨j, j1, j2, j3⟩ := h.reach m' _ h1 hp
  have := h.lt j1 (show D j < D t by omega)
  exact hno j this j2
theorem anc_0 (h : bfT g pf D N) {t : Nat} (ht : t < N) : anc pf t (D t) = 0 := by
  obtain ⟨h1, h2⟩ := h.an ht (D t) (Nat.le_refl _)
  apply Decidable.byContradiction
  intro z
  have := h.2.2.2.2.2.2 _ (Nat.pos_of_ne_zero z) h1
  omega
theorem bfT.soon (h : bfT g pf D N) {W : Nat → Prop} {t : Nat} (hf : fsW W N t) (hN : N < gFAR) : fstM (fun m => m < gFAR ∧ pth g W m 0) (nI (D t)) := by
  have hd := h.ds hf hN (Nat.le_refl (D t))
  rw [anc_0 h hf.1] at hd
  exact Or.inl ⟨D t, ⟨hd.1, hd.2.1⟩, fun j hj z => hd.2.2 j hj z.2, rfl⟩
theorem bfT.never (h : bfT g pf D N) {W : Nat → Prop} (hN0 : 0 < N) (hno : ∀ i, i < N → ¬ W i) : ∀ m, ¬ pth g W m 0 := fun m hp => by
  obtain ⟨j, j1, j2, -⟩ := h.reach m 0 hN0 hp
  exact hno j j1 j2
/-- a way that begins ahead of the tree's stays ahead -/
theorem bfT.ahead (h : bfT g pf D N) {W : Nat → Prop} {t : Nat} (hf : fsW W N t) : ∀ m v, m ≤ D t → v < anc pf t m → ¬ pth g W m v
  | 0, v, _, hv, hp => hf.2.2 v hv hp
  | m + 1, v, hm, hv, hp => by
    obtain ⟨d, j, hd, e, hp⟩ := hp
    obtain ⟨t1, t2, t3, t4, t5, d0, dS⟩ := id h
    obtain ⟨a1, a2⟩ := h.an hf.1 m (by omega)
    obtain ⟨b1, b2⟩ := h.an hf.1 (m + 1) hm
    have hvN : v < N := by omega
    have hj := t2 v d j hvN hd e
    have hp0 : 0 < anc pf t m := Nat.pos_of_ne_zero (fun z => by rw [z, d0] at a2; omega)
    refine bfT.ahead h hf m j (by omega) ?_ hp
    apply Nat.lt_of_not_le
    intro z
    have hj0 : 0 < j := by omega
    have h1 := t3 v d j hvN hd e hj0
    have hv2 : v < pf (anc pf t m) := hv
    by_cases y : anc pf t m = j
    · rw [y] at hv2; omega
    · have := t4 _ j hp0 (by omega) hj
      omega
theorem bfT.fs (h : bfT g pf D N) {W : Nat → Prop} {t : Nat} (hf : fsW W N t) (hN : N < gFAR) {m d : Nat} (hm : m + 1 ≤ D t) (hd : d < 4) (e : g (anc pf t (m + 1)) d = some (anc pf t m)) (hl : ∀ d', d' < d → g (anc pf t (m + 1)) d' ≠ some (anc pf t m)) : fstD g W (anc pf t (m + 1)) d (anc pf t m) := by
  obtain ⟨a1, a2⟩ := h.an hf.1 m (by omega)
  obtain ⟨b1, b2⟩ := h.an hf.1 (m + 1) hm
  have d1 := h.ds hf hN hm
  have d2 := h.ds hf hN (show m ≤ D t by omega)
  refine ⟨hd, e, ⟨m, d1, d2⟩, fun d' j' hd' e' hx => ?_⟩
  obtain ⟨x, x1, x2⟩ := hx
  have hxm : x + 1 = m + 1 := dst_one x1 d1
  have hxe : x = m := by omega
  rw [hxe] at x2
  have hp0 : 0 < anc pf t m := Nat.pos_of_ne_zero (fun z => by rw [z, h.2.2.2.2.2.1] at a2; omega)
  have hlt := h.2.2.2.2.1 _ d d' _ j' b1 hd hd' e hl rfl hp0 e'
  exact h.ahead hf m j' (by omega) hlt x2.2.1
theorem bfT.way (h : bfT g pf D N) {W : Nat → Prop} {t : Nat} (hf : fsW W N t) (hN : N < gFAR) {i : Nat} {v : Int32} (hi : i < D t) {d : Nat} (hd : d < 4) (hv : v = nI d) (e : g (anc pf t (D t - i)) d = some (anc pf t (D t - 1 - i))) (hl : ∀ d', d' < d → g (anc pf t (D t - i)) d' ≠ some (anc pf t (D t - 1 - i))) : wR g W i 0 v := by
  have key : ∀ n m, m + n = i → wR g W n (anc pf t (D t - m)) v := by
    intro n
    induction n with
    | zero =>
      intro m hm
      have hmi : m = i := by omega
      rw [hmi]
      refine Or.inl ⟨d, anc pf t (D t - 1 - i), ?_, hv⟩
      have := h.fs hf hN (m := D t - 1 - i) (d := d) (by omega) hd (by rw [show D t - 1 - i + 1 = D t - i by omega]; exact e) (by rw [show D t - 1 - i + 1 = D t - i by omega]; exact hl)
      rw [show D t - 1 - i + 1 = D t - i by omega] at this
      exact this
    | succ n ih =>
      intro m hm
      obtain ⟨a1, a2⟩ := h.an hf.1 (D t - (m + 1)) (by omega)
      have hp0 : 0 < anc pf t (D t - (m + 1)) := Nat.pos_of_ne_zero (fun z => by rw [z, h.2.2.2.2.2.1] at a2; omega)
      have hs : anc pf t (D t - m) = pf (anc pf t (D t - (m + 1))) := by
        rw [show D t - m = (D t - (m + 1)) + 1 by omega]
        rfl
      obtain ⟨-, d0, hd0, e0⟩ := h.1 _ hp0 a1
      -- the least deed that leads there
      have hle : ∃ d1, d1 < 4 ∧ g (pf (anc pf t (D t - (m + 1)))) d1 = some (anc pf t (D t - (m + 1))) ∧ ∀ d', d' < d1 → g (pf (anc pf t (D t - (m + 1)))) d' ≠ some (anc pf t (D t - (m + 1))) := by
        have hw : ∀ q c, c ≤ q → c < 4 → g (pf (anc pf t (D t - (m + 1)))) c = some (anc pf t (D t - (m + 1))) → ∃ d1, d1 < 4 ∧ g (pf (anc pf t (D t - (m + 1)))) d1 = some (anc pf t (D t - (m + 1))) ∧ ∀ d', d' < d1 → g (pf (anc pf t (D t - (m + 1)))) d' ≠ some (anc pf t (D t - (m + 1))) := by
          intro q
          induction q with
          | zero => intro c h1 h2 h3; exact ⟨c, h2, h3, fun d' hd' => absurd hd' (by omega)⟩
          | succ q ihq =>
            intro c h1 h2 h3
            by_cases z : ∃ b, b < c ∧ g (pf (anc pf t (D t - (m + 1)))) b = some (anc pf t (D t - (m + 1)))
            · obtain ⟨b, b1, b2⟩ := z
              exact ihq b (by omega) (by omega) b2
            · exact ⟨c, h2, h3, fun d' hd' y => z ⟨d', hd', y⟩⟩
        exact hw 4 d0 (by omega) hd0 e0
      obtain ⟨d1, hd1, e1, l1⟩ := hle
      have hfs := h.fs hf hN (m := D t - (m + 1)) (d := d1) (by omega) hd1 e1 l1
      refine Or.inl ⟨d1, anc pf t (D t - (m + 1)), ?_, ih (m + 1) (by omega)⟩
      rw [hs]
      exact hfs
  have := key i 0 (by omega)
  rw [Nat.sub_zero, anc_0 h hf.1] at this
  exact this
/-- behind its end the way has no deeds -/
theorem bfT.past (h : bfT g pf D N) {W : Nat → Prop} {t : Nat} (hf : fsW W N t) (hN : N < gFAR) {i : Nat} (hi : D t ≤ i) : wR g W i 0 (-1) := by
  have stop : ∀ n, wR g W n t (-1) := fun n => by
    have hz : ¬ ∃ x, dst g W t (x + 1) := fun ⟨x, hx⟩ => hx.2.2 0 (by omega) hf.2.1
    cases n with
    | zero => exact Or.inr ⟨hz, rfl⟩
    | succ n => exact Or.inr ⟨hz, rfl⟩
  have walk : ∀ m n, m ≤ D t → m ≤ n → wR g W n (anc pf t m) (-1) := by
    intro m
    induction m with
    | zero => intro n _ _; exact stop n
    | succ m ih =>
      intro n hm hn
      obtain ⟨a1, a2⟩ := h.an hf.1 m (by omega)
      have hp0 : 0 < anc pf t m := Nat.pos_of_ne_zero (fun z => by rw [z, h.2.2.2.2.2.1] at a2; omega)
      obtain ⟨-, d0, hd0, e0⟩ := h.1 _ hp0 a1
      have hle : ∀ q c, c ≤ q → c < 4 → g (pf (anc pf t m)) c = some (anc pf t m) → ∃ d1, d1 < 4 ∧ g (pf (anc pf t m)) d1 = some (anc pf t m) ∧ ∀ d', d' < d1 → g (pf (anc pf t m)) d' ≠ some (anc pf t m) := by
        intro q
        induction q with
        | zero => intro c h1 h2 h3; exact ⟨c, h2, h3, fun d' hd' => absurd hd' (by omega)⟩
        | succ q ihq =>
          intro c h1 h2 h3
          by_cases z : ∃ b, b < c ∧ g (pf (anc pf t m)) b = some (anc pf t m)
          · obtain ⟨b, b1, b2⟩ := z
            exact ihq b (by omega) (by omega) b2
          · exact ⟨c, h2, h3, fun d' hd' y => z ⟨d', hd', y⟩⟩
      obtain ⟨d1, hd1, e1, l1⟩ := hle 4 d0 (by omega) hd0 e0
      have hfs := h.fs hf hN (m := m) (d := d1) hm hd1 e1 l1
      obtain ⟨n', rfl⟩ : ∃ n', n = n' + 1 := ⟨n - 1, by omega⟩
      exact Or.inl ⟨d1, anc pf t m, hfs, ih n' (by omega) (by omega)⟩
  have := walk (D t) i (Nat.le_refl _) hi
  rw [anc_0 h hf.1] at this
  exact this
theorem bfT.no (h : bfT g pf D N) {W : Nat → Prop} (hN0 : 0 < N) (hno : ∀ i, i < N → ¬ W i) (i : Nat) : wR g W i 0 (-1) := by
  have hz : ¬ ∃ x, dst g W 0 (x + 1) := fun ⟨x, hx⟩ => h.never hN0 hno (x + 1) hx.2.1
  cases i with
  | zero => exact Or.inr ⟨hz, rfl⟩
  | succ n => exact Or.inr ⟨hz, rfl⟩
end TREE
