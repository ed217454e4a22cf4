/-! ===== the edges that lead to a place ===== -/
section
variable {g : Nat → Nat → Option Nat} {W : Nat → Prop} {T : Nat}
/-- the last edge below m that leads to j -/
def pv (g : Nat → Nat → Option Nat) (j : Nat) : Nat → Option Nat
  | 0 => none
  | m + 1 => if g (m / 4) (m % 4) = some j then some m else pv g j m
theorem pv_no {j : Nat} : ∀ m, pv g j m = none → ∀ e, e < m → g (e / 4) (e % 4) ≠ some j
  | 0, _, e, he => absurd he (by omega)
  | m + 1, h, e, he => by
    unfold pv at h
    by_cases z : g (m / 4) (m % 4) = some j
    · rw [if_pos z] at h; cases h
    · rw [if_neg z] at h
      by_cases y : e = m
      · rw [y]; exact z
      · exact pv_no m h e (by omega)
theorem pv_so {j e : Nat} : ∀ m, pv g j m = some e → e < m ∧ g (e / 4) (e % 4) = some j ∧ ∀ e', e < e' → e' < m → g (e' / 4) (e' % 4) ≠ some j
  | 0, h => by cases h
  | m + 1, h => by
    unfold pv at h
    by_cases z : g (m / 4) (m % 4) = some j
    · rw [if_pos z] at h
      rw [← Option.some.inj h]
      exact ⟨by omega, z, fun e' h1 h2 => absurd h1 (by omega)⟩
    · rw [if_neg z] at h
      obtain ⟨a, b, c⟩ := pv_so m h
      refine ⟨by omega, b, fun e' h1 h2 => ?_⟩
      by_cases y : e' = m
      · rw [y]; exact z
      · exact c e' h1 (by omega)
/-- one step of s that may still lead elsewhere than to what is done; of the edges to x those from m on are done -/
def ec (g : Nat → Nat → Option Nat) (pd : Nat → Bool) (x m s d : Nat) : Nat := match g s d with
  | none => 0
  | some j => if pd (2 * j) = true ∨ (2 * j = x ∧ m ≤ 4 * s + d) then 0 else 1
def es (g : Nat → Nat → Option Nat) (pd : Nat → Bool) (x m s : Nat) : Nat := ec g pd x m s 0 + ec g pd x m s 1 + ec g pd x m s 2 + ec g pd x m s 3
theorem ec_le (pd : Nat → Bool) (x m s d : Nat) : ec g pd x m s d ≤ 1 := by
  unfold ec
  split
  · decide
  · split <;> decide
theorem es_le (pd : Nat → Bool) (x m s : Nat) : es g pd x m s ≤ 4 := by
  have h0 := ec_le (g := g) pd x m s 0
  have h1 := ec_le (g := g) pd x m s 1
  have h2 := ec_le (g := g) pd x m s 2
  have h3 := ec_le (g := g) pd x m s 3
  unfold es
  omega
theorem ec_cg {pd pd' : Nat → Bool} {x x' m m' s d : Nat} (h : ∀ j, g s d = some j → ((pd (2 * j) = true ∨ (2 * j = x ∧ m ≤ 4 * s + d)) ↔ (pd' (2 * j) = true ∨ (2 * j = x' ∧ m' ≤ 4 * s + d)))) : ec g pd x m s d = ec g pd' x' m' s d := by
  unfold ec
  rcases e : g s d with _ | j
  · rfl
  · have z := h j e
    simp only []
    by_cases y : pd (2 * j) = true ∨ (2 * j = x ∧ m ≤ 4 * s + d)
    · rw [if_pos y, if_pos (z.mp y)]
    · rw [if_neg y, if_neg (fun u => y (z.mpr u))]
theorem es_cg {pd pd' : Nat → Bool} {x x' m m' s : Nat} (h : ∀ d j, d < 4 → g s d = some j → ((pd (2 * j) = true ∨ (2 * j = x ∧ m ≤ 4 * s + d)) ↔ (pd' (2 * j) = true ∨ (2 * j = x' ∧ m' ≤ 4 * s + d)))) : es g pd x m s = es g pd' x' m' s := by
  unfold es
  rw [ec_cg (fun j e => h 0 j (by omega) e), ec_cg (fun j e => h 1 j (by omega) e), ec_cg (fun j e => h 2 j (by omega) e), ec_cg (fun j e => h 3 j (by omega) e)]
theorem ec_0 {pd : Nat → Bool} {x m s d : Nat} : ec g pd x m s d = 0 ↔ ∀ j, g s d = some j → pd (2 * j) = true ∨ (2 * j = x ∧ m ≤ 4 * s + d) := by
  unfold ec
  rcases e : g s d with _ | j
  · exact ⟨fun _ j z => (by cases z), fun _ => rfl⟩
  · simp only []
    by_cases y : pd (2 * j) = true ∨ (2 * j = x ∧ m ≤ 4 * s + d)
    · rw [if_pos y]
      exact ⟨fun _ j' z => by rw [← Option.some.inj z]; exact y, fun _ => rfl⟩
    · rw [if_neg y]
      exact ⟨fun z => absurd z (by decide), fun z => absurd (z j rfl) y⟩
theorem es_0 {pd : Nat → Bool} {x m s : Nat} : es g pd x m s = 0 ↔ ∀ d j, d < 4 → g s d = some j → pd (2 * j) = true ∨ (2 * j = x ∧ m ≤ 4 * s + d) := by
  constructor
  · intro h d j hd e
    have : ec g pd x m s d = 0 := by
      unfold es at h
      have hc : d = 0 ∨ d = 1 ∨ d = 2 ∨ d = 3 := by omega
      rcases hc with z | z | z | z <;> (rw [z]; omega)
    exact ec_0.mp this j e
  · intro h
    unfold es
    rw [ec_0.mpr (fun j e => h 0 j (by omega) e), ec_0.mpr (fun j e => h 1 j (by omega) e), ec_0.mpr (fun j e => h 2 j (by omega) e), ec_0.mpr (fun j e => h 3 j (by omega) e)]
theorem es_step {pd : Nat → Bool} {j m e : Nat} (hp : pd (2 * j) = false) (he : pv g j m = some e) : es g pd (2 * j) e (e / 4) + 1 = es g pd (2 * j) m (e / 4) ∧ ∀ s, s ≠ e / 4 → es g pd (2 * j) e s = es g pd (2 * j) m s := by
  obtain ⟨a, b, c⟩ := pv_so m he
  have hoth : ∀ s d, d < 4 → 4 * s + d ≠ e → ec g pd (2 * j) e s d = ec g pd (2 * j) m s d := fun s d hd hne => by
    refine ec_cg (fun j' e' => ?_)
    constructor
    · rintro (z | ⟨z1, z2⟩)
      · exact Or.inl z
      · by_cases y : m ≤ 4 * s + d
        · exact Or.inr ⟨z1, y⟩
        · have hj : j' = j := by omega
          refine absurd ?_ (c (4 * s + d) (by omega) (by omega))
          rw [show (4 * s + d) / 4 = s by omega, show (4 * s + d) % 4 = d by omega, e', hj]
    · rintro (z | ⟨z1, z2⟩)
      · exact Or.inl z
      · exact Or.inr ⟨z1, by omega⟩
  have h1 : ec g pd (2 * j) e (e / 4) (e % 4) = 0 := by
    refine ec_0.mpr (fun j' e' => ?_)
    rw [b] at e'
    rw [← Option.some.inj e']
    exact Or.inr ⟨rfl, by omega⟩
  have h2 : ec g pd (2 * j) m (e / 4) (e % 4) = 1 := by
    have z := ec_le (g := g) pd (2 * j) m (e / 4) (e % 4)
    have y : ec g pd (2 * j) m (e / 4) (e % 4) ≠ 0 := fun u => by
      rcases ec_0.mp u j b with v | ⟨_, v⟩
      · rw [hp] at v; cases v
      · omega
    omega
  refine ⟨?_, fun s hs => ?_⟩
  · unfold es
    have hc : e % 4 = 0 ∨ e % 4 = 1 ∨ e % 4 = 2 ∨ e % 4 = 3 := by omega
    rcases hc with z | z | z | z
    · rw [z] at h1 h2
      rw [h1, h2, hoth _ 1 (by omega) (by omega), hoth _ 2 (by omega) (by omega), hoth _ 3 (by omega) (by omega)] <;> omega
    · rw [z] at h1 h2
      rw [h1, h2, hoth _ 0 (by omega) (by omega), hoth _ 2 (by omega) (by omega), hoth _ 3 (by omega) (by omega)] <;> omega
    · rw [z] at h1 h2
      rw [h1, h2, hoth _ 0 (by omega) (by omega), hoth _ 1 (by omega) (by omega), hoth _ 3 (by omega) (by omega)] <;> omega
    · rw [z] at h1 h2
      rw [h1, h2, hoth _ 0 (by omega) (by omega), hoth _ 1 (by omega) (by omega), hoth _ 2 (by omega) (by omega)] <;> omega
  · unfold es
    rw [hoth s 0 (by omega) (by omega), hoth s 1 (by omega) (by omega), hoth s 2 (by omega) (by omega), hoth s 3 (by omega) (by omega)]
theorem es_odd {pd : Nat → Bool} {j m m' s : Nat} : es g pd (2 * j + 1) m s = es g pd (2 * j + 1) m' s := es_cg (fun d j' _ _ => ⟨fun z => z.imp id (fun y => absurd y.1 (by omega)), fun z => z.imp id (fun y => absurd y.1 (by omega))⟩)
theorem es_far {pd : Nat → Bool} {x x' s : Nat} (hs : s < T) : es g pd x (4 * T) s = es g pd x' (4 * T) s := es_cg (fun d j' hd _ => ⟨fun z => z.imp id (fun y => absurd y.2 (by omega)), fun z => z.imp id (fun y => absurd y.2 (by omega))⟩)
/-- the place x is done -/
theorem es_done {pd : Nat → Bool} {x x' m s : Nat} (hs : s < T) (hx : ∀ j, x = 2 * j → ∀ e, e < m → g (e / 4) (e % 4) ≠ some j) : es g pd x m s = es g (up1 pd x true) x' (4 * T) s := by
  refine es_cg (fun d j hd e => ?_)
  constructor
  · rintro (z | ⟨z, _⟩)
    · left
      by_cases y : 2 * j = x
      · rw [y, up1_s]
      · rw [up1_o y]; exact z
    · left; rw [z, up1_s]
  · rintro (z | ⟨_, z⟩)
    · by_cases y : 2 * j = x
      · refine Or.inr ⟨y, Nat.le_of_not_lt (fun u => hx j y.symm (4 * s + d) u ?_)⟩
        rw [show (4 * s + d) / 4 = s by omega, show (4 * s + d) % 4 = d by omega, e]
      · rw [up1_o y] at z
        exact Or.inl z
    · omega
/-- the place Q i is being done: its edges from m on are -/
def fcM (g : Nat → Nat → Option Nat) (W : Nat → Prop) (T : Nat) (Q : Nat → Nat) (q i : Nat) (R : Nat → Option Nat) (pd : Nat → Bool) (j m : Nat) (b : Bool) : Prop :=
  fcI g W T Q q i R pd ∧ i < q ∧ Q i = (if b = true then 2 * j else 2 * j + 1) ∧ j < T ∧
  (b = false → ∀ s d, s < T → d < 4 → g s d = some j → m ≤ 4 * s + d → ∃ n', R (2 * s) = some n' ∧ n' ≤ rk R (Q i) + 1) ∧
  (b = true → ∀ s, s < T → (∃ d, d < 4 ∧ g s d = some j ∧ m ≤ 4 * s + d) → es g pd (2 * j) m s = 0 → ∃ n', R (2 * s + 1) = some n' ∧ n' ≤ rk R (Q i) + 1)
theorem fcM.start {Q : Nat → Nat} {q i : Nat} {R : Nat → Option Nat} {pd : Nat → Bool} (h : fcI g W T Q q i R pd) (hi : i < q) {j : Nat} {b : Bool} (hx : Q i = (if b = true then 2 * j else 2 * j + 1)) (hj : j < T) : fcM g W T Q q i R pd j (4 * T) b :=
  ⟨h, hi, hx, hj, fun _ s d hs hd _ hm => absurd hm (by omega), fun _ s hs ⟨d, hd, _, hm⟩ => absurd hm (by omega)⟩
theorem fcM.npd {Q : Nat → Nat} {q i : Nat} {R : Nat → Option Nat} {pd : Nat → Bool} {j m : Nat} {b : Bool} (h : fcM g W T Q q i R pd j m b) : pd (Q i) = false := by
  rcases e : pd (Q i) with _ | _
  · rfl
  · obtain ⟨k, k1, k2⟩ := (h.1.2.2.2.2.2.2.1 _).mp e
    exact absurd k2 (h.1.2.2.1 k i k1 h.2.1)
/-- a place comes into the queue, if it is not there -/
theorem fcM.enq {Q : Nat → Nat} {q i : Nat} {R : Nat → Option Nat} {pd : Nat → Bool} {j m e y : Nat} {b : Bool} (hg : ∀ i d j, i < T → d < 4 → g i d = some j → j < T) (h : fcM g W T Q q i R pd j m b) (hy : y < 2 * T) {Q' : Nat → Nat} {q' : Nat} {R' : Nat → Option Nat} (hc : (R y ≠ none ∧ Q' = Q ∧ q' = q ∧ R' = R) ∨ (R y = none ∧ Q' = up1 Q q y ∧ q' = q + 1 ∧ R' = up1 R y (some (rk R (Q i) + 1)))) (hf : fw g W (rk R (Q i) + 1) (tn y) (y / 2)) : fcI g W T Q' q' i R' pd ∧ i < q' ∧ Q' i = Q i ∧ rk R' (Q' i) = rk R (Q i) ∧ (∃ n', R' y = some n' ∧ n' ≤ rk R (Q i) + 1) ∧ ∀ x v, R x = some v → R' x = some v := by
  obtain ⟨h1, hi, hx, hj, hA, hB⟩ := h
  obtain ⟨-, n, hn, -⟩ := h1.1 i hi
  rw [rk_s hn] at hc hf ⊢
  rcases hc with ⟨c1, c2, c3, c4⟩ | ⟨c1, c2, c3, c4⟩
  · rw [c2, c3, c4]
    rcases z : R y with _ | n'
    · exact absurd z c1
    · obtain ⟨k, k1, k2⟩ := h1.2.1 y n' hy z
      have := h1.2.2.2.2.1 hi k k1
      rw [k2, rk_s z, rk_s hn] at this
      exact ⟨h1, hi, rfl, rk_s hn, ⟨n', rfl, this⟩, fun _ _ u => u⟩
  · rw [c2, c3, c4]
    have hqi : up1 Q q y i = Q i := up1_o (by omega)
    have hro : ∀ x v, R x = some v → up1 R y (some (n + 1)) x = some v := fun x v e => by
      rw [up1_o (fun z => by rw [z, c1] at e; cases e)]; exact e
    exact ⟨h1.add hg hi hn hy c1 hf, by omega, hqi, by rw [hqi]; exact rk_s (hro _ n hn), ⟨n + 1, up1_s, Nat.le_refl _⟩, hro⟩
/-- an edge to a place of the second one: the first one can go there -/
theorem fcM.odd {Q : Nat → Nat} {q i : Nat} {R : Nat → Option Nat} {pd : Nat → Bool} {j m e : Nat} (hg : ∀ i d j, i < T → d < 4 → g i d = some j → j < T) (h : fcM g W T Q q i R pd j m false) (he : pv g j m = some e) (hm : m ≤ 4 * T) {Q' : Nat → Nat} {q' : Nat} {R' : Nat → Option Nat} (hc : (R (2 * (e / 4)) ≠ none ∧ Q' = Q ∧ q' = q ∧ R' = R) ∨ (R (2 * (e / 4)) = none ∧ Q' = up1 Q q (2 * (e / 4)) ∧ q' = q + 1 ∧ R' = up1 R (2 * (e / 4)) (some (rk R (Q i) + 1)))) : fcM g W T Q' q' i R' pd j e false := by
  obtain ⟨a, b, c⟩ := pv_so m he
  have hx : Q i = 2 * j + 1 := h.2.2.1
  obtain ⟨-, n, hn, -⟩ := h.1.1 i h.2.1
  have hjf : fw g W (rk R (Q i) + 1) (tn (2 * (e / 4))) (2 * (e / 4) / 2) := by
    rw [(tn_e _).1, (tn_e _).2, rk_s hn]
    have z := (h.1.2.2.2.2.2.1 (Q i) n (h.1.1 i h.2.1).1 hn).1
    rw [hx, (tn_o j).1, (tn_o j).2] at z
    exact Or.inr ⟨e % 4, j, by omega, b, z⟩
  obtain ⟨e1, e2, e3, e4, e5, e6⟩ := h.enq (e := e) hg (by omega) hc hjf
  obtain ⟨h1, hi, -, hj, hA, hB⟩ := h
  refine ⟨e1, e2, by rw [e3]; exact hx, hj, fun _ s d hs hd ge hme => ?_, fun z => absurd z (by decide)⟩
  rw [e4]
  by_cases y : m ≤ 4 * s + d
  · obtain ⟨n', r1, r2⟩ := hA rfl s d hs hd ge y
    exact ⟨n', e6 _ _ r1, r2⟩
  · have : 4 * s + d = e := by
      rcases Nat.eq_or_lt_of_le hme with u | u
      · exact u.symm
      · exact absurd (by rw [show (4 * s + d) / 4 = s by omega, show (4 * s + d) % 4 = d by omega]; exact ge) (c (4 * s + d) u (by omega))
    rw [show s = e / 4 by omega]
    exact e5
/-- an edge to a place of the first one: the second one has an escape less -/
theorem fcM.even {Q : Nat → Nat} {q i : Nat} {R : Nat → Option Nat} {pd : Nat → Bool} {j m e : Nat} (hg : ∀ i d j, i < T → d < 4 → g i d = some j → j < T) (h : fcM g W T Q q i R pd j m true) (he : pv g j m = some e) (hm : m ≤ 4 * T) {Q' : Nat → Nat} {q' : Nat} {R' : Nat → Option Nat} (hc : (es g pd (2 * j) e (e / 4) ≠ 0 ∧ Q' = Q ∧ q' = q ∧ R' = R) ∨ (es g pd (2 * j) e (e / 4) = 0 ∧ ((R (2 * (e / 4) + 1) ≠ none ∧ Q' = Q ∧ q' = q ∧ R' = R) ∨ (R (2 * (e / 4) + 1) = none ∧ Q' = up1 Q q (2 * (e / 4) + 1) ∧ q' = q + 1 ∧ R' = up1 R (2 * (e / 4) + 1) (some (rk R (Q i) + 1)))))) : fcM g W T Q' q' i R' pd j e true := by
  obtain ⟨a, b, c⟩ := pv_so m he
  have hx : Q i = 2 * j := h.2.2.1
  have hnp := h.npd
  rw [hx] at hnp
  obtain ⟨s1, s2⟩ := es_step (g := g) (pd := pd) hnp he
  obtain ⟨-, n, hn, -⟩ := h.1.1 i h.2.1
  rcases hc with ⟨c1, c2, c3, c4⟩ | ⟨c1, c2⟩
  · subst c2; subst c3; subst c4
    obtain ⟨h1, hi, -, hj, hA, hB⟩ := h
    refine ⟨h1, hi, hx, hj, fun z => absurd z (by decide), fun _ s hs ⟨d, hd, ge, hme⟩ h0 => ?_⟩
    by_cases y : s = e / 4
    · rw [y] at h0; exact absurd h0 c1
    · refine hB rfl s hs ⟨d, hd, ge, ?_⟩ (by rw [← s2 s y]; exact h0)
      refine Nat.le_of_not_lt (fun u => ?_)
      exact c (4 * s + d) (by omega) u (by rw [show (4 * s + d) / 4 = s by omega, show (4 * s + d) % 4 = d by omega]; exact ge)
  · have hjf : fw g W (rk R (Q i) + 1) (tn (2 * (e / 4) + 1)) ((2 * (e / 4) + 1) / 2) := by
      rw [(tn_o _).1, (tn_o _).2]
      refine Or.inr (fun d j' hd ge => ?_)
      have hR : ∃ n', R (2 * j') = some n' ∧ n' ≤ rk R (Q i) := by
        rcases es_0.mp c1 d j' hd ge with z | ⟨z, _⟩
        · obtain ⟨k, k1, k2⟩ := (h.1.2.2.2.2.2.2.1 _).mp z
          have hik := h.2.1
          obtain ⟨-, n', r1, -⟩ := h.1.1 k (by omega)
          have := h.1.2.2.2.1 k i k1 hik
          rw [rk_s r1] at this
          rw [k2] at r1
          exact ⟨n', r1, this⟩
        · rw [z, ← hx]
          exact ⟨n, hn, by rw [rk_s hn]; exact Nat.le_refl _⟩
      obtain ⟨n', r1, r2⟩ := hR
      have hjT := hg _ d j' (show e / 4 < T by omega) hd ge
      have z := (h.1.2.2.2.2.2.1 (2 * j') n' (by omega) r1).1
      rw [(tn_e j').1, (tn_e j').2] at z
      exact fw_mono r2 z
    obtain ⟨e1, e2, e3, e4, e5, e6⟩ := h.enq (e := e) hg (by omega) c2 hjf
    obtain ⟨h1, hi, -, hj, hA, hB⟩ := h
    refine ⟨e1, e2, by rw [e3]; exact hx, hj, fun z => absurd z (by decide), fun _ s hs ⟨d, hd, ge, hme⟩ h0 => ?_⟩
    rw [e4]
    by_cases y : s = e / 4
    · rw [y]; exact e5
    · obtain ⟨n', r1, r2⟩ := hB rfl s hs ⟨d, hd, ge, by
        refine Nat.le_of_not_lt (fun u => ?_)
        exact c (4 * s + d) (by omega) u (by rw [show (4 * s + d) / 4 = s by omega, show (4 * s + d) % 4 = d by omega]; exact ge)⟩ (by rw [← s2 s y]; exact h0)
      exact ⟨n', e6 _ _ r1, r2⟩
/-- all edges of the place are done: it is -/
theorem fcM.fin {Q : Nat → Nat} {q i : Nat} {R : Nat → Option Nat} {pd : Nat → Bool} {j m : Nat} {b : Bool} (h : fcM g W T Q q i R pd j m b) (he : pv g j m = none) : fcI g W T Q q (i + 1) R (up1 pd (Q i) true) := by
  have hno := pv_no m he
  obtain ⟨h1, hi, hx, hj, hA, hB⟩ := h
  obtain ⟨a1, a2, a3, a4, a5, a6, a7, a8, a9, a10, a11⟩ := h1
  obtain ⟨-, n, hn, -⟩ := a1 i hi
  have hpo : ∀ x, up1 pd (Q i) true x = true ↔ pd x = true ∨ x = Q i := fun x => by
    by_cases z : x = Q i
    · rw [z, up1_s]; exact ⟨fun _ => Or.inr rfl, fun _ => rfl⟩
    · rw [up1_o z]; exact ⟨Or.inl, fun u => u.resolve_right z⟩
  refine ⟨a1, a2, a3, a4, fun hi1 k hk => ?_, a6, fun x => ?_, by omega, a9, fun s d j' hs hd ge hp => ?_, fun s hs hp => ?_⟩
  · have z1 := a5 hi k hk
    have z2 := a4 i (i + 1) (by omega) hi1
    omega
  · rw [hpo x, a7 x]
    constructor
    · rintro (⟨k, k1, k2⟩ | z)
      · exact ⟨k, by omega, k2⟩
      · exact ⟨i, by omega, z.symm⟩
    · intro ⟨k, k1, k2⟩
      by_cases y : k = i
      · right; rw [← k2, y]
      · exact Or.inl ⟨k, by omega, k2⟩
  · rcases (hpo _).mp hp with z | z
    · exact a10 s d j' hs hd ge z
    · cases b with
      | true =>
        rw [if_pos rfl] at hx
        omega
      | false =>
        rw [if_neg (by decide)] at hx
        have hjj : j' = j := by omega
        rw [hjj] at ge
        have hme : m ≤ 4 * s + d := Nat.le_of_not_lt (fun u => hno (4 * s + d) u (by rw [show (4 * s + d) / 4 = s by omega, show (4 * s + d) % 4 = d by omega]; exact ge))
        obtain ⟨n', r1, r2⟩ := hA rfl s d hs hd ge hme
        rw [rk_s hn] at r2
        exact ⟨n', n, r1, by rw [z]; exact hn, r2⟩
  · by_cases hall : ∀ d j', d < 4 → g s d = some j' → pd (2 * j') = true
    · exact a11 s hs hall
    · have hex : b = true ∧ ∃ d, d < 4 ∧ g s d = some j := by
        refine Decidable.byContradiction (fun u => hall (fun d j' hd ge => ?_))
        rcases (hpo _).mp (hp d j' hd ge) with z | z
        · exact z
        · refine absurd ?_ u
          cases b with
          | true =>
            rw [if_pos rfl] at hx
            exact ⟨rfl, d, hd, by rw [ge, show j' = j by omega]⟩
          | false =>
            rw [if_neg (by decide)] at hx
            omega
      obtain ⟨hb, d, hd, ge⟩ := hex
      rw [hb, if_pos rfl] at hx
      have hme : ∀ d', d' < 4 → g s d' = some j → m ≤ 4 * s + d' := fun d' hd' ge' => Nat.le_of_not_lt (fun u => hno (4 * s + d') u (by rw [show (4 * s + d') / 4 = s by omega, show (4 * s + d') % 4 = d' by omega]; exact ge'))
      have h0 : es g pd (2 * j) m s = 0 := es_0.mpr (fun d' j' hd' ge' => by
        rcases (hpo _).mp (hp d' j' hd' ge') with z | z
        · exact Or.inl z
        · have hjj : j' = j := by omega
          rw [hjj] at ge'
          exact Or.inr ⟨by omega, hme d' hd' ge'⟩)
      obtain ⟨n', r1, r2⟩ := hB hb s hs ⟨d, hd, ge, hme d hd ge⟩ h0
      rw [rk_s hn] at r2
      exact ⟨n', d, j, n, hd, ge, r1, by rw [← hx]; exact hn, r2⟩
/-- what the ranks tell in the end -/
def fcR (g : Nat → Nat → Option Nat) (W : Nat → Prop) (T : Nat) (R : Nat → Option Nat) : Prop := (R 0 = none → ∀ n, ¬ fw g W n true 0) ∧ (∀ x n, x < 2 * T → R x = some n → n < 2 * T) ∧ ∀ n, R 0 = some n → n < 2 * T ∧ fw g W n true 0 ∧ (∀ m, m < n → ¬ fw g W m true 0) ∧ ∀ d j, 0 < n → d < 4 → g 0 d = some j → (R (2 * j + 1) = some (n - 1) ↔ fw g W (n - 1) false j)
theorem fcI.res {Q : Nat → Nat} {q i : Nat} {R : Nat → Option Nat} {pd : Nat → Bool} (hg : ∀ i d j, i < T → d < 4 → g i d = some j → j < T) (hT : 0 < T) (h : fcI g W T Q q i R pd) (he : i = q ∨ ∃ n, R 0 = some n) (hR : ∀ n, R 0 = some n → i < q → n ≤ rk R (Q i) + 1) : fcR g W T R := by
  refine ⟨?_, ?_, ?_⟩
  · intro h0 n hn
    have hq : i = q := by
      rcases he with z | ⟨n', z⟩
      · exact z
      · rw [h0] at z; cases z
    obtain ⟨n', a1, -⟩ := fcI.all hg h (n := n) (fun k hk _ => by omega) n true 0 (Nat.le_refl _) hT hn
    rw [if_pos rfl] at a1
    rw [show 2 * 0 = 0 from rfl, h0] at a1
    cases a1
  · intro x n hx hn
    obtain ⟨k, k1, k2⟩ := h.2.1 x n hx hn
    obtain ⟨-, n', r1, r2⟩ := h.1 k k1
    rw [k2, hn] at r1
    have hnk : n = n' := Option.some.inj r1
    have hle := h.le
    omega
  · intro n hn
    obtain ⟨k, k1, k2⟩ := h.2.1 0 n (by omega) hn
    obtain ⟨-, n', r1, r2⟩ := h.1 k k1
    rw [k2, hn] at r1
    have hnk : n = n' := Option.some.inj r1
    have hle := h.le
    have hx := h.2.2.2.2.2.1 0 n (by omega) hn
    refine ⟨by omega, hx.1, hx.2, fun d j hn0 hd ge => ?_⟩
    have hj := hg 0 d j hT hd ge
    constructor
    · intro e
      have z := (h.2.2.2.2.2.1 (2 * j + 1) (n - 1) (by omega) e).1
      rw [(tn_o j).1, (tn_o j).2] at z
      exact z
    · intro hf
      have hlow : ∀ k, k < q → rk R (Q k) < n - 1 → k < i := fun k' hk' hl => by
        rcases Nat.lt_or_ge i q with z | z
        · have := hR n hn z
          exact h.low z k' hk' (by omega)
        · omega
      obtain ⟨n2, a1, a2⟩ := fcI.all hg h hlow (n - 1) false j (Nat.le_refl _) hj hf
      rw [if_neg (by decide)] at a1
      rw [a1]
      have z := (h.2.2.2.2.2.1 (2 * j + 1) n2 (by omega) a1).1
      rw [(tn_o j).1, (tn_o j).2] at z
      by_cases y : n2 = n - 1
      · rw [y]
      · exact absurd (show fw g W (n2 + 1) true 0 from Or.inr ⟨d, j, hd, ge, z⟩) (hx.2 (n2 + 1) (by omega))
end
