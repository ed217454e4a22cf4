/-! ===== the longest warm row, found depth first ===== -/
section
variable {g : Nat → Nat → Option Nat} {W : Nat → Prop}
theorem kp_path {P : Nat → Prop} (h : ∀ v, P v → ∃ d j, d < 4 ∧ g v d = some j ∧ W j ∧ P j) : ∀ m v, P v → kp g W m v
  | 0, _, _ => trivial
  | m + 1, v, hv => by
    obtain ⟨d, j, hd, e, w, hj⟩ := h v hv
    exact ⟨d, j, hd, e, w, kp_path h m j hj⟩
theorem inj_le {p : Nat → Nat} {n T : Nat} (hT : ∀ i, i < n → p i < T) (hi : ∀ i j, i < j → j < n → p i ≠ p j) : n ≤ T := by
  have h := nd_len (L := (List.range n).map p) (N := T) ?_ ?_
  · rw [List.length_map, List.length_range] at h
    exact h
  · rw [List.nodup_iff_pairwise_ne, List.pairwise_map]
    refine List.Pairwise.imp_of_mem ?_ (List.pairwise_lt_range (n := n))
    intro x y hx hy hxy
    exact hi x y hxy (List.mem_range.mp hy)
  · intro c hc
    obtain ⟨i, h1, h2⟩ := List.mem_map.mp hc
    rw [← h2]
    exact hT i (List.mem_range.mp h1)
/-- what of v's steps below e is known: all lead to stands that are left, the longest of them gives f v -/
def dfE (g : Nat → Nat → Option Nat) (W : Nat → Prop) (t f : Nat → Nat) (v e : Nat) : Prop := (f v = 0 ∨ ∃ d j, d < 4 ∧ g v d = some j ∧ W j ∧ t j = 6 ∧ f v = f j + 1) ∧ ∀ d j, d < e → g v d = some j → W j → t j = 6 ∧ f j + 1 ≤ f v
/-- t: 0 a stand not come upon, 1 to 5 one on the path (with that many stops less 1 tried), 6 one that is left -/
def dfI (g : Nat → Nat → Option Nat) (W : Nat → Prop) (T : Nat) (p : Nat → Nat) (dp : Nat) (t f : Nat → Nat) (i : Nat) : Prop :=
  (∀ v, v < T → t v ≤ 6) ∧ (∀ k, k < dp → p k < T ∧ 1 ≤ t (p k) ∧ t (p k) ≤ 5) ∧ (∀ v, v < T → 1 ≤ t v → t v ≤ 5 → ∃ k, k < dp ∧ p k = v) ∧ (∀ k l, k < l → l < dp → p k ≠ p l) ∧
  (∀ k, k + 1 < dp → 2 ≤ t (p k) ∧ g (p k) (t (p k) - 2) = some (p (k + 1)) ∧ W (p (k + 1)) ∧ dfE g W t f (p k) (t (p k) - 2)) ∧
  (0 < dp → dfE g W t f (p (dp - 1)) (t (p (dp - 1)) - 1)) ∧
  (∀ v, v < T → t v = 6 → kp g W (f v) v ∧ ¬ kp g W (f v + 1) v) ∧ (∀ v, v < T → t v = 0 → f v = 0) ∧ (∀ v, v < T → f v ≤ i) ∧ i + 1 ≤ sumF t T
theorem sumF_6 {t : Nat → Nat} : ∀ n, (∀ v, v < n → t v ≤ 6) → sumF t n ≤ 6 * n
  | 0, _ => Nat.le_refl _
  | n + 1, h => by
    have h1 := sumF_6 n (fun v hv => h v (by omega))
    have h2 := h n (by omega)
    show sumF t n + t n ≤ _
    omega
theorem sumF_5 {t : Nat → Nat} {k : Nat} : ∀ n, (∀ v, v < n → t v ≤ 6) → k < n → t k ≤ 5 → sumF t n + 1 ≤ 6 * n
  | 0, _, h, _ => absurd h (by omega)
  | n + 1, h, hk, h5 => by
    show sumF t n + t n + 1 ≤ _
    by_cases z : k = n
    · have h1 := sumF_6 n (fun v hv => h v (by omega))
      rw [z] at h5
      omega
    · have h1 := sumF_5 n (fun v hv => h v (by omega)) (show k < n by omega) h5
      have h2 := h n (by omega)
      omega
theorem dfI.lt {T : Nat} {p : Nat → Nat} {dp : Nat} {t f : Nat → Nat} {i : Nat} (h : dfI g W T p dp t f i) (hd : 0 < dp) : i + 2 ≤ 6 * T := by
  obtain ⟨h1, h2, -, -, -, -, -, -, -, h10⟩ := h
  obtain ⟨a1, a2, a3⟩ := h2 (dp - 1) (by omega)
  have := sumF_5 T h1 a1 a3
  omega
/-- a stand whose four stops are all tried has its longest row -/
theorem dfE_left {T : Nat} {t f : Nat → Nat} {v : Nat} (hg : ∀ i d j, i < T → d < 4 → g i d = some j → j < T) (hv : v < T) (hE : dfE g W t f v 4) (hL : ∀ v, v < T → t v = 6 → kp g W (f v) v ∧ ¬ kp g W (f v + 1) v) : kp g W (f v) v ∧ ¬ kp g W (f v + 1) v := by
  constructor
  · rcases hE.1 with z | ⟨d, j, hd, e, w, tj, z⟩
    · rw [z]; exact trivial
    · rw [z]
      exact ⟨d, j, hd, e, w, (hL j (hg v d j hv hd e) tj).1⟩
  · intro ⟨d, j, hd, e, w, hk⟩
    obtain ⟨tj, hf⟩ := hE.2 d j hd e w
    refine (hL j (hg v d j hv hd e) tj).2 ?_
    obtain ⟨m, hm⟩ := Nat.exists_eq_add_of_le hf
    exact kp_le m j (by rw [← hm]; exact hk)
theorem dfE.cg {t f t' f' : Nat → Nat} {v e : Nat} (h : dfE g W t f v e) (hf : f' v = f v) (ho : ∀ j, t j = 6 → t' j = 6 ∧ f' j = f j) : dfE g W t' f' v e := by
  refine ⟨?_, ?_⟩
  · rcases h.1 with z | ⟨d, j, hd, e, w, tj, z⟩
    · left; rw [hf, z]
    · right
      exact ⟨d, j, hd, e, w, (ho j tj).1, by rw [hf, (ho j tj).2, z]⟩
  · intro d j hd e w
    obtain ⟨tj, hl⟩ := h.2 d j hd e w
    refine ⟨(ho j tj).1, ?_⟩
    rw [hf, (ho j tj).2]
    exact hl
def mx1 (x y : Nat) : Nat := if y + 1 ≤ x then x else y + 1
/-- one stop more: it leads to u, that is left -/
theorem dfE.add {t f t' f' : Nat → Nat} {v e u : Nat} (h : dfE g W t f v e) (he : e < 4) (hg : g v e = some u) (hw : W u) (hu : t' u = 6) (huv : u ≠ v) (hfu : f' u = f u) (hf : f' v = mx1 (f v) (f u)) (hv : t v ≠ 6) (ho : ∀ j, t j = 6 → t' j = 6 ∧ f' j = f j) : dfE g W t' f' v (e + 1) := by
  unfold mx1 at hf
  refine ⟨?_, ?_⟩
  · by_cases z : f u + 1 ≤ f v
    · rw [if_pos z] at hf
      rcases h.1 with y | ⟨d, j, hd, e', w, tj, y⟩
      · omega
      · right
        exact ⟨d, j, hd, e', w, (ho j tj).1, by rw [hf, (ho j tj).2, y]⟩
    · rw [if_neg z] at hf
      right
      exact ⟨e, u, he, hg, hw, hu, by rw [hf, hfu]⟩
  · intro d j hd e' w
    have hle : f v ≤ f' v ∧ f u + 1 ≤ f' v := by
      by_cases z : f u + 1 ≤ f v
      · rw [if_pos z] at hf; omega
      · rw [if_neg z] at hf; omega
    by_cases z : d = e
    · rw [z, hg] at e'
      have e2 : u = j := Option.some.inj e'
      rw [← e2]
      exact ⟨hu, by rw [hfu]; exact hle.2⟩
    · obtain ⟨tj, hl⟩ := h.2 d j (by omega) e' w
      refine ⟨(ho j tj).1, ?_⟩
      rw [(ho j tj).2]
      omega
/-- one stop more, that can't be or leads where it isn't warm -/
theorem dfE.skip {t f t' : Nat → Nat} {v e : Nat} (h : dfE g W t f v e) (hg : ∀ u, g v e = some u → ¬ W u) (ho : ∀ j, t j = 6 → t' j = 6) : dfE g W t' f v (e + 1) := by
  refine ⟨?_, ?_⟩
  · rcases h.1 with z | ⟨d, j, hd, e', w, tj, z⟩
    · exact Or.inl z
    · exact Or.inr ⟨d, j, hd, e', w, ho j tj, z⟩
  · intro d j hd e' w
    by_cases z : d = e
    · rw [z] at e'
      exact absurd w (hg j e')
    · obtain ⟨tj, hl⟩ := h.2 d j (by omega) e' w
      exact ⟨ho j tj, hl⟩
theorem dfI.start {T : Nat} (hT : 0 < T) {p : Nat → Nat} (hp : p 0 = 0) : dfI g W T p 1 (up1 (fun _ => 0) 0 1) (fun _ => 0) 0 := by
  have t0 : up1 (fun _ => 0) 0 1 0 = 1 := up1_s
  have to : ∀ v, v ≠ 0 → up1 (fun _ => 0) 0 1 v = 0 := fun v h => up1_o h
  refine ⟨fun v _ => ?_, fun k hk => ?_, fun v hv h1 _ => ⟨0, by omega, ?_⟩, fun k l h1 h2 => ?_, fun k hk => ?_, fun _ => ?_, fun v hv h6 => ?_, fun _ _ _ => rfl, fun _ _ => Nat.le_refl _, ?_⟩
  · by_cases z : v = 0
    · rw [z, t0]; decide
    · rw [to v z]; decide
  · have : k = 0 := by omega
    rw [this, hp, t0]
    omega
  · by_cases z : v = 0
    · rw [z]; exact hp
    · rw [to v z] at h1; omega
  · omega
  · omega
  · refine ⟨Or.inl rfl, fun d j hd => ?_⟩
    rw [show 1 - 1 = 0 from rfl, hp, t0] at hd
    exact absurd hd (by omega)
  · by_cases z : v = 0
    · rw [z, t0] at h6; exact absurd h6 (by decide)
    · rw [to v z] at h6; exact absurd h6 (by decide)
  · have h := sumF_up (f := fun _ => 0) (k := 0) (x := 1) T hT
    rw [sumF_0 (f := fun _ => 0) T (fun _ _ => rfl)] at h
    omega
end
