/-! ===== stands in the order in which they are found, over any step ===== -/
def bfA (L : List Nat) (s : Nat) : List Nat := if s ∈ L then L else L ++ [s]
def bfO (nx : Nat → Nat → Option Nat) (L : List Nat) (c : Nat) : Nat → List Nat
  | 0 => L
  | d + 1 => match nx c d with
    | none => bfO nx L c d
    | some s => bfA (bfO nx L c d) s
def bfB (nx : Nat → Nat → Option Nat) (c0 : Nat) : Nat → List Nat
  | 0 => [c0]
  | k + 1 => if k < (bfB nx c0 k).length then bfO nx (bfB nx c0 k) ((bfB nx c0 k).getD k 0) 4 else bfB nx c0 k
def pfx (L L' : List Nat) : Prop := ∃ T, L' = L ++ T
theorem pfx.rf {L : List Nat} : pfx L L := ⟨[], (List.append_nil L).symm⟩
theorem pfx.tr {L L' L'' : List Nat} (h : pfx L L') (g : pfx L' L'') : pfx L L'' := by
  obtain ⟨T, rfl⟩ := h
  obtain ⟨T', rfl⟩ := g
  exact ⟨T ++ T', List.append_assoc _ _ _⟩
theorem pfx.len {L L' : List Nat} (h : pfx L L') : L.length ≤ L'.length := by
  obtain ⟨T, rfl⟩ := h
  rw [List.length_append]; omega
theorem pfx.get {L L' : List Nat} (h : pfx L L') {i : Nat} (hi : i < L.length) : L'.getD i 0 = L.getD i 0 := by
  obtain ⟨T, rfl⟩ := h
  rw [List.getD_eq_getElem?_getD, List.getD_eq_getElem?_getD, List.getElem?_append_left hi]
theorem pfx.mem {L L' : List Nat} (h : pfx L L') {s : Nat} (hs : s ∈ L) : s ∈ L' := by
  obtain ⟨T, rfl⟩ := h
  exact List.mem_append.mpr (Or.inl hs)
theorem pfx.ix {L L' : List Nat} (h : pfx L L') {s : Nat} (hs : s ∈ L) : L'.idxOf s = L.idxOf s := by
  obtain ⟨T, rfl⟩ := h
  rw [List.idxOf_append, if_pos hs]
theorem ix_lt {L : List Nat} {s : Nat} (h : s ∈ L) : L.idxOf s < L.length := List.idxOf_lt_length_iff.mpr h
theorem ix_get {L : List Nat} {s : Nat} (h : s ∈ L) : L.getD (L.idxOf s) 0 = s := by
  rw [List.getD_eq_getElem?_getD, List.getElem?_eq_getElem (ix_lt h), List.getElem_idxOf]; rfl
theorem get_mem {L : List Nat} {i : Nat} (h : i < L.length) : L.getD i 0 ∈ L := by
  rw [List.getD_eq_getElem?_getD, List.getElem?_eq_getElem h]
  exact List.getElem_mem h
theorem get_ix {L : List Nat} (hd : L.Nodup) {i : Nat} (h : i < L.length) : L.idxOf (L.getD i 0) = i := by
  rw [List.getD_eq_getElem?_getD, List.getElem?_eq_getElem h]
  exact hd.idxOf_getElem i h
theorem get_inj {L : List Nat} (hd : L.Nodup) {i j : Nat} (hi : i < L.length) (hj : j < L.length) (e : L.getD i 0 = L.getD j 0) : i = j := by
  rw [← get_ix hd hi, e, get_ix hd hj]
theorem bfA_pre (L : List Nat) (s : Nat) : pfx L (bfA L s) := by
  unfold bfA
  split
  · exact pfx.rf
  · exact ⟨[s], rfl⟩
theorem bfA_nd {L : List Nat} (h : L.Nodup) (s : Nat) : (bfA L s).Nodup := by
  unfold bfA
  by_cases g : s ∈ L
  · rw [if_pos g]; exact h
  · rw [if_neg g, List.nodup_append]
    refine ⟨h, by simp, fun a ha b hb e => g ?_⟩
    rw [List.mem_singleton] at hb
    rw [← hb, ← e]; exact ha
theorem bfA_mem (L : List Nat) (s : Nat) : s ∈ bfA L s := by
  unfold bfA
  by_cases g : s ∈ L
  · rw [if_pos g]; exact g
  · rw [if_neg g]; exact List.mem_append.mpr (Or.inr (List.mem_singleton.mpr rfl))
theorem bfA_new {L : List Nat} {s : Nat} (h : s ∉ L) : bfA L s = L ++ [s] ∧ (bfA L s).idxOf s = L.length ∧ (bfA L s).length = L.length + 1 := by
  have e : bfA L s = L ++ [s] := if_neg h
  refine ⟨e, ?_, ?_⟩
  · rw [e, List.idxOf_append, if_neg h]
    simp
  · rw [e, List.length_append]; rfl
theorem bfA_all {P : Nat → Prop} {L : List Nat} {s : Nat} (h : ∀ c ∈ L, P c) (hs : P s) : ∀ c ∈ bfA L s, P c := by
  unfold bfA
  by_cases g : s ∈ L
  · rw [if_pos g]; exact h
  · rw [if_neg g]
    intro c hc
    rcases List.mem_append.mp hc with hc | hc
    · exact h c hc
    · rw [List.mem_singleton.mp hc]; exact hs
section BFS
variable {nx : Nat → Nat → Option Nat} {c0 : Nat}
theorem bfO_none {L : List Nat} {c d : Nat} (h : nx c d = none) : bfO nx L c (d + 1) = bfO nx L c d := by
  show (match nx c d with | none => _ | some s => _) = _
  rw [h]
theorem bfO_some {L : List Nat} {c d s : Nat} (h : nx c d = some s) : bfO nx L c (d + 1) = bfA (bfO nx L c d) s := by
  show (match nx c d with | none => _ | some s => _) = _
  rw [h]
theorem bfO_step (L : List Nat) (c d : Nat) : pfx (bfO nx L c d) (bfO nx L c (d + 1)) := by
  cases h : nx c d with
  | none => rw [bfO_none h]; exact pfx.rf
  | some s => rw [bfO_some h]; exact bfA_pre _ _
theorem bfO_pre (L : List Nat) (c : Nat) : ∀ d, pfx L (bfO nx L c d)
  | 0 => pfx.rf
  | d + 1 => (bfO_pre L c d).tr (bfO_step L c d)
theorem bfO_nd {L : List Nat} (h : L.Nodup) (c : Nat) : ∀ d, (bfO nx L c d).Nodup
  | 0 => h
  | d + 1 => by
    cases g : nx c d with
    | none => rw [bfO_none g]; exact bfO_nd h c d
    | some s => rw [bfO_some g]; exact bfA_nd (bfO_nd h c d) s
theorem bfO_mono (L : List Nat) (c : Nat) {d d' : Nat} (h : d ≤ d') : pfx (bfO nx L c d) (bfO nx L c d') := by
  induction d' with
  | zero => rw [show d = 0 by omega]; exact pfx.rf
  | succ d' ih =>
    by_cases g : d = d' + 1
    · rw [g]; exact pfx.rf
    · exact (ih (by omega)).tr (bfO_step L c d')
theorem bfO_mem {L : List Nat} {c d d' s : Nat} (h : d < d') (hs : nx c d = some s) : s ∈ bfO nx L c d' :=
  (bfO_mono L c (show d + 1 ≤ d' by omega)).mem (by rw [bfO_some hs]; exact bfA_mem _ _)
theorem bfO_all {P : Nat → Prop} {L : List Nat} {c : Nat} (h : ∀ c ∈ L, P c) (hs : ∀ d s, d < 4 → nx c d = some s → P s) : ∀ d, d ≤ 4 → ∀ c' ∈ bfO nx L c d, P c'
  | 0, _ => h
  | d + 1, hd => by
    cases g : nx c d with
    | none => rw [bfO_none g]; exact bfO_all h hs d (by omega)
    | some s => rw [bfO_some g]; exact bfA_all (bfO_all h hs d (by omega)) (hs d s (by omega) g)
theorem bfB_s {k : Nat} (h : k < (bfB nx c0 k).length) : bfB nx c0 (k + 1) = bfO nx (bfB nx c0 k) ((bfB nx c0 k).getD k 0) 4 := if_pos h
theorem bfB_e {k : Nat} (h : ¬ k < (bfB nx c0 k).length) : bfB nx c0 (k + 1) = bfB nx c0 k := if_neg h
theorem bfB_step (k : Nat) : pfx (bfB nx c0 k) (bfB nx c0 (k + 1)) := by
  by_cases h : k < (bfB nx c0 k).length
  · rw [bfB_s h]; exact bfO_pre _ _ 4
  · rw [bfB_e h]; exact pfx.rf
theorem bfB_mono {k k' : Nat} (h : k ≤ k') : pfx (bfB nx c0 k) (bfB nx c0 k') := by
  induction k' with
  | zero => rw [show k = 0 by omega]; exact pfx.rf
  | succ k' ih =>
    by_cases g : k = k' + 1
    · rw [g]; exact pfx.rf
    · exact (ih (by omega)).tr (bfB_step k')
theorem bfB_nd : ∀ k, (bfB nx c0 k).Nodup
  | 0 => by show [c0].Nodup; simp
  | k + 1 => by
    by_cases h : k < (bfB nx c0 k).length
    · rw [bfB_s h]; exact bfO_nd (bfB_nd k) _ 4
    · rw [bfB_e h]; exact bfB_nd k
theorem bfB_pos (k : Nat) : 0 < (bfB nx c0 k).length ∧ (bfB nx c0 k).getD 0 0 = c0 := by
  have h := bfB_mono (nx := nx) (c0 := c0) (Nat.zero_le k)
  have h1 : (bfB nx c0 0).length = 1 := rfl
  exact ⟨by have := h.len; omega, by rw [h.get (by omega)]; rfl⟩
theorem bfB_all {P : Nat → Prop} (h0 : P c0) (hs : ∀ c d s, P c → d < 4 → nx c d = some s → P s) : ∀ k, ∀ c ∈ bfB nx c0 k, P c
  | 0 => fun c hc => by rw [List.mem_singleton.mp (show c ∈ [c0] from hc)]; exact h0
  | k + 1 => by
    by_cases h : k < (bfB nx c0 k).length
    · rw [bfB_s h]
      exact bfO_all (bfB_all h0 hs k) (fun d s hd e => hs _ d s (bfB_all h0 hs k _ (get_mem h)) hd e) 4 (Nat.le_refl 4)
    · rw [bfB_e h]; exact bfB_all h0 hs k
theorem bfB_clo : ∀ k i d s, i < k → i < (bfB nx c0 k).length → d < 4 → nx ((bfB nx c0 k).getD i 0) d = some s → s ∈ bfB nx c0 k
  | 0, i, _, _, hi, _, _, _ => absurd hi (by omega)
  | k + 1, i, d, s, hi, hl, hd, e => by
    by_cases h : k < (bfB nx c0 k).length
    · by_cases g : i = k
      · subst g
        rw [(bfB_step i).get h] at e
        rw [bfB_s h]
        exact bfO_mem hd e
      · have hi2 : i < (bfB nx c0 k).length := by omega
        rw [(bfB_step k).get hi2] at e
        exact (bfB_step k).mem (bfB_clo k i d s (by omega) hi2 hd e)
    · rw [bfB_e h] at e hl ⊢
      exact bfB_clo k i d s (by omega) hl hd e
/-- all is opened at N -/
theorem bfB_end {N : Nat} (h : (bfB nx c0 N).length = N) : ∀ m, bfB nx c0 (N + m) = bfB nx c0 N
  | 0 => rfl
  | m + 1 => by
    have e := bfB_end h m
    show bfB nx c0 (N + m + 1) = _
    rw [bfB_e (by rw [e]; omega), e]
theorem bfB_one {N N' : Nat} (h : (bfB nx c0 N).length = N) (h' : (bfB nx c0 N').length = N') : N = N' := by
  rcases Nat.le_total N N' with g | g
  · have := bfB_end h (N' - N)
    rw [show N + (N' - N) = N' by omega] at this
    rw [← h', this, h]
  · have := bfB_end h' (N - N')
    rw [show N' + (N - N') = N by omega] at this
    rw [← h, this, h']
end BFS
/-- the row's word for a stand, -1 for none -/
def enc (L : List Nat) (x : Option Nat) : Int32 := match x with
  | none => -1
  | some s => nI (L.idxOf s)
theorem enc_pre {L L' : List Nat} (h : pfx L L') {x : Option Nat} (hx : ∀ s, x = some s → s ∈ L) : enc L' x = enc L x := by
  cases x with
  | none => rfl
  | some s => show nI _ = nI _; rw [h.ix (hx s rfl)]
/-! how many there can be -/
def vU (n u : Nat) : Bool := (List.range n).all (fun s => (List.range n).any (fun r => u / 4 ^ r % 4 == s)) && (List.range 4).all (fun r => decide (r < n) || u / 4 ^ r % 4 == 0)
def pl (n : Nat) : List Nat := (List.range 256).filter (vU n)
theorem pl_len : ∀ n, n < 5 → (pl n).length ≤ 24 := by decide +kernel
theorem mOk_vU {n c : Nat} (h : mOk n c) : c / 625 ∈ pl n := by
  have hc := h.1
  refine List.mem_filter.mpr ⟨List.mem_range.mpr (by omega), ?_⟩
  unfold vU
  rw [Bool.and_eq_true]
  constructor
  · rw [List.all_eq_true]
    intro s hs
    rw [List.any_eq_true]
    have hs := List.mem_range.mp hs
    exact ⟨mSit n c s, List.mem_range.mpr (h.2.1 s hs), by rw [beq_iff_eq]; exact mSit_se (h.2.1 s hs)⟩
  · rw [List.all_eq_true]
    intro r hr
    have hr := List.mem_range.mp hr
    by_cases g : r < n
    · rw [decide_eq_true g]; rfl
    · rw [Bool.or_eq_true]
      exact Or.inr (by rw [beq_iff_eq]; exact (h.2.2.1 r hr (by omega)).1)
theorem mOk_few {n : Nat} (hn : n ≤ 4) {L : List Nat} (hd : L.Nodup) (h : ∀ c ∈ L, mOk n c) : L.length ≤ 15000 := by
  have hpl := pl_len n (by omega)
  refine pigeon 15000 L.length (fun i => (pl n).idxOf (L.getD i 0 / 625) * 625 + L.getD i 0 % 625) (fun i hi => ?_) (fun i j hij hj e => ?_)
  · have h1 := ix_lt (mOk_vU (h _ (get_mem hi)))
    have h2 := Nat.mod_lt (L.getD i 0) (show 0 < 625 by decide)
    show (pl n).idxOf (L.getD i 0 / 625) * 625 + L.getD i 0 % 625 < 15000
    omega
  · have e : (pl n).idxOf (L.getD i 0 / 625) * 625 + L.getD i 0 % 625 = (pl n).idxOf (L.getD j 0 / 625) * 625 + L.getD j 0 % 625 := e
    have h1 := Nat.mod_lt (L.getD i 0) (show 0 < 625 by decide)
    have h2 := Nat.mod_lt (L.getD j 0) (show 0 < 625 by decide)
    have e1 : (pl n).idxOf (L.getD i 0 / 625) = (pl n).idxOf (L.getD j 0 / 625) := by omega
    have e2 : L.getD i 0 % 625 = L.getD j 0 % 625 := by omega
    have g1 := ix_get (mOk_vU (h _ (get_mem (show i < L.length by omega))))
    have g2 := ix_get (mOk_vU (h _ (get_mem hj)))
    rw [e1, g2] at g1
    have := get_inj hd (i := i) (j := j) (by omega) hj (by omega)
    omega
/-- the stand behind a stop, none if it can't be -/
def aN (a : Nat → Int32) (c d : Nat) : Option Nat := if aY a (a 40) c d = 0 then some (aS a (a 40) c d) else none
theorem aN_ok {a : Nat → Int32} (ha : aOk a) {c d s : Nat} (hc : mOk (aR a) c) (h : aN a c d = some s) : mOk (aR a) s := by
  unfold aN at h
  by_cases g : aY a (a 40) c d = 0
  · rw [if_pos g] at h
    cases h
    exact aS_ok ha hc (spY_0 g)
  · rw [if_neg g] at h; cases h
def aL (a : Nat → Int32) (k : Nat) : List Nat := bfB (aN a) (aE a) k
theorem aL_ok {a : Nat → Int32} (ha : aOk a) (k : Nat) : ∀ c ∈ aL a k, mOk (aR a) c := bfB_all ha.E (fun c d s hc _ h => aN_ok ha hc h) k
theorem aL_len {a : Nat → Int32} (ha : aOk a) (k : Nat) : (aL a k).length ≤ 15000 := mOk_few ha.R.2 (bfB_nd k) (aL_ok ha k)
theorem aN_0 {a : Nat → Int32} (c : Nat) : aN a c 0 = some (aS a (a 40) c 0) := by
  unfold aN
  rw [if_pos (show aY a (a 40) c 0 = 0 by unfold aY spY; rw [if_pos rfl])]
