/-! ===== graphs: the fewest stops, the first way ===== -/
def gFAR : Nat := 268435456
def encN (x : Option Nat) : Int32 := match x with
  | none => -1
  | some j => nI j
/-- the stands as numbers in their order -/
def gI (a : Nat → Int32) (N i d : Nat) : Option Nat := (aN a ((aL a N).getD i 0) d).map (fun s => (aL a N).idxOf s)
def gC (a : Nat → Int32) (N i : Nat) : Nat := (aL a N).getD i 0
/-- a row of m stops leads from i to where W holds -/
def pth (g : Nat → Nat → Option Nat) (W : Nat → Prop) : Nat → Nat → Prop
  | 0, i => W i
  | m + 1, i => ∃ d j, d < 4 ∧ g i d = some j ∧ pth g W m j
def dst (g : Nat → Nat → Option Nat) (W : Nat → Prop) (i x : Nat) : Prop := x < gFAR ∧ pth g W x i ∧ ∀ m, m < x → ¬ pth g W m i
theorem dst_one {g : Nat → Nat → Option Nat} {W : Nat → Prop} {i x y : Nat} (h : dst g W i x) (h' : dst g W i y) : x = y := by
  rcases Nat.lt_trichotomy x y with z | z | z
  · exact absurd h.2.1 (h'.2.2 x z)
  · exact z
  · exact absurd h'.2.1 (h.2.2 y z)
/-- the first deed on a shortest way from i, to j -/
def fstD (g : Nat → Nat → Option Nat) (W : Nat → Prop) (i d j : Nat) : Prop := d < 4 ∧ g i d = some j ∧ (∃ x, dst g W i (x + 1) ∧ dst g W j x) ∧ ∀ d' j', d' < d → g i d' = some j' → ¬ ∃ x, dst g W i (x + 1) ∧ dst g W j' x
theorem fstD_one {g : Nat → Nat → Option Nat} {W : Nat → Prop} {i d j d' j' : Nat} (h : fstD g W i d j) (h' : fstD g W i d' j') : d = d' ∧ j = j' := by
  have e : d = d' := by
    rcases Nat.lt_trichotomy d d' with z | z | z
    · exact absurd h.2.2.1 (h'.2.2.2 d j z h.2.1)
    · exact z
    · exact absurd h'.2.2.1 (h.2.2.2 d' j' z h'.2.1)
  subst e
  refine ⟨rfl, ?_⟩
  have := h.2.1.symm.trans h'.2.1
  exact Option.some.inj this
/-- v is the n-th deed of the first shortest way from i, -1 where there is none -/
def wR (g : Nat → Nat → Option Nat) (W : Nat → Prop) : Nat → Nat → Int32 → Prop
  | 0, i, v => (∃ d j, fstD g W i d j ∧ v = nI d) ∨ ((¬ ∃ x, dst g W i (x + 1)) ∧ v = -1)
  | n + 1, i, v => (∃ d j, fstD g W i d j ∧ wR g W n j v) ∨ ((¬ ∃ x, dst g W i (x + 1)) ∧ v = -1)
theorem fstD_ex {g : Nat → Nat → Option Nat} {W : Nat → Prop} {i d j : Nat} (h : fstD g W i d j) : ∃ x, dst g W i (x + 1) := by
  obtain ⟨x, h1, -⟩ := h.2.2.1
  exact ⟨x, h1⟩
theorem wR_one {g : Nat → Nat → Option Nat} {W : Nat → Prop} {v v' : Int32} : ∀ n i, wR g W n i v → wR g W n i v' → v = v'
  | 0, i, h, h' => by
    rcases h with ⟨d, j, h1, h2⟩ | ⟨h1, h2⟩
    · rcases h' with ⟨d', j', h1', h2'⟩ | ⟨h1', h2'⟩
      · rw [h2, h2', (fstD_one h1 h1').1]
      · exact absurd (fstD_ex h1) h1'
    · rcases h' with ⟨d', j', h1', h2'⟩ | ⟨h1', h2'⟩
      · exact absurd (fstD_ex h1') h1
      · rw [h2, h2']
  | n + 1, i, h, h' => by
    rcases h with ⟨d, j, h1, h2⟩ | ⟨h1, h2⟩
    · rcases h' with ⟨d', j', h1', h2'⟩ | ⟨h1', h2'⟩
      · rw [← (fstD_one h1 h1').2] at h2'
        exact wR_one n j h2 h2'
      · exact absurd (fstD_ex h1) h1'
    · rcases h' with ⟨d', j', h1', h2'⟩ | ⟨h1', h2'⟩
      · exact absurd (fstD_ex h1') h1
      · rw [h2, h2']
/-- one more than what f has behind a deed -/
def fB (g : Nat → Nat → Option Nat) (f : Nat → Nat) (i d : Nat) : Nat := match g i d with
  | none => gFAR
  | some j => if f j = gFAR then gFAR else f j + 1
theorem fB_none {g : Nat → Nat → Option Nat} {f : Nat → Nat} {i d : Nat} (h : g i d = none) : fB g f i d = gFAR := by unfold fB; rw [h]
theorem fB_some {g : Nat → Nat → Option Nat} {f : Nat → Nat} {i d j : Nat} (h : g i d = some j) : fB g f i d = if f j = gFAR then gFAR else f j + 1 := by unfold fB; rw [h]
/-- every finite word of f is the length of a row -/
def fReal (g : Nat → Nat → Option Nat) (W : Nat → Prop) (f : Nat → Nat) (N : Nat) : Prop := ∀ i, i < N → f i ≤ gFAR ∧ (W i → f i = 0) ∧ (f i < gFAR → pth g W (f i) i)
def fStab (g : Nat → Nat → Option Nat) (f : Nat → Nat) (i : Nat) : Prop := ∀ d, d < 4 → f i ≤ fB g f i d ∨ f i = 0
theorem fB_le {g : Nat → Nat → Option Nat} {W : Nat → Prop} {f : Nat → Nat} {N : Nat} (hg : ∀ i d j, i < N → d < 4 → g i d = some j → j < N) (h : fReal g W f N) {i d : Nat} (hi : i < N) (hd : d < 4) : fB g f i d ≤ gFAR ∧ (fB g f i d < gFAR → pth g W (fB g f i d) i) ∧ 0 < fB g f i d := by
  cases e : g i d with
  | none => rw [fB_none e]; exact ⟨Nat.le_refl _, fun z => absurd z (by omega), by decide⟩
  | some j =>
    rw [fB_some e]
    have hj := h j (hg i d j hi hd e)
    by_cases z : f j = gFAR
    · rw [if_pos z]; exact ⟨Nat.le_refl _, fun z => absurd z (by omega), by decide⟩
    · rw [if_neg z]
      exact ⟨by omega, fun y => ⟨d, j, hd, e, hj.2.2 (by omega)⟩, by omega⟩
theorem fReal_up {g : Nat → Nat → Option Nat} {W : Nat → Prop} {f : Nat → Nat} {N : Nat} (hg : ∀ i d j, i < N → d < 4 → g i d = some j → j < N) (h : fReal g W f N) {i d : Nat} (hi : i < N) (hd : d < 4) (hlt : fB g f i d < f i) : fReal g W (up1 f i (fB g f i d)) N := by
  intro k hk
  by_cases e : k = i
  · subst e
    rw [up1_s]
    have h1 := fB_le hg h hk hd
    have h2 := h k hk
    exact ⟨h1.1, fun z => by have := h2.2.1 z; omega, h1.2.1⟩
  · rw [up1_o e]; exact h k hk
theorem fFix_le {g : Nat → Nat → Option Nat} {W : Nat → Prop} {f : Nat → Nat} {N : Nat} (hg : ∀ i d j, i < N → d < 4 → g i d = some j → j < N) (h : fReal g W f N) (hs : ∀ i, i < N → fStab g f i) : ∀ m i, i < N → pth g W m i → f i ≤ m
  | 0, i, hi, hp => by have := (h i hi).2.1 hp; omega
  | m + 1, i, hi, hp => by
    obtain ⟨d, j, hd, e, hp⟩ := hp
    have hj := hg i d j hi hd e
    have h1 := fFix_le hg h hs m j hj hp
    have h2 := hs i hi d hd
    rw [fB_some e] at h2
    have h3 := (h i hi).1
    by_cases z : f j = gFAR
    · rw [if_pos z] at h2; omega
    · rw [if_neg z] at h2; omega
theorem fFix_dst {g : Nat → Nat → Option Nat} {W : Nat → Prop} {f : Nat → Nat} {N : Nat} (hg : ∀ i d j, i < N → d < 4 → g i d = some j → j < N) (h : fReal g W f N) (hs : ∀ i, i < N → fStab g f i) {i : Nat} (hi : i < N) : (f i < gFAR → dst g W i (f i)) ∧ (f i = gFAR → ∀ x, ¬ dst g W i x) := by
  constructor
  · intro z
    exact ⟨z, (h i hi).2.2 z, fun m hm hp => by have := fFix_le hg h hs m i hi hp; omega⟩
  · intro z x hx
    have := fFix_le hg h hs x i hi hx.2.1
    have := hx.1
    omega
theorem fFix_step {g : Nat → Nat → Option Nat} {W : Nat → Prop} {f : Nat → Nat} {N : Nat} (hg : ∀ i d j, i < N → d < 4 → g i d = some j → j < N) (h : fReal g W f N) (hs : ∀ i, i < N → fStab g f i) {i : Nat} (hi : i < N) (h0 : 0 < f i) (hF : f i < gFAR) : ∃ d, d < 4 ∧ fB g f i d = f i := by
  have hp := (h i hi).2.2 hF
  obtain ⟨x, ex⟩ : ∃ x, f i = x + 1 := ⟨f i - 1, by omega⟩
  rw [ex] at hp
  obtain ⟨d, j, hd, e, hp⟩ := hp
  have hj := hg i d j hi hd e
  have h1 := fFix_le hg h hs x j hj hp
  have h2 := hs i hi d hd
  refine ⟨d, hd, ?_⟩
  rw [fB_some e] at h2 ⊢
  by_cases z : f j = gFAR
  · omega
  · rw [if_neg z] at h2 ⊢; omega
/-- the first deed whose word fits is the first of a shortest way -/
theorem fFix_fst {g : Nat → Nat → Option Nat} {W : Nat → Prop} {f : Nat → Nat} {N : Nat} (hg : ∀ i d j, i < N → d < 4 → g i d = some j → j < N) (h : fReal g W f N) (hs : ∀ i, i < N → fStab g f i) {i d : Nat} (hi : i < N) (h0 : 0 < f i) (hF : f i < gFAR) (hd : d < 4) (e : fB g f i d = f i) (hno : ∀ d', d' < d → fB g f i d' ≠ f i) : ∃ j, g i d = some j ∧ j < N ∧ f j + 1 = f i ∧ fstD g W i d j := by
  cases eg : g i d with
  | none => rw [fB_none eg] at e; omega
  | some j =>
    have hj := hg i d j hi hd eg
    rw [fB_some eg] at e
    by_cases z : f j = gFAR
    · rw [if_pos z] at e; omega
    · rw [if_neg z] at e
      have hjl := (h j hj).1
      refine ⟨j, rfl, hj, e, hd, eg, ⟨f j, by rw [e]; exact (fFix_dst hg h hs hi).1 hF, (fFix_dst hg h hs hj).1 (by omega)⟩, fun d' j' hd' eg' hx => hno d' hd' ?_⟩
      obtain ⟨x, hx1, hx2⟩ := hx
      have e1 := dst_one hx1 ((fFix_dst hg h hs hi).1 hF)
      have hj' := hg i d' j' hi (by omega) eg'
      have hjl' := (h j' hj').1
      have hFj : f j' < gFAR := by
        rcases Nat.lt_or_ge (f j') gFAR with y | y
        · exact y
        · exact absurd hx2 ((fFix_dst hg h hs hj').2 (by omega) x)
      have e2 := dst_one hx2 ((fFix_dst hg h hs hj').1 hFj)
      rw [fB_some eg', if_neg (by omega)]
      omega
def sumF (f : Nat → Nat) : Nat → Nat
  | 0 => 0
  | n + 1 => sumF f n + f n
theorem sumF_cg {f f' : Nat → Nat} : ∀ n, (∀ i, i < n → f i = f' i) → sumF f n = sumF f' n
  | 0, _ => rfl
  | n + 1, h => by show sumF f n + f n = sumF f' n + f' n; rw [sumF_cg n (fun i hi => h i (by omega)), h n (by omega)]
theorem sumF_up {f : Nat → Nat} {k x : Nat} : ∀ n, k < n → sumF (up1 f k x) n + f k = sumF f n + x
  | 0, h => absurd h (by omega)
  | n + 1, h => by
    show sumF (up1 f k x) n + up1 f k x n + f k = sumF f n + f n + x
    by_cases e : n = k
    · subst e
      rw [up1_s, sumF_cg (f' := f) n (fun i hi => up1_o (by omega))]; omega
    · rw [up1_o e]
      have := sumF_up (f := f) (k := k) (x := x) n (by omega)
      omega
theorem gI_lt {a : Nat → Int32} {N i d j : Nat} (hl : (aL a N).length = N) (hi : i < N) (hd : d < 4) (h : gI a N i d = some j) : j < N := by
  unfold gI at h
  cases e : aN a ((aL a N).getD i 0) d with
  | none => rw [e] at h; cases h
  | some s =>
    rw [e] at h
    cases h
    have := ix_lt (bfB_clo (nx := aN a) (c0 := aE a) N i d s hi (by rw [show bfB (aN a) (aE a) N = aL a N from rfl, hl]; exact hi) hd e)
    rw [show bfB (aN a) (aE a) N = aL a N from rfl, hl] at this
    exact this
/-- the graph lies in the row then -/
def mGr (S : ab_S) (a : Nat → Int32) (N : Nat) : Prop := (aL a N).length = N ∧ N ≤ 15000 ∧ 0 < N ∧ sI S 120 29 = nI N ∧ (∀ i, i < N → sI S 130 i = nI (gC a N i)) ∧ (∀ i d, i < N → d < 4 → sI S 131 (4 * i + d) = encN (gI a N i d))
theorem mBf.gr {S : ab_S} {a : Nat → Int32} {N : Nat} (h : mBf S a N) : mGr S a N := by
  refine ⟨h.1, h.2.1, h.2.2.1, h.2.2.2.1, h.2.2.2.2.1, fun i d hi hd => ?_⟩
  rw [(h.2.2.2.2.2 i d hi hd).1]
  unfold gI
  cases aN a ((aL a N).getD i 0) d <;> rfl
theorem mGr.eq {l : List Nat} {S S' : ab_S} {a : Nat → Int32} {N : Nat} (h : mGr S a N) (hE : sEq l S S') (h1 : 130 ∉ l) (h2 : 131 ∉ l) (h3 : 120 ∉ l) : mGr S' a N := by
  unfold mGr
  rw [hE.2.2.1 _ h1, hE.2.2.1 _ h2, hE.2.2.1 _ h3]
  exact h
theorem gC_ok {a : Nat → Int32} (ha : aOk a) {N i : Nat} (hl : (aL a N).length = N) (hi : i < N) : mOk (aR a) (gC a N i) := aL_ok ha N _ (get_mem (by rw [hl]; exact hi))
theorem gC_0 {a : Nat → Int32} (N : Nat) : gC a N 0 = aE a := (bfB_pos (nx := aN a) (c0 := aE a) N).2
def fAr (S : ab_S) (ad : Nat) (f : Nat → Nat) (N : Nat) : Prop := ∀ i, i < N → sI S ad i = nI (f i)
theorem fAr.eq {l : List Nat} {S S' : ab_S} {ad N : Nat} {f : Nat → Nat} (h : fAr S ad f N) (hE : sEq l S S') (h1 : ad ∉ l) : fAr S' ad f N := by
  unfold fAr
  rw [hE.2.2.1 _ h1]
  exact h
theorem fAr.up {S : ab_S} {ad N k x : Nat} {f : Nat → Nat} (h : fAr S ad f N) : fAr (pI S ad k (nI x)) ad (up1 f k x) N := by
  intro i hi
  show up2 (sI S) ad k (nI x) ad i = _
  by_cases e : i = k
  · rw [e, up2_s, up1_s]
  · rw [up2_k e, up1_o e]; exact h i hi
/-- all is warm enough in a stand -/
def gW (a : Nat → Int32) (N k i : Nat) : Prop := k ≤ mLe (gC a N i) (aR a)
