/-! ===== one frame for all, and what the class's objects are between calls ===== -/
/-- cells may be more; of the elder ones only those in l differ -/
def gF (l : Nat → Prop) (S S' : ab_S) : Prop := S'.1 = S.1 ∧ sn S ≤ sn S' ∧ (∀ b, b < sn S → sK S' b = sK S b) ∧ ∀ b, b < sn S → ¬ l b → sI S' b = sI S b ∧ sJ S' b = sJ S b ∧ sP S' b = sP S b
theorem gF.rf {l : Nat → Prop} {S : ab_S} : gF l S S := ⟨rfl, Nat.le_refl _, fun _ _ => rfl, fun _ _ _ => ⟨rfl, rfl, rfl⟩⟩
theorem gF.mono {l l' : Nat → Prop} {S S' : ab_S} (h : gF l S S') (hl : ∀ b, b < sn S → l b → l' b) : gF l' S S' := ⟨h.1, h.2.1, h.2.2.1, fun b hb hn => h.2.2.2 b hb (fun z => hn (hl b hb z))⟩
theorem gF.tr {l : Nat → Prop} {S S1 S2 : ab_S} (h : gF l S S1) (g : gF l S1 S2) : gF l S S2 := by
  refine ⟨g.1.trans h.1, Nat.le_trans h.2.1 g.2.1, fun b hb => (g.2.2.1 b (Nat.lt_of_lt_of_le hb h.2.1)).trans (h.2.2.1 b hb), fun b hb hn => ?_⟩
  obtain ⟨x1, x2, x3⟩ := h.2.2.2 b hb hn
  obtain ⟨y1, y2, y3⟩ := g.2.2.2 b (Nat.lt_of_lt_of_le hb h.2.1) hn
  exact ⟨y1.trans x1, y2.trans x2, y3.trans x3⟩
theorem gF.sE {l : List Nat} {S S' : ab_S} (h : sEq l S S') : gF (fun b => b ∈ l) S S' := ⟨h.1, Nat.le_of_eq h.2.2.2.2.2.1.symm, fun b _ => by rw [h.2.1], fun b _ hn => ⟨h.2.2.1 b hn, h.2.2.2.1 b hn, by rw [h.2.2.2.2.1]⟩⟩
theorem gF.dE {l : List Nat} {S S' : ab_S} (h : dEq l S S') : gF (fun b => b ∈ l ∨ b = 104) S S' := ⟨h.1, Nat.le_of_eq h.2.2.2.2.2.2.1.symm, fun b _ => by rw [h.2.1], fun b _ hn => ⟨h.2.2.1 b (fun z => hn (Or.inl z)), h.2.2.2.1 b (fun z => hn (Or.inl z)), h.2.2.2.2.1 b (fun z => hn (Or.inr z))⟩⟩
theorem gF.rE {l : List Nat} {r : Nat} {S S' : ab_S} (h : rEq r l S S') : gF (fun b => b ∈ l ∨ b = r) S S' := ⟨h.1, Nat.le_of_eq h.2.2.2.2.2.2.1.symm, fun b _ => by rw [h.2.1], fun b _ hn => ⟨h.2.2.1 b (fun z => hn (Or.inl z)), h.2.2.2.1 b (fun z => hn (Or.inl z)), h.2.2.2.2.1 b (fun z => hn (Or.inr z))⟩⟩
theorem gF.nw {a m z : Nat} {S S' : ab_S} (h : nwE a S S' m z) : gF (fun b => b = a) S S' := ⟨h.1, by rw [h.2.1]; omega, h.2.2.2.1, fun b hb hn => h.2.2.2.2 b hb hn⟩
theorem gF.gr {m z : Nat} {S S' : ab_S} (h : grE S S' m z) : gF (fun _ => False) S S' := ⟨h.1, by rw [h.2.1]; omega, fun b hb => (h.2.2.2 b hb).1, fun b hb _ => (h.2.2.2 b hb).2⟩
theorem gF.pP {l : Nat → Prop} {S S1 : ab_S} {a k : Nat} {v : Option Nat} (h : gF l S S1) (ha : l a) : gF l S (pP S1 a k v) := ⟨h.1, h.2.1, h.2.2.1, fun b hb hn => ⟨(h.2.2.2 b hb hn).1, (h.2.2.2 b hb hn).2.1, (gP_o (show b ≠ a from fun z => hn (by rw [z]; exact ha))).trans (h.2.2.2 b hb hn).2.2⟩⟩
theorem gF.pI {l : Nat → Prop} {S S1 : ab_S} {a k : Nat} {v : Int32} (h : gF l S S1) (ha : l a) : gF l S (pI S1 a k v) := ⟨h.1, h.2.1, h.2.2.1, fun b hb hn => ⟨(gI_o (show b ≠ a from fun z => hn (by rw [z]; exact ha))).trans (h.2.2.2 b hb hn).1, (h.2.2.2 b hb hn).2⟩⟩
theorem gF.im {l im : Nat → Prop} {S S' : ab_S} (h : gF l S S') (hi : ∀ y, im y → ¬ l y) : imE im S S' := ⟨h.2.1, fun b hb hn => ⟨h.2.2.1 b hn, (h.2.2.2 b hn (hi b hb)).1, (h.2.2.2 b hn (hi b hb)).2.2⟩⟩
theorem clI.gf {S S' : ab_S} {l im : Nat → Prop} {x c bh nb st : Nat} {b : Nat → Int32} (h : clI S im x c b bh nb st) (g : gF l S S') (hn : x + 9 < sn S) (hi : ∀ y, im y → ¬ l y) (h0 : ¬ l x) (h1 : ¬ l bh) (h2 : ¬ l (x + 5)) (h3 : ¬ l (x + 6)) : clI S' im x c b bh nb st := by
  obtain ⟨a1, a2, a3, a4, a5, a6, a7, a8, a9, a10, a11, a12, b1, b2, b3⟩ := h
  obtain ⟨e1, -, e3⟩ := g.2.2.2 x (by omega) h0
  have f1 := (g.2.2.2 bh a8.2 h1).1
  have f2 := (g.2.2.2 (x + 5) (by omega) h2).1
  have f3 := (g.2.2.2 (x + 6) (by omega) h3).1
  exact ⟨a1.im (g.im hi) (fun _ z => z), by rw [e3]; exact a2, by rw [e1]; exact a3, by rw [e1]; exact a4, by rw [e1]; exact a5, a6, by rw [e3]; exact a7, ⟨a8.1, Nat.lt_of_lt_of_le a8.2 g.2.1⟩, by rw [g.2.2.1 bh a8.2]; exact a9, a10, a11, a12, b1.eq f1, b2.eq f2, b3.eq f3⟩
theorem clX.gf {S S' : ab_S} {l im : Nat → Prop} {x c bh nb st : Nat} {a : Nat → Int32} (h : clX S im x c a bh nb st) (g : gF l S S') (hn : x + 9 < sn S) (hi : ∀ y, im y → ¬ l y) (h0 : ¬ l x) (h1 : ¬ l bh) (h2 : ¬ l (x + 5)) (h3 : ¬ l (x + 6)) : clX S' im x c a bh nb st := by
  obtain ⟨b, hb, hs, hc⟩ := h
  exact ⟨b, hb, hs, hc.gf g hn hi h0 h1 h2 h3⟩
theorem seOk.gf {S S' : ab_S} {l : Nat → Prop} (h : seOk S) (g : gF l S S') (hn : 120 ≤ sn S) (hl : ∀ y, 79 ≤ y → y ≤ 82 → ¬ l y) : seOk S' := by
  have e1 := (g.2.2.2 79 (by omega) (hl 79 (by omega) (by omega))).1
  have e2 := (g.2.2.2 80 (by omega) (hl 80 (by omega) (by omega))).1
  have e3 := (g.2.2.2 81 (by omega) (hl 81 (by omega) (by omega))).1
  have e4 := (g.2.2.2 82 (by omega) (hl 82 (by omega) (by omega))).1
  unfold seOk at h ⊢
  rw [e1, e2, e3, e4]
  exact h
theorem sdE.gf {S S' : ab_S} {l : Nat → Prop} {a : Nat} {t : sT} (h : sdE S a t) (g : gF l S S') (hn : a < sn S) (hl : ¬ l a) : sdE S' a t := by
  unfold sdE at h ⊢
  rw [(g.2.2.2 a hn hl).1]
  exact h
theorem roK.gf {S S' : ab_S} {l : Nat → Prop} {r N : Nat} (h : roK S r N) (g : gF l S S') (hr : ¬ l r) : roK S' r N := by
  obtain ⟨h1, h2, h3, h4, h5, h6, h7, h8, h9, h10, hp⟩ := h
  have e := (g.2.2.2 r (by omega) hr).2.2
  have k := g.2.2.1
  exact ⟨h1, Nat.lt_of_lt_of_le h2 g.2.1, by rw [k r (by omega)]; exact h3, by rw [k _ (by omega)]; exact h4, by rw [k _ (by omega)]; exact h5, by rw [k _ (by omega)]; exact h6, by rw [k _ (by omega)]; exact h7, by rw [k _ (by omega)]; exact h8, by rw [k _ (by omega)]; exact h9, by rw [k _ (by omega)]; exact h10, by rw [e]; exact hp⟩
theorem roI.gf {S S' : ab_S} {l : Nat → Prop} {r N x k : Nat} {a : Nat → Int32} (h : roI S r N x a k) (g : gF l S S') (hn : r + 7 < sn S) (hl : ∀ y, r ≤ y → y ≤ r + 4 → ¬ l y) : roI S' r N x a k := by
  have e0 := g.2.2.2 r (by omega) (hl r (by omega) (by omega))
  have e1 := (g.2.2.2 (r + 1) (by omega) (hl (r + 1) (by omega) (by omega))).1
  have e2 := (g.2.2.2 (r + 2) (by omega) (hl (r + 2) (by omega) (by omega))).1
  have e3 := (g.2.2.2 (r + 3) (by omega) (hl (r + 3) (by omega) (by omega))).1
  have e4 := (g.2.2.2 (r + 4) (by omega) (hl (r + 4) (by omega) (by omega))).1
  unfold roI roL roF roN at h ⊢
  rw [e0.1, e0.2.2, e1, e2, e3, e4]
  exact h
theorem foK.gf {S S' : ab_S} {l : Nat → Prop} {F N : Nat} (h : foK S F N) (g : gF l S S') (hr : ¬ l F) : foK S' F N := by
  obtain ⟨h1, h2, h3, h4, h5, h6, h7, h8, hp⟩ := h
  have e := (g.2.2.2 F (by omega) hr).2.2
  have k := g.2.2.1
  exact ⟨h1, Nat.lt_of_lt_of_le h2 g.2.1, by rw [k F (by omega)]; exact h3, by rw [k _ (by omega)]; exact h4, by rw [k _ (by omega)]; exact h5, by rw [k _ (by omega)]; exact h6, by rw [k _ (by omega)]; exact h7, by rw [k _ (by omega)]; exact h8, by rw [e]; exact hp⟩
theorem foD.ge {S S' : ab_S} {F T : Nat} {g : Nat → Nat → Option Nat} {W : Nat → Prop} (h : foD S F T g W) (e : sI S' (F + 1) = sI S (F + 1)) : foD S' F T g W := by
  unfold foD at h ⊢
  rw [e]
  exact h
theorem alk.rf {a : Nat → Int32} : alk a a := ⟨sta.rf, fun _ _ => rfl, rfl⟩
theorem alk.tr {a b d : Nat → Int32} (h : alk a b) (g : alk b d) : alk a d := ⟨fun i hi => (g.1 i hi).trans (h.1 i hi), fun r hr => (g.2.1 r hr).trans (h.2.1 r hr), g.2.2.trans h.2.2⟩
theorem alk_of {a b : Nat → Int32} (ha : aOk a) (hb : aOk b) (hs : sta a b) (h3 : nI (seaC b) = nI (seaC a)) (h4 : b 40 = a 40) : alk a b := by
  have e : seaC b = seaC a := (nI_eq (by have := seaC_lt hb; omega) (by have := seaC_lt ha; omega)).mp h3
  exact ⟨hs, fun r hr => by rw [← seaC_v hb hr, ← seaC_v ha hr, e], h4⟩
theorem alk.gr {a b : Nat → Int32} (h : alk a b) (e : aE b = aE a) : gI b = gI a ∧ gV b = gV a ∧ ∀ k, aL b k = aL a k := by
  have hN : aN b = aN a := by
    funext v d
    unfold aN aY aS
    rw [h.1.R, h.1.ml, h.1.wl, h.sea.1, h.sea.2, h.2.2]
  have hL : aL b = aL a := by
    funext k
    unfold aL
    rw [hN, e]
  refine ⟨?_, ?_, fun k => by rw [hL]⟩
  · funext N i d
    unfold gI
    rw [hN, hL]
  · funext N r k i
    unfold gV gC
    rw [hL]
/-- one start, as the class writes it, is one start -/
theorem start_one {a b : Nat → Int32} (ha : aOk a) (hb : aOk b) (hR : aR b = aR a) (e : aQ a * 5 ^ aR a + aW a = aQ b * 5 ^ aR b + aW b) : aE b = aE a := by
  obtain ⟨q1, w1, e1⟩ := rowT_in ha
  obtain ⟨q2, w2, e2⟩ := rowT_in hb
  rw [hR] at e w2 e2
  have hm : aW a = aW b := by
    have z := congrArg (fun t => t % 5 ^ aR a) e
    simpa [Nat.mul_add_mod_of_lt, Nat.mod_eq_of_lt w1, Nat.mod_eq_of_lt w2] using z
  have hq : aQ a = aQ b := by
    have p : 0 < 5 ^ aR a := Nat.pow_pos (by decide)
    have z : aQ a * 5 ^ aR a = aQ b * 5 ^ aR a := by omega
    exact Nat.eq_of_mul_eq_mul_right p z
  rw [e1, e2, hm, hq]
/-- idling's two tables -/
def idR (S : ab_S) : Prop := ∃ ca la, sP S 104 4 = some ca ∧ sP S 104 5 = some la ∧ ((ca = 107 ∧ la = 108) ∨ (ca = 108 ∧ la = 107))
/-- a size that rows have -/
def szN (N : Nat) : Prop := ∃ R, R ≤ 4 ∧ N = kFc R * 5 ^ R
/-- the forcing that is known, beside rows r of size N that hold kn stands of b's and had rs starts -/
def foN (S : ab_S) (im : Nat → Prop) (bh r N kn rs : Nat) (b : Nat → Int32) : Prop := sP S 50 16 = none ∨ ∃ F M, sP S 50 16 = some F ∧ (∀ y, F ≤ y → y ≤ F + 5 → ¬ im y) ∧ (bh < F ∨ F + 5 < bh) ∧ (F + 5 < r ∨ r + 7 < F) ∧ foK S F M ∧ szN M ∧ M ≤ N ∧ (M = N → (sI S F 5 = -1 ∨ ∃ s5, s5 ≤ rs ∧ sI S F 5 = nI s5) ∧ (sI S F 5 = nI rs → 0 < kn ∧ ∀ p h T, p < 4 → sI S F 6 = nI p → h < 2 ^ 31 → sI S F 7 = nI h → (cL b T).length = T → foD S F T (gI b T) (gV b T p h)))
/-- the rows that are known: b0 is the climate's row, st its stamp -/
def rfK (S : ab_S) (im : Nat → Prop) (bh st : Nat) (b0 : Nat → Int32) (u : Nat) : Prop := (sP S 50 15 = none ∧ sP S 50 16 = none) ∨ ∃ r N kn rs b, sP S 50 15 = some r ∧ (∀ y, r ≤ y → y ≤ r + 7 → ¬ im y) ∧ (bh < r ∨ r + 7 < bh) ∧ roK S r N ∧ szN N ∧ (∀ v, v < N → ∃ e, sI S (r + 2) v = nI e ∧ e < 15000) ∧ sI S r 12 = nI kn ∧ kn < 2 ^ 31 ∧ sI S r 14 = nI rs ∧ rs ≤ u ∧ (∀ s, st < s → s < 2 ^ 20 → sI S r 9 ≠ nI s) ∧ (0 < kn → ∃ k, aOk b ∧ roI S r N 84 b k ∧ (sI S r 9 = nI st → alk b b0)) ∧ foN S im bh r N kn rs b
/-- the class's objects between two calls: a the row, c its carriage, b the row that the climate was last told, u what counts have come to -/
def kBd (S : ab_S) (im : Nat → Prop) (a : Nat → Int32) (c : Nat) (b : Nat → Int32) (bh nb st st2 u : Nat) : Prop := xSh S ∧ seOk S ∧ kSh S.1 ∧ (imO im ∧ (∀ y, im y → y < sn S) ∧ 145 ≤ sn S) ∧ aGood a ∧ sP S 50 2 = some c ∧ (aOk b ∧ sta a b ∧ clI S im 84 c b bh nb st ∧ szN nb) ∧ clX S im 94 c a 98 0 st2 ∧ (sI S 84 1 = 1 ∧ sI S 94 1 = 0) ∧ idR S ∧ rfK S im bh st b u ∧ st ≤ u ∧ st2 ≤ u
theorem foN.gf {S S' : ab_S} {l im : Nat → Prop} {bh r N kn rs : Nat} {b : Nat → Int32} (h : foN S im bh r N kn rs b) (g : gF l S S') (h145 : 145 ≤ sn S) (hb84 : 84 ≤ bh) (hl : ∀ y, l y → (y < 145 ∧ y ≠ 50) ∨ y = bh) : foN S' im bh r N kn rs b := by
  have e50 := (g.2.2.2 50 (by omega) (fun z => by have := hl 50 z; omega)).2.2
  rcases h with h | ⟨F, M, p, hi, hb, hr, hK, hz, hM, hs⟩
  · exact Or.inl (by rw [e50]; exact h)
  · have hF := hK.1
    have hF2 := hK.2.1
    have nl : ∀ y, F ≤ y → y ≤ F + 5 → ¬ l y := fun y h1 h2 z => by have := hl y z; omega
    have e0 := (g.2.2.2 F (by omega) (nl F (by omega) (by omega))).1
    have e1 := (g.2.2.2 (F + 1) (by omega) (nl (F + 1) (by omega) (by omega))).1
    refine Or.inr ⟨F, M, by rw [e50]; exact p, hi, hb, hr, hK.gf g (nl F (by omega) (by omega)), hz, hM, fun z => ?_⟩
    obtain ⟨s1, s2⟩ := hs z
    rw [e0]
    exact ⟨s1, fun y => ⟨(s2 y).1, fun p h T a1 a2 a3 a4 a5 => ((s2 y).2 p h T a1 a2 a3 a4 a5).ge e1⟩⟩
theorem rfK.gf {S S' : ab_S} {l im : Nat → Prop} {bh st st' u u' : Nat} {b0 b0' : Nat → Int32} (h : rfK S im bh st b0 u) (g : gF l S S') (h145 : 145 ≤ sn S) (hb84 : 84 ≤ bh) (hl : ∀ y, l y → (y < 145 ∧ y ≠ 50) ∨ y = bh) (hst : st ≤ st') (hs20 : st' < 2 ^ 20) (hu : u ≤ u') (hal : st' = st → alk b0 b0') : rfK S' im bh st' b0' u' := by
  have e50 := (g.2.2.2 50 (by omega) (fun z => by have := hl 50 z; omega)).2.2
  rcases h with ⟨h1, h2⟩ | ⟨r, N, kn, rs, b, p, hi, hb, hK, hz, hs, k1, k2, r1, r2, h9, hI, hF⟩
  · exact Or.inl ⟨by rw [e50]; exact h1, by rw [e50]; exact h2⟩
  · have hr := hK.1
    have hr2 := hK.2.1
    have nl : ∀ y, r ≤ y → y ≤ r + 7 → ¬ l y := fun y h1 h2 z => by have := hl y z; omega
    have e0 := (g.2.2.2 r (by omega) (nl r (by omega) (by omega))).1
    have e2 := (g.2.2.2 (r + 2) (by omega) (nl (r + 2) (by omega) (by omega))).1
    refine Or.inr ⟨r, N, kn, rs, b, by rw [e50]; exact p, hi, hb, hK.gf g (nl r (by omega) (by omega)), hz, by rw [e2]; exact hs, by rw [e0]; exact k1, k2, by rw [e0]; exact r1, by omega, fun s y1 y2 => by rw [e0]; exact h9 s (by omega) y2, fun z => ?_, hF.gf g h145 hb84 hl⟩
    obtain ⟨k, q1, q2, q3⟩ := hI z
    refine ⟨k, q1, q2.gf g hr2 (fun y y1 y2 => nl y y1 (by omega)), fun y => ?_⟩
    rw [e0] at y
    by_cases w : st' = st
    · rw [w] at y
      exact (q3 y).tr (hal w)
    · exact absurd y (h9 st' (by omega) hs20)
theorem kBd.step {S S' : ab_S} {l im : Nat → Prop} {a a' b b' : Nat → Int32} {c bh nb st st2 u st' st2' u' : Nat} (h : kBd S im a c b bh nb st st2 u) (g : gF l S S') (hx : xSh S') (hl : ∀ y, l y → (y < 145 ∧ y ≠ 50 ∧ ¬ (79 ≤ y ∧ y ≤ 82)) ∨ y = bh) (ha' : aGood a') (hs : sta a a') (hb' : aOk b') (hsb : sta a' b') (h84 : clI S' im 84 c b' bh nb st') (hkp : kpX S S' 84 st st') (hle : st ≤ st') (h94 : clX S' im 94 c a' 98 0 st2') (h941 : sI S' 94 1 = sI S 94 1) (hid : idR S') (hu : u ≤ u') (hu1 : st' ≤ u') (hu2 : st2' ≤ u') : kBd S' im a' c b' bh nb st' st2' u' := by
  obtain ⟨x1, x2, x3, ⟨x4, x5, x6⟩, x7, x8, ⟨x9, x10, x11, x12⟩, x13, ⟨x14, x15⟩, x16, x17, x18, x19⟩ := h
  have hbh : 84 ≤ bh ∧ ¬ (79 ≤ bh ∧ bh ≤ 82) := by
    obtain ⟨-, -, -, -, -, -, -, -, -, -, -, y, -⟩ := x11
    omega
  have hl' : ∀ y, l y → (y < 145 ∧ y ≠ 50) ∨ y = bh := fun y z => by have := hl y z; omega
  have e50 := (g.2.2.2 50 (by omega) (fun z => by have := hl 50 z; omega)).2.2
  refine ⟨hx, x2.gf g (by omega) (fun y y1 y2 z => by have := hl y z; omega), by rw [g.1]; exact x3, ⟨x4, fun y z => Nat.lt_of_lt_of_le (x5 y z) g.2.1, Nat.le_trans x6 g.2.1⟩, ha', by rw [e50]; exact x8, ⟨hb', hsb, h84, x12⟩, h94, ⟨hkp.1.trans x14, h941.trans x15⟩, hid, x17.gf g x6 hbh.1 hl' hle ?_ hu (fun w => ?_), hu1, hu2⟩
  · exact h84.2.2.2.2.2.1.2
  · obtain ⟨y1, y2⟩ := hkp.2 w
    refine alk_of x9 hb' ((x10.sy.tr hs).tr hsb) ?_ ?_
    · rw [← h84.2.2.1, ← x11.2.2.1]; exact y1
    · rw [← h84.2.2.2.1, ← x11.2.2.2.1]; exact y2
