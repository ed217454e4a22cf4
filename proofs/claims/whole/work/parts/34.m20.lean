/-! ===== words over the row alone ===== -/
def rwS (a : Nat → Int32) : ab_S := (fun _ => .inl (.int, 0, .inl (fun _ => 0)), fun _ => .inr 0, fun b j => if b = 121 then a j else 0, fun _ _ => 0, fun _ _ => none, 0, 0)
def aR (a : Nat → Int32) : Nat := cN (a 1)
def aE (a : Nat → Int32) : Nat := mEn (rwS a) (aR a)
def aY (a : Nat → Int32) (mo : Int32) (c q : Nat) : Nat := spY (aR a) (mMl (rwS a)) (mSea (rwS a)) (mCls (rwS a)) mo c q
def aS (a : Nat → Int32) (mo : Int32) (c q : Nat) : Nat := spS (aR a) (mWl (rwS a)) (mSea (rwS a)) (mCls (rwS a)) mo c q
def aOk (a : Nat → Int32) : Prop := mV (rwS a) ∧ mLw (rwS a) ∧ mPe (rwS a)
theorem rw_A (a : Nat → Int32) : mA (rwS a) = a := rfl
theorem aOk.v {S : ab_S} (h : aOk (mA S)) : mV S := h.1
theorem aOk.l {S : ab_S} (h : aOk (mA S)) : mLw S := h.2.1
theorem aOk.p {S : ab_S} (h : aOk (mA S)) : mPe S := h.2.2
theorem aOk.of {S : ab_S} (hv : mV S) (hl : mLw S) (hp : mPe S) : aOk (mA S) := ⟨hv, hl, hp⟩
theorem aR_eq (S : ab_S) : aR (mA S) = mR S := rfl
theorem aE_eq (S : ab_S) : aE (mA S) = mEn S (mR S) := mEn_cg (S := S) (S' := rwS (mA S)) rfl _
theorem aY_eq (S : ab_S) (mo : Int32) (c q : Nat) : aY (mA S) mo c q = spY (mR S) (mMl S) (mSea S) (mCls S) mo c q := rfl
theorem aS_eq (S : ab_S) (mo : Int32) (c q : Nat) : aS (mA S) mo c q = spS (mR S) (mWl S) (mSea S) (mCls S) mo c q := rfl
theorem aOk.R {a : Nat → Int32} (h : aOk a) : a 1 = nI (aR a) ∧ aR a ≤ 4 := h.1.1
theorem aOk.mo {a : Nat → Int32} (h : aOk a) : ∃ m, a 40 = nI m ∧ m < 10 := ⟨_, h.1.2.2.1, h.1.2.2.2⟩
theorem aOk.E {a : Nat → Int32} (h : aOk a) : mOk (aR a) (aE a) := mEn_ok h.1 h.2.2
theorem aS_ok {a : Nat → Int32} (h : aOk a) {mo : Int32} {c q : Nat} (hc : mOk (aR a) c) (hq : q < aR a ∨ q = 0) : mOk (aR a) (aS a mo c q) := (spS_Ok h.R.2 hc hq).1
theorem mOk.lt {n c : Nat} (h : mOk n c) : c < 160000 := h.1
theorem w_standNow {G : ab_G} {S : ab_S} {a : Nat → Int32} (hm : mSh S) (hA : mA S = a) (ha : aOk a) : ab_C G 1 M_m_standNow [.ref 120] (sw S) (fun v w' => v = some (.int (nI (aE a))) ∧ w' = sw S) := by
  subst hA
  rw [aE_eq]
  exact c_m_standNow hm ha.v
theorem w_leastIn {G : ab_G} {S : ab_S} {a : Nat → Int32} (hm : mSh S) (hA : mA S = a) (ha : aOk a) (c : Nat) (hc : c < 160000) : ab_C G 2 M_m_leastIn [.ref 120, .int (nI c)] (sw S) (fun v w' => v = some (.int (nI (mLe c (aR a)))) ∧ w' = sw S) := by
  subst hA
  exact c_m_leastIn hm ha.v c hc
theorem w_sumIn {G : ab_G} {S : ab_S} {a : Nat → Int32} (hm : mSh S) (hA : mA S = a) (ha : aOk a) (c : Nat) (hc : c < 160000) : ab_C G 2 M_m_sumIn [.ref 120, .int (nI c)] (sw S) (fun v w' => v = some (.int (nI (mSu c (aR a)))) ∧ w' = sw S) := by
  subst hA
  exact c_m_sumIn hm ha.v c hc
theorem w_sitting {G : ab_G} {S : ab_S} {a : Nat → Int32} (hm : mSh S) (hA : mA S = a) (ha : aOk a) (c s : Nat) (hc : c < 160000) (hs : s < 100) : ab_C G 1 M_m_sitting [.ref 120, .int (nI c), .int (nI s)] (sw S) (fun v w' => v = some (.int (if mSit (aR a) c s < aR a then nI (mSit (aR a) c s) else -1)) ∧ w' = sw S) := by
  subst hA
  exact c_m_sitting hm ha.v c s hc hs
/-- the shape of an answer with the state behind it -/
def rSt (l : List Nat) (S : ab_S) (v0 : Option Value) (a' : Nat → Int32) (v : Option Value) (w' : ab_H) : Prop := v = v0 ∧ ∃ S', w' = sw S' ∧ mSh S' ∧ mA S' = a' ∧ sEq l S S'
theorem w_whyStop {G : ab_G} {S : ab_S} {a : Nat → Int32} (hm : mSh S) (hA : mA S = a) (ha : aOk a) (c q : Nat) (mo : Int32) (hc : mOk (aR a) c) (hq : q < 2 ^ 31) : ab_C G 4 M_m_whyStop [.ref 120, .int (nI c), .long (lN q), .int mo] (sw S) (rSt [125, 126] S (some (.int (nI (aY a mo c q)))) a) := by
  subst hA
  refine (c_m_whyStop hm ha.v ha.l c q mo hc.1 hc.2.1 hq).mono (fun v w' h => ?_)
  obtain ⟨S', rfl, hE, rfl⟩ := h
  exact ⟨rfl, S', rfl, hm.eq hE, hE.2.2.1 121 (by decide), hE⟩
theorem w_stopTo {G : ab_G} {S : ab_S} {a : Nat → Int32} (hm : mSh S) (hA : mA S = a) (ha : aOk a) (c q : Nat) (mo : Int32) (hc : mOk (aR a) c) (hq : q < aR a ∨ q = 0) : ab_C G 4 M_m_stopTo [.ref 120, .int (nI c), .int (nI q), .int mo] (sw S) (rSt [125, 126] S (some (.int (nI (aS a mo c q)))) a) := by
  subst hA
  refine (c_m_stopTo hm ha.v ha.l c q mo hc.1 hc.2.1 hq).mono (fun v w' h => ?_)
  obtain ⟨S', rfl, hE, rfl⟩ := h
  exact ⟨rfl, S', rfl, hm.eq hE, hE.2.2.1 121 (by decide), hE⟩
/-- the row behind a stop -/
def aGo (a : Nat → Int32) (q : Nat) : Nat → Int32 := up1 (mPut a (aR a) (aS a (a 40) (aE a) q)) 41 (a 41 + 1)
theorem w_goesStop {G : ab_G} {S : ab_S} {a : Nat → Int32} (hm : mSh S) (hA : mA S = a) (ha : aOk a) (q : Nat) (hq : q < aR a ∨ q = 0) : ab_C G 5 M_m_goesStop [.ref 120, .int (nI q)] (sw S) (rSt [121, 125, 126] S none (aGo a q)) := by
  subst hA
  refine (c_m_goesStop hm ha.v ha.l ha.p q hq).mono (fun v w' h => ?_)
  obtain ⟨rfl, S', rfl, hE, hB⟩ := h
  exact ⟨rfl, S', rfl, hm.eq hE, by rw [hB]; unfold aGo; rw [aE_eq]; rfl, hE⟩
/-- all a row must keep, besides -/
theorem aOk_cg {a b : Nat → Int32} (ha : aOk a) (h1 : ∀ i, (i < 28 ∨ 43 ≤ i) → b i = a i) (hs : ∀ r, r < 4 → ∃ n, b (28 + r) = nI n ∧ n < 4) (hw : ∀ r, r < 4 → ∃ n, b (32 + r) = nI n ∧ n < 5) (hse : ∀ r, r < 4 → b (36 + r) = a (36 + r)) (hmo : ∃ n, b 40 = nI n ∧ n < 10) : aOk b := by
  have e1 : b 1 = a 1 := h1 1 (by omega)
  have eR : mR (rwS b) = mR (rwS a) := by unfold mR; rw [rw_A, rw_A, e1]
  have eS : ∀ r, r < 4 → mSt (rwS b) r = mSt (rwS a) r := fun r hr => by unfold mSt; rw [rw_A, rw_A, hse r hr]
  refine ⟨⟨⟨by rw [eR]; exact (show b 1 = _ from e1.trans ha.1.1.1), by rw [eR]; exact ha.1.1.2⟩, fun r hr => ⟨?_, ?_, ?_⟩, ?_, ?_⟩, mLw_cg (S := rwS a) (S' := rwS b) (fun i hi => h1 i hi) ha.2.1, ?_⟩
  · rw [eS r hr]
    exact ⟨(show b (36 + r) = _ from (hse r hr).trans (ha.1.2.1 r hr).1.1), (ha.1.2.1 r hr).1.2⟩
  · obtain ⟨n, e, hn⟩ := hw r hr
    have : mWm (rwS b) r = n := by unfold mWm; rw [rw_A, e, cN_nI (by omega)]
    rw [this]; exact ⟨e, hn⟩
  · obtain ⟨n, e, hn⟩ := hs r hr
    have : mSn (rwS b) r = n := by unfold mSn; rw [rw_A, e, cN_nI (by omega)]
    rw [this]; exact ⟨e, hn⟩
  · obtain ⟨n, e, hn⟩ := hmo
    have : mMo (rwS b) = n := by unfold mMo; rw [rw_A, e, cN_nI (by omega)]
    rw [this]; exact e
  · obtain ⟨n, e, hn⟩ := hmo
    have : mMo (rwS b) = n := by unfold mMo; rw [rw_A, e, cN_nI (by omega)]
    rw [this]; exact hn
  · unfold mPe
    rw [eR]
    have hR4 := ha.1.1.2
    exact ⟨fun s hs => by obtain ⟨r, hr, e⟩ := ha.2.2.1 s hs; exact ⟨r, hr, by rw [eS r (by omega)]; exact e⟩, fun r hr => by rw [eS r (by omega)]; exact ha.2.2.2 r hr⟩
theorem aOk.wa {a : Nat → Int32} (h : aOk a) : ∀ r, r < 4 → ∃ n, a (32 + r) = nI n ∧ n < 5 := fun r hr => ⟨_, (h.1.2.1 r hr).2.1⟩
theorem aOk.se {a : Nat → Int32} (h : aOk a) : ∀ r, r < 4 → ∃ n, a (28 + r) = nI n ∧ n < 4 := fun r hr => ⟨_, (h.1.2.1 r hr).2.2⟩
theorem aGo_o {a : Nat → Int32} (h : aOk a) {q i : Nat} (hi : i < 32 ∨ i = 40 ∨ 42 ≤ i) : aGo a q i = a i := by
  have := h.R.2
  unfold aGo
  rw [up1_o (by omega)]
  unfold mPut
  rw [if_neg (by omega), if_neg (by omega)]
theorem aGo_ok {a : Nat → Int32} (h : aOk a) {q : Nat} (hq : q < aR a ∨ q = 0) : aOk (aGo a q) ∧ aR (aGo a q) = aR a ∧ aE (aGo a q) = aS a (a 40) (aE a) q := by
  obtain ⟨h1, h2, h3, h4⟩ := mPut_ok (S := rwS a) (S' := rwS (aGo a q)) h.1 (c := aS a (a 40) (aE a) q) (aS_ok h h.E hq) (fun i hi => by
    show aGo a q i = _
    unfold aGo
    rw [up1_o (by omega)]; rfl)
  exact ⟨⟨h1, mLw_cg (S := rwS a) (S' := rwS (aGo a q)) (fun i hi => aGo_o h (by omega)) h.2.1, h2⟩, h3, h4⟩
