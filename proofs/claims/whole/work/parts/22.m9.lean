/-! ===== stopTo ===== -/
set_option maxRecDepth 100000 in
theorem wi_ok : ∀ u, u < 625 → ∀ r, r < 4 → ∀ x, x < 5 → (5 ^ r * (u / 5 ^ r % 5) ≤ u ∧ u - 5 ^ r * (u / 5 ^ r % 5) + 5 ^ r * x < 625) ∧ ∀ t, t < 4 → (u - 5 ^ r * (u / 5 ^ r % 5) + 5 ^ r * x) / 5 ^ t % 5 = if t = r then x else u / 5 ^ t % 5 := by decide +kernel
set_option maxRecDepth 100000 in
theorem sw_ok1 : ∀ u, u < 256 → ∀ a, a < 4 → ∀ b, b < 4 → (u / 4 ^ a % 4 < 3 ∧ 1 ≤ u / 4 ^ b % 4) → (4 ^ b ≤ u ∧ u + 4 ^ a - 4 ^ b < 256) := by decide +kernel
def swB (u a b t : Nat) : Bool := !(decide (u / 4 ^ a % 4 < 3) && decide (1 ≤ u / 4 ^ b % 4) && !(a == b)) || ((u + 4 ^ a - 4 ^ b) / 4 ^ t % 4 == (if t = a then u / 4 ^ t % 4 + 1 else if t = b then u / 4 ^ t % 4 - 1 else u / 4 ^ t % 4))
set_option maxRecDepth 100000 in
theorem sw_all : (List.range 256).all (fun u => (List.range 4).all (fun a => (List.range 4).all (fun b => (List.range 4).all (fun t => swB u a b t)))) = true := by decide +kernel
theorem sw_ok2 (u : Nat) (hu : u < 256) (a : Nat) (ha : a < 4) (b : Nat) (hb : b < 4) (t : Nat) (ht : t < 4) (h : u / 4 ^ a % 4 < 3 ∧ 1 ≤ u / 4 ^ b % 4 ∧ a ≠ b) : (u + 4 ^ a - 4 ^ b) / 4 ^ t % 4 = if t = a then u / 4 ^ t % 4 + 1 else if t = b then u / 4 ^ t % 4 - 1 else u / 4 ^ t % 4 := by
  have h1 := List.all_eq_true.mp (List.all_eq_true.mp (List.all_eq_true.mp (List.all_eq_true.mp sw_all u (List.mem_range.mpr hu)) a (List.mem_range.mpr ha)) b (List.mem_range.mpr hb)) t (List.mem_range.mpr ht)
  unfold swB at h1
  simp only [h.1, h.2.1, h.2.2, decide_true, Bool.and_self, beq_eq_false_iff_ne.mpr h.2.2, Bool.not_false, Bool.not_true, Bool.false_or, beq_iff_eq] at h1
  exact h1
theorem sw_ok (u : Nat) (hu : u < 256) (a : Nat) (ha : a < 4) (b : Nat) (hb : b < 4) (h1 : u / 4 ^ a % 4 < 3) (h2 : 1 ≤ u / 4 ^ b % 4) : (4 ^ b ≤ u ∧ u + 4 ^ a - 4 ^ b < 256) ∧ (a ≠ b → ∀ t, t < 4 → (u + 4 ^ a - 4 ^ b) / 4 ^ t % 4 = if t = a then u / 4 ^ t % 4 + 1 else if t = b then u / 4 ^ t % 4 - 1 else u / 4 ^ t % 4) := ⟨sw_ok1 u hu a ha b hb ⟨h1, h2⟩, fun h3 t ht => sw_ok2 u hu a ha b hb t ht ⟨h1, h2, h3⟩⟩
theorem mWi_ok {c r x : Nat} (hc : c < 160000) (hr : r < 4) (hx : x < 5) : mWi c r x < 160000 ∧ mWi c r x / 625 = c / 625 ∧ ∀ t, t < 4 → mWa (mWi c r x) t = if t = r then x else mWa c t := by
  have h := wi_ok (c % 625) (Nat.mod_lt _ (by decide)) r hr x hx
  have e : mWi c r x = 625 * (c / 625) + (c % 625 - 5 ^ r * (c % 625 / 5 ^ r % 5) + 5 ^ r * x) := by
    unfold mWi mWa
    have := Nat.div_add_mod c 625
    have := h.1.1
    omega
  have h2 : mWi c r x / 625 = c / 625 := by rw [e]; have := h.1.2; omega
  have h3 : mWi c r x % 625 = c % 625 - 5 ^ r * (c % 625 / 5 ^ r % 5) + 5 ^ r * x := by rw [e]; have := h.1.2; omega
  refine ⟨by rw [e]; have := h.1.2; omega, h2, fun t ht => ?_⟩
  unfold mWa
  rw [h3]
  exact h.2 t ht
theorem mSe_wi {c r x : Nat} (hc : c < 160000) (hr : r < 4) (hx : x < 5) (t : Nat) : mSe (mWi c r x) t = mSe c t := by
  unfold mSe
  rw [(mWi_ok hc hr hx).2.1]
/-- seats q - 1 and q changed -/
def mSw (n c q : Nat) : Nat := if q = 0 then c else c + 625 * 4 ^ mSit n c (q - 1) - 625 * 4 ^ mSit n c q
def spF (tw : Nat → Nat) (c : Nat) : Nat → Nat
  | 0 => c
  | k + 1 => mWi (spF tw c k) k (tw k)
/-- the stand behind a stop -/
def spS (n : Nat) (wl : Option (Nat × (Nat → Int32))) (sea cls : Nat → Int32) (mo : Int32) (c q : Nat) : Nat := spF (fun r => spT wl sea cls n mo (mSw n c q) r) (mSw n c q) n
theorem spF_lt {tw : Nat → Nat} {c : Nat} (hc : c < 160000) (ht : ∀ r, tw r < 5) : ∀ k, k ≤ 4 → spF tw c k < 160000
  | 0, _ => hc
  | k + 1, hk => (mWi_ok (spF_lt hc ht k (by omega)) (by omega) (ht k)).1
theorem mSw_ok {n c q : Nat} (hn : n ≤ 4) (hc : c < 160000) (hp : mPm n c) (hq : q < n ∨ q = 0) : mSw n c q < 160000 ∧ (q ≠ 0 → nI c + 625 * (nI (4 ^ mSit n c (q - 1)) - nI (4 ^ mSit n c q)) = nI (mSw n c q)) ∧ mSw n c q % 625 = c % 625 ∧ (q ≠ 0 → ∀ t, t < 4 → mSe (mSw n c q) t = if t = mSit n c (q - 1) then q else if t = mSit n c q then q - 1 else mSe c t) := by
  by_cases h0 : q = 0
  · subst h0
    refine ⟨hc, fun z => absurd rfl z, rfl, fun z => absurd rfl z⟩
  · have hqn : q < n := hq.resolve_right h0
    have h1 := hp (q - 1) (by omega)
    have h2 := hp q hqn
    have e1 := mSit_se h1
    have e2 := mSit_se h2
    generalize ha : mSit n c (q - 1) = a at h1 e1
    generalize hb : mSit n c q = b at h2 e2
    have hu : c / 625 < 256 := by omega
    have f1 : c / 625 / 4 ^ a % 4 = q - 1 := e1
    have f2 : c / 625 / 4 ^ b % 4 = q := e2
    have hab : a ≠ b := fun e => by rw [e] at f1; omega
    have h := sw_ok (c / 625) hu a (by omega) b (by omega) (by omega) (by omega)
    have em : mSw n c q = c + 625 * 4 ^ a - 625 * 4 ^ b := by unfold mSw; rw [if_neg h0, ha, hb]
    have hd : mSw n c q / 625 = c / 625 + 4 ^ a - 4 ^ b := by rw [em]; have := h.1.1; omega
    refine ⟨by rw [em]; have := h.1; omega, fun _ => ?_, by rw [em]; have := h.1; omega, fun _ t ht => ?_⟩
    · rw [em]
      have g : ∀ X Y Z W : Int32, W + Z = X + Y → X + (Y - Z) = W := by
        intro X Y Z W h
        rw [Int32.sub_eq_add_neg, ← Int32.add_assoc, ← h, ← Int32.sub_eq_add_neg, Int32.add_sub_cancel]
      rw [Int32.mul_sub]
      refine g _ _ _ _ ?_
      rw [show (625 : Int32) = nI 625 from rfl, pk_mul, pk_mul, nI_add, nI_add]
      congr 1
      have := h.1
      omega
    · unfold mSe
      rw [hd, h.2 hab t ht]
      split
      · rename_i e; rw [e, f1]; omega
      · split
        · rename_i e; rw [e, f2]
        · rfl
def tb_m_stopTo : List (Nat × Instr × Nat) := [(0, .iload_n 1, 1), (1, .istore 4, 2), (3, .iload_n 2, 1), (4, .ifCond .le 43, 3), (7, .aload_n 0, 1), (8, .iload_n 1, 1), (9, .iload_n 2, 1), (10, .iconst 1, 1), (11, .isub, 1), (12, .invokevirtual 245, 3), (15, .istore 5, 2), (17, .aload_n 0, 1), (18, .iload_n 1, 1), (19, .iload_n 2, 1), (20, .invokevirtual 245, 3), (23, .istore 6, 2), (25, .iload 4, 2), (27, .sipush 625, 3), (30, .iconst 1, 1), (31, .iconst 2, 1), (32, .iload 5, 2), (34, .imul, 1), (35, .ishl, 1), (36, .iconst 1, 1), (37, .iconst 2, 1), (38, .iload 6, 2), (40, .imul, 1), (41, .ishl, 1), (42, .isub, 1), (43, .imul, 1), (44, .iadd, 1), (45, .istore 4, 2), (47, .iload 4, 2), (49, .istore 5, 2), (51, .iconst 0, 1), (52, .istore 6, 2), (54, .iload 6, 2), (56, .aload_n 0, 1), (57, .getfield 13, 3), (60, .iconst 1, 1), (61, .iaload, 1), (62, .if_icmp .ge 27, 3), (65, .iload 5, 2), (67, .iload 6, 2), (69, .aload_n 0, 1), (70, .iload 4, 2), (72, .iload 6, 2), (74, .iload_n 3, 1), (75, .invokevirtual 252, 3), (78, .invokestatic 255, 3), (81, .istore 5, 2), (83, .iinc 6 1, 3), (86, .goto (-32), 3), (89, .iload 5, 2), (91, .ireturn, 1)]
theorem tk_m_stopTo : ∀ q ∈ tb_m_stopTo, decode M_m_stopTo.2.1 q.1 = .ok q.2 := by decide +kernel
theorem c_m_stopTo {G : ab_G} {S : ab_S} (hm : mSh S) (hv : mV S) (hl : mLw S) (c q : Nat) (mo : Int32) (hc : c < 160000) (hp : mPm (mR S) c) (hq : q < mR S ∨ q = 0) : ab_C G 4 M_m_stopTo [.ref 120, .int (nI c), .int (nI q), .int mo] (sw S) (fun v w' => ∃ S', w' = sw S' ∧ sEq [125, 126] S S' ∧ v = some (.int (nI (spS (mR S) (mWl S) (mSea S) (mCls S) mo c q)))) := by
  refine x_enter [some (.ref 120), some (.int (nI c)), some (.int (nI q)), some (.int mo), none, none, none] (by decide) (Nat.le_of_ble_eq_true rfl) rfl (fun v w' h => by obtain ⟨S', rfl, -, rfl⟩ := h; rfl) ?_
  have hR4 := hv.1.2
  have hsw := mSw_ok hR4 hc hp hq
  unfold spS
  generalize hth : mSw (mR S) c q = th at hsw
  generalize htw : (fun r => spT (mWl S) (mSea S) (mCls S) (mR S) mo th r) = tw
  have htl : ∀ r, tw r < 5 := fun r => by rw [← htw]; exact spT_lt _ _ _ _ _ _ _
  have loop : ∀ (m k : Nat), k + m = mR S → ∀ S1 : ab_S, sEq [125, 126] S S1 → ab_Ex G 4 M_m_stopTo 54 [some (.ref 120), some (.int (nI c)), some (.int (nI q)), some (.int mo), some (.int (nI th)), some (.int (nI (spF tw th k))), some (.int (nI k))] [] (sw S1) (fun v w' => ∃ S', w' = sw S' ∧ sEq [125, 126] S S' ∧ v = some (.int (nI (spF tw th (mR S))))) := by
    intro m
    induction m with
    | zero =>
      intro k hk S1 hE
      have hm1 := hm.eq hE
      have hv1 := (hv.eq hE (by decide)).1
      obtain ⟨eM, eS, eC, eW, hl1, eR⟩ := mMl_eq hE (by decide : 121 ∉ [125, 126])
      refine x_iload 56 6 (ab_dd tk_m_stopTo 36 rfl) rfl rfl ?_
      refine x_aload_n 57 0 (ab_dd tk_m_stopTo 37 rfl) rfl rfl rfl ?_
      refine t_getP 60 121 (ab_dd tk_m_stopTo 38 rfl) rfl F_m_13 (by decide) (Nat.lt_of_lt_of_le (by decide) hm1.1) (hm1.2.1 0 (by decide)) rfl (hm1.2.2 1 (by decide)) ?_
      refine x_iconst 61 1 (ab_dd tk_m_stopTo 39 rfl) rfl (by decide) ?_
      refine t_iald 62 1 (ab_dd tk_m_stopTo 40 rfl) rfl (by decide) (Nat.lt_of_lt_of_le (by decide) hm1.1) (hm1.2.1 1 (by decide)) (by decide) (by decide) (by decide) ?_
      refine x_icmp_ge_t 89 (ab_dd tk_m_stopTo 41 rfl) (by decide) (mR_t hv1 (by rw [eR]; omega) (by omega)) ?_
      refine x_iload 91 5 (ab_dd tk_m_stopTo 53 rfl) rfl rfl ?_
      exact x_iret (ab_dd tk_m_stopTo 54 rfl) ⟨S1, rfl, hE, by rw [show mR S = k by omega]⟩
    | succ m ih =>
      intro k hk S1 hE
      have hm1 := hm.eq hE
      have hv1 := (hv.eq hE (by decide)).1
      obtain ⟨eM, eS, eC, eW, hl1, eR⟩ := mMl_eq hE (by decide : 121 ∉ [125, 126])
      refine x_iload 56 6 (ab_dd tk_m_stopTo 36 rfl) rfl rfl ?_
      refine x_aload_n 57 0 (ab_dd tk_m_stopTo 37 rfl) rfl rfl rfl ?_
      refine t_getP 60 121 (ab_dd tk_m_stopTo 38 rfl) rfl F_m_13 (by decide) (Nat.lt_of_lt_of_le (by decide) hm1.1) (hm1.2.1 0 (by decide)) rfl (hm1.2.2 1 (by decide)) ?_
      refine x_iconst 61 1 (ab_dd tk_m_stopTo 39 rfl) rfl (by decide) ?_
      refine t_iald 62 1 (ab_dd tk_m_stopTo 40 rfl) rfl (by decide) (Nat.lt_of_lt_of_le (by decide) hm1.1) (hm1.2.1 1 (by decide)) (by decide) (by decide) (by decide) ?_
      refine x_icmp_ge_f 65 (ab_dd tk_m_stopTo 41 rfl) rfl 89 (by decide) (mR_f hv1 (by rw [eR]; omega)) ?_
      refine x_iload 67 5 (ab_dd tk_m_stopTo 42 rfl) rfl rfl ?_
      refine x_iload 69 6 (ab_dd tk_m_stopTo 43 rfl) rfl rfl ?_
      refine x_aload_n 70 0 (ab_dd tk_m_stopTo 44 rfl) rfl rfl rfl ?_
      refine x_iload 72 4 (ab_dd tk_m_stopTo 45 rfl) rfl rfl ?_
      refine x_iload 74 6 (ab_dd tk_m_stopTo 46 rfl) rfl rfl ?_
      refine x_iload_n 75 3 (ab_dd tk_m_stopTo 47 rfl) rfl rfl rfl ?_
      refine t_callV 78 M_m_warmsTo 3 3 [_, _, _] (ab_dd tk_m_stopTo 48 rfl) rfl (by decide) K_m_warmsTo V_m_warmsTo.1 V_m_warmsTo.2 L_m_252 rfl (Nat.le_of_ble_eq_true rfl) (by decide) (Nat.lt_of_lt_of_le (by decide) hm1.1) (hm1.2.1 0 (by decide)) rfl (c_m_warmsTo hm1 hv1 (hl1 hl) th k mo hsw.1 (by omega)) (fun v1 w1 h1 => ?_)
      obtain ⟨S2, rfl, hE2, rfl⟩ := h1
      rw [eW, eS, eC, eR, show spT (mWl S) (mSea S) (mCls S) (mR S) mo th k = tw k by rw [← htw]]
      refine x_callS 81 M_m_withWarmth 2 3 [_, _, _] (ab_dd tk_m_stopTo 49 rfl) rfl (by decide) K_m_withWarmth T_m_withWarmth L_m_255 rfl (Nat.le_of_ble_eq_true rfl) (c_m_withWarmth (spF tw th k) k (tw k) (spF_lt hsw.1 htl k (by omega)) (by omega) (htl k)) (fun v1 w1 h1 => ?_)
      obtain ⟨rfl, rfl⟩ := h1
      refine x_topi (fun v1 ev1 => ?_)
      refine x_istore 83 [some (.ref 120), some (.int (nI c)), some (.int (nI q)), some (.int mo), some (.int (nI th)), some (.int v1), some (.int (nI k))] 5 (ab_dd tk_m_stopTo 50 rfl) rfl (by decide) rfl ?_
      refine x_iincN 86 6 1 (fun y => [some (.ref 120), some (.int (nI c)), some (.int (nI q)), some (.int mo), some (.int (nI th)), some (.int v1), some (.int y)]) (ab_dd tk_m_stopTo 51 rfl) rfl (by decide) rfl (by decide) (fun _ => rfl) (fun v2 ev2 => ?_)
      refine x_goto 54 (ab_dd tk_m_stopTo 52 rfl) (by decide) ?_
      have hw : v2 = nI (k + 1) := by rw [ev2, nI_1]
      subst hw
      have ha : v1 = nI (spF tw th (k + 1)) := ev1
      subst ha
      exact ih (k + 1) (by omega) S2 (hE.tr hE2)
  refine x_iload_n 1 1 (ab_dd tk_m_stopTo 0 rfl) rfl rfl rfl ?_
  refine x_topi (fun v1 ev1 => ?_)
  refine x_istore 3 [some (.ref 120), some (.int (nI c)), some (.int (nI q)), some (.int mo), some (.int v1), none, none] 4 (ab_dd tk_m_stopTo 1 rfl) rfl (by decide) rfl ?_
  refine x_iload_n 4 2 (ab_dd tk_m_stopTo 2 rfl) rfl rfl rfl ?_
  refine x_if_le 7 47 (ab_dd tk_m_stopTo 3 rfl) rfl (by decide) (fun h4 => ?_) (fun h4 => ?_)
  · refine x_iload 49 4 (ab_dd tk_m_stopTo 32 rfl) rfl rfl ?_
    refine x_topi (fun v2 ev2 => ?_)
    refine x_istore 51 [some (.ref 120), some (.int (nI c)), some (.int (nI q)), some (.int mo), some (.int v1), some (.int v2), none] 5 (ab_dd tk_m_stopTo 33 rfl) rfl (by decide) rfl ?_
    refine x_iconst 52 0 (ab_dd tk_m_stopTo 34 rfl) rfl (by decide) ?_
    refine x_topi (fun v3 ev3 => ?_)
    refine x_istore 54 [some (.ref 120), some (.int (nI c)), some (.int (nI q)), some (.int mo), some (.int v1), some (.int v2), some (.int v3)] 6 (ab_dd tk_m_stopTo 35 rfl) rfl (by decide) rfl ?_
    have hq0 : q = 0 := by
      rcases Nat.eq_zero_or_pos q with z | z
      · exact z
      · exact absurd h4 (nI_nle z (by omega))
    have ht : v1 = nI th := by rw [ev1, ← hth, hq0]; rfl
    subst ht
    have ha : v2 = nI (spF tw th 0) := ev2
    subst ha
    subst ev3
    exact loop (mR S) 0 (by omega) S sEq.rf
  · have hq1 : q ≠ 0 := fun e => h4 (by rw [e]; decide)
    have hqn : q < mR S := hq.resolve_right hq1
    refine x_aload_n 8 0 (ab_dd tk_m_stopTo 4 rfl) rfl rfl rfl ?_
    refine x_iload_n 9 1 (ab_dd tk_m_stopTo 5 rfl) rfl rfl rfl ?_
    refine x_iload_n 10 2 (ab_dd tk_m_stopTo 6 rfl) rfl rfl rfl ?_
    refine x_iconst 11 1 (ab_dd tk_m_stopTo 7 rfl) rfl (by decide) ?_
    refine x_isub 12 (ab_dd tk_m_stopTo 8 rfl) rfl ?_
    rw [show (nI q - 1 : Int32) = nI (q - 1) by rw [show (1 : Int32) = nI 1 from rfl, pk_sub (by omega)]]
    refine t_callV 15 M_m_sitting 1 2 [_, _] (ab_dd tk_m_stopTo 9 rfl) rfl (by decide) K_m_sitting V_m_sitting.1 V_m_sitting.2 L_m_245 rfl (Nat.le_of_ble_eq_true rfl) (by decide) (Nat.lt_of_lt_of_le (by decide) hm.1) (hm.2.1 0 (by decide)) rfl (c_m_sitting hm hv c (q - 1) hc (by omega)) (fun v1 w1 h1 => ?_)
    obtain ⟨rfl, rfl⟩ := h1
    rw [sit_N (hp _ (by omega))]
    refine x_topi (fun v4 ev4 => ?_)
    refine x_istore 17 [some (.ref 120), some (.int (nI c)), some (.int (nI q)), some (.int mo), some (.int v1), some (.int v4), none] 5 (ab_dd tk_m_stopTo 10 rfl) rfl (by decide) rfl ?_
    subst ev4
    refine x_aload_n 18 0 (ab_dd tk_m_stopTo 11 rfl) rfl rfl rfl ?_
    refine x_iload_n 19 1 (ab_dd tk_m_stopTo 12 rfl) rfl rfl rfl ?_
    refine x_iload_n 20 2 (ab_dd tk_m_stopTo 13 rfl) rfl rfl rfl ?_
    refine t_callV 23 M_m_sitting 1 2 [_, _] (ab_dd tk_m_stopTo 14 rfl) rfl (by decide) K_m_sitting V_m_sitting.1 V_m_sitting.2 L_m_245 rfl (Nat.le_of_ble_eq_true rfl) (by decide) (Nat.lt_of_lt_of_le (by decide) hm.1) (hm.2.1 0 (by decide)) rfl (c_m_sitting hm hv c q hc (by omega)) (fun v1 w1 h1 => ?_)
    obtain ⟨rfl, rfl⟩ := h1
    rw [sit_N (hp _ (by omega))]
    refine x_topi (fun v5 ev5 => ?_)
    refine x_istore 25 [some (.ref 120), some (.int (nI c)), some (.int (nI q)), some (.int mo), some (.int v1), some (.int (nI (mSit (mR S) c (q - 1)))), some (.int v5)] 6 (ab_dd tk_m_stopTo 15 rfl) rfl (by decide) rfl ?_
    subst ev5
    refine x_iload 27 4 (ab_dd tk_m_stopTo 16 rfl) rfl rfl ?_
    refine x_sipush 30 625 (ab_dd tk_m_stopTo 17 rfl) rfl (by decide) ?_
    refine x_iconst 31 1 (ab_dd tk_m_stopTo 18 rfl) rfl (by decide) ?_
    refine x_iconst 32 2 (ab_dd tk_m_stopTo 19 rfl) rfl (by decide) ?_
    refine x_iload 34 5 (ab_dd tk_m_stopTo 20 rfl) rfl rfl ?_
    refine x_imul 35 (ab_dd tk_m_stopTo 21 rfl) rfl ?_
    refine x_ishl 36 (ab_dd tk_m_stopTo 22 rfl) rfl ?_
    refine x_iconst 37 1 (ab_dd tk_m_stopTo 23 rfl) rfl (by decide) ?_
    refine x_iconst 38 2 (ab_dd tk_m_stopTo 24 rfl) rfl (by decide) ?_
    refine x_iload 40 6 (ab_dd tk_m_stopTo 25 rfl) rfl rfl ?_
    refine x_imul 41 (ab_dd tk_m_stopTo 26 rfl) rfl ?_
    refine x_ishl 42 (ab_dd tk_m_stopTo 27 rfl) rfl ?_
    refine x_isub 43 (ab_dd tk_m_stopTo 28 rfl) rfl ?_
    refine x_imul 44 (ab_dd tk_m_stopTo 29 rfl) rfl ?_
    refine x_iadd 45 (ab_dd tk_m_stopTo 30 rfl) rfl ?_
    refine x_topi (fun v6 ev6 => ?_)
    refine x_istore 47 [some (.ref 120), some (.int (nI c)), some (.int (nI q)), some (.int mo), some (.int v6), some (.int (nI (mSit (mR S) c (q - 1)))), some (.int (nI (mSit (mR S) c q)))] 4 (ab_dd tk_m_stopTo 31 rfl) rfl (by decide) rfl ?_
    refine x_iload 49 4 (ab_dd tk_m_stopTo 32 rfl) rfl rfl ?_
    refine x_topi (fun v7 ev7 => ?_)
    refine x_istore 51 [some (.ref 120), some (.int (nI c)), some (.int (nI q)), some (.int mo), some (.int v6), some (.int v7), some (.int (nI (mSit (mR S) c q)))] 5 (ab_dd tk_m_stopTo 33 rfl) rfl (by decide) rfl ?_
    refine x_iconst 52 0 (ab_dd tk_m_stopTo 34 rfl) rfl (by decide) ?_
    refine x_topi (fun v8 ev8 => ?_)
    refine x_istore 54 [some (.ref 120), some (.int (nI c)), some (.int (nI q)), some (.int mo), some (.int v6), some (.int v7), some (.int v8)] 6 (ab_dd tk_m_stopTo 35 rfl) rfl (by decide) rfl ?_
    have ht : v6 = nI th := by
      rw [ev6, ev1, show (1 : Int32) = nI 1 from rfl, sh_N (by decide) _ (by have := hp (q - 1) (by omega); omega), sh_N (by decide) _ (by have := hp q (by omega); omega), Nat.one_mul, Nat.one_mul]
      exact hsw.2.1 (by omega)
    subst ht
    have ha : v7 = nI (spF tw th 0) := ev7
    subst ha
    subst ev8
    exact loop (mR S) 0 (by omega) S sEq.rf
