/-! ===== keeps of the reference ===== -/
section
variable {g : Nat → Nat → Option Nat} {W : Nat → Prop}
def kp (g : Nat → Nat → Option Nat) (W : Nat → Prop) : Nat → Nat → Prop
  | 0, _ => True
  | m + 1, i => ∃ d j, d < 4 ∧ g i d = some j ∧ W j ∧ kp g W m j
theorem kp_dn : ∀ m i, kp g W (m + 1) i → kp g W m i
  | 0, _, _ => trivial
  | m + 1, _, ⟨d, j, hd, e, w, h⟩ => ⟨d, j, hd, e, w, kp_dn m j h⟩
theorem kp_le {n : Nat} : ∀ k i, kp g W (n + k) i → kp g W n i
  | 0, _, h => h
  | k + 1, i, h => kp_le k i (kp_dn _ i h)
def lgst (P : Nat → Prop) (v : Int32) : Prop := (∃ m, P m ∧ ¬ P (m + 1) ∧ v = nI m) ∨ ((∀ m, P m) ∧ v = -1)
theorem lgst_one {P : Nat → Prop} (hd : ∀ m k, P (m + k) → P m) {v v' : Int32} (h : lgst P v) (h' : lgst P v') : v = v' := by
  rcases h with ⟨m, h1, h2, h3⟩ | ⟨h1, h2⟩
  · rcases h' with ⟨n, g1, g2, g3⟩ | ⟨g1, g2⟩
    · rw [h3, g3]
      congr 1
      rcases Nat.lt_trichotomy m n with z | z | z
      · exact absurd (hd (m + 1) (n - (m + 1)) (by rw [show m + 1 + (n - (m + 1)) = n by omega]; exact g1)) h2
      · exact z
      · exact absurd (hd (n + 1) (m - (n + 1)) (by rw [show n + 1 + (m - (n + 1)) = m by omega]; exact h1)) g2
    · exact absurd (g1 _) h2
  · rcases h' with ⟨n, g1, g2, g3⟩ | ⟨g1, g2⟩
    · exact absurd (h1 _) g2
    · rw [h2, g2]
/-- what a deed tells of how long all can be kept -/
def kV (g : Nat → Nat → Option Nat) (wb : Nat → Bool) (f : Nat → Nat) (i d : Nat) : Option Nat := match g i d with
  | none => none
  | some j => if wb j = true then some (if f j = gFAR then gFAR else f j + 1) else none
def kM (g : Nat → Nat → Option Nat) (wb : Nat → Bool) (f : Nat → Nat) (i : Nat) : Nat → Nat
  | 0 => 0
  | d + 1 => match kV g wb f i d with
    | none => kM g wb f i d
    | some x => if kM g wb f i d < x then x else kM g wb f i d
def uF (f : Nat → Nat) (N : Nat) : Nat := sumF (fun i => if f i = gFAR then 1 else 0) N
theorem uF_le (f : Nat → Nat) : ∀ N, uF f N ≤ N
  | 0 => Nat.le_refl _
  | N + 1 => by
    have := uF_le f N
    show sumF _ N + (if f N = gFAR then 1 else 0) ≤ N + 1
    have h2 : uF f N = sumF (fun i => if f i = gFAR then 1 else 0) N := rfl
    split <;> omega
theorem uF_up {f : Nat → Nat} {N k x : Nat} (hk : k < N) (hf : f k = gFAR) (hx : x ≠ gFAR) : uF (up1 f k x) N + 1 = uF f N := by
  have h := sumF_up (f := fun i => if f i = gFAR then 1 else 0) (k := k) (x := 0) N hk
  have h2 : uF (up1 f k x) N = sumF (up1 (fun i => if f i = gFAR then 1 else 0) k 0) N := by
    refine sumF_cg N (fun i _ => ?_)
    by_cases e : i = k
    · rw [e, up1_s, up1_s, if_neg hx]
    · rw [up1_o e, up1_o e]
  rw [h2]
  simp only [hf, if_true] at h
  exact h
def kOk (g : Nat → Nat → Option Nat) (W : Nat → Prop) (f : Nat → Nat) (N : Nat) : Prop := ∀ i, i < N → f i ≤ gFAR ∧ (f i < gFAR → kp g W (f i) i ∧ ¬ kp g W (f i + 1) i ∧ f i + uF f N ≤ N)
theorem kM_ok {wb : Nat → Bool} {f : Nat → Nat} {N : Nat} (hg : ∀ i d j, i < N → d < 4 → g i d = some j → j < N) (hw : ∀ j, wb j = true ↔ W j) (hN : N ≤ 15000) (h : kOk g W f N) {i : Nat} (hi : i < N) : ∀ d, d ≤ 4 → kM g wb f i d ≤ gFAR ∧ (∀ d' j, d' < d → g i d' = some j → W j → (f j = gFAR → kM g wb f i d = gFAR) ∧ (f j < gFAR → f j + 1 ≤ kM g wb f i d)) ∧ (kM g wb f i d = 0 ∨ ∃ d' j, d' < d ∧ g i d' = some j ∧ W j ∧ j < N ∧ ((f j = gFAR ∧ kM g wb f i d = gFAR) ∨ (f j < gFAR ∧ kM g wb f i d = f j + 1 ∧ kM g wb f i d < gFAR)))
  | 0, _ => ⟨Nat.zero_le _, fun d' j hd => absurd hd (by omega), Or.inl rfl⟩
  | d + 1, hd4 => by
    obtain ⟨h1, h2, h3⟩ := kM_ok hg hw hN h hi d (by omega)
    have hF : gFAR = 268435456 := rfl
    have keep : kV g wb f i d = none → kM g wb f i (d + 1) = kM g wb f i d := fun e => by
      show (match kV g wb f i d with | none => kM g wb f i d | some x => if kM g wb f i d < x then x else kM g wb f i d) = _
      rw [e]
    cases eg : g i d with
    | none =>
      have ek : kM g wb f i (d + 1) = kM g wb f i d := keep (by unfold kV; rw [eg])
      rw [ek]
      refine ⟨h1, fun d' j hd' e w => ?_, h3.imp id (fun ⟨d', j, z⟩ => ⟨d', j, by omega, z.2⟩)⟩
      by_cases z : d' = d
      · rw [z, eg] at e; cases e
      · exact h2 d' j (by omega) e w
    | some j0 =>
      have hj0 := hg i d j0 hi (by omega) eg
      by_cases wj : wb j0 = true
      · obtain ⟨x, hx, hx1, hx2⟩ : ∃ x, kV g wb f i d = some x ∧ (f j0 = gFAR → x = gFAR) ∧ (f j0 < gFAR → x = f j0 + 1) := ⟨_, by unfold kV; rw [eg]; exact if_pos wj, fun z => if_pos z, fun z => if_neg (by omega)⟩
        have ek : kM g wb f i (d + 1) = if kM g wb f i d < x then x else kM g wb f i d := by
          show (match kV g wb f i d with | none => kM g wb f i d | some x => if kM g wb f i d < x then x else kM g wb f i d) = _
          rw [hx]
        have hb := h j0 hj0
        have hlt : f j0 < gFAR → f j0 + 1 < gFAR := fun z => by have := (hb.2 z).2.2; omega
        have hb1 := hb.1
        have hxl : x ≤ gFAR := by
          by_cases z : f j0 = gFAR
          · rw [hx1 z]; exact Nat.le_refl _
          · have z2 : f j0 < gFAR := by omega
            rw [hx2 z2]; exact z2
        have hge : kM g wb f i d ≤ kM g wb f i (d + 1) ∧ x ≤ kM g wb f i (d + 1) := by rw [ek]; split <;> omega
        have hle : kM g wb f i (d + 1) ≤ gFAR := by rw [ek]; split <;> omega
        refine ⟨hle, fun d' j hd' e w => ?_, ?_⟩
        · by_cases z : d' = d
          · rw [z, eg] at e; cases e
            exact ⟨fun y => by have := hx1 y; omega, fun y => by have := hx2 y; omega⟩
          · obtain ⟨q1, q2⟩ := h2 d' j (by omega) e w
            exact ⟨fun y => by have := q1 y; omega, fun y => by have := q2 y; omega⟩
        · by_cases z : kM g wb f i d < x
          · rw [if_pos z] at ek
            refine Or.inr ⟨d, j0, by omega, eg, (hw j0).mp wj, hj0, ?_⟩
            by_cases y : f j0 = gFAR
            · exact Or.inl ⟨y, by rw [ek, hx1 y]⟩
            · have y2 : f j0 < gFAR := by omega
              have := hlt y2
              have := hx2 y2
              exact Or.inr ⟨y2, by omega, by omega⟩
          · rw [if_neg z] at ek
            rw [ek]
            exact h3.imp id (fun ⟨d', j, z⟩ => ⟨d', j, by omega, z.2⟩)
      · have ek : kM g wb f i (d + 1) = kM g wb f i d := keep (by unfold kV; rw [eg]; exact if_neg wj)
        rw [ek]
        refine ⟨h1, fun d' j hd' e w => ?_, h3.imp id (fun ⟨d', j, z⟩ => ⟨d', j, by omega, z.2⟩)⟩
        by_cases z : d' = d
        · rw [z, eg] at e; cases e; exact absurd ((hw _).mpr w) wj
        · exact h2 d' j (by omega) e w
theorem kOk_up {wb : Nat → Bool} {f : Nat → Nat} {N : Nat} (hg : ∀ i d j, i < N → d < 4 → g i d = some j → j < N) (hw : ∀ j, wb j = true ↔ W j) (hN : N ≤ 15000) (h : kOk g W f N) {i : Nat} (hi : i < N) (hF : f i = gFAR) (hM : kM g wb f i 4 ≠ gFAR) : kOk g W (up1 f i (kM g wb f i 4)) N := by
  obtain ⟨h1, h2, h3⟩ := kM_ok hg hw hN h hi 4 (Nat.le_refl _)
  have hu := uF_up hi hF hM
  have hul := uF_le f N
  intro k hk
  by_cases e : k = i
  · subst e
    rw [up1_s]
    refine ⟨h1, fun hlt => ⟨?_, ?_, ?_⟩⟩
    · rcases h3 with z | ⟨d', j, z1, z2, z3, z4, z5⟩
      · rw [z]; trivial
      · rcases z5 with ⟨-, z5⟩ | ⟨z5, z6, -⟩
        · exact absurd z5 hM
        · rw [z6]; exact ⟨d', j, z1, z2, z3, ((h j z4).2 z5).1⟩
    · rintro ⟨d, j, hd, ej, wj, hkp⟩
      have hj := hg k d j hk hd ej
      have hb := h j hj
      obtain ⟨q1, q2⟩ := h2 d j hd ej wj
      have hfj : f j < gFAR := by
        rcases Nat.lt_or_eq_of_le hb.1 with z | z
        · exact z
        · exact absurd (q1 z) hM
      have := q2 hfj
      exact (hb.2 hfj).2.1 (kp_le (n := f j + 1) (kM g wb f k 4 - (f j + 1)) j (by rw [show f j + 1 + (kM g wb f k 4 - (f j + 1)) = kM g wb f k 4 by omega]; exact hkp))
    · rcases h3 with z | ⟨d', j, z1, z2, z3, z4, z5⟩
      · omega
      · rcases z5 with ⟨-, z5⟩ | ⟨z5, z6, -⟩
        · exact absurd z5 hM
        · have := ((h j z4).2 z5).2.2; omega
  · rw [up1_o e]
    refine ⟨(h k hk).1, fun hlt => ?_⟩
    obtain ⟨q1, q2, q3⟩ := (h k hk).2 hlt
    exact ⟨q1, q2, by omega⟩
theorem kFix {wb : Nat → Bool} {f : Nat → Nat} {N : Nat} (hg : ∀ i d j, i < N → d < 4 → g i d = some j → j < N) (hw : ∀ j, wb j = true ↔ W j) (hN : N ≤ 15000) (h : kOk g W f N) (hs : ∀ i, i < N → f i = gFAR → kM g wb f i 4 = gFAR) : ∀ m i, i < N → f i = gFAR → kp g W m i
  | 0, _, _, _ => trivial
  | m + 1, i, hi, hF => by
    obtain ⟨h1, h2, h3⟩ := kM_ok hg hw hN h hi 4 (Nat.le_refl _)
    have hM := hs i hi hF
    have hFF : gFAR = 268435456 := rfl
    rcases h3 with z | ⟨d', j, z1, z2, z3, z4, z5⟩
    · omega
    · rcases z5 with ⟨z5, -⟩ | ⟨-, -, z5⟩
      · exact ⟨d', j, z1, z2, z3, kFix hg hw hN h hs m j z4 z5⟩
      · omega
end
section
def tb_m_keptBy : List (Nat × Instr × Nat) := [(0, .aload_n 0, 1), (1, .getfield 50, 3), (4, .iconst 4, 1), (5, .iload_n 1, 1), (6, .imul, 1), (7, .iload_n 2, 1), (8, .iadd, 1), (9, .iaload, 1), (10, .istore 4, 2), (12, .iload 4, 2), (14, .iconst (-1), 1), (15, .if_icmp .eq 18, 3), (18, .aload_n 0, 1), (19, .aload_n 0, 1), (20, .getfield 46, 3), (23, .iload 4, 2), (25, .iaload, 1), (26, .invokevirtual 288, 3), (29, .iload_n 3, 1), (30, .if_icmp .ge 7, 3), (33, .iconst (-1), 1), (34, .goto 31, 3), (37, .aload_n 0, 1), (38, .getfield 53, 3), (41, .iload 4, 2), (43, .iaload, 1), (44, .ldc_w 374, 3), (47, .if_icmp .ne 9, 3), (50, .ldc_w 374, 3), (53, .goto 12, 3), (56, .aload_n 0, 1), (57, .getfield 53, 3), (60, .iload 4, 2), (62, .iaload, 1), (63, .iconst 1, 1), (64, .iadd, 1), (65, .ireturn, 1)]
theorem tk_m_keptBy : ∀ q ∈ tb_m_keptBy, decode M_m_keptBy.2.1 q.1 = .ok q.2 := by decide +kernel
theorem c_m_keptBy {G : ab_G} {S : ab_S} {a : Nat → Int32} (hm : mSh S) (hA : mA S = a) (ha : aOk a) {N : Nat} (hgr : mGr S a N) {f : Nat → Nat} (hf : fAr S 132 f N) (hle : ∀ i, i < N → f i ≤ gFAR) (k d h : Nat) (hk : k < N) (hd : d < 4) (hh : h ≤ 4) : ab_C G 3 M_m_keptBy [.ref 120, .int (nI k), .int (nI d), .int (nI h)] (sw S) (fun v w' => v = some (.int (encN (kV (gI a N) (gWb a N h) f k d))) ∧ w' = sw S) := by
  refine x_enter [some (.ref 120), some (.int (nI k)), some (.int (nI d)), some (.int (nI h)), none] (by decide) (Nat.le_of_ble_eq_true rfl) rfl (fun v w' h => by obtain ⟨rfl, rfl⟩ := h; rfl) ?_
  have hN := hgr.2.1
  cases e : gI a N k d with
  | none =>
    have et : sI S 131 (4 * k + d) = -1 := (hgr.2.2.2.2.2 k d hk hd).trans (by rw [e]; rfl)
    refine x_aload_n 1 0 (ab_dd tk_m_keptBy 0 rfl) rfl rfl rfl ?_
    refine t_getP 4 131 (ab_dd tk_m_keptBy 1 rfl) rfl F_m_50 (by decide) (Nat.lt_of_lt_of_le (by decide) hm.1) (hm.2.1 0 (by decide)) rfl (hm.2.2 26 (by decide)) ?_
    refine x_iconst 5 4 (ab_dd tk_m_keptBy 2 rfl) rfl (by decide) (x_topn 4 rfl ?_)
    refine x_iload_n 6 1 (ab_dd tk_m_keptBy 3 rfl) rfl rfl rfl ?_
    refine x_imul 7 (ab_dd tk_m_keptBy 4 rfl) rfl (x_topn (4 * k) (pk_mul _ _) ?_)
    refine x_iload_n 8 2 (ab_dd tk_m_keptBy 5 rfl) rfl rfl rfl ?_
    refine x_iadd 9 (ab_dd tk_m_keptBy 6 rfl) rfl (x_topn ((4 * k) + d) (nI_add _ _) ?_)
    refine t_iald 10 ((4 * k) + d) (ab_dd tk_m_keptBy 7 rfl) rfl (by decide) (Nat.lt_of_lt_of_le (by decide) hm.1) (hm.2.1 11 (by decide)) rfl (by omega) (by decide) (x_topx (-1) et ?_)
    refine x_istore 12 [some (.ref 120), some (.int (nI k)), some (.int (nI d)), some (.int (nI h)), some (.int ((-1)))] 4 (ab_dd tk_m_keptBy 8 rfl) rfl (by decide) rfl ?_
    refine x_iload 14 4 (ab_dd tk_m_keptBy 9 rfl) rfl rfl ?_
    refine x_iconst 15 (-1) (ab_dd tk_m_keptBy 10 rfl) rfl (by decide) ?_
    refine x_icmp_eq_t 33 (ab_dd tk_m_keptBy 11 rfl) (by decide) rfl ?_
    refine x_iconst 34 (-1) (ab_dd tk_m_keptBy 20 rfl) rfl (by decide) ?_
    refine x_goto 65 (ab_dd tk_m_keptBy 21 rfl) (by decide) ?_
    exact x_iret (ab_dd tk_m_keptBy 36 rfl) ⟨rI (by unfold kV; rw [e]; rfl), rfl⟩
  | some j =>
    have et : sI S 131 (4 * k + d) = nI j := (hgr.2.2.2.2.2 k d hk hd).trans (by rw [e]; rfl)
    have hj := gI_lt hgr.1 hk hd e
    have hfj := hf j hj
    have hlj := hle j hj
    have hF : gFAR = 268435456 := rfl
    rw [hF] at hlj
    have hl4 := mLe_le (gC a N j) (aR a)
    refine x_aload_n 1 0 (ab_dd tk_m_keptBy 0 rfl) rfl rfl rfl ?_
    refine t_getP 4 131 (ab_dd tk_m_keptBy 1 rfl) rfl F_m_50 (by decide) (Nat.lt_of_lt_of_le (by decide) hm.1) (hm.2.1 0 (by decide)) rfl (hm.2.2 26 (by decide)) ?_
    refine x_iconst 5 4 (ab_dd tk_m_keptBy 2 rfl) rfl (by decide) (x_topn 4 rfl ?_)
    refine x_iload_n 6 1 (ab_dd tk_m_keptBy 3 rfl) rfl rfl rfl ?_
    refine x_imul 7 (ab_dd tk_m_keptBy 4 rfl) rfl (x_topn (4 * k) (pk_mul _ _) ?_)
    refine x_iload_n 8 2 (ab_dd tk_m_keptBy 5 rfl) rfl rfl rfl ?_
    refine x_iadd 9 (ab_dd tk_m_keptBy 6 rfl) rfl (x_topn ((4 * k) + d) (nI_add _ _) ?_)
    refine t_iald 10 ((4 * k) + d) (ab_dd tk_m_keptBy 7 rfl) rfl (by decide) (Nat.lt_of_lt_of_le (by decide) hm.1) (hm.2.1 11 (by decide)) rfl (by omega) (by decide) (x_topn j et ?_)
    refine x_istore 12 [some (.ref 120), some (.int (nI k)), some (.int (nI d)), some (.int (nI h)), some (.int (nI j))] 4 (ab_dd tk_m_keptBy 8 rfl) rfl (by decide) rfl ?_
    refine x_iload 14 4 (ab_dd tk_m_keptBy 9 rfl) rfl rfl ?_
    refine x_iconst 15 (-1) (ab_dd tk_m_keptBy 10 rfl) rfl (by decide) ?_
    refine x_icmp_eq_f 18 (ab_dd tk_m_keptBy 11 rfl) rfl 33 (by decide) (nI_nm1 (by omega)) ?_
    refine x_aload_n 19 0 (ab_dd tk_m_keptBy 12 rfl) rfl rfl rfl ?_
    refine x_aload_n 20 0 (ab_dd tk_m_keptBy 13 rfl) rfl rfl rfl ?_
    refine t_getP 23 130 (ab_dd tk_m_keptBy 14 rfl) rfl F_m_46 (by decide) (Nat.lt_of_lt_of_le (by decide) hm.1) (hm.2.1 0 (by decide)) rfl (hm.2.2 25 (by decide)) ?_
    refine x_iload 25 4 (ab_dd tk_m_keptBy 15 rfl) rfl rfl ?_
    refine t_iald 26 j (ab_dd tk_m_keptBy 16 rfl) rfl (by decide) (Nat.lt_of_lt_of_le (by decide) hm.1) (hm.2.1 10 (by decide)) rfl (by omega) (by decide) (x_topn (gC a N j) (hgr.2.2.2.2.1 j hj) ?_)
    refine t_callV 29 M_m_leastIn 2 1 [_] (ab_dd tk_m_keptBy 17 rfl) rfl (by decide) K_m_leastIn V_m_leastIn.1 V_m_leastIn.2 L_m_288 rfl (Nat.le_of_ble_eq_true rfl) (by decide) (Nat.lt_of_lt_of_le (by decide) hm.1) (hm.2.1 0 (by decide)) rfl (w_leastIn (by exact hm) (by exact hA) ha (gC a N j) (gC_ok ha hgr.1 (by omega)).1) (fun v1 w1 h1 => ?_)
    obtain ⟨rfl, rfl⟩ := h1
    refine x_iload_n 30 3 (ab_dd tk_m_keptBy 18 rfl) rfl rfl rfl ?_
    refine xn_icmp_ge 33 37 (ab_dd tk_m_keptBy 19 rfl) rfl (by decide) (by omega) (by omega) (fun h30 => ?_) (fun h30 => ?_)
    · refine x_aload_n 38 0 (ab_dd tk_m_keptBy 22 rfl) rfl rfl rfl ?_
      refine t_getP 41 132 (ab_dd tk_m_keptBy 23 rfl) rfl F_m_53 (by decide) (Nat.lt_of_lt_of_le (by decide) hm.1) (hm.2.1 0 (by decide)) rfl (hm.2.2 27 (by decide)) ?_
      refine x_iload 43 4 (ab_dd tk_m_keptBy 24 rfl) rfl rfl ?_
      refine t_iald 44 j (ab_dd tk_m_keptBy 25 rfl) rfl (by decide) (Nat.lt_of_lt_of_le (by decide) hm.1) (hm.2.1 12 (by decide)) rfl (by omega) (by decide) (x_topn (f j) hfj ?_)
      refine x_ldcw 47 (ab_dd tk_m_keptBy 26 rfl) rfl C_m_374 (x_topn 268435456 rfl ?_)
      refine xn_icmp_ne 50 56 (ab_dd tk_m_keptBy 27 rfl) rfl (by decide) (by omega) (by omega) (fun h47 => ?_) (fun h47 => ?_)
      · refine x_aload_n 57 0 (ab_dd tk_m_keptBy 30 rfl) rfl rfl rfl ?_
        refine t_getP 60 132 (ab_dd tk_m_keptBy 31 rfl) rfl F_m_53 (by decide) (Nat.lt_of_lt_of_le (by decide) hm.1) (hm.2.1 0 (by decide)) rfl (hm.2.2 27 (by decide)) ?_
        refine x_iload 62 4 (ab_dd tk_m_keptBy 32 rfl) rfl rfl ?_
        refine t_iald 63 j (ab_dd tk_m_keptBy 33 rfl) rfl (by decide) (Nat.lt_of_lt_of_le (by decide) hm.1) (hm.2.1 12 (by decide)) rfl (by omega) (by decide) (x_topn (f j) hfj ?_)
        refine x_iconst 64 1 (ab_dd tk_m_keptBy 34 rfl) rfl (by decide) (x_topn 1 rfl ?_)
        refine x_iadd 65 (ab_dd tk_m_keptBy 35 rfl) rfl (x_topn ((f j) + 1) (nI_add _ _) ?_)
        exact x_iret (ab_dd tk_m_keptBy 36 rfl) ⟨rI (by unfold kV; rw [e]; show _ = encN (if gWb a N h j = true then _ else _); rw [if_pos (by unfold gWb; rw [decide_eq_true_iff]; omega), hF, if_neg h47] <;> rfl), rfl⟩
      · refine x_ldcw 53 (ab_dd tk_m_keptBy 28 rfl) rfl C_m_374 (x_topn 268435456 rfl ?_)
        refine x_goto 65 (ab_dd tk_m_keptBy 29 rfl) (by decide) ?_
        exact x_iret (ab_dd tk_m_keptBy 36 rfl) ⟨rI (by unfold kV; rw [e]; show _ = encN (if gWb a N h j = true then _ else _); rw [if_pos (by unfold gWb; rw [decide_eq_true_iff]; omega), hF, if_pos h47] <;> rfl), rfl⟩
    · refine x_iconst 34 (-1) (ab_dd tk_m_keptBy 20 rfl) rfl (by decide) ?_
      refine x_goto 65 (ab_dd tk_m_keptBy 21 rfl) (by decide) ?_
      exact x_iret (ab_dd tk_m_keptBy 36 rfl) ⟨rI (by unfold kV; rw [e]; show _ = encN (if gWb a N h j = true then _ else _); rw [if_neg (by unfold gWb; rw [decide_eq_true_iff]; omega)]; rfl), rfl⟩
def tb_m_keeps : List (Nat × Instr × Nat) := [(0, .aload_n 0, 1), (1, .iconst 0, 1), (2, .putfield 1, 3), (5, .iload_n 1, 1), (6, .invokestatic 365, 3), (9, .ifCond .ne 6, 3), (12, .bipush (-3), 2), (14, .ireturn, 1), (15, .aload_n 0, 1), (16, .invokevirtual 375, 3), (19, .iconst 0, 1), (20, .istore_n 2, 1), (21, .iload_n 2, 1), (22, .aload_n 0, 1), (23, .getfield 368, 3), (26, .if_icmp .ge 18, 3), (29, .aload_n 0, 1), (30, .getfield 53, 3), (33, .iload_n 2, 1), (34, .ldc_w 374, 3), (37, .iastore, 1), (38, .iinc 2 1, 3), (41, .goto (-20), 3), (44, .iconst 1, 1), (45, .istore_n 2, 1), (46, .iload_n 2, 1), (47, .ifCond .eq 115, 3), (50, .iconst 0, 1), (51, .istore_n 2, 1), (52, .iconst 0, 1), (53, .istore_n 3, 1), (54, .iload_n 3, 1), (55, .aload_n 0, 1), (56, .getfield 368, 3), (59, .if_icmp .ge 100, 3), (62, .iconst 0, 1), (63, .istore 4, 2), (65, .iconst 0, 1), (66, .istore 5, 2), (68, .iload 5, 2), (70, .iconst 4, 1), (71, .if_icmp .ge 49, 3), (74, .aload_n 0, 1), (75, .getfield 53, 3), (78, .iload_n 3, 1), (79, .iaload, 1), (80, .ldc_w 374, 3), (83, .if_icmp .ne 37, 3), (86, .aload_n 0, 1), (87, .iload_n 3, 1), (88, .iload 5, 2), (90, .iload_n 1, 1), (91, .invokevirtual 391, 3), (94, .iload 4, 2), (96, .if_icmp .le 14, 3), (99, .aload_n 0, 1), (100, .iload_n 3, 1), (101, .iload 5, 2), (103, .iload_n 1, 1), (104, .invokevirtual 391, 3), (107, .goto 5, 3), (110, .iload 4, 2), (112, .istore 4, 2), (114, .iinc 5 1, 3), (117, .goto (-49), 3), (120, .aload_n 0, 1), (121, .getfield 53, 3), (124, .iload_n 3, 1), (125, .iaload, 1), (126, .ldc_w 374, 3), (129, .if_icmp .lt 24, 3), (132, .iload 4, 2), (134, .ldc_w 374, 3), (137, .if_icmp .ne 6, 3), (140, .goto 13, 3), (143, .aload_n 0, 1), (144, .getfield 53, 3), (147, .iload_n 3, 1), (148, .iload 4, 2), (150, .iastore, 1), (151, .iconst 1, 1), (152, .istore_n 2, 1), (153, .iinc 3 1, 3), (156, .goto (-102), 3), (159, .goto (-113), 3), (162, .aload_n 0, 1), (163, .getfield 53, 3), (166, .iconst 0, 1), (167, .iaload, 1), (168, .invokestatic 384, 3), (171, .ireturn, 1)]
theorem tk_m_keeps : ∀ q ∈ tb_m_keeps, decode M_m_keeps.2.1 q.1 = .ok q.2 := by decide +kernel
theorem c_m_keeps {G : ab_G} {S : ab_S} {a : Nat → Int32} (hm : mSh S) (hA : mA S = a) (ha : aOk a) (x : Int32) : ab_C G 7 M_m_keeps [.ref 120, .int x] (sw S) (fun v w' => ∃ v0, pQ S (some (.int v0)) v w' ∧ ((¬ (0 ≤ x ∧ x ≤ 4) ∧ v0 = -3) ∨ ((0 ≤ x ∧ x ≤ 4) ∧ ∃ N, (aL a N).length = N ∧ lgst (fun m => kp (gI a N) (gW a N (cN x)) m 0) v0))) := by
  have go : ∀ (N h : Nat), cN x = h → h ≤ 4 → (0 ≤ x ∧ x ≤ 4) → ∀ (S0 : ab_S), mSh S0 → mA S0 = a → sEq qL S S0 → fEq S S0 → mGr S0 a N → ab_Ex G 7 M_m_keeps 21 [some (.ref 120), some (.int (nI h)), some (.int (nI 0)), none, none, none] [] (sw S0) (fun v w' => ∃ v0, pQ S (some (.int v0)) v w' ∧ ((¬ (0 ≤ x ∧ x ≤ 4) ∧ v0 = -3) ∨ ((0 ≤ x ∧ x ≤ 4) ∧ ∃ N, (aL a N).length = N ∧ lgst (fun m => kp (gI a N) (gW a N (cN x)) m 0) v0))) := by
    intro N h ek hh hz S0 hm0 hA0 hE0 hF0 hgr0
    have hN := hgr0.2.1
    have hF : gFAR = 268435456 := rfl
    have hgN : ∀ i d j, i < N → d < 4 → gI a N i d = some j → j < N := fun i d j hi hd e => gI_lt hgr0.1 hi hd e
    have hw : ∀ j, (gWb a N h) j = true ↔ (gW a N h) j := fun j => by unfold gWb gW; exact decide_eq_true_iff
    have main : ∀ (u : Nat) (S1 : ab_S) (f : Nat → Nat), uF f N = u → mSh S1 → mA S1 = a → sEq qL S S1 → fEq S S1 → mGr S1 a N → fAr S1 132 f N → kOk (gI a N) (gW a N h) f N → ab_Ex G 7 M_m_keeps 50 [some (.ref 120), some (.int (nI h)), none, none, none, none] [] (sw S1) (fun v w' => ∃ v0, pQ S (some (.int v0)) v w' ∧ ((¬ (0 ≤ x ∧ x ≤ 4) ∧ v0 = -3) ∨ ((0 ≤ x ∧ x ≤ 4) ∧ ∃ N, (aL a N).length = N ∧ lgst (fun m => kp (gI a N) (gW a N (cN x)) m 0) v0))) := by
      intro u
      induction u using Nat.strongRecOn with
      | ind u ihu =>
        intro S1 f hu hm1 hA1 hE1 hF1 hgr hf hr
        have nodes : ∀ (m its : Nat), its + m = N → ∀ (S1 : ab_S) (f : Nat → Nat) (b : Nat), mSh S1 → mA S1 = a → sEq qL S S1 → fEq S S1 → mGr S1 a N → fAr S1 132 f N → kOk (gI a N) (gW a N h) f N → ((b = 1 ∧ uF f N < u) ∨ (b = 0 ∧ uF f N = u ∧ ∀ i, i < its → f i = gFAR → kM (gI a N) (gWb a N h) f i 4 = gFAR)) → ab_Ex G 7 M_m_keeps 54 [some (.ref 120), some (.int (nI h)), some (.int (nI b)), some (.int (nI its)), none, none] [] (sw S1) (fun v w' => ∃ v0, pQ S (some (.int v0)) v w' ∧ ((¬ (0 ≤ x ∧ x ≤ 4) ∧ v0 = -3) ∨ ((0 ≤ x ∧ x ≤ 4) ∧ ∃ N, (aL a N).length = N ∧ lgst (fun m => kp (gI a N) (gW a N (cN x)) m 0) v0))) := by
          intro m
          induction m with
          | zero =>
            intro its hi S1 f b hm1 hA1 hE1 hF1 hgr hf hr hb
            obtain rfl : its = N := by omega
            rcases hb with ⟨rfl, hb⟩ | ⟨rfl, hb, hst⟩
            · refine x_iload_n 55 3 (ab_dd tk_m_keeps 31 rfl) rfl rfl rfl ?_
              refine x_aload_n 56 0 (ab_dd tk_m_keeps 32 rfl) rfl rfl rfl ?_
              refine t_getI 59 (ab_dd tk_m_keeps 33 rfl) rfl F_m_368 (by decide) (Nat.lt_of_lt_of_le (by decide) hm1.1) (hm1.2.1 0 (by decide)) rfl (x_topn its hgr.2.2.2.1 ?_)
              refine x_icmp_ge_t 159 (ab_dd tk_m_keeps 34 rfl) (by decide) ((nI_leI (a := its) (b := its) (by omega) (by omega)).mpr (show its ≤ its by omega)) ?_
              refine x_goto 46 (ab_dd tk_m_keeps 84 rfl) (by decide) ?_
              refine x_iload_n 47 2 (ab_dd tk_m_keeps 25 rfl) rfl rfl rfl ?_
              refine x_if_eq_f 50 (ab_dd tk_m_keeps 26 rfl) rfl 162 (by decide) (by decide) ?_
              exact x_forget 2 (x_forget 3 (ihu (uF f its) (by omega) S1 f rfl hm1 hA1 hE1 hF1 hgr hf hr))
            · refine x_iload_n 55 3 (ab_dd tk_m_keeps 31 rfl) rfl rfl rfl ?_
              refine x_aload_n 56 0 (ab_dd tk_m_keeps 32 rfl) rfl rfl rfl ?_
              refine t_getI 59 (ab_dd tk_m_keeps 33 rfl) rfl F_m_368 (by decide) (Nat.lt_of_lt_of_le (by decide) hm1.1) (hm1.2.1 0 (by decide)) rfl (x_topn its hgr.2.2.2.1 ?_)
              refine x_icmp_ge_t 159 (ab_dd tk_m_keeps 34 rfl) (by decide) ((nI_leI (a := its) (b := its) (by omega) (by omega)).mpr (show its ≤ its by omega)) ?_
              refine x_goto 46 (ab_dd tk_m_keeps 84 rfl) (by decide) ?_
              refine x_iload_n 47 2 (ab_dd tk_m_keeps 25 rfl) rfl rfl rfl ?_
              refine x_if_eq_t 162 (ab_dd tk_m_keeps 26 rfl) (by decide) rfl ?_
              have hf0 := hr 0 hgr.2.2.1
              have hfl := hf0.1
              rw [hF] at hfl
              have hans : lgst (fun m => kp (gI a its) (gW a its (cN x)) m 0) (if f 0 = gFAR then -1 else nI (f 0)) := by
                rw [ek]
                by_cases z : f 0 = gFAR
                · rw [if_pos z]
                  exact Or.inr ⟨fun m => kFix hgN hw hN hr hst m 0 hgr.2.2.1 z, rfl⟩
                · rw [if_neg z]
                  exact Or.inl ⟨f 0, (hf0.2 (by omega)).1, (hf0.2 (by omega)).2.1, rfl⟩
              refine x_aload_n 163 0 (ab_dd tk_m_keeps 85 rfl) rfl rfl rfl ?_
              refine t_getP 166 132 (ab_dd tk_m_keeps 86 rfl) rfl F_m_53 (by decide) (Nat.lt_of_lt_of_le (by decide) hm1.1) (hm1.2.1 0 (by decide)) rfl (hm1.2.2 27 (by decide)) ?_
              refine x_iconst 167 0 (ab_dd tk_m_keeps 87 rfl) rfl (by decide) (x_topn 0 rfl ?_)
              refine t_iald 168 0 (ab_dd tk_m_keeps 88 rfl) rfl (by decide) (Nat.lt_of_lt_of_le (by decide) hm1.1) (hm1.2.1 12 (by decide)) rfl (by decide) (by decide) (x_topn (f 0) (hf 0 hgr.2.2.1) ?_)
              refine x_callS 171 M_m_toldFar 0 1 [_] (ab_dd tk_m_keeps 89 rfl) rfl (by decide) K_m_toldFar T_m_toldFar L_m_384 rfl (Nat.le_of_ble_eq_true rfl) (c_m_toldFar (f 0) (by omega)) (fun v1 w1 h1 => ?_)
              obtain ⟨rfl, rfl⟩ := h1
              exact x_iret (ab_dd tk_m_keeps 90 rfl) ⟨_, ⟨rfl, _, rfl, hm1, hA1.trans hA.symm, hE1, hF1⟩, Or.inr ⟨hz, its, hgr.1, hans⟩⟩
          | succ m ih =>
            intro its hi S1 f b hm1 hA1 hE1 hF1 hgr hf hr hb
            have hits : its < N := by omega
            have hfi := hf its hits
            have hfl := (hr its hits).1
            rw [hF] at hfl
            have deeds : f its = gFAR → ∀ (m d : Nat), d + m = 4 → ab_Ex G 7 M_m_keeps 68 [some (.ref 120), some (.int (nI h)), some (.int (nI b)), some (.int (nI its)), some (.int (nI (kM (gI a N) (gWb a N h) f its d))), some (.int (nI d))] [] (sw S1) (fun v w' => ∃ v0, pQ S (some (.int v0)) v w' ∧ ((¬ (0 ≤ x ∧ x ≤ 4) ∧ v0 = -3) ∨ ((0 ≤ x ∧ x ≤ 4) ∧ ∃ N, (aL a N).length = N ∧ lgst (fun m => kp (gI a N) (gW a N (cN x)) m 0) v0))) := by
              intro hfF m
              induction m with
              | zero =>
                intro d hd
                obtain rfl : d = 4 := by omega
                have hkm := (kM_ok hgN hw hN hr hits 4 (Nat.le_refl _)).1
                rw [hF] at hkm
                refine x_iload 70 5 (ab_dd tk_m_keeps 39 rfl) rfl rfl ?_
                refine x_iconst 71 4 (ab_dd tk_m_keeps 40 rfl) rfl (by decide) (x_topn 4 rfl ?_)
                refine x_icmp_ge_t 120 (ab_dd tk_m_keeps 41 rfl) (by decide) ((nI_leI (a := 4) (b := 4) (by omega) (by omega)).mpr (show 4 ≤ 4 by omega)) ?_
                refine x_aload_n 121 0 (ab_dd tk_m_keeps 65 rfl) rfl rfl rfl ?_
                refine t_getP 124 132 (ab_dd tk_m_keeps 66 rfl) rfl F_m_53 (by decide) (Nat.lt_of_lt_of_le (by decide) hm1.1) (hm1.2.1 0 (by decide)) rfl (hm1.2.2 27 (by decide)) ?_
                refine x_iload_n 125 3 (ab_dd tk_m_keeps 67 rfl) rfl rfl rfl ?_
                refine t_iald 126 its (ab_dd tk_m_keeps 68 rfl) rfl (by decide) (Nat.lt_of_lt_of_le (by decide) hm1.1) (hm1.2.1 12 (by decide)) rfl (by omega) (by decide) (x_topn (f its) hfi ?_)
                refine x_ldcw 129 (ab_dd tk_m_keeps 69 rfl) rfl C_m_374 (x_topn 268435456 rfl ?_)
                refine x_icmp_lt_f 132 (ab_dd tk_m_keeps 70 rfl) rfl 153 (by decide) (fun z => absurd ((nI_ltI (a := (f its)) (b := 268435456) (by omega) (by omega)).mp z) (show ¬ ((f its) < 268435456) by (rw [hfF]; decide))) ?_
                refine x_iload 134 4 (ab_dd tk_m_keeps 71 rfl) rfl rfl ?_
                refine x_ldcw 137 (ab_dd tk_m_keeps 72 rfl) rfl C_m_374 (x_topn 268435456 rfl ?_)
                refine xn_icmp_ne 140 143 (ab_dd tk_m_keeps 73 rfl) rfl (by decide) (by omega) (by omega) (fun h137 => ?_) (fun h137 => ?_)
                · refine x_aload_n 144 0 (ab_dd tk_m_keeps 75 rfl) rfl rfl rfl ?_
                  refine t_getP 147 132 (ab_dd tk_m_keeps 76 rfl) rfl F_m_53 (by decide) (Nat.lt_of_lt_of_le (by decide) hm1.1) (hm1.2.1 0 (by decide)) rfl (hm1.2.2 27 (by decide)) ?_
                  refine x_iload_n 148 3 (ab_dd tk_m_keeps 77 rfl) rfl rfl rfl ?_
                  refine x_iload 150 4 (ab_dd tk_m_keeps 78 rfl) rfl rfl ?_
                  refine t_iast 151 its (ab_dd tk_m_keeps 79 rfl) rfl (by decide) (Nat.lt_of_lt_of_le (by decide) hm1.1) (hm1.2.1 12 (by decide)) rfl (by omega) (by decide) ?_
                  refine x_iconst 152 1 (ab_dd tk_m_keeps 80 rfl) rfl (by decide) (x_topn 1 rfl ?_)
                  refine x_istore_n 153 [some (.ref 120), some (.int (nI h)), some (.int (nI 1)), some (.int (nI its)), some (.int (nI (kM (gI a N) (gWb a N h) f its 4))), some (.int (nI 4))] 2 (ab_dd tk_m_keeps 81 rfl) rfl rfl (by decide) rfl ?_
                  refine xn_iinc 156 3 (fun y => [some (.ref 120), some (.int (nI h)), some (.int (nI 1)), some (.int y), some (.int (nI (kM (gI a N) (gWb a N h) f its 4))), some (.int (nI 4))]) (its + 1) (ab_dd tk_m_keeps 82 rfl) rfl (by decide) rfl (fun _ => rfl) (iinc_p 1) ?_
                  refine x_goto 54 (ab_dd tk_m_keeps 83 rfl) (by decide) ?_
                  refine x_forget 4 (x_forget 5 (ih (its + 1) (by omega) _ (up1 f its (kM (gI a N) (gWb a N h) f its 4)) 1 hm1 hA1 (hE1.pI (by decide)) (fEq.pI hF1 (Or.inl (by decide))) hgr hf.up (kOk_up hgN hw hN hr hits hfF h137) (Or.inl ⟨rfl, ?_⟩)))
                  have := uF_up hits hfF h137
                  rcases hb with ⟨-, hb⟩ | ⟨-, hb, -⟩ <;> omega
                · refine x_goto 153 (ab_dd tk_m_keeps 74 rfl) (by decide) ?_
                  refine xn_iinc 156 3 (fun y => [some (.ref 120), some (.int (nI h)), some (.int (nI b)), some (.int y), some (.int (nI (kM (gI a N) (gWb a N h) f its 4))), some (.int (nI 4))]) (its + 1) (ab_dd tk_m_keeps 82 rfl) rfl (by decide) rfl (fun _ => rfl) (iinc_p 1) ?_
                  refine x_goto 54 (ab_dd tk_m_keeps 83 rfl) (by decide) ?_
                  refine x_forget 4 (x_forget 5 (ih (its + 1) (by omega) S1 f b hm1 hA1 hE1 hF1 hgr hf hr (hb.imp id (fun z => ⟨z.1, z.2.1, fun i hi hFi => ?_⟩))))
                  by_cases e : i = its
                  · rw [e]; exact h137
                  · exact z.2.2 i (by omega) hFi
              | succ m ihm =>
                intro d hd
                have hkm := (kM_ok hgN hw hN hr hits d (by omega)).1
                rw [hF] at hkm
                have hkb := (kM_ok hgN hw hN hr hits (d + 1) (by omega)).1
                rw [hF] at hkb
                cases e : kV (gI a N) (gWb a N h) f its d with
                | none =>
                  have hI := ihm (d + 1) (by omega)
                  rw [show kM (gI a N) (gWb a N h) f its (d + 1) = kM (gI a N) (gWb a N h) f its d from by
                    show (match kV (gI a N) (gWb a N h) f its d with | none => kM (gI a N) (gWb a N h) f its d | some x => if kM (gI a N) (gWb a N h) f its d < x then x else kM (gI a N) (gWb a N h) f its d) = _
                    rw [e]] at hI
                  refine x_iload 70 5 (ab_dd tk_m_keeps 39 rfl) rfl rfl ?_
                  refine x_iconst 71 4 (ab_dd tk_m_keeps 40 rfl) rfl (by decide) (x_topn 4 rfl ?_)
                  refine x_icmp_ge_f 74 (ab_dd tk_m_keeps 41 rfl) rfl 120 (by decide) (fun z => absurd ((nI_leI (a := 4) (b := d) (by omega) (by omega)).mp z) (show ¬ (4 ≤ d) by omega)) ?_
                  refine x_aload_n 75 0 (ab_dd tk_m_keeps 42 rfl) rfl rfl rfl ?_
                  refine t_getP 78 132 (ab_dd tk_m_keeps 43 rfl) rfl F_m_53 (by decide) (Nat.lt_of_lt_of_le (by decide) hm1.1) (hm1.2.1 0 (by decide)) rfl (hm1.2.2 27 (by decide)) ?_
                  refine x_iload_n 79 3 (ab_dd tk_m_keeps 44 rfl) rfl rfl rfl ?_
                  refine t_iald 80 its (ab_dd tk_m_keeps 45 rfl) rfl (by decide) (Nat.lt_of_lt_of_le (by decide) hm1.1) (hm1.2.1 12 (by decide)) rfl (by omega) (by decide) (x_topn (f its) hfi ?_)
                  refine x_ldcw 83 (ab_dd tk_m_keeps 46 rfl) rfl C_m_374 (x_topn 268435456 rfl ?_)
                  refine x_icmp_ne_f 86 (ab_dd tk_m_keeps 47 rfl) rfl 120 (by decide) (congrArg nI hfF) ?_
                  refine x_aload_n 87 0 (ab_dd tk_m_keeps 48 rfl) rfl rfl rfl ?_
                  refine x_iload_n 88 3 (ab_dd tk_m_keeps 49 rfl) rfl rfl rfl ?_
                  refine x_iload 90 5 (ab_dd tk_m_keeps 50 rfl) rfl rfl ?_
                  refine x_iload_n 91 1 (ab_dd tk_m_keeps 51 rfl) rfl rfl rfl ?_
                  refine t_callV 94 M_m_keptBy 3 3 [_, _, _] (ab_dd tk_m_keeps 52 rfl) rfl (by decide) K_m_keptBy V_m_keptBy.1 V_m_keptBy.2 L_m_391 rfl (Nat.le_of_ble_eq_true rfl) (by decide) (Nat.lt_of_lt_of_le (by decide) hm1.1) (hm1.2.1 0 (by decide)) rfl (c_m_keptBy (by exact hm1) (by exact hA1) ha (by exact hgr) (by exact hf) (fun i hi => (hr i hi).1) its d h hits (by omega) hh) (fun v1 w1 h1 => ?_)
                  obtain ⟨rfl, rfl⟩ := h1
                  rw [e]
                  refine x_iload 96 4 (ab_dd tk_m_keeps 53 rfl) rfl rfl ?_
                  refine x_icmp_le_t 110 (ab_dd tk_m_keeps 54 rfl) (by decide) (by have := nI_pos (n := kM (gI a N) (gWb a N h) f its d) (by omega); exact Int32.le_of_lt (Int32.lt_of_lt_of_le (by decide) (Int32.not_lt.mp this))) ?_
                  refine x_iload 112 4 (ab_dd tk_m_keeps 61 rfl) rfl rfl ?_
                  refine x_istore 114 [some (.ref 120), some (.int (nI h)), some (.int (nI b)), some (.int (nI its)), some (.int (nI (kM (gI a N) (gWb a N h) f its d))), some (.int (nI d))] 4 (ab_dd tk_m_keeps 62 rfl) rfl (by decide) rfl ?_
                  refine xn_iinc 117 5 (fun y => [some (.ref 120), some (.int (nI h)), some (.int (nI b)), some (.int (nI its)), some (.int (nI (kM (gI a N) (gWb a N h) f its d))), some (.int y)]) (d + 1) (ab_dd tk_m_keeps 63 rfl) rfl (by decide) rfl (fun _ => rfl) (iinc_p 1) ?_
                  refine x_goto 68 (ab_dd tk_m_keeps 64 rfl) (by decide) ?_
                  exact hI
                | some x =>
                  have ek2 : kM (gI a N) (gWb a N h) f its (d + 1) = if kM (gI a N) (gWb a N h) f its d < x then x else kM (gI a N) (gWb a N h) f its d := by
                    show (match kV (gI a N) (gWb a N h) f its d with | none => kM (gI a N) (gWb a N h) f its d | some x => if kM (gI a N) (gWb a N h) f its d < x then x else kM (gI a N) (gWb a N h) f its d) = _
                    rw [e]
                  have hx : x < 2 ^ 31 := by rw [ek2] at hkb; split at hkb <;> omega
                  have hI := ihm (d + 1) (by omega)
                  rw [ek2] at hI
                  refine x_iload 70 5 (ab_dd tk_m_keeps 39 rfl) rfl rfl ?_
                  refine x_iconst 71 4 (ab_dd tk_m_keeps 40 rfl) rfl (by decide) (x_topn 4 rfl ?_)
                  refine x_icmp_ge_f 74 (ab_dd tk_m_keeps 41 rfl) rfl 120 (by decide) (fun z => absurd ((nI_leI (a := 4) (b := d) (by omega) (by omega)).mp z) (show ¬ (4 ≤ d) by omega)) ?_
                  refine x_aload_n 75 0 (ab_dd tk_m_keeps 42 rfl) rfl rfl rfl ?_
                  refine t_getP 78 132 (ab_dd tk_m_keeps 43 rfl) rfl F_m_53 (by decide) (Nat.lt_of_lt_of_le (by decide) hm1.1) (hm1.2.1 0 (by decide)) rfl (hm1.2.2 27 (by decide)) ?_
                  refine x_iload_n 79 3 (ab_dd tk_m_keeps 44 rfl) rfl rfl rfl ?_
                  refine t_iald 80 its (ab_dd tk_m_keeps 45 rfl) rfl (by decide) (Nat.lt_of_lt_of_le (by decide) hm1.1) (hm1.2.1 12 (by decide)) rfl (by omega) (by decide) (x_topn (f its) hfi ?_)
                  refine x_ldcw 83 (ab_dd tk_m_keeps 46 rfl) rfl C_m_374 (x_topn 268435456 rfl ?_)
                  refine x_icmp_ne_f 86 (ab_dd tk_m_keeps 47 rfl) rfl 120 (by decide) (congrArg nI hfF) ?_
                  refine x_aload_n 87 0 (ab_dd tk_m_keeps 48 rfl) rfl rfl rfl ?_
                  refine x_iload_n 88 3 (ab_dd tk_m_keeps 49 rfl) rfl rfl rfl ?_
                  refine x_iload 90 5 (ab_dd tk_m_keeps 50 rfl) rfl rfl ?_
                  refine x_iload_n 91 1 (ab_dd tk_m_keeps 51 rfl) rfl rfl rfl ?_
                  refine t_callV 94 M_m_keptBy 3 3 [_, _, _] (ab_dd tk_m_keeps 52 rfl) rfl (by decide) K_m_keptBy V_m_keptBy.1 V_m_keptBy.2 L_m_391 rfl (Nat.le_of_ble_eq_true rfl) (by decide) (Nat.lt_of_lt_of_le (by decide) hm1.1) (hm1.2.1 0 (by decide)) rfl (c_m_keptBy (by exact hm1) (by exact hA1) ha (by exact hgr) (by exact hf) (fun i hi => (hr i hi).1) its d h hits (by omega) hh) (fun v1 w1 h1 => ?_)
                  obtain ⟨rfl, rfl⟩ := h1
                  rw [e]
                  show ab_Ex _ _ _ _ _ (.int (nI x) :: _) _ _
                  refine x_iload 96 4 (ab_dd tk_m_keeps 53 rfl) rfl rfl ?_
                  refine xn_icmp_le 99 110 (ab_dd tk_m_keeps 54 rfl) rfl (by decide) (by omega) (by omega) (fun h96 => ?_) (fun h96 => ?_)
                  · refine x_iload 112 4 (ab_dd tk_m_keeps 61 rfl) rfl rfl ?_
                    refine x_istore 114 [some (.ref 120), some (.int (nI h)), some (.int (nI b)), some (.int (nI its)), some (.int (nI (kM (gI a N) (gWb a N h) f its d))), some (.int (nI d))] 4 (ab_dd tk_m_keeps 62 rfl) rfl (by decide) rfl ?_
                    refine xn_iinc 117 5 (fun y => [some (.ref 120), some (.int (nI h)), some (.int (nI b)), some (.int (nI its)), some (.int (nI (kM (gI a N) (gWb a N h) f its d))), some (.int y)]) (d + 1) (ab_dd tk_m_keeps 63 rfl) rfl (by decide) rfl (fun _ => rfl) (iinc_p 1) ?_
                    refine x_goto 68 (ab_dd tk_m_keeps 64 rfl) (by decide) ?_
                    rw [if_neg (by omega)] at hI
                    exact hI
                  · refine x_aload_n 100 0 (ab_dd tk_m_keeps 55 rfl) rfl rfl rfl ?_
                    refine x_iload_n 101 3 (ab_dd tk_m_keeps 56 rfl) rfl rfl rfl ?_
                    refine x_iload 103 5 (ab_dd tk_m_keeps 57 rfl) rfl rfl ?_
                    refine x_iload_n 104 1 (ab_dd tk_m_keeps 58 rfl) rfl rfl rfl ?_
                    refine t_callV 107 M_m_keptBy 3 3 [_, _, _] (ab_dd tk_m_keeps 59 rfl) rfl (by decide) K_m_keptBy V_m_keptBy.1 V_m_keptBy.2 L_m_391 rfl (Nat.le_of_ble_eq_true rfl) (by decide) (Nat.lt_of_lt_of_le (by decide) hm1.1) (hm1.2.1 0 (by decide)) rfl (c_m_keptBy (by exact hm1) (by exact hA1) ha (by exact hgr) (by exact hf) (fun i hi => (hr i hi).1) its d h hits (by omega) hh) (fun v1 w1 h1 => ?_)
                    obtain ⟨rfl, rfl⟩ := h1
                    rw [e]
                    show ab_Ex _ _ _ _ _ (.int (nI x) :: _) _ _
                    refine x_goto 112 (ab_dd tk_m_keeps 60 rfl) (by decide) ?_
                    refine x_istore 114 [some (.ref 120), some (.int (nI h)), some (.int (nI b)), some (.int (nI its)), some (.int (nI x)), some (.int (nI d))] 4 (ab_dd tk_m_keeps 62 rfl) rfl (by decide) rfl ?_
                    refine xn_iinc 117 5 (fun y => [some (.ref 120), some (.int (nI h)), some (.int (nI b)), some (.int (nI its)), some (.int (nI x)), some (.int y)]) (d + 1) (ab_dd tk_m_keeps 63 rfl) rfl (by decide) rfl (fun _ => rfl) (iinc_p 1) ?_
                    refine x_goto 68 (ab_dd tk_m_keeps 64 rfl) (by decide) ?_
                    rw [if_pos h96] at hI
                    exact hI
            by_cases hfF : f its = gFAR
            · refine x_iload_n 55 3 (ab_dd tk_m_keeps 31 rfl) rfl rfl rfl ?_
              refine x_aload_n 56 0 (ab_dd tk_m_keeps 32 rfl) rfl rfl rfl ?_
              refine t_getI 59 (ab_dd tk_m_keeps 33 rfl) rfl F_m_368 (by decide) (Nat.lt_of_lt_of_le (by decide) hm1.1) (hm1.2.1 0 (by decide)) rfl (x_topn N hgr.2.2.2.1 ?_)
              refine x_icmp_ge_f 62 (ab_dd tk_m_keeps 34 rfl) rfl 159 (by decide) (fun z => absurd ((nI_leI (a := N) (b := its) (by omega) (by omega)).mp z) (show ¬ (N ≤ its) by omega)) ?_
              refine x_iconst 63 0 (ab_dd tk_m_keeps 35 rfl) rfl (by decide) (x_topn 0 rfl ?_)
              refine x_istore 65 [some (.ref 120), some (.int (nI h)), some (.int (nI b)), some (.int (nI its)), some (.int (nI 0)), none] 4 (ab_dd tk_m_keeps 36 rfl) rfl (by decide) rfl ?_
              refine x_iconst 66 0 (ab_dd tk_m_keeps 37 rfl) rfl (by decide) (x_topn 0 rfl ?_)
              refine x_istore 68 [some (.ref 120), some (.int (nI h)), some (.int (nI b)), some (.int (nI its)), some (.int (nI 0)), some (.int (nI 0))] 5 (ab_dd tk_m_keeps 38 rfl) rfl (by decide) rfl ?_
              exact deeds hfF 4 0 rfl
            · refine x_iload_n 55 3 (ab_dd tk_m_keeps 31 rfl) rfl rfl rfl ?_
              refine x_aload_n 56 0 (ab_dd tk_m_keeps 32 rfl) rfl rfl rfl ?_
              refine t_getI 59 (ab_dd tk_m_keeps 33 rfl) rfl F_m_368 (by decide) (Nat.lt_of_lt_of_le (by decide) hm1.1) (hm1.2.1 0 (by decide)) rfl (x_topn N hgr.2.2.2.1 ?_)
              refine x_icmp_ge_f 62 (ab_dd tk_m_keeps 34 rfl) rfl 159 (by decide) (fun z => absurd ((nI_leI (a := N) (b := its) (by omega) (by omega)).mp z) (show ¬ (N ≤ its) by omega)) ?_
              refine x_iconst 63 0 (ab_dd tk_m_keeps 35 rfl) rfl (by decide) (x_topn 0 rfl ?_)
              refine x_istore 65 [some (.ref 120), some (.int (nI h)), some (.int (nI b)), some (.int (nI its)), some (.int (nI 0)), none] 4 (ab_dd tk_m_keeps 36 rfl) rfl (by decide) rfl ?_
              refine x_iconst 66 0 (ab_dd tk_m_keeps 37 rfl) rfl (by decide) (x_topn 0 rfl ?_)
              refine x_istore 68 [some (.ref 120), some (.int (nI h)), some (.int (nI b)), some (.int (nI its)), some (.int (nI 0)), some (.int (nI 0))] 5 (ab_dd tk_m_keeps 38 rfl) rfl (by decide) rfl ?_
              refine x_iload 70 5 (ab_dd tk_m_keeps 39 rfl) rfl rfl ?_
              refine x_iconst 71 4 (ab_dd tk_m_keeps 40 rfl) rfl (by decide) (x_topn 4 rfl ?_)
              refine x_icmp_ge_f 74 (ab_dd tk_m_keeps 41 rfl) rfl 120 (by decide) (fun z => absurd ((nI_leI (a := 4) (b := 0) (by omega) (by omega)).mp z) (show ¬ (4 ≤ 0) by omega)) ?_
              refine x_aload_n 75 0 (ab_dd tk_m_keeps 42 rfl) rfl rfl rfl ?_
              refine t_getP 78 132 (ab_dd tk_m_keeps 43 rfl) rfl F_m_53 (by decide) (Nat.lt_of_lt_of_le (by decide) hm1.1) (hm1.2.1 0 (by decide)) rfl (hm1.2.2 27 (by decide)) ?_
              refine x_iload_n 79 3 (ab_dd tk_m_keeps 44 rfl) rfl rfl rfl ?_
              refine t_iald 80 its (ab_dd tk_m_keeps 45 rfl) rfl (by decide) (Nat.lt_of_lt_of_le (by decide) hm1.1) (hm1.2.1 12 (by decide)) rfl (by omega) (by decide) (x_topn (f its) hfi ?_)
              refine x_ldcw 83 (ab_dd tk_m_keeps 46 rfl) rfl C_m_374 (x_topn 268435456 rfl ?_)
              refine x_icmp_ne_t 120 (ab_dd tk_m_keeps 47 rfl) (by decide) (fun z => absurd ((nI_eq (a := (f its)) (b := 268435456) (by omega) (by omega)).mp z) (show ¬ ((f its) = 268435456) by omega)) ?_
              refine x_aload_n 121 0 (ab_dd tk_m_keeps 65 rfl) rfl rfl rfl ?_
              refine t_getP 124 132 (ab_dd tk_m_keeps 66 rfl) rfl F_m_53 (by decide) (Nat.lt_of_lt_of_le (by decide) hm1.1) (hm1.2.1 0 (by decide)) rfl (hm1.2.2 27 (by decide)) ?_
              refine x_iload_n 125 3 (ab_dd tk_m_keeps 67 rfl) rfl rfl rfl ?_
              refine t_iald 126 its (ab_dd tk_m_keeps 68 rfl) rfl (by decide) (Nat.lt_of_lt_of_le (by decide) hm1.1) (hm1.2.1 12 (by decide)) rfl (by omega) (by decide) (x_topn (f its) hfi ?_)
              refine x_ldcw 129 (ab_dd tk_m_keeps 69 rfl) rfl C_m_374 (x_topn 268435456 rfl ?_)
              refine x_icmp_lt_t 153 (ab_dd tk_m_keeps 70 rfl) (by decide) ((nI_ltI (a := (f its)) (b := 268435456) (by omega) (by omega)).mpr (show (f its) < 268435456 by omega)) ?_
              refine xn_iinc 156 3 (fun y => [some (.ref 120), some (.int (nI h)), some (.int (nI b)), some (.int y), some (.int (nI 0)), some (.int (nI 0))]) (its + 1) (ab_dd tk_m_keeps 82 rfl) rfl (by decide) rfl (fun _ => rfl) (iinc_p 1) ?_
              refine x_goto 54 (ab_dd tk_m_keeps 83 rfl) (by decide) ?_
              refine x_forget 4 (x_forget 5 (ih (its + 1) (by omega) S1 f b hm1 hA1 hE1 hF1 hgr hf hr (hb.imp id (fun z => ⟨z.1, z.2.1, fun i hi hFi => ?_⟩))))
              by_cases e : i = its
              · rw [e] at hFi; exact absurd hFi hfF
              · exact z.2.2 i (by omega) hFi
        refine x_iconst 51 0 (ab_dd tk_m_keeps 27 rfl) rfl (by decide) (x_topn 0 rfl ?_)
        refine x_istore_n 52 [some (.ref 120), some (.int (nI h)), some (.int (nI 0)), none, none, none] 2 (ab_dd tk_m_keeps 28 rfl) rfl rfl (by decide) rfl ?_
        refine x_iconst 53 0 (ab_dd tk_m_keeps 29 rfl) rfl (by decide) (x_topn 0 rfl ?_)
        refine x_istore_n 54 [some (.ref 120), some (.int (nI h)), some (.int (nI 0)), some (.int (nI 0)), none, none] 3 (ab_dd tk_m_keeps 30 rfl) rfl rfl (by decide) rfl ?_
        exact nodes N 0 (by omega) S1 f 0 hm1 hA1 hE1 hF1 hgr hf hr (Or.inr ⟨rfl, hu, fun i hi => absurd hi (by omega)⟩)
    have loop : ∀ (m k : Nat), k + m = N → ∀ S1 : ab_S, sEq [132] S0 S1 → (∀ i, sI S1 132 i = if 0 ≤ i ∧ i < 0 + k then (fun _ => nI gFAR) (i - 0) else sI S0 132 i) → ab_Ex G 7 M_m_keeps 21 [some (.ref 120), some (.int (nI h)), some (.int (nI k)), none, none, none] [] (sw S1) (fun v w' => ∃ v0, pQ S (some (.int v0)) v w' ∧ ((¬ (0 ≤ x ∧ x ≤ 4) ∧ v0 = -3) ∨ ((0 ≤ x ∧ x ≤ 4) ∧ ∃ N, (aL a N).length = N ∧ lgst (fun m => kp (gI a N) (gW a N (cN x)) m 0) v0))) := by
      intro m
      induction m with
      | zero =>
        intro k hk S1 hE hV
        have hm1 := hm0.eq hE
        have hkN : k = N := by omega
        rw [hkN] at hV ⊢
        have hA1 : mA S1 = a := (hE.2.2.1 121 (by decide)).trans hA0
        have hgr1 := hgr0.eq hE (by decide) (by decide) (by decide)
        refine x_iload_n 22 2 (ab_dd tk_m_keeps 12 rfl) rfl rfl rfl ?_
        refine x_aload_n 23 0 (ab_dd tk_m_keeps 13 rfl) rfl rfl rfl ?_
        refine t_getI 26 (ab_dd tk_m_keeps 14 rfl) rfl F_m_368 (by decide) (Nat.lt_of_lt_of_le (by decide) hm1.1) (hm1.2.1 0 (by decide)) rfl (x_topn N hgr1.2.2.2.1 ?_)
        refine x_icmp_ge_t 44 (ab_dd tk_m_keeps 15 rfl) (by decide) ((nI_leI (a := N) (b := N) (by omega) (by omega)).mpr (show N ≤ N by omega)) ?_
        refine x_iconst 45 1 (ab_dd tk_m_keeps 23 rfl) rfl (by decide) (x_topn 1 rfl ?_)
        refine x_istore_n 46 [some (.ref 120), some (.int (nI h)), some (.int (nI 1)), none, none, none] 2 (ab_dd tk_m_keeps 24 rfl) rfl rfl (by decide) rfl ?_
        refine x_iload_n 47 2 (ab_dd tk_m_keeps 25 rfl) rfl rfl rfl ?_
        refine x_if_eq_f 50 (ab_dd tk_m_keeps 26 rfl) rfl 162 (by decide) (by decide) ?_
        exact x_forget 2 (main (uF (fun _ => gFAR) N) S1 (fun _ => gFAR) rfl hm1 hA1 (hE0.tr (hE.mono (by decide))) (hF0.tr hE (by decide)) hgr1 (fun i hi => by rw [hV i, if_pos ⟨by omega, by omega⟩]) (fun i hi => ⟨Nat.le_refl _, fun z => absurd z (Nat.lt_irrefl _)⟩))
      | succ m ih =>
        intro k hk S1 hE hV
        have hm1 := hm0.eq hE
        have hA1 : mA S1 = a := (hE.2.2.1 121 (by decide)).trans hA0
        have hgr1 := hgr0.eq hE (by decide) (by decide) (by decide)
        refine x_iload_n 22 2 (ab_dd tk_m_keeps 12 rfl) rfl rfl rfl ?_
        refine x_aload_n 23 0 (ab_dd tk_m_keeps 13 rfl) rfl rfl rfl ?_
        refine t_getI 26 (ab_dd tk_m_keeps 14 rfl) rfl F_m_368 (by decide) (Nat.lt_of_lt_of_le (by decide) hm1.1) (hm1.2.1 0 (by decide)) rfl (x_topn N hgr1.2.2.2.1 ?_)
        refine x_icmp_ge_f 29 (ab_dd tk_m_keeps 15 rfl) rfl 44 (by decide) (fun z => absurd ((nI_leI (a := N) (b := k) (by omega) (by omega)).mp z) (show ¬ (N ≤ k) by omega)) ?_
        refine x_aload_n 30 0 (ab_dd tk_m_keeps 16 rfl) rfl rfl rfl ?_
        refine t_getP 33 132 (ab_dd tk_m_keeps 17 rfl) rfl F_m_53 (by decide) (Nat.lt_of_lt_of_le (by decide) hm1.1) (hm1.2.1 0 (by decide)) rfl (hm1.2.2 27 (by decide)) ?_
        refine x_iload_n 34 2 (ab_dd tk_m_keeps 18 rfl) rfl rfl rfl ?_
        refine x_ldcw 37 (ab_dd tk_m_keeps 19 rfl) rfl C_m_374 (x_topn 268435456 rfl ?_)
        refine t_iast 38 k (ab_dd tk_m_keeps 20 rfl) rfl (by decide) (Nat.lt_of_lt_of_le (by decide) hm1.1) (hm1.2.1 12 (by decide)) rfl (by omega) (by decide) ?_
        refine xn_iinc 41 2 (fun y => [some (.ref 120), some (.int (nI h)), some (.int y), none, none, none]) (k + 1) (ab_dd tk_m_keeps 21 rfl) rfl (by decide) rfl (fun _ => rfl) (iinc_p 1) ?_
        refine x_goto 21 (ab_dd tk_m_keeps 22 rfl) (by decide) ?_
        refine ih (k + 1) (by omega) _ ?_ ?_
        · exact hE.pI (by decide)
        · intro i
          show up2 (sI S1) 132 (k) _ 132 i = _
          by_cases hi : i = k
          · rw [hi, up2_s, if_pos ⟨by omega, by omega⟩, show k - 0 = k by omega]
            rfl
          · rw [up2_k hi, hV i]
            by_cases h1 : 0 ≤ i ∧ i < 0 + k
            · rw [if_pos h1, if_pos ⟨h1.1, by omega⟩]
            · rw [if_neg h1, if_neg (fun z => h1 ⟨z.1, by omega⟩)]
    exact loop N 0 (by omega) S0 sEq.rf (fun j => by rw [if_neg (by omega)])
  refine x_enter [some (.ref 120), some (.int x), none, none, none, none] (by decide) (Nat.le_of_ble_eq_true rfl) rfl (fun v w' h => by obtain ⟨v0, ⟨rfl, -⟩, -⟩ := h; rfl) ?_
  refine x_aload_n 1 0 (ab_dd tk_m_keeps 0 rfl) rfl rfl rfl ?_
  refine x_iconst 2 0 (ab_dd tk_m_keeps 1 rfl) rfl (by decide) (x_topn 0 rfl ?_)
  refine t_putI 5 (ab_dd tk_m_keeps 2 rfl) rfl F_m_1 (by decide) (Nat.lt_of_lt_of_le (by decide) hm.1) (hm.2.1 0 (by decide)) rfl rfl rfl ?_
  refine x_iload_n 6 1 (ab_dd tk_m_keeps 3 rfl) rfl rfl rfl ?_
  refine x_callS 9 M_m_isWarm 1 1 [_] (ab_dd tk_m_keeps 4 rfl) rfl (by decide) K_m_isWarm T_m_isWarm L_m_365 rfl (Nat.le_of_ble_eq_true rfl) (c_m_isWarm _) (fun v1 w1 h1 => ?_)
  obtain ⟨rfl, rfl⟩ := h1
  refine xb_if_ne 12 15 (ab_dd tk_m_keeps 5 rfl) rfl (by decide) (fun h9 => ?_) (fun h9 => ?_)
  · obtain ⟨h, hh, ekh, ek⟩ := in_get (n := 4) (by decide) h9
    rw [show some (Value.int x) = some (Value.int (nI h)) by rw [ekh]]
    refine x_aload_n 16 0 (ab_dd tk_m_keeps 8 rfl) rfl rfl rfl ?_
    refine t_callV 19 M_m_laysStands 5 0 [] (ab_dd tk_m_keeps 9 rfl) rfl (by decide) K_m_laysStands V_m_laysStands.1 V_m_laysStands.2 L_m_375 rfl (Nat.le_of_ble_eq_true rfl) (by decide) (Nat.lt_of_lt_of_le (by decide) hm.1) (hm.2.1 0 (by decide)) rfl (c_m_laysStands (by exact hm) (by exact hA) ha) (fun v1 w1 h1 => ?_)
    obtain ⟨rfl, U1, N, rfl, um1, uA1, uE1, uF1, hbf⟩ := h1
    have hgr := hbf.gr
    refine x_iconst 20 0 (ab_dd tk_m_keeps 10 rfl) rfl (by decide) (x_topn 0 rfl ?_)
    refine x_istore_n 21 [some (.ref 120), some (.int (nI h)), some (.int (nI 0)), none, none, none] 2 (ab_dd tk_m_keeps 11 rfl) rfl rfl (by decide) rfl ?_
    exact go N h ek hh h9 _ um1 uA1 (((sEq.rf (l := qL)).pI (by decide)).tr (uE1.mono (by decide))) (fEq.t2 uF1 (by exact (fEq.pI (fEq.rf (S := S)) (Or.inr (by decide))))) hgr
  · refine x_bipush 14 (-3) (ab_dd tk_m_keeps 6 rfl) rfl (by decide) ?_
    exact x_iret (ab_dd tk_m_keeps 7 rfl) ⟨-3, ⟨rfl, _, rfl, hm, hA.trans hA.symm, ((sEq.rf (l := qL)).pI (by decide)), (fEq.pI (fEq.rf (S := S)) (Or.inr (by decide)))⟩, Or.inl ⟨h9, rfl⟩⟩
end
