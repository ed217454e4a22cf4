/-! ===== forces and best of the reference ===== -/
section
variable {g : Nat → Nat → Option Nat} {W : Nat → Prop}
/-- within n stops the first one forces it; true: it is its turn -/
def fw (g : Nat → Nat → Option Nat) (W : Nat → Prop) : Nat → Bool → Nat → Prop
  | 0, _, i => W i
  | n + 1, true, i => W i ∨ ∃ d j, d < 4 ∧ g i d = some j ∧ fw g W n false j
  | n + 1, false, i => W i ∨ ∀ d j, d < 4 → g i d = some j → fw g W n true j
theorem fw_W : ∀ n b i, W i → fw g W n b i
  | 0, _, _, h => h
  | _ + 1, true, _, h => Or.inl h
  | _ + 1, false, _, h => Or.inl h
theorem fw_s : ∀ n b i, fw g W n b i → fw g W (n + 1) b i
  | 0, b, i, h => fw_W _ b i h
  | n + 1, true, _, h => h.imp id (fun ⟨d, j, hd, e, z⟩ => ⟨d, j, hd, e, fw_s n false j z⟩)
  | n + 1, false, _, h => h.imp id (fun z d j hd e => fw_s n true j (z d j hd e))
theorem fw_le {b : Bool} {i n : Nat} : ∀ k, fw g W n b i → fw g W (n + k) b i
  | 0, h => h
  | k + 1, h => fw_s _ b i (fw_le k h)
theorem fw_mono {b : Bool} {i n m : Nat} (h : n ≤ m) (z : fw g W n b i) : fw g W m b i := by
  have := fw_le (m - n) z
  rw [show n + (m - n) = m by omega] at this
  exact this
def oA (g : Nat → Nat → Option Nat) (f : Nat → Nat) (i : Nat) : Nat → Nat → Nat → Nat
  | 0, _, x => x
  | m + 1, d, x => match g i d with
    | none => oA g f i m (d + 1) x
    | some j => if f j = gFAR then gFAR else oA g f i m (d + 1) (if x < f j + 1 then f j + 1 else x)
theorem oA_none {f : Nat → Nat} {i m d x : Nat} (h : g i d = none) : oA g f i (m + 1) d x = oA g f i m (d + 1) x := by
  show (match g i d with | none => _ | some j => _) = _
  rw [h]
theorem oA_some {f : Nat → Nat} {i m d x j : Nat} (h : g i d = some j) : oA g f i (m + 1) d x = if f j = gFAR then gFAR else oA g f i m (d + 1) (if x < f j + 1 then f j + 1 else x) := by
  show (match g i d with | none => _ | some j => _) = _
  rw [h]
theorem oA_ok {f : Nat → Nat} {N i : Nat} (hg : ∀ i d j, i < N → d < 4 → g i d = some j → j < N) (hf : ∀ i, i < N → f i ≤ gFAR) (hi : i < N) : ∀ m d x, d + m = 4 → x ≤ gFAR → oA g f i m d x ≤ gFAR ∧ (oA g f i m d x < gFAR → x ≤ oA g f i m d x ∧ ∀ d' j, d ≤ d' → d' < 4 → g i d' = some j → f j < gFAR ∧ f j + 1 ≤ oA g f i m d x) ∧ (∀ n, x ≤ n + 1 → (∀ d' j, d ≤ d' → d' < 4 → g i d' = some j → f j ≤ n) → n < gFAR → oA g f i m d x ≤ n + 1)
  | 0, d, x, hd, hx => ⟨hx, fun _ => ⟨Nat.le_refl _, fun d' j h1 h2 => absurd h1 (by omega)⟩, fun n h _ _ => h⟩
  | m + 1, d, x, hd, hx => by
    cases e : g i d with
    | none =>
      rw [oA_none e]
      obtain ⟨h1, h2, h3⟩ := oA_ok hg hf hi m (d + 1) x (by omega) hx
      refine ⟨h1, fun z => ⟨(h2 z).1, fun d' j g1 g2 g3 => ?_⟩, fun n g1 g2 g3 => h3 n g1 (fun d' j g4 => g2 d' j (by omega)) g3⟩
      by_cases y : d' = d
      · rw [y, e] at g3; cases g3
      · exact (h2 z).2 d' j (by omega) g2 g3
    | some j0 =>
      rw [oA_some e]
      have hj := hf j0 (hg i d j0 hi (by omega) e)
      by_cases y : f j0 = gFAR
      · rw [if_pos y]
        exact ⟨Nat.le_refl _, fun z => absurd z (Nat.lt_irrefl _), fun n _ g2 g3 => by have := g2 d j0 (Nat.le_refl _) (by omega) e; omega⟩
      · rw [if_neg y]
        obtain ⟨h1, h2, h3⟩ := oA_ok hg hf hi m (d + 1) (if x < f j0 + 1 then f j0 + 1 else x) (by omega) (by split <;> omega)
        refine ⟨h1, fun z => ?_, fun n g1 g2 g3 => h3 n (by have := g2 d j0 (Nat.le_refl _) (by omega) e; split <;> omega) (fun d' j g4 => g2 d' j (by omega)) g3⟩
        obtain ⟨z1, z2⟩ := h2 z
        have z3 : x ≤ (if x < f j0 + 1 then f j0 + 1 else x) ∧ f j0 + 1 ≤ (if x < f j0 + 1 then f j0 + 1 else x) := by split <;> omega
        refine ⟨by omega, fun d' j g1 g2 g3 => ?_⟩
        by_cases w : d' = d
        · rw [w, e] at g3; cases g3; exact ⟨by omega, by omega⟩
        · exact z2 d' j (by omega) g2 g3
def fI (g : Nat → Nat → Option Nat) (W : Nat → Prop) (f h : Nat → Nat) (N : Nat) : Prop := ∀ i, i < N → f i ≤ gFAR ∧ h i ≤ gFAR ∧ (W i → f i = 0 ∧ h i = 0) ∧ (f i < gFAR → fw g W (f i) true i) ∧ (h i < gFAR → fw g W (h i) false i)
def fSt (g : Nat → Nat → Option Nat) (f h : Nat → Nat) (i : Nat) : Prop := (f i = 0 ∨ ∀ d, d < 4 → f i ≤ fB g h i d) ∧ (h i = 0 ∨ h i ≤ oA g f i 4 0 0)
theorem fB_le2 {h : Nat → Nat} {N i d : Nat} (hg : ∀ i d j, i < N → d < 4 → g i d = some j → j < N) (hh : ∀ i, i < N → h i ≤ gFAR) (hi : i < N) (hd : d < 4) : fB g h i d ≤ gFAR := by
  cases e : g i d with
  | none => rw [fB_none e]; exact Nat.le_refl _
  | some j =>
    rw [fB_some e]
    have := hh j (hg i d j hi hd e)
    split <;> omega
theorem fI_f {f h : Nat → Nat} {N i d : Nat} (hg : ∀ i d j, i < N → d < 4 → g i d = some j → j < N) (H : fI g W f h N) (hi : i < N) (hd : d < 4) (h0 : 0 < f i) : fI g W (up1 f i (fB g h i d)) h N := by
  intro k hk
  obtain ⟨h1, h2, h3, h4, h5⟩ := H k hk
  by_cases e : k = i
  · subst e
    rw [up1_s]
    refine ⟨fB_le2 hg (fun i hi => (H i hi).2.1) hi hd, h2, fun w => absurd (h3 w).1 (by omega), fun z => ?_, h5⟩
    cases eg : g k d with
    | none => rw [fB_none eg] at z; exact absurd z (Nat.lt_irrefl _)
    | some j =>
      rw [fB_some eg] at z ⊢
      by_cases y : h j = gFAR
      · rw [if_pos y] at z; exact absurd z (Nat.lt_irrefl _)
      · rw [if_neg y] at z ⊢
        exact Or.inr ⟨d, j, hd, eg, (H j (hg k d j hk hd eg)).2.2.2.2 (by omega)⟩
  · rw [up1_o e]; exact ⟨h1, h2, h3, h4, h5⟩
theorem fI_h {f h : Nat → Nat} {N i : Nat} (hg : ∀ i d j, i < N → d < 4 → g i d = some j → j < N) (hg0 : ∀ i, i < N → ∃ j, g i 0 = some j) (H : fI g W f h N) (hi : i < N) (h0 : 0 < h i) : fI g W f (up1 h i (oA g f i 4 0 0)) N := by
  intro k hk
  obtain ⟨h1, h2, h3, h4, h5⟩ := H k hk
  by_cases e : k = i
  · subst e
    rw [up1_s]
    obtain ⟨o1, o2, -⟩ := oA_ok hg (fun i hi => (H i hi).1) hi 4 0 0 rfl (Nat.zero_le _)
    refine ⟨h1, o1, fun w => absurd (h3 w).2 (by omega), h4, fun z => ?_⟩
    obtain ⟨-, o3⟩ := o2 z
    obtain ⟨j0, e0⟩ := hg0 k hk
    have := (o3 0 j0 (Nat.le_refl _) (by decide) e0).2
    obtain ⟨n, en⟩ : ∃ n, oA g f k 4 0 0 = n + 1 := ⟨oA g f k 4 0 0 - 1, by omega⟩
    rw [en]
    refine Or.inr (fun d j hd ej => ?_)
    obtain ⟨q1, q2⟩ := o3 d j (Nat.zero_le _) hd ej
    exact fw_mono (by omega) ((H j (hg k d j hk hd ej)).2.2.2.1 q1)
  · rw [up1_o e]; exact ⟨h1, h2, h3, h4, h5⟩
theorem fI_fix {f h : Nat → Nat} {N : Nat} (hg : ∀ i d j, i < N → d < 4 → g i d = some j → j < N) (H : fI g W f h N) (hs : ∀ i, i < N → fSt g f h i) : ∀ n b i, i < N → n < gFAR → fw g W n b i → (if b = true then f i else h i) ≤ n
  | 0, true, i, hi, _, z => by rw [if_pos rfl, ((H i hi).2.2.1 z).1]; exact Nat.le_refl _
  | 0, false, i, hi, _, z => by rw [if_neg (by decide), ((H i hi).2.2.1 z).2]; exact Nat.le_refl _
  | n + 1, true, i, hi, hn, z => by
    rw [if_pos rfl]
    rcases z with z | ⟨d, j, hd, e, z⟩
    · rw [((H i hi).2.2.1 z).1]; exact Nat.zero_le _
    · rcases (hs i hi).1 with y | y
      · omega
      · have h1 := fI_fix hg H hs n false j (hg i d j hi hd e) (by omega) z
        rw [if_neg (by decide)] at h1
        have h2 := y d hd
        rw [fB_some e, if_neg (by omega)] at h2
        omega
  | n + 1, false, i, hi, hn, z => by
    rw [if_neg (by decide)]
    rcases z with z | z
    · rw [((H i hi).2.2.1 z).2]; exact Nat.zero_le _
    · rcases (hs i hi).2 with y | y
      · omega
      · have := (oA_ok hg (fun i hi => (H i hi).1) hi 4 0 0 rfl (Nat.zero_le _)).2.2 n (Nat.zero_le _) (fun d' j _ hd' e => by
          have h1 := fI_fix hg H hs n true j (hg i d' j hi hd' e) (by omega) (z d' j hd' e)
          rw [if_pos rfl] at h1
          exact h1) (by omega)
        omega
def mnB (g : Nat → Nat → Option Nat) (h : Nat → Nat) (i : Nat) : Nat → Nat
  | 0 => gFAR
  | d + 1 => if fB g h i d < mnB g h i d then fB g h i d else mnB g h i d
theorem mnB_ok {h : Nat → Nat} {i : Nat} : ∀ n, (∀ d, d < n → mnB g h i n ≤ fB g h i d) ∧ (mnB g h i n = gFAR ∨ ∃ d, d < n ∧ mnB g h i n = fB g h i d) ∧ mnB g h i n ≤ gFAR
  | 0 => ⟨fun d hd => absurd hd (by omega), Or.inl rfl, Nat.le_refl _⟩
  | n + 1 => by
    obtain ⟨h1, h2, h3⟩ := mnB_ok (h := h) (i := i) n
    unfold mnB
    by_cases z : fB g h i n < mnB g h i n
    · rw [if_pos z]
      refine ⟨fun d hd => ?_, Or.inr ⟨n, by omega, rfl⟩, by omega⟩
      by_cases e : d = n
      · rw [e]; exact Nat.le_refl _
      · have := h1 d (by omega); omega
    · rw [if_neg z]
      refine ⟨fun d hd => ?_, h2.imp id (fun ⟨d, hd, e⟩ => ⟨d, by omega, e⟩), h3⟩
      by_cases e : d = n
      · rw [e]; omega
      · exact h1 d (by omega)
def bsR (g : Nat → Nat → Option Nat) (W : Nat → Prop) (i : Nat) (v : Int32) : Prop := (∃ n d j, n + 1 < gFAR ∧ fw g W (n + 1) true i ∧ ¬ fw g W n true i ∧ d < 4 ∧ g i d = some j ∧ fw g W n false j ∧ (∀ d' j', d' < d → g i d' = some j' → ¬ fw g W n false j') ∧ v = nI d) ∨ ((∀ n, ¬ (n + 1 < gFAR ∧ fw g W (n + 1) true i ∧ ¬ fw g W n true i)) ∧ v = -1)
theorem bsR_one {i : Nat} {v v' : Int32} (h : bsR g W i v) (h' : bsR g W i v') : v = v' := by
  rcases h with ⟨n, d, j, h1, h2, h3, h4, h5, h6, h7, h8⟩ | ⟨h1, h2⟩
  · rcases h' with ⟨n', d', j', g1, g2, g3, g4, g5, g6, g7, g8⟩ | ⟨g1, g2⟩
    · have en : n = n' := by
        rcases Nat.lt_trichotomy n n' with z | z | z
        · exact absurd (fw_mono (show n + 1 ≤ n' by omega) h2) g3
        · exact z
        · exact absurd (fw_mono (show n' + 1 ≤ n by omega) g2) h3
      subst en
      rw [h8, g8]
      congr 1
      rcases Nat.lt_trichotomy d d' with z | z | z
      · exact absurd h6 (g7 d j z h5)
      · exact z
      · exact absurd g6 (h7 d' j' z g5)
    · exact absurd ⟨h1, h2, h3⟩ (g1 n)
  · rcases h' with ⟨n', d', j', g1, g2, g3, -⟩ | ⟨g1, g2⟩
    · exact absurd ⟨g1, g2, g3⟩ (h1 n')
    · rw [h2, g2]
end
section
def tb_m_firstBy : List (Nat × Instr × Nat) := [(0, .aload_n 0, 1), (1, .getfield 50, 3), (4, .iconst 4, 1), (5, .iload_n 1, 1), (6, .imul, 1), (7, .iload_n 2, 1), (8, .iadd, 1), (9, .iaload, 1), (10, .istore_n 3, 1), (11, .iload_n 3, 1), (12, .iconst (-1), 1), (13, .if_icmp .eq 15, 3), (16, .aload_n 0, 1), (17, .getfield 56, 3), (20, .iload_n 3, 1), (21, .iaload, 1), (22, .ldc_w 374, 3), (25, .if_icmp .ne 9, 3), (28, .ldc_w 374, 3), (31, .goto 11, 3), (34, .aload_n 0, 1), (35, .getfield 56, 3), (38, .iload_n 3, 1), (39, .iaload, 1), (40, .iconst 1, 1), (41, .iadd, 1), (42, .ireturn, 1)]
theorem tk_m_firstBy : ∀ q ∈ tb_m_firstBy, decode M_m_firstBy.2.1 q.1 = .ok q.2 := by decide +kernel
theorem c_m_firstBy {G : ab_G} {S : ab_S} {a : Nat → Int32} (hm : mSh S) {N : Nat} (hgr : mGr S a N) {f : Nat → Nat} (hf : fAr S 133 f N) (hle : ∀ i, i < N → f i ≤ gFAR) (k d : Nat) (hk : k < N) (hd : d < 4) : ab_C G 0 M_m_firstBy [.ref 120, .int (nI k), .int (nI d)] (sw S) (fun v w' => v = some (.int (nI (fB (gI a N) f k d))) ∧ w' = sw S) := by
  refine x_enter [some (.ref 120), some (.int (nI k)), some (.int (nI d)), none] (by decide) (Nat.le_of_ble_eq_true rfl) rfl (fun v w' h => by obtain ⟨rfl, rfl⟩ := h; rfl) ?_
  have hN := hgr.2.1
  cases e : gI a N k d with
  | none =>
    have et : sI S 131 (4 * k + d) = -1 := (hgr.2.2.2.2.2 k d hk hd).trans (by rw [e]; rfl)
    refine x_aload_n 1 0 (ab_dd tk_m_firstBy 0 rfl) rfl rfl rfl ?_
    refine t_getP 4 131 (ab_dd tk_m_firstBy 1 rfl) rfl F_m_50 (by decide) (Nat.lt_of_lt_of_le (by decide) hm.1) (hm.2.1 0 (by decide)) rfl (hm.2.2 26 (by decide)) ?_
    refine x_iconst 5 4 (ab_dd tk_m_firstBy 2 rfl) rfl (by decide) (x_topn 4 rfl ?_)
    refine x_iload_n 6 1 (ab_dd tk_m_firstBy 3 rfl) rfl rfl rfl ?_
    refine x_imul 7 (ab_dd tk_m_firstBy 4 rfl) rfl (x_topn (4 * k) (pk_mul _ _) ?_)
    refine x_iload_n 8 2 (ab_dd tk_m_firstBy 5 rfl) rfl rfl rfl ?_
    refine x_iadd 9 (ab_dd tk_m_firstBy 6 rfl) rfl (x_topn ((4 * k) + d) (nI_add _ _) ?_)
    refine t_iald 10 ((4 * k) + d) (ab_dd tk_m_firstBy 7 rfl) rfl (by decide) (Nat.lt_of_lt_of_le (by decide) hm.1) (hm.2.1 11 (by decide)) rfl (by omega) (by decide) (x_topx (-1) et ?_)
    refine x_istore_n 11 [some (.ref 120), some (.int (nI k)), some (.int (nI d)), some (.int ((-1)))] 3 (ab_dd tk_m_firstBy 8 rfl) rfl rfl (by decide) rfl ?_
    refine x_iload_n 12 3 (ab_dd tk_m_firstBy 9 rfl) rfl rfl rfl ?_
    refine x_iconst 13 (-1) (ab_dd tk_m_firstBy 10 rfl) rfl (by decide) ?_
    refine x_icmp_eq_t 28 (ab_dd tk_m_firstBy 11 rfl) (by decide) rfl ?_
    refine x_ldcw 31 (ab_dd tk_m_firstBy 18 rfl) rfl C_m_374 (x_topn 268435456 rfl ?_)
    refine x_goto 42 (ab_dd tk_m_firstBy 19 rfl) (by decide) ?_
    exact x_iret (ab_dd tk_m_firstBy 26 rfl) ⟨rI (by rw [fB_none e]; rfl), rfl⟩
  | some j =>
    have et : sI S 131 (4 * k + d) = nI j := (hgr.2.2.2.2.2 k d hk hd).trans (by rw [e]; rfl)
    have hj := gI_lt hgr.1 hk hd e
    have hfj := hf j hj
    have hlj := hle j hj
    have hF : gFAR = 268435456 := rfl
    rw [hF] at hlj
    refine x_aload_n 1 0 (ab_dd tk_m_firstBy 0 rfl) rfl rfl rfl ?_
    refine t_getP 4 131 (ab_dd tk_m_firstBy 1 rfl) rfl F_m_50 (by decide) (Nat.lt_of_lt_of_le (by decide) hm.1) (hm.2.1 0 (by decide)) rfl (hm.2.2 26 (by decide)) ?_
    refine x_iconst 5 4 (ab_dd tk_m_firstBy 2 rfl) rfl (by decide) (x_topn 4 rfl ?_)
    refine x_iload_n 6 1 (ab_dd tk_m_firstBy 3 rfl) rfl rfl rfl ?_
    refine x_imul 7 (ab_dd tk_m_firstBy 4 rfl) rfl (x_topn (4 * k) (pk_mul _ _) ?_)
    refine x_iload_n 8 2 (ab_dd tk_m_firstBy 5 rfl) rfl rfl rfl ?_
    refine x_iadd 9 (ab_dd tk_m_firstBy 6 rfl) rfl (x_topn ((4 * k) + d) (nI_add _ _) ?_)
    refine t_iald 10 ((4 * k) + d) (ab_dd tk_m_firstBy 7 rfl) rfl (by decide) (Nat.lt_of_lt_of_le (by decide) hm.1) (hm.2.1 11 (by decide)) rfl (by omega) (by decide) (x_topn j et ?_)
    refine x_istore_n 11 [some (.ref 120), some (.int (nI k)), some (.int (nI d)), some (.int (nI j))] 3 (ab_dd tk_m_firstBy 8 rfl) rfl rfl (by decide) rfl ?_
    refine x_iload_n 12 3 (ab_dd tk_m_firstBy 9 rfl) rfl rfl rfl ?_
    refine x_iconst 13 (-1) (ab_dd tk_m_firstBy 10 rfl) rfl (by decide) ?_
    refine x_icmp_eq_f 16 (ab_dd tk_m_firstBy 11 rfl) rfl 28 (by decide) (nI_nm1 (by omega)) ?_
    refine x_aload_n 17 0 (ab_dd tk_m_firstBy 12 rfl) rfl rfl rfl ?_
    refine t_getP 20 133 (ab_dd tk_m_firstBy 13 rfl) rfl F_m_56 (by decide) (Nat.lt_of_lt_of_le (by decide) hm.1) (hm.2.1 0 (by decide)) rfl (hm.2.2 28 (by decide)) ?_
    refine x_iload_n 21 3 (ab_dd tk_m_firstBy 14 rfl) rfl rfl rfl ?_
    refine t_iald 22 j (ab_dd tk_m_firstBy 15 rfl) rfl (by decide) (Nat.lt_of_lt_of_le (by decide) hm.1) (hm.2.1 13 (by decide)) rfl (by omega) (by decide) (x_topn (f j) hfj ?_)
    refine x_ldcw 25 (ab_dd tk_m_firstBy 16 rfl) rfl C_m_374 (x_topn 268435456 rfl ?_)
    refine xn_icmp_ne 28 34 (ab_dd tk_m_firstBy 17 rfl) rfl (by decide) (by omega) (by omega) (fun h25 => ?_) (fun h25 => ?_)
    · refine x_aload_n 35 0 (ab_dd tk_m_firstBy 20 rfl) rfl rfl rfl ?_
      refine t_getP 38 133 (ab_dd tk_m_firstBy 21 rfl) rfl F_m_56 (by decide) (Nat.lt_of_lt_of_le (by decide) hm.1) (hm.2.1 0 (by decide)) rfl (hm.2.2 28 (by decide)) ?_
      refine x_iload_n 39 3 (ab_dd tk_m_firstBy 22 rfl) rfl rfl rfl ?_
      refine t_iald 40 j (ab_dd tk_m_firstBy 23 rfl) rfl (by decide) (Nat.lt_of_lt_of_le (by decide) hm.1) (hm.2.1 13 (by decide)) rfl (by omega) (by decide) (x_topn (f j) hfj ?_)
      refine x_iconst 41 1 (ab_dd tk_m_firstBy 24 rfl) rfl (by decide) (x_topn 1 rfl ?_)
      refine x_iadd 42 (ab_dd tk_m_firstBy 25 rfl) rfl (x_topn ((f j) + 1) (nI_add _ _) ?_)
      exact x_iret (ab_dd tk_m_firstBy 26 rfl) ⟨rI (congrArg nI (by rw [fB_some e, hF, if_neg h25])), rfl⟩
    · refine x_ldcw 31 (ab_dd tk_m_firstBy 18 rfl) rfl C_m_374 (x_topn 268435456 rfl ?_)
      refine x_goto 42 (ab_dd tk_m_firstBy 19 rfl) (by decide) ?_
      exact x_iret (ab_dd tk_m_firstBy 26 rfl) ⟨rI (congrArg nI (by rw [fB_some e, hF, if_pos h25])), rfl⟩
def tb_m_otherAt : List (Nat × Instr × Nat) := [(0, .iconst 0, 1), (1, .istore_n 2, 1), (2, .iconst 0, 1), (3, .istore_n 3, 1), (4, .iload_n 3, 1), (5, .iconst 4, 1), (6, .if_icmp .ge 74, 3), (9, .aload_n 0, 1), (10, .getfield 50, 3), (13, .iconst 4, 1), (14, .iload_n 1, 1), (15, .imul, 1), (16, .iload_n 3, 1), (17, .iadd, 1), (18, .iaload, 1), (19, .istore 4, 2), (21, .iload 4, 2), (23, .iconst (-1), 1), (24, .if_icmp .ne 6, 3), (27, .goto 47, 3), (30, .aload_n 0, 1), (31, .getfield 53, 3), (34, .iload 4, 2), (36, .iaload, 1), (37, .ldc_w 374, 3), (40, .if_icmp .ne 7, 3), (43, .ldc_w 374, 3), (46, .ireturn, 1), (47, .aload_n 0, 1), (48, .getfield 53, 3), (51, .iload 4, 2), (53, .iaload, 1), (54, .iconst 1, 1), (55, .iadd, 1), (56, .iload_n 2, 1), (57, .if_icmp .le 15, 3), (60, .aload_n 0, 1), (61, .getfield 53, 3), (64, .iload 4, 2), (66, .iaload, 1), (67, .iconst 1, 1), (68, .iadd, 1), (69, .goto 4, 3), (72, .iload_n 2, 1), (73, .istore_n 2, 1), (74, .iinc 3 1, 3), (77, .goto (-73), 3), (80, .iload_n 2, 1), (81, .ireturn, 1)]
theorem tk_m_otherAt : ∀ q ∈ tb_m_otherAt, decode M_m_otherAt.2.1 q.1 = .ok q.2 := by decide +kernel
theorem c_m_otherAt {G : ab_G} {S : ab_S} {a : Nat → Int32} (hm : mSh S) {N : Nat} (hgr : mGr S a N) {f : Nat → Nat} (hf : fAr S 132 f N) (hle : ∀ i, i < N → f i ≤ gFAR) (k : Nat) (hk : k < N) : ab_C G 0 M_m_otherAt [.ref 120, .int (nI k)] (sw S) (fun v w' => v = some (.int (nI (oA (gI a N) f k 4 0 0))) ∧ w' = sw S) := by
  refine x_enter [some (.ref 120), some (.int (nI k)), none, none, none] (by decide) (Nat.le_of_ble_eq_true rfl) rfl (fun v w' h => by obtain ⟨rfl, rfl⟩ := h; rfl) ?_
  have hN := hgr.2.1
  have hF : gFAR = 268435456 := rfl
  have loop : ∀ (m d x : Nat), d + m = 4 → x ≤ gFAR → oA (gI a N) f k m d x = oA (gI a N) f k 4 0 0 → ab_Ex G 0 M_m_otherAt 4 [some (.ref 120), some (.int (nI k)), some (.int (nI x)), some (.int (nI d)), none] [] (sw S) (fun v w' => v = some (.int (nI (oA (gI a N) f k 4 0 0))) ∧ w' = sw S) := by
    intro m
    induction m with
    | zero =>
      intro d x hd hx he
      obtain rfl : d = 4 := by omega
      rw [← he]
      refine x_iload_n 5 3 (ab_dd tk_m_otherAt 4 rfl) rfl rfl rfl ?_
      refine x_iconst 6 4 (ab_dd tk_m_otherAt 5 rfl) rfl (by decide) (x_topn 4 rfl ?_)
      refine x_icmp_ge_t 80 (ab_dd tk_m_otherAt 6 rfl) (by decide) ((nI_leI (a := 4) (b := 4) (by omega) (by omega)).mpr (show 4 ≤ 4 by omega)) ?_
      refine x_iload_n 81 2 (ab_dd tk_m_otherAt 47 rfl) rfl rfl rfl ?_
      exact x_iret (ab_dd tk_m_otherAt 48 rfl) ⟨rfl, rfl⟩
    | succ m ih =>
      intro d x hd hx he
      have hd4 : d < 4 := by omega
      rw [hF] at hx
      cases e : gI a N k d with
      | none =>
        have et : sI S 131 (4 * k + d) = -1 := (hgr.2.2.2.2.2 k d hk hd4).trans (by rw [e]; rfl)
        rw [oA_none e] at he
        refine x_iload_n 5 3 (ab_dd tk_m_otherAt 4 rfl) rfl rfl rfl ?_
        refine x_iconst 6 4 (ab_dd tk_m_otherAt 5 rfl) rfl (by decide) (x_topn 4 rfl ?_)
        refine x_icmp_ge_f 9 (ab_dd tk_m_otherAt 6 rfl) rfl 80 (by decide) (fun z => absurd ((nI_leI (a := 4) (b := d) (by omega) (by omega)).mp z) (show ¬ (4 ≤ d) by omega)) ?_
        refine x_aload_n 10 0 (ab_dd tk_m_otherAt 7 rfl) rfl rfl rfl ?_
        refine t_getP 13 131 (ab_dd tk_m_otherAt 8 rfl) rfl F_m_50 (by decide) (Nat.lt_of_lt_of_le (by decide) hm.1) (hm.2.1 0 (by decide)) rfl (hm.2.2 26 (by decide)) ?_
        refine x_iconst 14 4 (ab_dd tk_m_otherAt 9 rfl) rfl (by decide) (x_topn 4 rfl ?_)
        refine x_iload_n 15 1 (ab_dd tk_m_otherAt 10 rfl) rfl rfl rfl ?_
        refine x_imul 16 (ab_dd tk_m_otherAt 11 rfl) rfl (x_topn (4 * k) (pk_mul _ _) ?_)
        refine x_iload_n 17 3 (ab_dd tk_m_otherAt 12 rfl) rfl rfl rfl ?_
        refine x_iadd 18 (ab_dd tk_m_otherAt 13 rfl) rfl (x_topn ((4 * k) + d) (nI_add _ _) ?_)
        refine t_iald 19 ((4 * k) + d) (ab_dd tk_m_otherAt 14 rfl) rfl (by decide) (Nat.lt_of_lt_of_le (by decide) hm.1) (hm.2.1 11 (by decide)) rfl (by omega) (by decide) (x_topx (-1) et ?_)
        refine x_istore 21 [some (.ref 120), some (.int (nI k)), some (.int (nI x)), some (.int (nI d)), some (.int ((-1)))] 4 (ab_dd tk_m_otherAt 15 rfl) rfl (by decide) rfl ?_
        refine x_iload 23 4 (ab_dd tk_m_otherAt 16 rfl) rfl rfl ?_
        refine x_iconst 24 (-1) (ab_dd tk_m_otherAt 17 rfl) rfl (by decide) ?_
        refine x_icmp_ne_f 27 (ab_dd tk_m_otherAt 18 rfl) rfl 30 (by decide) rfl ?_
        refine x_goto 74 (ab_dd tk_m_otherAt 19 rfl) (by decide) ?_
        refine xn_iinc 77 3 (fun y => [some (.ref 120), some (.int (nI k)), some (.int (nI x)), some (.int y), some (.int ((-1)))]) (d + 1) (ab_dd tk_m_otherAt 45 rfl) rfl (by decide) rfl (fun _ => rfl) (iinc_p 1) ?_
        refine x_goto 4 (ab_dd tk_m_otherAt 46 rfl) (by decide) ?_
        exact x_forget 4 (ih (d + 1) x (by omega) hx he)
      | some j =>
        have et : sI S 131 (4 * k + d) = nI j := (hgr.2.2.2.2.2 k d hk hd4).trans (by rw [e]; rfl)
        have hj := gI_lt hgr.1 hk hd4 e
        have hfj := hf j hj
        have hlj := hle j hj
        rw [hF] at hlj
        rw [oA_some e, hF] at he
        refine x_iload_n 5 3 (ab_dd tk_m_otherAt 4 rfl) rfl rfl rfl ?_
        refine x_iconst 6 4 (ab_dd tk_m_otherAt 5 rfl) rfl (by decide) (x_topn 4 rfl ?_)
        refine x_icmp_ge_f 9 (ab_dd tk_m_otherAt 6 rfl) rfl 80 (by decide) (fun z => absurd ((nI_leI (a := 4) (b := d) (by omega) (by omega)).mp z) (show ¬ (4 ≤ d) by omega)) ?_
        refine x_aload_n 10 0 (ab_dd tk_m_otherAt 7 rfl) rfl rfl rfl ?_
        refine t_getP 13 131 (ab_dd tk_m_otherAt 8 rfl) rfl F_m_50 (by decide) (Nat.lt_of_lt_of_le (by decide) hm.1) (hm.2.1 0 (by decide)) rfl (hm.2.2 26 (by decide)) ?_
        refine x_iconst 14 4 (ab_dd tk_m_otherAt 9 rfl) rfl (by decide) (x_topn 4 rfl ?_)
        refine x_iload_n 15 1 (ab_dd tk_m_otherAt 10 rfl) rfl rfl rfl ?_
        refine x_imul 16 (ab_dd tk_m_otherAt 11 rfl) rfl (x_topn (4 * k) (pk_mul _ _) ?_)
        refine x_iload_n 17 3 (ab_dd tk_m_otherAt 12 rfl) rfl rfl rfl ?_
        refine x_iadd 18 (ab_dd tk_m_otherAt 13 rfl) rfl (x_topn ((4 * k) + d) (nI_add _ _) ?_)
        refine t_iald 19 ((4 * k) + d) (ab_dd tk_m_otherAt 14 rfl) rfl (by decide) (Nat.lt_of_lt_of_le (by decide) hm.1) (hm.2.1 11 (by decide)) rfl (by omega) (by decide) (x_topn j et ?_)
        refine x_istore 21 [some (.ref 120), some (.int (nI k)), some (.int (nI x)), some (.int (nI d)), some (.int (nI j))] 4 (ab_dd tk_m_otherAt 15 rfl) rfl (by decide) rfl ?_
        refine x_iload 23 4 (ab_dd tk_m_otherAt 16 rfl) rfl rfl ?_
        refine x_iconst 24 (-1) (ab_dd tk_m_otherAt 17 rfl) rfl (by decide) ?_
        refine x_icmp_ne_t 30 (ab_dd tk_m_otherAt 18 rfl) (by decide) (nI_nm1 (by omega)) ?_
        refine x_aload_n 31 0 (ab_dd tk_m_otherAt 20 rfl) rfl rfl rfl ?_
        refine t_getP 34 132 (ab_dd tk_m_otherAt 21 rfl) rfl F_m_53 (by decide) (Nat.lt_of_lt_of_le (by decide) hm.1) (hm.2.1 0 (by decide)) rfl (hm.2.2 27 (by decide)) ?_
        refine x_iload 36 4 (ab_dd tk_m_otherAt 22 rfl) rfl rfl ?_
        refine t_iald 37 j (ab_dd tk_m_otherAt 23 rfl) rfl (by decide) (Nat.lt_of_lt_of_le (by decide) hm.1) (hm.2.1 12 (by decide)) rfl (by omega) (by decide) (x_topn (f j) hfj ?_)
        refine x_ldcw 40 (ab_dd tk_m_otherAt 24 rfl) rfl C_m_374 (x_topn 268435456 rfl ?_)
        refine xn_icmp_ne 43 47 (ab_dd tk_m_otherAt 25 rfl) rfl (by decide) (by omega) (by omega) (fun h40 => ?_) (fun h40 => ?_)
        · refine x_aload_n 48 0 (ab_dd tk_m_otherAt 28 rfl) rfl rfl rfl ?_
          refine t_getP 51 132 (ab_dd tk_m_otherAt 29 rfl) rfl F_m_53 (by decide) (Nat.lt_of_lt_of_le (by decide) hm.1) (hm.2.1 0 (by decide)) rfl (hm.2.2 27 (by decide)) ?_
          refine x_iload 53 4 (ab_dd tk_m_otherAt 30 rfl) rfl rfl ?_
          refine t_iald 54 j (ab_dd tk_m_otherAt 31 rfl) rfl (by decide) (Nat.lt_of_lt_of_le (by decide) hm.1) (hm.2.1 12 (by decide)) rfl (by omega) (by decide) (x_topn (f j) hfj ?_)
          refine x_iconst 55 1 (ab_dd tk_m_otherAt 32 rfl) rfl (by decide) (x_topn 1 rfl ?_)
          refine x_iadd 56 (ab_dd tk_m_otherAt 33 rfl) rfl (x_topn ((f j) + 1) (nI_add _ _) ?_)
          refine x_iload_n 57 2 (ab_dd tk_m_otherAt 34 rfl) rfl rfl rfl ?_
          refine xn_icmp_le 60 72 (ab_dd tk_m_otherAt 35 rfl) rfl (by decide) (by omega) (by omega) (fun h57 => ?_) (fun h57 => ?_)
          · refine x_iload_n 73 2 (ab_dd tk_m_otherAt 43 rfl) rfl rfl rfl ?_
            refine x_istore_n 74 [some (.ref 120), some (.int (nI k)), some (.int (nI x)), some (.int (nI d)), some (.int (nI j))] 2 (ab_dd tk_m_otherAt 44 rfl) rfl rfl (by decide) rfl ?_
            refine xn_iinc 77 3 (fun y => [some (.ref 120), some (.int (nI k)), some (.int (nI x)), some (.int y), some (.int (nI j))]) (d + 1) (ab_dd tk_m_otherAt 45 rfl) rfl (by decide) rfl (fun _ => rfl) (iinc_p 1) ?_
            refine x_goto 4 (ab_dd tk_m_otherAt 46 rfl) (by decide) ?_
            rw [if_neg h40, if_neg (by omega)] at he
            exact x_forget 4 (ih (d + 1) _ (by omega) (by omega) he)
          · refine x_aload_n 61 0 (ab_dd tk_m_otherAt 36 rfl) rfl rfl rfl ?_
            refine t_getP 64 132 (ab_dd tk_m_otherAt 37 rfl) rfl F_m_53 (by decide) (Nat.lt_of_lt_of_le (by decide) hm.1) (hm.2.1 0 (by decide)) rfl (hm.2.2 27 (by decide)) ?_
            refine x_iload 66 4 (ab_dd tk_m_otherAt 38 rfl) rfl rfl ?_
            refine t_iald 67 j (ab_dd tk_m_otherAt 39 rfl) rfl (by decide) (Nat.lt_of_lt_of_le (by decide) hm.1) (hm.2.1 12 (by decide)) rfl (by omega) (by decide) (x_topn (f j) hfj ?_)
            refine x_iconst 68 1 (ab_dd tk_m_otherAt 40 rfl) rfl (by decide) (x_topn 1 rfl ?_)
            refine x_iadd 69 (ab_dd tk_m_otherAt 41 rfl) rfl (x_topn ((f j) + 1) (nI_add _ _) ?_)
            refine x_goto 73 (ab_dd tk_m_otherAt 42 rfl) (by decide) ?_
            refine x_istore_n 74 [some (.ref 120), some (.int (nI k)), some (.int (nI ((f j) + 1))), some (.int (nI d)), some (.int (nI j))] 2 (ab_dd tk_m_otherAt 44 rfl) rfl rfl (by decide) rfl ?_
            refine xn_iinc 77 3 (fun y => [some (.ref 120), some (.int (nI k)), some (.int (nI ((f j) + 1))), some (.int y), some (.int (nI j))]) (d + 1) (ab_dd tk_m_otherAt 45 rfl) rfl (by decide) rfl (fun _ => rfl) (iinc_p 1) ?_
            refine x_goto 4 (ab_dd tk_m_otherAt 46 rfl) (by decide) ?_
            rw [if_neg h40, if_pos (by omega)] at he
            exact x_forget 4 (ih (d + 1) _ (by omega) (by omega) he)
        · refine x_ldcw 46 (ab_dd tk_m_otherAt 26 rfl) rfl C_m_374 (x_topn 268435456 rfl ?_)
          exact x_iret (ab_dd tk_m_otherAt 27 rfl) ⟨rI (by rw [← he, if_pos h40]), rfl⟩
  refine x_iconst 1 0 (ab_dd tk_m_otherAt 0 rfl) rfl (by decide) (x_topn 0 rfl ?_)
  refine x_istore_n 2 [some (.ref 120), some (.int (nI k)), some (.int (nI 0)), none, none] 2 (ab_dd tk_m_otherAt 1 rfl) rfl rfl (by decide) rfl ?_
  refine x_iconst 3 0 (ab_dd tk_m_otherAt 2 rfl) rfl (by decide) (x_topn 0 rfl ?_)
  refine x_istore_n 4 [some (.ref 120), some (.int (nI k)), some (.int (nI 0)), some (.int (nI 0)), none] 3 (ab_dd tk_m_otherAt 3 rfl) rfl rfl (by decide) rfl ?_
  exact loop 4 0 0 rfl (Nat.zero_le _) rfl
def gV (a : Nat → Int32) (N r k i : Nat) : Prop := k ≤ mWa (gC a N i) r
def tb_m_laysForce : List (Nat × Instr × Nat) := [(0, .aload_n 0, 1), (1, .invokevirtual 375, 3), (4, .iconst 0, 1), (5, .istore_n 3, 1), (6, .iload_n 3, 1), (7, .aload_n 0, 1), (8, .getfield 368, 3), (11, .if_icmp .ge 48, 3), (14, .aload_n 0, 1), (15, .getfield 53, 3), (18, .iload_n 3, 1), (19, .aload_n 0, 1), (20, .getfield 46, 3), (23, .iload_n 3, 1), (24, .iaload, 1), (25, .iload_n 1, 1), (26, .invokestatic 228, 3), (29, .iload_n 2, 1), (30, .if_icmp .lt 7, 3), (33, .iconst 0, 1), (34, .goto 6, 3), (37, .ldc_w 374, 3), (40, .iastore, 1), (41, .aload_n 0, 1), (42, .getfield 56, 3), (45, .iload_n 3, 1), (46, .aload_n 0, 1), (47, .getfield 53, 3), (50, .iload_n 3, 1), (51, .iaload, 1), (52, .iastore, 1), (53, .iinc 3 1, 3), (56, .goto (-50), 3), (59, .iconst 1, 1), (60, .istore_n 3, 1), (61, .iload_n 3, 1), (62, .ifCond .eq 162, 3), (65, .iconst 0, 1), (66, .istore_n 3, 1), (67, .iconst 0, 1), (68, .istore 4, 2), (70, .iload 4, 2), (72, .aload_n 0, 1), (73, .getfield 368, 3), (76, .if_icmp .ge 145, 3), (79, .ldc_w 374, 3), (82, .istore 5, 2), (84, .iconst 0, 1), (85, .istore 6, 2), (87, .iload 6, 2), (89, .iconst 4, 1), (90, .if_icmp .ge 47, 3), (93, .aload_n 0, 1), (94, .getfield 53, 3), (97, .iload 4, 2), (99, .iaload, 1), (100, .ifCond .le 37, 3), (103, .aload_n 0, 1), (104, .iload 4, 2), (106, .iload 6, 2), (108, .invokevirtual 433, 3), (111, .iload 5, 2), (113, .if_icmp .ge 14, 3), (116, .aload_n 0, 1), (117, .iload 4, 2), (119, .iload 6, 2), (121, .invokevirtual 433, 3), (124, .goto 5, 3), (127, .iload 5, 2), (129, .istore 5, 2), (131, .iinc 6 1, 3), (134, .goto (-47), 3), (137, .aload_n 0, 1), (138, .getfield 53, 3), (141, .iload 4, 2), (143, .iaload, 1), (144, .ifCond .le 26, 3), (147, .iload 5, 2), (149, .aload_n 0, 1), (150, .getfield 53, 3), (153, .iload 4, 2), (155, .iaload, 1), (156, .if_icmp .ge 14, 3), (159, .aload_n 0, 1), (160, .getfield 53, 3), (163, .iload 4, 2), (165, .iload 5, 2), (167, .iastore, 1), (168, .iconst 1, 1), (169, .istore_n 3, 1), (170, .aload_n 0, 1), (171, .getfield 56, 3), (174, .iload 4, 2), (176, .iaload, 1), (177, .ifCond .ne 7, 3), (180, .iconst 0, 1), (181, .goto 9, 3), (184, .aload_n 0, 1), (185, .iload 4, 2), (187, .invokevirtual 436, 3), (190, .istore 5, 2), (192, .iload 5, 2), (194, .aload_n 0, 1), (195, .getfield 56, 3), (198, .iload 4, 2), (200, .iaload, 1), (201, .if_icmp .ge 14, 3), (204, .aload_n 0, 1), (205, .getfield 56, 3), (208, .iload 4, 2), (210, .iload 5, 2), (212, .iastore, 1), (213, .iconst 1, 1), (214, .istore_n 3, 1), (215, .iinc 4 1, 3), (218, .goto (-148), 3), (221, .goto (-160), 3), (224, .aload_n 0, 1), (225, .getfield 53, 3), (228, .iconst 0, 1), (229, .iaload, 1), (230, .ireturn, 1)]
theorem tk_m_laysForce : ∀ q ∈ tb_m_laysForce, decode M_m_laysForce.2.1 q.1 = .ok q.2 := by decide +kernel
theorem gI_0 {a : Nat → Int32} {N i : Nat} : ∃ j, gI a N i 0 = some j := by unfold gI; rw [aN_0]; exact ⟨_, rfl⟩
theorem c_m_laysForce {G : ab_G} {S : ab_S} {a : Nat → Int32} (hm : mSh S) (hA : mA S = a) (ha : aOk a) (r h : Nat) (hr4 : r < 4) (hh : h ≤ 4) : ab_C G 6 M_m_laysForce [.ref 120, .int (nI r), .int (nI h)] (sw S) (fun v w' => ∃ S' N f e, w' = sw S' ∧ mSh S' ∧ mA S' = a ∧ sEq [120, 125, 126, 129, 130, 131, 132, 133] S S' ∧ fEq S S' ∧ mGr S' a N ∧ fAr S' 132 f N ∧ fAr S' 133 e N ∧ fI (gI a N) (gV a N r h) f e N ∧ (∀ i, i < N → fSt (gI a N) f e i) ∧ v = some (.int (nI (f 0)))) := by
  have go : ∀ (N : Nat) (S0 : ab_S), mSh S0 → mA S0 = a → sEq [120, 125, 126, 129, 130, 131, 132, 133] S S0 → fEq S S0 → mGr S0 a N → ab_Ex G 6 M_m_laysForce 6 [some (.ref 120), some (.int (nI r)), some (.int (nI h)), some (.int (nI 0)), none, none, none] [] (sw S0) (fun v w' => ∃ S' N f e, w' = sw S' ∧ mSh S' ∧ mA S' = a ∧ sEq [120, 125, 126, 129, 130, 131, 132, 133] S S' ∧ fEq S S' ∧ mGr S' a N ∧ fAr S' 132 f N ∧ fAr S' 133 e N ∧ fI (gI a N) (gV a N r h) f e N ∧ (∀ i, i < N → fSt (gI a N) f e i) ∧ v = some (.int (nI (f 0)))) := by
    intro N S0 hm0 hA0 hE0 hF0 hgr0
    have hN := hgr0.2.1
    have hF : gFAR = 268435456 := rfl
    have hgN : ∀ i d j, i < N → d < 4 → gI a N i d = some j → j < N := fun i d j hi hd e => gI_lt hgr0.1 hi hd e
    have hg0 : ∀ i, i < N → ∃ j, gI a N i 0 = some j := fun i _ => gI_0
    have main : ∀ (u : Nat) (S1 : ab_S) (f e : Nat → Nat), (sumF f N + sumF e N) = u → mSh S1 → mA S1 = a → sEq [120, 125, 126, 129, 130, 131, 132, 133] S S1 → fEq S S1 → mGr S1 a N → fAr S1 132 f N → fAr S1 133 e N → fI (gI a N) (gV a N r h) f e N → ab_Ex G 6 M_m_laysForce 65 [some (.ref 120), some (.int (nI r)), some (.int (nI h)), none, none, none, none] [] (sw S1) (fun v w' => ∃ S' N f e, w' = sw S' ∧ mSh S' ∧ mA S' = a ∧ sEq [120, 125, 126, 129, 130, 131, 132, 133] S S' ∧ fEq S S' ∧ mGr S' a N ∧ fAr S' 132 f N ∧ fAr S' 133 e N ∧ fI (gI a N) (gV a N r h) f e N ∧ (∀ i, i < N → fSt (gI a N) f e i) ∧ v = some (.int (nI (f 0)))) := by
      intro u
      induction u using Nat.strongRecOn with
      | ind u ihu =>
        intro S1 f e hu hm1 hA1 hE1 hF1 hgr hf he hI
        have nodes : ∀ (m k : Nat), k + m = N → ∀ (S1 : ab_S) (f e : Nat → Nat) (b : Nat), mSh S1 → mA S1 = a → sEq [120, 125, 126, 129, 130, 131, 132, 133] S S1 → fEq S S1 → mGr S1 a N → fAr S1 132 f N → fAr S1 133 e N → fI (gI a N) (gV a N r h) f e N → ((b = 1 ∧ (sumF f N + sumF e N) < u) ∨ (b = 0 ∧ (sumF f N + sumF e N) = u ∧ ∀ i, i < k → fSt (gI a N) f e i)) → ab_Ex G 6 M_m_laysForce 70 [some (.ref 120), some (.int (nI r)), some (.int (nI h)), some (.int (nI b)), some (.int (nI k)), none, none] [] (sw S1) (fun v w' => ∃ S' N f e, w' = sw S' ∧ mSh S' ∧ mA S' = a ∧ sEq [120, 125, 126, 129, 130, 131, 132, 133] S S' ∧ fEq S S' ∧ mGr S' a N ∧ fAr S' 132 f N ∧ fAr S' 133 e N ∧ fI (gI a N) (gV a N r h) f e N ∧ (∀ i, i < N → fSt (gI a N) f e i) ∧ v = some (.int (nI (f 0)))) := by
          intro m
          induction m with
          | zero =>
            intro k hk S1 f e b hm1 hA1 hE1 hF1 hgr hf he hI hb
            obtain rfl : k = N := by omega
            rcases hb with ⟨rfl, hb⟩ | ⟨rfl, hb, hst⟩
            · refine x_iload 72 4 (ab_dd tk_m_laysForce 41 rfl) rfl rfl ?_
              refine x_aload_n 73 0 (ab_dd tk_m_laysForce 42 rfl) rfl rfl rfl ?_
              refine t_getI 76 (ab_dd tk_m_laysForce 43 rfl) rfl F_m_368 (by decide) (Nat.lt_of_lt_of_le (by decide) hm1.1) (hm1.2.1 0 (by decide)) rfl (x_topn k hgr.2.2.2.1 ?_)
              refine x_icmp_ge_t 221 (ab_dd tk_m_laysForce 44 rfl) (by decide) ((nI_leI (a := k) (b := k) (by omega) (by omega)).mpr (show k ≤ k by omega)) ?_
              refine x_goto 61 (ab_dd tk_m_laysForce 116 rfl) (by decide) ?_
              refine x_iload_n 62 3 (ab_dd tk_m_laysForce 35 rfl) rfl rfl rfl ?_
              refine x_if_eq_f 65 (ab_dd tk_m_laysForce 36 rfl) rfl 224 (by decide) (by decide) ?_
              exact x_forget 3 (x_forget 4 (ihu _ hb S1 f e rfl hm1 hA1 hE1 hF1 hgr hf he hI))
            · refine x_iload 72 4 (ab_dd tk_m_laysForce 41 rfl) rfl rfl ?_
              refine x_aload_n 73 0 (ab_dd tk_m_laysForce 42 rfl) rfl rfl rfl ?_
              refine t_getI 76 (ab_dd tk_m_laysForce 43 rfl) rfl F_m_368 (by decide) (Nat.lt_of_lt_of_le (by decide) hm1.1) (hm1.2.1 0 (by decide)) rfl (x_topn k hgr.2.2.2.1 ?_)
              refine x_icmp_ge_t 221 (ab_dd tk_m_laysForce 44 rfl) (by decide) ((nI_leI (a := k) (b := k) (by omega) (by omega)).mpr (show k ≤ k by omega)) ?_
              refine x_goto 61 (ab_dd tk_m_laysForce 116 rfl) (by decide) ?_
              refine x_iload_n 62 3 (ab_dd tk_m_laysForce 35 rfl) rfl rfl rfl ?_
              refine x_if_eq_t 224 (ab_dd tk_m_laysForce 36 rfl) (by decide) rfl ?_
              refine x_aload_n 225 0 (ab_dd tk_m_laysForce 117 rfl) rfl rfl rfl ?_
              refine t_getP 228 132 (ab_dd tk_m_laysForce 118 rfl) rfl F_m_53 (by decide) (Nat.lt_of_lt_of_le (by decide) hm1.1) (hm1.2.1 0 (by decide)) rfl (hm1.2.2 27 (by decide)) ?_
              refine x_iconst 229 0 (ab_dd tk_m_laysForce 119 rfl) rfl (by decide) (x_topn 0 rfl ?_)
              refine t_iald 230 0 (ab_dd tk_m_laysForce 120 rfl) rfl (by decide) (Nat.lt_of_lt_of_le (by decide) hm1.1) (hm1.2.1 12 (by decide)) rfl (by decide) (by decide) (x_topn (f 0) (hf 0 hgr.2.2.1) ?_)
              exact x_iret (ab_dd tk_m_laysForce 121 rfl) ⟨S1, k, f, e, rfl, hm1, hA1, hE1, hF1, hgr, hf, he, hI, hst, rfl⟩
          | succ m ih =>
            intro k hk S1 f e b hm1 hA1 hE1 hF1 hgr hf he hI hb
            have hkN : k < N := by omega
            have half : ∀ (S1 : ab_S) (f : Nat → Nat) (b : Nat) (x y : Option Value), mSh S1 → mA S1 = a → sEq [120, 125, 126, 129, 130, 131, 132, 133] S S1 → fEq S S1 → mGr S1 a N → fAr S1 132 f N → fAr S1 133 e N → fI (gI a N) (gV a N r h) f e N → ((b = 1 ∧ (sumF f N + sumF e N) < u) ∨ (b = 0 ∧ (sumF f N + sumF e N) = u ∧ (∀ i, i < k → fSt (gI a N) f e i) ∧ (f k = 0 ∨ ∀ d, d < 4 → f k ≤ fB (gI a N) e k d))) → ab_Ex G 6 M_m_laysForce 170 [some (.ref 120), some (.int (nI r)), some (.int (nI h)), some (.int (nI b)), some (.int (nI k)), x, y] [] (sw S1) (fun v w' => ∃ S' N f e, w' = sw S' ∧ mSh S' ∧ mA S' = a ∧ sEq [120, 125, 126, 129, 130, 131, 132, 133] S S' ∧ fEq S S' ∧ mGr S' a N ∧ fAr S' 132 f N ∧ fAr S' 133 e N ∧ fI (gI a N) (gV a N r h) f e N ∧ (∀ i, i < N → fSt (gI a N) f e i) ∧ v = some (.int (nI (f 0)))) := by
              intro S1 f b x y hm1 hA1 hE1 hF1 hgr hf he hI hb
              refine x_forget 5 (x_forget 6 ?_)
              have hek := he k hkN
              have hel := (hI k hkN).2.1
              rw [hF] at hel
              obtain ⟨o1, o2, -⟩ := oA_ok hgN (fun i hi => (hI i hi).1) hkN 4 0 0 rfl (Nat.zero_le _)
              rw [hF] at o1
              refine x_aload_n 171 0 (ab_dd tk_m_laysForce 90 rfl) rfl rfl rfl ?_
              refine t_getP 174 133 (ab_dd tk_m_laysForce 91 rfl) rfl F_m_56 (by decide) (Nat.lt_of_lt_of_le (by decide) hm1.1) (hm1.2.1 0 (by decide)) rfl (hm1.2.2 28 (by decide)) ?_
              refine x_iload 176 4 (ab_dd tk_m_laysForce 92 rfl) rfl rfl ?_
              refine t_iald 177 k (ab_dd tk_m_laysForce 93 rfl) rfl (by decide) (Nat.lt_of_lt_of_le (by decide) hm1.1) (hm1.2.1 13 (by decide)) rfl (by omega) (by decide) (x_topn (e k) hek ?_)
              refine xn_if_ne 180 184 (ab_dd tk_m_laysForce 94 rfl) rfl (by decide) (by omega) (fun h177 => ?_) (fun h177 => ?_)
              · refine x_aload_n 185 0 (ab_dd tk_m_laysForce 97 rfl) rfl rfl rfl ?_
                refine x_iload 187 4 (ab_dd tk_m_laysForce 98 rfl) rfl rfl ?_
                refine t_callV 190 M_m_otherAt 0 1 [_] (ab_dd tk_m_laysForce 99 rfl) rfl (by decide) K_m_otherAt V_m_otherAt.1 V_m_otherAt.2 L_m_436 rfl (Nat.le_of_ble_eq_true rfl) (by decide) (Nat.lt_of_lt_of_le (by decide) hm1.1) (hm1.2.1 0 (by decide)) rfl (c_m_otherAt (by exact hm1) (by exact hgr) (by exact hf) (fun i hi => (hI i hi).1) k hkN) (fun v1 w1 h1 => ?_)
                obtain ⟨rfl, rfl⟩ := h1
                refine x_istore 192 [some (.ref 120), some (.int (nI r)), some (.int (nI h)), some (.int (nI b)), some (.int (nI k)), some (.int (nI (oA (gI a N) f k 4 0 0))), none] 5 (ab_dd tk_m_laysForce 100 rfl) rfl (by decide) rfl ?_
                refine x_iload 194 5 (ab_dd tk_m_laysForce 101 rfl) rfl rfl ?_
                refine x_aload_n 195 0 (ab_dd tk_m_laysForce 102 rfl) rfl rfl rfl ?_
                refine t_getP 198 133 (ab_dd tk_m_laysForce 103 rfl) rfl F_m_56 (by decide) (Nat.lt_of_lt_of_le (by decide) hm1.1) (hm1.2.1 0 (by decide)) rfl (hm1.2.2 28 (by decide)) ?_
                refine x_iload 200 4 (ab_dd tk_m_laysForce 104 rfl) rfl rfl ?_
                refine t_iald 201 k (ab_dd tk_m_laysForce 105 rfl) rfl (by decide) (Nat.lt_of_lt_of_le (by decide) hm1.1) (hm1.2.1 13 (by decide)) rfl (by omega) (by decide) (x_topn (e k) hek ?_)
                refine xn_icmp_ge 204 215 (ab_dd tk_m_laysForce 106 rfl) rfl (by decide) (by omega) (by omega) (fun h201 => ?_) (fun h201 => ?_)
                · refine xn_iinc 218 4 (fun y => [some (.ref 120), some (.int (nI r)), some (.int (nI h)), some (.int (nI b)), some (.int y), some (.int (nI (oA (gI a N) f k 4 0 0))), none]) (k + 1) (ab_dd tk_m_laysForce 114 rfl) rfl (by decide) rfl (fun _ => rfl) (iinc_p 1) ?_
                  refine x_goto 70 (ab_dd tk_m_laysForce 115 rfl) (by decide) ?_
                  refine x_forget 5 (ih (k + 1) (by omega) S1 f e b hm1 hA1 hE1 hF1 hgr hf he hI (hb.imp id (fun z => ⟨z.1, z.2.1, fun i hi => ?_⟩)))
                  by_cases q : i = k
                  · rw [q]; exact ⟨z.2.2.2, Or.inr h201⟩
                  · exact z.2.2.1 i (by omega)
                · refine x_aload_n 205 0 (ab_dd tk_m_laysForce 107 rfl) rfl rfl rfl ?_
                  refine t_getP 208 133 (ab_dd tk_m_laysForce 108 rfl) rfl F_m_56 (by decide) (Nat.lt_of_lt_of_le (by decide) hm1.1) (hm1.2.1 0 (by decide)) rfl (hm1.2.2 28 (by decide)) ?_
                  refine x_iload 210 4 (ab_dd tk_m_laysForce 109 rfl) rfl rfl ?_
                  refine x_iload 212 5 (ab_dd tk_m_laysForce 110 rfl) rfl rfl ?_
                  refine t_iast 213 k (ab_dd tk_m_laysForce 111 rfl) rfl (by decide) (Nat.lt_of_lt_of_le (by decide) hm1.1) (hm1.2.1 13 (by decide)) rfl (by omega) (by decide) ?_
                  refine x_iconst 214 1 (ab_dd tk_m_laysForce 112 rfl) rfl (by decide) (x_topn 1 rfl ?_)
                  refine x_istore_n 215 [some (.ref 120), some (.int (nI r)), some (.int (nI h)), some (.int (nI 1)), some (.int (nI k)), some (.int (nI (oA (gI a N) f k 4 0 0))), none] 3 (ab_dd tk_m_laysForce 113 rfl) rfl rfl (by decide) rfl ?_
                  refine xn_iinc 218 4 (fun y => [some (.ref 120), some (.int (nI r)), some (.int (nI h)), some (.int (nI 1)), some (.int y), some (.int (nI (oA (gI a N) f k 4 0 0))), none]) (k + 1) (ab_dd tk_m_laysForce 114 rfl) rfl (by decide) rfl (fun _ => rfl) (iinc_p 1) ?_
                  refine x_goto 70 (ab_dd tk_m_laysForce 115 rfl) (by decide) ?_
                  refine x_forget 5 (ih (k + 1) (by omega) _ f (up1 e k (oA (gI a N) f k 4 0 0)) 1 hm1 hA1 (hE1.pI (by decide)) (fEq.pI hF1 (Or.inl (by decide))) hgr hf he.up (fI_h hgN hg0 hI hkN h177) (Or.inl ⟨rfl, ?_⟩))
                  have := sumF_up (f := e) (k := k) (x := oA (gI a N) f k 4 0 0) N hkN
                  rcases hb with hb | hb <;> omega
              · refine x_iconst 181 0 (ab_dd tk_m_laysForce 95 rfl) rfl (by decide) (x_topn 0 rfl ?_)
                refine x_goto 190 (ab_dd tk_m_laysForce 96 rfl) (by decide) ?_
                refine x_istore 192 [some (.ref 120), some (.int (nI r)), some (.int (nI h)), some (.int (nI b)), some (.int (nI k)), some (.int (nI 0)), none] 5 (ab_dd tk_m_laysForce 100 rfl) rfl (by decide) rfl ?_
                refine x_iload 194 5 (ab_dd tk_m_laysForce 101 rfl) rfl rfl ?_
                refine x_aload_n 195 0 (ab_dd tk_m_laysForce 102 rfl) rfl rfl rfl ?_
                refine t_getP 198 133 (ab_dd tk_m_laysForce 103 rfl) rfl F_m_56 (by decide) (Nat.lt_of_lt_of_le (by decide) hm1.1) (hm1.2.1 0 (by decide)) rfl (hm1.2.2 28 (by decide)) ?_
                refine x_iload 200 4 (ab_dd tk_m_laysForce 104 rfl) rfl rfl ?_
                refine t_iald 201 k (ab_dd tk_m_laysForce 105 rfl) rfl (by decide) (Nat.lt_of_lt_of_le (by decide) hm1.1) (hm1.2.1 13 (by decide)) rfl (by omega) (by decide) (x_topn (e k) hek ?_)
                refine xn_icmp_ge 204 215 (ab_dd tk_m_laysForce 106 rfl) rfl (by decide) (by omega) (by omega) (fun h201 => ?_) (fun h201 => ?_)
                · refine xn_iinc 218 4 (fun y => [some (.ref 120), some (.int (nI r)), some (.int (nI h)), some (.int (nI b)), some (.int y), some (.int (nI 0)), none]) (k + 1) (ab_dd tk_m_laysForce 114 rfl) rfl (by decide) rfl (fun _ => rfl) (iinc_p 1) ?_
                  refine x_goto 70 (ab_dd tk_m_laysForce 115 rfl) (by decide) ?_
                  refine x_forget 5 (ih (k + 1) (by omega) S1 f e b hm1 hA1 hE1 hF1 hgr hf he hI (hb.imp id (fun z => ⟨z.1, z.2.1, fun i hi => ?_⟩)))
                  by_cases q : i = k
                  · rw [q]; exact ⟨z.2.2.2, Or.inl h177⟩
                  · exact z.2.2.1 i (by omega)
                · refine x_aload_n 205 0 (ab_dd tk_m_laysForce 107 rfl) rfl rfl rfl ?_
                  refine t_getP 208 133 (ab_dd tk_m_laysForce 108 rfl) rfl F_m_56 (by decide) (Nat.lt_of_lt_of_le (by decide) hm1.1) (hm1.2.1 0 (by decide)) rfl (hm1.2.2 28 (by decide)) ?_
                  refine x_iload 210 4 (ab_dd tk_m_laysForce 109 rfl) rfl rfl ?_
                  refine x_iload 212 5 (ab_dd tk_m_laysForce 110 rfl) rfl rfl ?_
                  refine t_iast 213 k (ab_dd tk_m_laysForce 111 rfl) rfl (by decide) (Nat.lt_of_lt_of_le (by decide) hm1.1) (hm1.2.1 13 (by decide)) rfl (by omega) (by decide) ?_
                  refine x_iconst 214 1 (ab_dd tk_m_laysForce 112 rfl) rfl (by decide) (x_topn 1 rfl ?_)
                  refine x_istore_n 215 [some (.ref 120), some (.int (nI r)), some (.int (nI h)), some (.int (nI 1)), some (.int (nI k)), some (.int (nI 0)), none] 3 (ab_dd tk_m_laysForce 113 rfl) rfl rfl (by decide) rfl ?_
                  refine xn_iinc 218 4 (fun y => [some (.ref 120), some (.int (nI r)), some (.int (nI h)), some (.int (nI 1)), some (.int y), some (.int (nI 0)), none]) (k + 1) (ab_dd tk_m_laysForce 114 rfl) rfl (by decide) rfl (fun _ => rfl) (iinc_p 1) ?_
                  refine x_goto 70 (ab_dd tk_m_laysForce 115 rfl) (by decide) ?_
                  exact absurd h201 (by omega)
            have hfk := hf k hkN
            have hfl := (hI k hkN).1
            rw [hF] at hfl
            by_cases z0 : f k = 0
            · refine x_iload 72 4 (ab_dd tk_m_laysForce 41 rfl) rfl rfl ?_
              refine x_aload_n 73 0 (ab_dd tk_m_laysForce 42 rfl) rfl rfl rfl ?_
              refine t_getI 76 (ab_dd tk_m_laysForce 43 rfl) rfl F_m_368 (by decide) (Nat.lt_of_lt_of_le (by decide) hm1.1) (hm1.2.1 0 (by decide)) rfl (x_topn N hgr.2.2.2.1 ?_)
              refine x_icmp_ge_f 79 (ab_dd tk_m_laysForce 44 rfl) rfl 221 (by decide) (fun z => absurd ((nI_leI (a := N) (b := k) (by omega) (by omega)).mp z) (show ¬ (N ≤ k) by omega)) ?_
              refine x_ldcw 82 (ab_dd tk_m_laysForce 45 rfl) rfl C_m_374 (x_topn 268435456 rfl ?_)
              refine x_istore 84 [some (.ref 120), some (.int (nI r)), some (.int (nI h)), some (.int (nI b)), some (.int (nI k)), some (.int (nI 268435456)), none] 5 (ab_dd tk_m_laysForce 46 rfl) rfl (by decide) rfl ?_
              refine x_iconst 85 0 (ab_dd tk_m_laysForce 47 rfl) rfl (by decide) (x_topn 0 rfl ?_)
              refine x_istore 87 [some (.ref 120), some (.int (nI r)), some (.int (nI h)), some (.int (nI b)), some (.int (nI k)), some (.int (nI 268435456)), some (.int (nI 0))] 6 (ab_dd tk_m_laysForce 48 rfl) rfl (by decide) rfl ?_
              refine x_iload 89 6 (ab_dd tk_m_laysForce 49 rfl) rfl rfl ?_
              refine x_iconst 90 4 (ab_dd tk_m_laysForce 50 rfl) rfl (by decide) (x_topn 4 rfl ?_)
              refine x_icmp_ge_f 93 (ab_dd tk_m_laysForce 51 rfl) rfl 137 (by decide) (fun z => absurd ((nI_leI (a := 4) (b := 0) (by omega) (by omega)).mp z) (show ¬ (4 ≤ 0) by omega)) ?_
              refine x_aload_n 94 0 (ab_dd tk_m_laysForce 52 rfl) rfl rfl rfl ?_
              refine t_getP 97 132 (ab_dd tk_m_laysForce 53 rfl) rfl F_m_53 (by decide) (Nat.lt_of_lt_of_le (by decide) hm1.1) (hm1.2.1 0 (by decide)) rfl (hm1.2.2 27 (by decide)) ?_
              refine x_iload 99 4 (ab_dd tk_m_laysForce 54 rfl) rfl rfl ?_
              refine t_iald 100 k (ab_dd tk_m_laysForce 55 rfl) rfl (by decide) (Nat.lt_of_lt_of_le (by decide) hm1.1) (hm1.2.1 12 (by decide)) rfl (by omega) (by decide) (x_topn (f k) hfk ?_)
              refine x_if_le_t 137 (ab_dd tk_m_laysForce 56 rfl) (by decide) ((nI_leI (a := (f k)) (b := 0) (by omega) (by omega)).mpr (show (f k) ≤ 0 by omega)) ?_
              refine x_aload_n 138 0 (ab_dd tk_m_laysForce 72 rfl) rfl rfl rfl ?_
              refine t_getP 141 132 (ab_dd tk_m_laysForce 73 rfl) rfl F_m_53 (by decide) (Nat.lt_of_lt_of_le (by decide) hm1.1) (hm1.2.1 0 (by decide)) rfl (hm1.2.2 27 (by decide)) ?_
              refine x_iload 143 4 (ab_dd tk_m_laysForce 74 rfl) rfl rfl ?_
              refine t_iald 144 k (ab_dd tk_m_laysForce 75 rfl) rfl (by decide) (Nat.lt_of_lt_of_le (by decide) hm1.1) (hm1.2.1 12 (by decide)) rfl (by omega) (by decide) (x_topn (f k) hfk ?_)
              refine x_if_le_t 170 (ab_dd tk_m_laysForce 76 rfl) (by decide) ((nI_leI (a := (f k)) (b := 0) (by omega) (by omega)).mpr (show (f k) ≤ 0 by omega)) ?_
              exact half S1 f b _ _ hm1 hA1 hE1 hF1 hgr hf he hI (hb.imp id (fun z => ⟨z.1, z.2.1, z.2.2, Or.inl z0⟩))
            · have deeds : ∀ (q d : Nat), d + q = 4 → ab_Ex G 6 M_m_laysForce 87 [some (.ref 120), some (.int (nI r)), some (.int (nI h)), some (.int (nI b)), some (.int (nI k)), some (.int (nI (mnB (gI a N) e k d))), some (.int (nI d))] [] (sw S1) (fun v w' => ∃ S' N f e, w' = sw S' ∧ mSh S' ∧ mA S' = a ∧ sEq [120, 125, 126, 129, 130, 131, 132, 133] S S' ∧ fEq S S' ∧ mGr S' a N ∧ fAr S' 132 f N ∧ fAr S' 133 e N ∧ fI (gI a N) (gV a N r h) f e N ∧ (∀ i, i < N → fSt (gI a N) f e i) ∧ v = some (.int (nI (f 0)))) := by
                intro q
                induction q with
                | zero =>
                  intro d hd
                  obtain rfl : d = 4 := by omega
                  obtain ⟨m1, m2, m3⟩ := mnB_ok (g := (gI a N)) (h := e) (i := k) 4
                  rw [hF] at m3
                  refine x_iload 89 6 (ab_dd tk_m_laysForce 49 rfl) rfl rfl ?_
                  refine x_iconst 90 4 (ab_dd tk_m_laysForce 50 rfl) rfl (by decide) (x_topn 4 rfl ?_)
                  refine x_icmp_ge_t 137 (ab_dd tk_m_laysForce 51 rfl) (by decide) ((nI_leI (a := 4) (b := 4) (by omega) (by omega)).mpr (show 4 ≤ 4 by omega)) ?_
                  refine x_aload_n 138 0 (ab_dd tk_m_laysForce 72 rfl) rfl rfl rfl ?_
                  refine t_getP 141 132 (ab_dd tk_m_laysForce 73 rfl) rfl F_m_53 (by decide) (Nat.lt_of_lt_of_le (by decide) hm1.1) (hm1.2.1 0 (by decide)) rfl (hm1.2.2 27 (by decide)) ?_
                  refine x_iload 143 4 (ab_dd tk_m_laysForce 74 rfl) rfl rfl ?_
                  refine t_iald 144 k (ab_dd tk_m_laysForce 75 rfl) rfl (by decide) (Nat.lt_of_lt_of_le (by decide) hm1.1) (hm1.2.1 12 (by decide)) rfl (by omega) (by decide) (x_topn (f k) hfk ?_)
                  refine x_if_le_f 147 (ab_dd tk_m_laysForce 76 rfl) rfl 170 (by decide) (fun z => absurd ((nI_leI (a := (f k)) (b := 0) (by omega) (by omega)).mp z) (show ¬ ((f k) ≤ 0) by omega)) ?_
                  refine x_iload 149 5 (ab_dd tk_m_laysForce 77 rfl) rfl rfl ?_
                  refine x_aload_n 150 0 (ab_dd tk_m_laysForce 78 rfl) rfl rfl rfl ?_
                  refine t_getP 153 132 (ab_dd tk_m_laysForce 79 rfl) rfl F_m_53 (by decide) (Nat.lt_of_lt_of_le (by decide) hm1.1) (hm1.2.1 0 (by decide)) rfl (hm1.2.2 27 (by decide)) ?_
                  refine x_iload 155 4 (ab_dd tk_m_laysForce 80 rfl) rfl rfl ?_
                  refine t_iald 156 k (ab_dd tk_m_laysForce 81 rfl) rfl (by decide) (Nat.lt_of_lt_of_le (by decide) hm1.1) (hm1.2.1 12 (by decide)) rfl (by omega) (by decide) (x_topn (f k) hfk ?_)
                  refine xn_icmp_ge 159 170 (ab_dd tk_m_laysForce 82 rfl) rfl (by decide) (by omega) (by omega) (fun h156 => ?_) (fun h156 => ?_)
                  · exact half S1 f b _ _ hm1 hA1 hE1 hF1 hgr hf he hI (hb.imp id (fun z => ⟨z.1, z.2.1, z.2.2, Or.inr (fun d hd => Nat.le_trans h156 (m1 d hd))⟩))
                  · refine x_aload_n 160 0 (ab_dd tk_m_laysForce 83 rfl) rfl rfl rfl ?_
                    refine t_getP 163 132 (ab_dd tk_m_laysForce 84 rfl) rfl F_m_53 (by decide) (Nat.lt_of_lt_of_le (by decide) hm1.1) (hm1.2.1 0 (by decide)) rfl (hm1.2.2 27 (by decide)) ?_
                    refine x_iload 165 4 (ab_dd tk_m_laysForce 85 rfl) rfl rfl ?_
                    refine x_iload 167 5 (ab_dd tk_m_laysForce 86 rfl) rfl rfl ?_
                    refine t_iast 168 k (ab_dd tk_m_laysForce 87 rfl) rfl (by decide) (Nat.lt_of_lt_of_le (by decide) hm1.1) (hm1.2.1 12 (by decide)) rfl (by omega) (by decide) ?_
                    refine x_iconst 169 1 (ab_dd tk_m_laysForce 88 rfl) rfl (by decide) (x_topn 1 rfl ?_)
                    refine x_istore_n 170 [some (.ref 120), some (.int (nI r)), some (.int (nI h)), some (.int (nI 1)), some (.int (nI k)), some (.int (nI (mnB (gI a N) e k 4))), some (.int (nI 4))] 3 (ab_dd tk_m_laysForce 89 rfl) rfl rfl (by decide) rfl ?_
                    obtain ⟨d0, hd0, e0⟩ := m2.resolve_left (by omega)
                    refine half _ (up1 f k (mnB (gI a N) e k 4)) 1 _ _ hm1 hA1 (hE1.pI (by decide)) (fEq.pI hF1 (Or.inl (by decide))) hgr hf.up he (by rw [e0]; exact fI_f hgN hI hkN hd0 (by omega)) (Or.inl ⟨rfl, ?_⟩)
                    have := sumF_up (f := f) (k := k) (x := (mnB (gI a N) e k 4)) N hkN
                    rcases hb with hb | hb <;> omega
                | succ q ihq =>
                  intro d hd
                  have hJ := ihq (d + 1) (by omega)
                  have hfb := fB_le2 hgN (fun i hi => (hI i hi).2.1) hkN (show d < 4 by omega)
                  obtain ⟨m1, m2, m3⟩ := mnB_ok (g := (gI a N)) (h := e) (i := k) d
                  rw [hF] at m3 hfb
                  refine x_iload 89 6 (ab_dd tk_m_laysForce 49 rfl) rfl rfl ?_
                  refine x_iconst 90 4 (ab_dd tk_m_laysForce 50 rfl) rfl (by decide) (x_topn 4 rfl ?_)
                  refine x_icmp_ge_f 93 (ab_dd tk_m_laysForce 51 rfl) rfl 137 (by decide) (fun z => absurd ((nI_leI (a := 4) (b := d) (by omega) (by omega)).mp z) (show ¬ (4 ≤ d) by omega)) ?_
                  refine x_aload_n 94 0 (ab_dd tk_m_laysForce 52 rfl) rfl rfl rfl ?_
                  refine t_getP 97 132 (ab_dd tk_m_laysForce 53 rfl) rfl F_m_53 (by decide) (Nat.lt_of_lt_of_le (by decide) hm1.1) (hm1.2.1 0 (by decide)) rfl (hm1.2.2 27 (by decide)) ?_
                  refine x_iload 99 4 (ab_dd tk_m_laysForce 54 rfl) rfl rfl ?_
                  refine t_iald 100 k (ab_dd tk_m_laysForce 55 rfl) rfl (by decide) (Nat.lt_of_lt_of_le (by decide) hm1.1) (hm1.2.1 12 (by decide)) rfl (by omega) (by decide) (x_topn (f k) hfk ?_)
                  refine x_if_le_f 103 (ab_dd tk_m_laysForce 56 rfl) rfl 137 (by decide) (fun z => absurd ((nI_leI (a := (f k)) (b := 0) (by omega) (by omega)).mp z) (show ¬ ((f k) ≤ 0) by omega)) ?_
                  refine x_aload_n 104 0 (ab_dd tk_m_laysForce 57 rfl) rfl rfl rfl ?_
                  refine x_iload 106 4 (ab_dd tk_m_laysForce 58 rfl) rfl rfl ?_
                  refine x_iload 108 6 (ab_dd tk_m_laysForce 59 rfl) rfl rfl ?_
                  refine t_callV 111 M_m_firstBy 0 2 [_, _] (ab_dd tk_m_laysForce 60 rfl) rfl (by decide) K_m_firstBy V_m_firstBy.1 V_m_firstBy.2 L_m_433 rfl (Nat.le_of_ble_eq_true rfl) (by decide) (Nat.lt_of_lt_of_le (by decide) hm1.1) (hm1.2.1 0 (by decide)) rfl (c_m_firstBy (by exact hm1) (by exact hgr) (by exact he) (fun i hi => (hI i hi).2.1) k d hkN (by omega)) (fun v1 w1 h1 => ?_)
                  obtain ⟨rfl, rfl⟩ := h1
                  refine x_iload 113 5 (ab_dd tk_m_laysForce 61 rfl) rfl rfl ?_
                  refine xn_icmp_ge 116 127 (ab_dd tk_m_laysForce 62 rfl) rfl (by decide) (by omega) (by omega) (fun h113 => ?_) (fun h113 => ?_)
                  · refine x_iload 129 5 (ab_dd tk_m_laysForce 68 rfl) rfl rfl ?_
                    refine x_istore 131 [some (.ref 120), some (.int (nI r)), some (.int (nI h)), some (.int (nI b)), some (.int (nI k)), some (.int (nI (mnB (gI a N) e k d))), some (.int (nI d))] 5 (ab_dd tk_m_laysForce 69 rfl) rfl (by decide) rfl ?_
                    refine xn_iinc 134 6 (fun y => [some (.ref 120), some (.int (nI r)), some (.int (nI h)), some (.int (nI b)), some (.int (nI k)), some (.int (nI (mnB (gI a N) e k d))), some (.int y)]) (d + 1) (ab_dd tk_m_laysForce 70 rfl) rfl (by decide) rfl (fun _ => rfl) (iinc_p 1) ?_
                    refine x_goto 87 (ab_dd tk_m_laysForce 71 rfl) (by decide) ?_
                    rw [show mnB (gI a N) e k (d + 1) = _ from if_neg (by omega)] at hJ
                    exact hJ
                  · refine x_aload_n 117 0 (ab_dd tk_m_laysForce 63 rfl) rfl rfl rfl ?_
                    refine x_iload 119 4 (ab_dd tk_m_laysForce 64 rfl) rfl rfl ?_
                    refine x_iload 121 6 (ab_dd tk_m_laysForce 65 rfl) rfl rfl ?_
                    refine t_callV 124 M_m_firstBy 0 2 [_, _] (ab_dd tk_m_laysForce 66 rfl) rfl (by decide) K_m_firstBy V_m_firstBy.1 V_m_firstBy.2 L_m_433 rfl (Nat.le_of_ble_eq_true rfl) (by decide) (Nat.lt_of_lt_of_le (by decide) hm1.1) (hm1.2.1 0 (by decide)) rfl (c_m_firstBy (by exact hm1) (by exact hgr) (by exact he) (fun i hi => (hI i hi).2.1) k d hkN (by omega)) (fun v1 w1 h1 => ?_)
                    obtain ⟨rfl, rfl⟩ := h1
                    refine x_goto 129 (ab_dd tk_m_laysForce 67 rfl) (by decide) ?_
                    refine x_istore 131 [some (.ref 120), some (.int (nI r)), some (.int (nI h)), some (.int (nI b)), some (.int (nI k)), some (.int (nI (fB (gI a N) e k d))), some (.int (nI d))] 5 (ab_dd tk_m_laysForce 69 rfl) rfl (by decide) rfl ?_
                    refine xn_iinc 134 6 (fun y => [some (.ref 120), some (.int (nI r)), some (.int (nI h)), some (.int (nI b)), some (.int (nI k)), some (.int (nI (fB (gI a N) e k d))), some (.int y)]) (d + 1) (ab_dd tk_m_laysForce 70 rfl) rfl (by decide) rfl (fun _ => rfl) (iinc_p 1) ?_
                    refine x_goto 87 (ab_dd tk_m_laysForce 71 rfl) (by decide) ?_
                    rw [show mnB (gI a N) e k (d + 1) = _ from if_pos h113] at hJ
                    exact hJ
              refine x_iload 72 4 (ab_dd tk_m_laysForce 41 rfl) rfl rfl ?_
              refine x_aload_n 73 0 (ab_dd tk_m_laysForce 42 rfl) rfl rfl rfl ?_
              refine t_getI 76 (ab_dd tk_m_laysForce 43 rfl) rfl F_m_368 (by decide) (Nat.lt_of_lt_of_le (by decide) hm1.1) (hm1.2.1 0 (by decide)) rfl (x_topn N hgr.2.2.2.1 ?_)
              refine x_icmp_ge_f 79 (ab_dd tk_m_laysForce 44 rfl) rfl 221 (by decide) (fun z => absurd ((nI_leI (a := N) (b := k) (by omega) (by omega)).mp z) (show ¬ (N ≤ k) by omega)) ?_
              refine x_ldcw 82 (ab_dd tk_m_laysForce 45 rfl) rfl C_m_374 (x_topn 268435456 rfl ?_)
              refine x_istore 84 [some (.ref 120), some (.int (nI r)), some (.int (nI h)), some (.int (nI b)), some (.int (nI k)), some (.int (nI 268435456)), none] 5 (ab_dd tk_m_laysForce 46 rfl) rfl (by decide) rfl ?_
              refine x_iconst 85 0 (ab_dd tk_m_laysForce 47 rfl) rfl (by decide) (x_topn 0 rfl ?_)
              refine x_istore 87 [some (.ref 120), some (.int (nI r)), some (.int (nI h)), some (.int (nI b)), some (.int (nI k)), some (.int (nI 268435456)), some (.int (nI 0))] 6 (ab_dd tk_m_laysForce 48 rfl) rfl (by decide) rfl ?_
              exact deeds 4 0 rfl
        refine x_iconst 66 0 (ab_dd tk_m_laysForce 37 rfl) rfl (by decide) (x_topn 0 rfl ?_)
        refine x_istore_n 67 [some (.ref 120), some (.int (nI r)), some (.int (nI h)), some (.int (nI 0)), none, none, none] 3 (ab_dd tk_m_laysForce 38 rfl) rfl rfl (by decide) rfl ?_
        refine x_iconst 68 0 (ab_dd tk_m_laysForce 39 rfl) rfl (by decide) (x_topn 0 rfl ?_)
        refine x_istore 70 [some (.ref 120), some (.int (nI r)), some (.int (nI h)), some (.int (nI 0)), some (.int (nI 0)), none, none] 4 (ab_dd tk_m_laysForce 40 rfl) rfl (by decide) rfl ?_
        exact nodes N 0 (by omega) S1 f e 0 hm1 hA1 hE1 hF1 hgr hf he hI (Or.inr ⟨rfl, hu, fun i hi => absurd hi (by omega)⟩)
    have fill : ∀ (m k : Nat), k + m = N → ∀ S1, mSh S1 → mA S1 = a → sEq [120, 125, 126, 129, 130, 131, 132, 133] S S1 → fEq S S1 → mGr S1 a N → (∀ i, i < k → sI S1 132 i = nI ((fun i => if h ≤ mWa (gC a N i) r then 0 else gFAR) i)) → (∀ i, i < k → sI S1 133 i = nI ((fun i => if h ≤ mWa (gC a N i) r then 0 else gFAR) i)) → ab_Ex G 6 M_m_laysForce 6 [some (.ref 120), some (.int (nI r)), some (.int (nI h)), some (.int (nI k)), none, none, none] [] (sw S1) (fun v w' => ∃ S' N f e, w' = sw S' ∧ mSh S' ∧ mA S' = a ∧ sEq [120, 125, 126, 129, 130, 131, 132, 133] S S' ∧ fEq S S' ∧ mGr S' a N ∧ fAr S' 132 f N ∧ fAr S' 133 e N ∧ fI (gI a N) (gV a N r h) f e N ∧ (∀ i, i < N → fSt (gI a N) f e i) ∧ v = some (.int (nI (f 0)))) := by
      intro m
      induction m with
      | zero =>
        intro k hk S1 hm1 hA1 hE1 hF1 hgr h1 h2
        obtain rfl : k = N := by omega
        refine x_iload_n 7 3 (ab_dd tk_m_laysForce 4 rfl) rfl rfl rfl ?_
        refine x_aload_n 8 0 (ab_dd tk_m_laysForce 5 rfl) rfl rfl rfl ?_
        refine t_getI 11 (ab_dd tk_m_laysForce 6 rfl) rfl F_m_368 (by decide) (Nat.lt_of_lt_of_le (by decide) hm1.1) (hm1.2.1 0 (by decide)) rfl (x_topn k hgr.2.2.2.1 ?_)
        refine x_icmp_ge_t 59 (ab_dd tk_m_laysForce 7 rfl) (by decide) ((nI_leI (a := k) (b := k) (by omega) (by omega)).mpr (show k ≤ k by omega)) ?_
        refine x_iconst 60 1 (ab_dd tk_m_laysForce 33 rfl) rfl (by decide) (x_topn 1 rfl ?_)
        refine x_istore_n 61 [some (.ref 120), some (.int (nI r)), some (.int (nI h)), some (.int (nI 1)), none, none, none] 3 (ab_dd tk_m_laysForce 34 rfl) rfl rfl (by decide) rfl ?_
        refine x_iload_n 62 3 (ab_dd tk_m_laysForce 35 rfl) rfl rfl rfl ?_
        refine x_if_eq_f 65 (ab_dd tk_m_laysForce 36 rfl) rfl 224 (by decide) (by decide) ?_
        refine x_forget 3 (main _ S1 (fun i => if h ≤ mWa (gC a k i) r then 0 else gFAR) (fun i => if h ≤ mWa (gC a k i) r then 0 else gFAR) rfl hm1 hA1 hE1 hF1 hgr h1 h2 (fun i hi => ?_))
        show (if h ≤ mWa (gC a k i) r then 0 else gFAR) ≤ gFAR ∧ (if h ≤ mWa (gC a k i) r then 0 else gFAR) ≤ gFAR ∧ (gV a k r h i → (if h ≤ mWa (gC a k i) r then 0 else gFAR) = 0 ∧ (if h ≤ mWa (gC a k i) r then 0 else gFAR) = 0) ∧ ((if h ≤ mWa (gC a k i) r then 0 else gFAR) < gFAR → fw (gI a k) (gV a k r h) (if h ≤ mWa (gC a k i) r then 0 else gFAR) true i) ∧ ((if h ≤ mWa (gC a k i) r then 0 else gFAR) < gFAR → fw (gI a k) (gV a k r h) (if h ≤ mWa (gC a k i) r then 0 else gFAR) false i)
        by_cases z : h ≤ mWa (gC a k i) r
        · rw [if_pos z]
          exact ⟨by decide, by decide, fun _ => ⟨rfl, rfl⟩, fun _ => z, fun _ => z⟩
        · rw [if_neg z]
          exact ⟨Nat.le_refl _, Nat.le_refl _, fun y => absurd y z, fun y => absurd y (Nat.lt_irrefl _), fun y => absurd y (Nat.lt_irrefl _)⟩
      | succ m ih =>
        intro k hk S1 hm1 hA1 hE1 hF1 hgr h1 h2
        have hlt := (gC_ok ha hgr.1 (show k < N by omega)).1
        have hw5 := mWa_lt (gC a N k) r
        refine x_iload_n 7 3 (ab_dd tk_m_laysForce 4 rfl) rfl rfl rfl ?_
        refine x_aload_n 8 0 (ab_dd tk_m_laysForce 5 rfl) rfl rfl rfl ?_
        refine t_getI 11 (ab_dd tk_m_laysForce 6 rfl) rfl F_m_368 (by decide) (Nat.lt_of_lt_of_le (by decide) hm1.1) (hm1.2.1 0 (by decide)) rfl (x_topn N hgr.2.2.2.1 ?_)
        refine x_icmp_ge_f 14 (ab_dd tk_m_laysForce 7 rfl) rfl 59 (by decide) (fun z => absurd ((nI_leI (a := N) (b := k) (by omega) (by omega)).mp z) (show ¬ (N ≤ k) by omega)) ?_
        refine x_aload_n 15 0 (ab_dd tk_m_laysForce 8 rfl) rfl rfl rfl ?_
        refine t_getP 18 132 (ab_dd tk_m_laysForce 9 rfl) rfl F_m_53 (by decide) (Nat.lt_of_lt_of_le (by decide) hm1.1) (hm1.2.1 0 (by decide)) rfl (hm1.2.2 27 (by decide)) ?_
        refine x_iload_n 19 3 (ab_dd tk_m_laysForce 10 rfl) rfl rfl rfl ?_
        refine x_aload_n 20 0 (ab_dd tk_m_laysForce 11 rfl) rfl rfl rfl ?_
        refine t_getP 23 130 (ab_dd tk_m_laysForce 12 rfl) rfl F_m_46 (by decide) (Nat.lt_of_lt_of_le (by decide) hm1.1) (hm1.2.1 0 (by decide)) rfl (hm1.2.2 25 (by decide)) ?_
        refine x_iload_n 24 3 (ab_dd tk_m_laysForce 13 rfl) rfl rfl rfl ?_
        refine t_iald 25 k (ab_dd tk_m_laysForce 14 rfl) rfl (by decide) (Nat.lt_of_lt_of_le (by decide) hm1.1) (hm1.2.1 10 (by decide)) rfl (by omega) (by decide) (x_topn (gC a N k) (hgr.2.2.2.2.1 k (by omega)) ?_)
        refine x_iload_n 26 1 (ab_dd tk_m_laysForce 15 rfl) rfl rfl rfl ?_
        refine x_callS 29 M_m_warmthIn 1 2 [_, _] (ab_dd tk_m_laysForce 16 rfl) rfl (by decide) K_m_warmthIn T_m_warmthIn L_m_228 rfl (Nat.le_of_ble_eq_true rfl) (w_warmthIn _ (gC a N k) r hlt hr4) (fun v1 w1 h1 => ?_)
        obtain ⟨rfl, rfl⟩ := h1
        refine x_iload_n 30 2 (ab_dd tk_m_laysForce 17 rfl) rfl rfl rfl ?_
        refine xn_icmp_lt 33 37 (ab_dd tk_m_laysForce 18 rfl) rfl (by decide) (by omega) (by omega) (fun h30 => ?_) (fun h30 => ?_)
        · refine x_ldcw 40 (ab_dd tk_m_laysForce 21 rfl) rfl C_m_374 (x_topn 268435456 rfl ?_)
          refine t_iast 41 k (ab_dd tk_m_laysForce 22 rfl) rfl (by decide) (Nat.lt_of_lt_of_le (by decide) hm1.1) (hm1.2.1 12 (by decide)) rfl (by omega) (by decide) ?_
          refine x_aload_n 42 0 (ab_dd tk_m_laysForce 23 rfl) rfl rfl rfl ?_
          refine t_getP 45 133 (ab_dd tk_m_laysForce 24 rfl) rfl F_m_56 (by decide) (Nat.lt_of_lt_of_le (by decide) hm1.1) (hm1.2.1 0 (by decide)) rfl (hm1.2.2 28 (by decide)) ?_
          refine x_iload_n 46 3 (ab_dd tk_m_laysForce 25 rfl) rfl rfl rfl ?_
          refine x_aload_n 47 0 (ab_dd tk_m_laysForce 26 rfl) rfl rfl rfl ?_
          refine t_getP 50 132 (ab_dd tk_m_laysForce 27 rfl) rfl F_m_53 (by decide) (Nat.lt_of_lt_of_le (by decide) hm1.1) (hm1.2.1 0 (by decide)) rfl (hm1.2.2 27 (by decide)) ?_
          refine x_iload_n 51 3 (ab_dd tk_m_laysForce 28 rfl) rfl rfl rfl ?_
          refine t_iald 52 k (ab_dd tk_m_laysForce 29 rfl) rfl (by decide) (Nat.lt_of_lt_of_le (by decide) hm1.1) (hm1.2.1 12 (by decide)) rfl (by omega) (by decide) (x_topn 268435456 (show up2 (sI S1) 132 k (nI 268435456) 132 k = _ from up2_s) ?_)
          refine t_iast 53 k (ab_dd tk_m_laysForce 30 rfl) rfl (by decide) (Nat.lt_of_lt_of_le (by decide) hm1.1) (hm1.2.1 13 (by decide)) rfl (by omega) (by decide) ?_
          refine xn_iinc 56 3 (fun y => [some (.ref 120), some (.int (nI r)), some (.int (nI h)), some (.int y), none, none, none]) (k + 1) (ab_dd tk_m_laysForce 31 rfl) rfl (by decide) rfl (fun _ => rfl) (iinc_p 1) ?_
          refine x_goto 6 (ab_dd tk_m_laysForce 32 rfl) (by decide) ?_
          refine ih (k + 1) (by omega) _ hm1 hA1 ((hE1.pI (by decide)).pI (by decide)) (fEq.pI (fEq.pI hF1 (Or.inl (by decide))) (Or.inl (by decide))) hgr (fun i hi => ?_) (fun i hi => ?_)
          · show up2 (up2 (sI S1) 132 k (nI 268435456)) 133 k (nI 268435456) 132 i = _
            rw [up2_a (by decide)]
            by_cases q : i = k
            · rw [q, up2_s]; exact congrArg nI (if_neg (show ¬ (h ≤ mWa (gC a N k) r) by omega)).symm
            · rw [up2_k q]; exact h1 i (by omega)
          · show up2 (up2 (sI S1) 132 k (nI 268435456)) 133 k (nI 268435456) 133 i = _
            by_cases q : i = k
            · rw [q, up2_s]; exact congrArg nI (if_neg (show ¬ (h ≤ mWa (gC a N k) r) by omega)).symm
            · rw [up2_k q, up2_a (by decide)]; exact h2 i (by omega)
        · refine x_iconst 34 0 (ab_dd tk_m_laysForce 19 rfl) rfl (by decide) (x_topn 0 rfl ?_)
          refine x_goto 40 (ab_dd tk_m_laysForce 20 rfl) (by decide) ?_
          refine t_iast 41 k (ab_dd tk_m_laysForce 22 rfl) rfl (by decide) (Nat.lt_of_lt_of_le (by decide) hm1.1) (hm1.2.1 12 (by decide)) rfl (by omega) (by decide) ?_
          refine x_aload_n 42 0 (ab_dd tk_m_laysForce 23 rfl) rfl rfl rfl ?_
          refine t_getP 45 133 (ab_dd tk_m_laysForce 24 rfl) rfl F_m_56 (by decide) (Nat.lt_of_lt_of_le (by decide) hm1.1) (hm1.2.1 0 (by decide)) rfl (hm1.2.2 28 (by decide)) ?_
          refine x_iload_n 46 3 (ab_dd tk_m_laysForce 25 rfl) rfl rfl rfl ?_
          refine x_aload_n 47 0 (ab_dd tk_m_laysForce 26 rfl) rfl rfl rfl ?_
          refine t_getP 50 132 (ab_dd tk_m_laysForce 27 rfl) rfl F_m_53 (by decide) (Nat.lt_of_lt_of_le (by decide) hm1.1) (hm1.2.1 0 (by decide)) rfl (hm1.2.2 27 (by decide)) ?_
          refine x_iload_n 51 3 (ab_dd tk_m_laysForce 28 rfl) rfl rfl rfl ?_
          refine t_iald 52 k (ab_dd tk_m_laysForce 29 rfl) rfl (by decide) (Nat.lt_of_lt_of_le (by decide) hm1.1) (hm1.2.1 12 (by decide)) rfl (by omega) (by decide) (x_topn 0 (show up2 (sI S1) 132 k (nI 0) 132 k = _ from up2_s) ?_)
          refine t_iast 53 k (ab_dd tk_m_laysForce 30 rfl) rfl (by decide) (Nat.lt_of_lt_of_le (by decide) hm1.1) (hm1.2.1 13 (by decide)) rfl (by omega) (by decide) ?_
          refine xn_iinc 56 3 (fun y => [some (.ref 120), some (.int (nI r)), some (.int (nI h)), some (.int y), none, none, none]) (k + 1) (ab_dd tk_m_laysForce 31 rfl) rfl (by decide) rfl (fun _ => rfl) (iinc_p 1) ?_
          refine x_goto 6 (ab_dd tk_m_laysForce 32 rfl) (by decide) ?_
          refine ih (k + 1) (by omega) _ hm1 hA1 ((hE1.pI (by decide)).pI (by decide)) (fEq.pI (fEq.pI hF1 (Or.inl (by decide))) (Or.inl (by decide))) hgr (fun i hi => ?_) (fun i hi => ?_)
          · show up2 (up2 (sI S1) 132 k (nI 0)) 133 k (nI 0) 132 i = _
            rw [up2_a (by decide)]
            by_cases q : i = k
            · rw [q, up2_s]; exact congrArg nI (if_pos h30).symm
            · rw [up2_k q]; exact h1 i (by omega)
          · show up2 (up2 (sI S1) 132 k (nI 0)) 133 k (nI 0) 133 i = _
            by_cases q : i = k
            · rw [q, up2_s]; exact congrArg nI (if_pos h30).symm
            · rw [up2_k q, up2_a (by decide)]; exact h2 i (by omega)
    exact fill N 0 (by omega) S0 hm0 hA0 hE0 hF0 hgr0 (fun i hi => absurd hi (by omega)) (fun i hi => absurd hi (by omega))
  refine x_enter [some (.ref 120), some (.int (nI r)), some (.int (nI h)), none, none, none, none] (by decide) (Nat.le_of_ble_eq_true rfl) rfl (fun v w' h => by obtain ⟨S', N, f, e, -, -, -, -, -, -, -, -, -, -, rfl⟩ := h; rfl) ?_
  refine x_aload_n 1 0 (ab_dd tk_m_laysForce 0 rfl) rfl rfl rfl ?_
  refine t_callV 4 M_m_laysStands 5 0 [] (ab_dd tk_m_laysForce 1 rfl) rfl (by decide) K_m_laysStands V_m_laysStands.1 V_m_laysStands.2 L_m_375 rfl (Nat.le_of_ble_eq_true rfl) (by decide) (Nat.lt_of_lt_of_le (by decide) hm.1) (hm.2.1 0 (by decide)) rfl (c_m_laysStands (by exact hm) (by exact hA) ha) (fun v1 w1 h1 => ?_)
  obtain ⟨rfl, U1, N, rfl, um1, uA1, uE1, uF1, hbf⟩ := h1
  have hgr := hbf.gr
  refine x_iconst 5 0 (ab_dd tk_m_laysForce 2 rfl) rfl (by decide) (x_topn 0 rfl ?_)
  refine x_istore_n 6 [some (.ref 120), some (.int (nI r)), some (.int (nI h)), some (.int (nI 0)), none, none, none] 3 (ab_dd tk_m_laysForce 3 rfl) rfl rfl (by decide) rfl ?_
  exact go N _ um1 uA1 ((sEq.rf (l := [120, 125, 126, 129, 130, 131, 132, 133])).tr (uE1.mono (by decide))) (fEq.t2 uF1 (by exact (fEq.rf (S := S)))) hgr
end
