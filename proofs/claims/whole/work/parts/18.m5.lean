/-! ===== a law reckoned on a pile ===== -/
theorem x_forget {G : ab_G} {d : Nat} {M : ab_M} {pc : Nat} {ls : ab_L} {st : List Value} {w : ab_H} {Q : Option Value → ab_H → Prop} (i : Nat) (h : ab_Ex G d M pc (ls.set i none) st w Q) : ab_Ex G d M pc ls st w Q := by
  obtain ⟨v, w', ⟨g1, g2, g3, g⟩, q⟩ := h
  refine ⟨v, w', ⟨g1, g2, g3, fun R p e s m args below meth c w0 Q C hd hl hc hs h1 h2 hend H locs lc hR hS hlv => g R p e s m args below meth c w0 Q C hd hl hc hs h1 h2 hend H locs lc hR hS (lv_weak hlv ?_)⟩, q⟩
  rintro ⟨j, u⟩ hq
  obtain ⟨x, hx, rfl⟩ := ab_mem_lv.mp hq
  refine ab_mem_lv.mpr ⟨x, ?_, rfl⟩
  by_cases hj : j = i
  · subst hj
    rw [List.getElem?_set_self (by have := (List.getElem?_eq_some_iff.mp hx).1; rw [List.length_set] at this; exact this)] at hx
    cases hx
  · rw [List.getElem?_set_ne (Ne.symm hj)] at hx
    exact hx
/-- one code of a law on a pile of height st.1 -/
def lwS (wd : Nat → Int32) (k : Int32) (st : Nat × (Nat → Int32)) : Nat × (Nat → Int32) :=
  if k < 3000 then (st.1 + 1, upd st.2 st.1 (if k < 1000 then k else wd (cN (k - 1000))))
  else if k = 3006 then (st.1, upd st.2 (st.1 - 1) (1 - st.2 (st.1 - 1)))
  else if k = 3009 then (st.1 - 2, upd st.2 (st.1 - 3) (if st.2 (st.1 - 3) = 1 then st.2 (st.1 - 2) else st.2 (st.1 - 1)))
  else (st.1 - 1, upd st.2 (st.1 - 2) (lwB k (st.2 (st.1 - 2)) (st.2 (st.1 - 1))))
def lwE (wd cd : Nat → Int32) : Nat → Nat × (Nat → Int32) → Nat × (Nat → Int32)
  | 0, st => st
  | j + 1, st => lwS wd (cd j) (lwE wd cd j st)
def lwK (k : Int32) (h : Nat) : Prop := if k < 3000 then k < 1009 else if k = 3006 then 1 ≤ h else if k = 3009 then 3 ≤ h else 2 ≤ h
theorem lwS_h (wd : Nat → Int32) (k : Int32) (st : Nat × (Nat → Int32)) : (lwS wd k st).1 ≤ st.1 + 1 := by
  unfold lwS
  split
  · exact Nat.le_refl _
  · split
    · show st.1 ≤ _; omega
    · split
      · show st.1 - 2 ≤ _; omega
      · show st.1 - 1 ≤ _; omega
theorem lwE_h (wd cd : Nat → Int32) (f : Nat → Int32) : ∀ j, (lwE wd cd j (0, f)).1 ≤ j
  | 0 => Nat.le_refl _
  | j + 1 => by
    have h1 := lwE_h wd cd f j
    have h2 := lwS_h wd (cd j) (lwE wd cd j (0, f))
    show (lwS wd (cd j) (lwE wd cd j (0, f))).1 ≤ _
    omega
/-- the words of a law, as the reference lays them -/
theorem fa_lt' (a b : Int32) : a < b ↔ a.toInt < b.toInt := Int32.lt_iff_toInt_lt
theorem fa_le' (a b : Int32) : a ≤ b ↔ a.toInt ≤ b.toInt := Int32.le_iff_toInt_le
theorem toInt_sub1000 {x : Int32} (h1 : (1000 : Int32).toInt ≤ x.toInt) (h2 : x.toInt < (1009 : Int32).toInt) : (x - 1000).toInt = x.toInt - 1000 := by
  have e1 : (1000 : Int32).toInt = 1000 := by decide
  have e2 : (1009 : Int32).toInt = 1009 := by decide
  rw [Int32.toInt_sub, e1, Int.bmod_eq_of_le (by omega) (by omega)]
theorem cN_nI {n : Nat} (h : n < 2 ^ 31) : cN (nI n) = n := nI_clamp h
theorem lw_word {k : Int32} (h1 : 1000 ≤ k) (h2 : k < 1009) : ∃ q, q < 9 ∧ k - 1000 = nI q := by
  have a1 := (fa_le' _ _).mp h1
  have a2 := (fa_lt' _ _).mp h2
  have e1 : (1000 : Int32).toInt = 1000 := by decide
  have e2 : (1009 : Int32).toInt = 1009 := by decide
  have e3 : (0 : Int32).toInt = 0 := by decide
  have e4 : (nI 9).toInt = 9 := by decide
  rcases pk_ix (k - 1000) (n := 9) (by decide) with hx | hx | hx
  · have a3 := (fa_lt' _ _).mp hx
    rw [toInt_sub1000 a1 a2] at a3
    omega
  · have a3 := (fa_le' _ _).mp hx
    rw [toInt_sub1000 a1 a2] at a3
    omega
  · exact hx
def mWd (S : ab_S) (r c : Nat) (seat1 month1 : Int32) : Nat → Int32 := fun i => if i = 0 then nI r else if i = 1 then mA S (28 + r) else if i = 2 then mA S (8 + r) else if i = 3 then nI (mWa c r) else if i = 4 then seat1 else if i = 5 then month1 else sI S 126 i
/-- the codes of a law: warms 0, may 1 -/
def mCd (S : ab_S) (l : Nat) : Nat → Int32 := fun j => mA S (184 + cN (mA S (4 + l)) + j)
def mCn (S : ab_S) (l : Nat) : Nat := cN (mA S (6 + l))
/-- the codes of a law lie in their row -/
def mLo (S : ab_S) (l : Nat) : Prop := mA S (4 + l) = nI (cN (mA S (4 + l))) ∧ mA S (6 + l) = nI (mCn S l) ∧ cN (mA S (4 + l)) + mCn S l ≤ 900
theorem nI_dec {h : Nat} (c : Int32) (j : Nat) (hc : c + nI j = 0) (hj : j ≤ h) : nI h + c = nI (h - j) := by
  have e : nI h = nI (h - j) + nI j := by rw [nI_add]; congr 1; omega
  rw [e, Int32.add_assoc, Int32.add_comm (nI j) c, hc, Int32.add_zero]
theorem upd_up2 {f : Nat → Nat → Int32} {a k : Nat} {x : Int32} : up2 f a k x a = upd (f a) k x := by
  funext j
  simp [up2, upd]
def tb_m_reckons : List (Nat × Instr × Nat) := [(0, .aload_n 0, 1), (1, .getfield 33, 3), (4, .iconst 0, 1), (5, .iload_n 3, 1), (6, .iastore, 1), (7, .aload_n 0, 1), (8, .getfield 33, 3), (11, .iconst 1, 1), (12, .aload_n 0, 1), (13, .getfield 13, 3), (16, .bipush 28, 2), (18, .iload_n 3, 1), (19, .iadd, 1), (20, .iaload, 1), (21, .iastore, 1), (22, .aload_n 0, 1), (23, .getfield 33, 3), (26, .iconst 2, 1), (27, .aload_n 0, 1), (28, .getfield 13, 3), (31, .bipush 8, 2), (33, .iload_n 3, 1), (34, .iadd, 1), (35, .iaload, 1), (36, .iastore, 1), (37, .aload_n 0, 1), (38, .getfield 33, 3), (41, .iconst 3, 1), (42, .iload_n 2, 1), (43, .iload_n 3, 1), (44, .invokestatic 228, 3), (47, .iastore, 1), (48, .aload_n 0, 1), (49, .getfield 33, 3), (52, .iconst 4, 1), (53, .iload 4, 2), (55, .iastore, 1), (56, .aload_n 0, 1), (57, .getfield 33, 3), (60, .iconst 5, 1), (61, .iload 5, 2), (63, .iastore, 1), (64, .iconst 0, 1), (65, .istore 6, 2), (67, .iconst 0, 1), (68, .istore 7, 2), (70, .iload 7, 2), (72, .aload_n 0, 1), (73, .getfield 13, 3), (76, .bipush 6, 2), (78, .iload_n 1, 1), (79, .iadd, 1), (80, .iaload, 1), (81, .if_icmp .ge 195, 3), (84, .aload_n 0, 1), (85, .getfield 13, 3), (88, .sipush 184, 3), (91, .aload_n 0, 1), (92, .getfield 13, 3), (95, .iconst 4, 1), (96, .iload_n 1, 1), (97, .iadd, 1), (98, .iaload, 1), (99, .iadd, 1), (100, .iload 7, 2), (102, .iadd, 1), (103, .iaload, 1), (104, .istore 8, 2), (106, .iload 8, 2), (108, .sipush 3000, 3), (111, .if_icmp .ge 40, 3), (114, .aload_n 0, 1), (115, .getfield 30, 3), (118, .iload 6, 2), (120, .iload 8, 2), (122, .sipush 1000, 3), (125, .if_icmp .ge 8, 3), (128, .iload 8, 2), (130, .goto 14, 3), (133, .aload_n 0, 1), (134, .getfield 33, 3), (137, .iload 8, 2), (139, .sipush 1000, 3), (142, .isub, 1), (143, .iaload, 1), (144, .iastore, 1), (145, .iinc 6 1, 3), (148, .goto 122, 3), (151, .iload 8, 2), (153, .sipush 3006, 3), (156, .if_icmp .ne 26, 3), (159, .aload_n 0, 1), (160, .getfield 30, 3), (163, .iload 6, 2), (165, .iconst 1, 1), (166, .isub, 1), (167, .iconst 1, 1), (168, .aload_n 0, 1), (169, .getfield 30, 3), (172, .iload 6, 2), (174, .iconst 1, 1), (175, .isub, 1), (176, .iaload, 1), (177, .isub, 1), (178, .iastore, 1), (179, .goto 91, 3), (182, .iload 8, 2), (184, .sipush 3009, 3), (187, .if_icmp .ne 50, 3), (190, .iinc 6 (-2), 3), (193, .aload_n 0, 1), (194, .getfield 30, 3), (197, .iload 6, 2), (199, .iconst 1, 1), (200, .isub, 1), (201, .aload_n 0, 1), (202, .getfield 30, 3), (205, .iload 6, 2), (207, .iconst 1, 1), (208, .isub, 1), (209, .iaload, 1), (210, .iconst 1, 1), (211, .if_icmp .ne 13, 3), (214, .aload_n 0, 1), (215, .getfield 30, 3), (218, .iload 6, 2), (220, .iaload, 1), (221, .goto 12, 3), (224, .aload_n 0, 1), (225, .getfield 30, 3), (228, .iload 6, 2), (230, .iconst 1, 1), (231, .iadd, 1), (232, .iaload, 1), (233, .iastore, 1), (234, .goto 36, 3), (237, .iinc 6 (-1), 3), (240, .aload_n 0, 1), (241, .getfield 30, 3), (244, .iload 6, 2), (246, .iconst 1, 1), (247, .isub, 1), (248, .iload 8, 2), (250, .aload_n 0, 1), (251, .getfield 30, 3), (254, .iload 6, 2), (256, .iconst 1, 1), (257, .isub, 1), (258, .iaload, 1), (259, .aload_n 0, 1), (260, .getfield 30, 3), (263, .iload 6, 2), (265, .iaload, 1), (266, .invokestatic 238, 3), (269, .iastore, 1), (270, .iinc 7 1, 3), (273, .goto (-203), 3), (276, .aload_n 0, 1), (277, .getfield 30, 3), (280, .iconst 0, 1), (281, .iaload, 1), (282, .ireturn, 1)]
theorem tk_m_reckons : ∀ q ∈ tb_m_reckons, decode M_m_reckons.2.1 q.1 = .ok q.2 := by decide +kernel
theorem c_m_reckons {G : ab_G} {S : ab_S} (hm : mSh S) (l c r : Nat) (seat1 month1 : Int32) (hl : l < 2) (hc : c < 160000) (hr : r < 4) (hlo : mLo S l) (hwf : ∀ j, j < mCn S l → lwK (mCd S l j) (lwE (mWd S r c seat1 month1) (mCd S l) j (0, sI S 125)).1) : ab_C G 2 M_m_reckons [.ref 120, .int (nI l), .int (nI c), .int (nI r), .int seat1, .int month1] (sw S) (fun v w' => ∃ S', w' = sw S' ∧ sEq [125, 126] S S' ∧ v = some (.int ((lwE (mWd S r c seat1 month1) (mCd S l) (mCn S l) (0, sI S 125)).2 0))) := by
  refine x_enter [some (.ref 120), some (.int (nI l)), some (.int (nI c)), some (.int (nI r)), some (.int seat1), some (.int month1), none, none, none] (by decide) (Nat.le_of_ble_eq_true rfl) rfl (fun v w' h => by obtain ⟨S', rfl, -, rfl⟩ := h; rfl) ?_
  generalize hwd : mWd S r c seat1 month1 = wd at hwf
  generalize hcd : mCd S l = cd at hwf
  generalize hf0 : sI S 125 = f0 at hwf
  obtain ⟨hlo1, hlo2, hlo3⟩ := hlo
  have loop : ∀ (m k : Nat), k + m = mCn S l → ∀ (S1 : ab_S) (h : Nat), sEq [125, 126] S S1 → (∀ i, i < 9 → sI S1 126 i = wd i) → lwE wd cd k (0, f0) = (h, sI S1 125) → ab_Ex G 2 M_m_reckons 70 [some (.ref 120), some (.int (nI l)), some (.int (nI c)), some (.int (nI r)), some (.int seat1), some (.int month1), some (.int (nI h)), some (.int (nI k)), none] [] (sw S1) (fun v w' => ∃ S', w' = sw S' ∧ sEq [125, 126] S S' ∧ v = some (.int ((lwE wd cd (mCn S l) (0, f0)).2 0))) := by
    intro m
    induction m with
    | zero =>
      intro k hk S1 h hE hW hst
      have hm1 := hm.eq hE
      have eA : sI S1 121 = mA S := hE.2.2.1 121 (by decide)
      refine x_iload 72 7 (ab_dd tk_m_reckons 46 rfl) rfl rfl ?_
      refine x_aload_n 73 0 (ab_dd tk_m_reckons 47 rfl) rfl rfl rfl ?_
      refine t_getP 76 121 (ab_dd tk_m_reckons 48 rfl) rfl F_m_13 (by decide) (Nat.lt_of_lt_of_le (by decide) hm1.1) (hm1.2.1 0 (by decide)) rfl (hm1.2.2 1 (by decide)) ?_
      refine x_bipush 78 6 (ab_dd tk_m_reckons 49 rfl) rfl (by decide) ?_
      refine x_iload_n 79 1 (ab_dd tk_m_reckons 50 rfl) rfl rfl rfl ?_
      refine x_iadd 80 (ab_dd tk_m_reckons 51 rfl) rfl ?_
      refine t_iald 81 (6 + l) (ab_dd tk_m_reckons 52 rfl) rfl (by decide) (Nat.lt_of_lt_of_le (by decide) hm1.1) (hm1.2.1 1 (by decide)) (by rw [show (6 : Int32) = nI 6 from rfl, nI_add]) (by omega) (by decide) ?_
      refine x_icmp_ge_t 276 (ab_dd tk_m_reckons 53 rfl) (by decide) (by rw [show sI S1 121 (6 + l) = nI (mCn S l) by rw [eA]; exact hlo2]; exact nI_le (by omega) (by omega)) ?_
      refine x_aload_n 277 0 (ab_dd tk_m_reckons 157 rfl) rfl rfl rfl ?_
      refine t_getP 280 125 (ab_dd tk_m_reckons 158 rfl) rfl F_m_30 (by decide) (Nat.lt_of_lt_of_le (by decide) hm1.1) (hm1.2.1 0 (by decide)) rfl (hm1.2.2 16 (by decide)) ?_
      refine x_iconst 281 0 (ab_dd tk_m_reckons 159 rfl) rfl (by decide) ?_
      refine t_iald 282 0 (ab_dd tk_m_reckons 160 rfl) rfl (by decide) (Nat.lt_of_lt_of_le (by decide) hm1.1) (hm1.2.1 5 (by decide)) (by decide) (by decide) (by decide) ?_
      exact x_iret (ab_dd tk_m_reckons 161 rfl) ⟨S1, rfl, hE, by rw [show mCn S l = k by omega, hst]⟩
    | succ m ih =>
      intro k hk S1 h hE hW hst
      have hm1 := hm.eq hE
      have eA : sI S1 121 = mA S := hE.2.2.1 121 (by decide)
      refine x_iload 72 7 (ab_dd tk_m_reckons 46 rfl) rfl rfl ?_
      refine x_aload_n 73 0 (ab_dd tk_m_reckons 47 rfl) rfl rfl rfl ?_
      refine t_getP 76 121 (ab_dd tk_m_reckons 48 rfl) rfl F_m_13 (by decide) (Nat.lt_of_lt_of_le (by decide) hm1.1) (hm1.2.1 0 (by decide)) rfl (hm1.2.2 1 (by decide)) ?_
      refine x_bipush 78 6 (ab_dd tk_m_reckons 49 rfl) rfl (by decide) ?_
      refine x_iload_n 79 1 (ab_dd tk_m_reckons 50 rfl) rfl rfl rfl ?_
      refine x_iadd 80 (ab_dd tk_m_reckons 51 rfl) rfl ?_
      refine t_iald 81 (6 + l) (ab_dd tk_m_reckons 52 rfl) rfl (by decide) (Nat.lt_of_lt_of_le (by decide) hm1.1) (hm1.2.1 1 (by decide)) (by rw [show (6 : Int32) = nI 6 from rfl, nI_add]) (by omega) (by decide) ?_
      refine x_icmp_ge_f 84 (ab_dd tk_m_reckons 53 rfl) rfl 276 (by decide) (by rw [show sI S1 121 (6 + l) = nI (mCn S l) by rw [eA]; exact hlo2, nI_ge_iff (by omega) (by omega)]; omega) ?_
      refine x_aload_n 85 0 (ab_dd tk_m_reckons 54 rfl) rfl rfl rfl ?_
      refine t_getP 88 121 (ab_dd tk_m_reckons 55 rfl) rfl F_m_13 (by decide) (Nat.lt_of_lt_of_le (by decide) hm1.1) (hm1.2.1 0 (by decide)) rfl (hm1.2.2 1 (by decide)) ?_
      refine x_sipush 91 184 (ab_dd tk_m_reckons 56 rfl) rfl (by decide) ?_
      refine x_aload_n 92 0 (ab_dd tk_m_reckons 57 rfl) rfl rfl rfl ?_
      refine t_getP 95 121 (ab_dd tk_m_reckons 58 rfl) rfl F_m_13 (by decide) (Nat.lt_of_lt_of_le (by decide) hm1.1) (hm1.2.1 0 (by decide)) rfl (hm1.2.2 1 (by decide)) ?_
      refine x_iconst 96 4 (ab_dd tk_m_reckons 59 rfl) rfl (by decide) ?_
      refine x_iload_n 97 1 (ab_dd tk_m_reckons 60 rfl) rfl rfl rfl ?_
      refine x_iadd 98 (ab_dd tk_m_reckons 61 rfl) rfl ?_
      refine t_iald 99 (4 + l) (ab_dd tk_m_reckons 62 rfl) rfl (by decide) (Nat.lt_of_lt_of_le (by decide) hm1.1) (hm1.2.1 1 (by decide)) (by rw [show (4 : Int32) = nI 4 from rfl, nI_add]) (by omega) (by decide) ?_
      refine x_iadd 100 (ab_dd tk_m_reckons 63 rfl) rfl ?_
      refine x_iload 102 7 (ab_dd tk_m_reckons 64 rfl) rfl rfl ?_
      refine x_iadd 103 (ab_dd tk_m_reckons 65 rfl) rfl ?_
      refine t_iald 104 (184 + cN (mA S (4 + l)) + k) (ab_dd tk_m_reckons 66 rfl) rfl (by decide) (Nat.lt_of_lt_of_le (by decide) hm1.1) (hm1.2.1 1 (by decide)) (by rw [show sI S1 121 (4 + l) = nI (cN (mA S (4 + l))) by rw [eA]; exact hlo1, show (184 : Int32) = nI 184 from rfl, nI_add, nI_add]) (by omega) (by decide) ?_
      refine x_topi (fun v1 ev1 => ?_)
      refine x_istore 106 [some (.ref 120), some (.int (nI l)), some (.int (nI c)), some (.int (nI r)), some (.int seat1), some (.int month1), some (.int (nI h)), some (.int (nI k)), some (.int v1)] 8 (ab_dd tk_m_reckons 67 rfl) rfl (by decide) rfl ?_
      have hck : v1 = cd k := by rw [ev1, eA, ← hcd]; rfl
      subst hck
      have hkk := hwf k (by omega)
      rw [hst] at hkk
      unfold lwK at hkk
      dsimp only at hkk
      have hh9 : h ≤ k := by have := lwE_h wd cd f0 k; rw [hst] at this; exact this
      refine x_iload 108 8 (ab_dd tk_m_reckons 68 rfl) rfl rfl ?_
      refine x_sipush 111 3000 (ab_dd tk_m_reckons 69 rfl) rfl (by decide) ?_
      refine x_icmp_ge 114 151 (ab_dd tk_m_reckons 70 rfl) rfl (by decide) (fun h111 => ?_) (fun h111 => ?_)
      · refine x_iload 153 8 (ab_dd tk_m_reckons 88 rfl) rfl rfl ?_
        refine x_sipush 156 3006 (ab_dd tk_m_reckons 89 rfl) rfl (by decide) ?_
        refine x_icmp_ne 159 182 (ab_dd tk_m_reckons 90 rfl) rfl (by decide) (fun h156 => ?_) (fun h156 => ?_)
        · refine x_iload 184 8 (ab_dd tk_m_reckons 106 rfl) rfl rfl ?_
          refine x_sipush 187 3009 (ab_dd tk_m_reckons 107 rfl) rfl (by decide) ?_
          refine x_icmp_ne 190 237 (ab_dd tk_m_reckons 108 rfl) rfl (by decide) (fun h187 => ?_) (fun h187 => ?_)
          · refine x_iincN 240 6 (-1) (fun y => [some (.ref 120), some (.int (nI l)), some (.int (nI c)), some (.int (nI r)), some (.int seat1), some (.int month1), some (.int y), some (.int (nI k)), some (.int (cd k))]) (ab_dd tk_m_reckons 136 rfl) rfl (by decide) rfl (by decide) (fun _ => rfl) (fun v2 ev2 => ?_)
            rw [if_neg (Int32.not_lt.mpr h111), if_neg h156, if_neg h187] at hkk
            have hh : v2 = nI (h - 1) := by rw [ev2]; exact nI_dec _ 1 (by decide) (by omega)
            subst hh
            refine x_aload_n 241 0 (ab_dd tk_m_reckons 137 rfl) rfl rfl rfl ?_
            refine t_getP 244 125 (ab_dd tk_m_reckons 138 rfl) rfl F_m_30 (by decide) (Nat.lt_of_lt_of_le (by decide) hm1.1) (hm1.2.1 0 (by decide)) rfl (hm1.2.2 16 (by decide)) ?_
            refine x_iload 246 6 (ab_dd tk_m_reckons 139 rfl) rfl rfl ?_
            refine x_iconst 247 1 (ab_dd tk_m_reckons 140 rfl) rfl (by decide) ?_
            refine x_isub 248 (ab_dd tk_m_reckons 141 rfl) rfl ?_
            refine x_iload 250 8 (ab_dd tk_m_reckons 142 rfl) rfl rfl ?_
            refine x_aload_n 251 0 (ab_dd tk_m_reckons 143 rfl) rfl rfl rfl ?_
            refine t_getP 254 125 (ab_dd tk_m_reckons 144 rfl) rfl F_m_30 (by decide) (Nat.lt_of_lt_of_le (by decide) hm1.1) (hm1.2.1 0 (by decide)) rfl (hm1.2.2 16 (by decide)) ?_
            refine x_iload 256 6 (ab_dd tk_m_reckons 145 rfl) rfl rfl ?_
            refine x_iconst 257 1 (ab_dd tk_m_reckons 146 rfl) rfl (by decide) ?_
            refine x_isub 258 (ab_dd tk_m_reckons 147 rfl) rfl ?_
            refine t_iald 259 (h - 2) (ab_dd tk_m_reckons 148 rfl) rfl (by decide) (Nat.lt_of_lt_of_le (by decide) hm1.1) (hm1.2.1 5 (by decide)) (by rw [show (1 : Int32) = nI 1 from rfl, pk_sub (by omega)]; congr 1) (by omega) (by decide) ?_
            refine x_aload_n 260 0 (ab_dd tk_m_reckons 149 rfl) rfl rfl rfl ?_
            refine t_getP 263 125 (ab_dd tk_m_reckons 150 rfl) rfl F_m_30 (by decide) (Nat.lt_of_lt_of_le (by decide) hm1.1) (hm1.2.1 0 (by decide)) rfl (hm1.2.2 16 (by decide)) ?_
            refine x_iload 265 6 (ab_dd tk_m_reckons 151 rfl) rfl rfl ?_
            refine t_iald 266 (h - 1) (ab_dd tk_m_reckons 152 rfl) rfl (by decide) (Nat.lt_of_lt_of_le (by decide) hm1.1) (hm1.2.1 5 (by decide)) rfl (by omega) (by decide) ?_
            refine x_callS 269 M_m_between 0 3 [_, _, _] (ab_dd tk_m_reckons 153 rfl) rfl (by decide) K_m_between T_m_between L_m_238 rfl (Nat.le_of_ble_eq_true rfl) (c_m_between _ _ _ _) (fun v1 w1 h1 => ?_)
            obtain ⟨rfl, rfl⟩ := h1
            refine t_iast 270 (h - 2) (ab_dd tk_m_reckons 154 rfl) rfl (by decide) (Nat.lt_of_lt_of_le (by decide) hm1.1) (hm1.2.1 5 (by decide)) (by rw [show (1 : Int32) = nI 1 from rfl, pk_sub (by omega)]; congr 1) (by omega) (by decide) ?_
            refine x_iincN 273 7 1 (fun y => [some (.ref 120), some (.int (nI l)), some (.int (nI c)), some (.int (nI r)), some (.int seat1), some (.int month1), some (.int (nI (h - 1))), some (.int y), some (.int (cd k))]) (ab_dd tk_m_reckons 155 rfl) rfl (by decide) rfl (by decide) (fun _ => rfl) (fun v3 ev3 => ?_)
            refine x_goto 70 (ab_dd tk_m_reckons 156 rfl) (by decide) ?_
            have hw : v3 = nI (k + 1) := by rw [ev3, nI_1]
            subst hw
            refine x_forget 8 ?_
            refine ih (k + 1) (by omega) _ (h - 1) ?_ ?_ ?_
            · exact hE.pI (by decide)
            · intro i hi
              exact hW i hi
            · show lwS wd (cd k) (lwE wd cd k (0, f0)) = (_, up2 (sI S1) 125 _ _ 125)
              rw [upd_up2, hst]
              unfold lwS
              rw [if_neg (Int32.not_lt.mpr h111), if_neg h156, if_neg h187]
          · refine x_iincN 193 6 (-2) (fun y => [some (.ref 120), some (.int (nI l)), some (.int (nI c)), some (.int (nI r)), some (.int seat1), some (.int month1), some (.int y), some (.int (nI k)), some (.int (cd k))]) (ab_dd tk_m_reckons 109 rfl) rfl (by decide) rfl (by decide) (fun _ => rfl) (fun v4 ev4 => ?_)
            rw [if_neg (Int32.not_lt.mpr h111), if_neg h156, if_pos h187] at hkk
            have hh : v4 = nI (h - 2) := by rw [ev4]; exact nI_dec _ 2 (by decide) (by omega)
            subst hh
            refine x_aload_n 194 0 (ab_dd tk_m_reckons 110 rfl) rfl rfl rfl ?_
            refine t_getP 197 125 (ab_dd tk_m_reckons 111 rfl) rfl F_m_30 (by decide) (Nat.lt_of_lt_of_le (by decide) hm1.1) (hm1.2.1 0 (by decide)) rfl (hm1.2.2 16 (by decide)) ?_
            refine x_iload 199 6 (ab_dd tk_m_reckons 112 rfl) rfl rfl ?_
            refine x_iconst 200 1 (ab_dd tk_m_reckons 113 rfl) rfl (by decide) ?_
            refine x_isub 201 (ab_dd tk_m_reckons 114 rfl) rfl ?_
            refine x_aload_n 202 0 (ab_dd tk_m_reckons 115 rfl) rfl rfl rfl ?_
            refine t_getP 205 125 (ab_dd tk_m_reckons 116 rfl) rfl F_m_30 (by decide) (Nat.lt_of_lt_of_le (by decide) hm1.1) (hm1.2.1 0 (by decide)) rfl (hm1.2.2 16 (by decide)) ?_
            refine x_iload 207 6 (ab_dd tk_m_reckons 117 rfl) rfl rfl ?_
            refine x_iconst 208 1 (ab_dd tk_m_reckons 118 rfl) rfl (by decide) ?_
            refine x_isub 209 (ab_dd tk_m_reckons 119 rfl) rfl ?_
            refine t_iald 210 (h - 3) (ab_dd tk_m_reckons 120 rfl) rfl (by decide) (Nat.lt_of_lt_of_le (by decide) hm1.1) (hm1.2.1 5 (by decide)) (by rw [show (1 : Int32) = nI 1 from rfl, pk_sub (by omega)]; congr 1) (by omega) (by decide) ?_
            refine x_iconst 211 1 (ab_dd tk_m_reckons 121 rfl) rfl (by decide) ?_
            refine x_icmp_ne 214 224 (ab_dd tk_m_reckons 122 rfl) rfl (by decide) (fun h211 => ?_) (fun h211 => ?_)
            · refine x_aload_n 225 0 (ab_dd tk_m_reckons 128 rfl) rfl rfl rfl ?_
              refine t_getP 228 125 (ab_dd tk_m_reckons 129 rfl) rfl F_m_30 (by decide) (Nat.lt_of_lt_of_le (by decide) hm1.1) (hm1.2.1 0 (by decide)) rfl (hm1.2.2 16 (by decide)) ?_
              refine x_iload 230 6 (ab_dd tk_m_reckons 130 rfl) rfl rfl ?_
              refine x_iconst 231 1 (ab_dd tk_m_reckons 131 rfl) rfl (by decide) ?_
              refine x_iadd 232 (ab_dd tk_m_reckons 132 rfl) rfl ?_
              refine t_iald 233 (h - 1) (ab_dd tk_m_reckons 133 rfl) rfl (by decide) (Nat.lt_of_lt_of_le (by decide) hm1.1) (hm1.2.1 5 (by decide)) (by rw [nI_1]; congr 1; omega) (by omega) (by decide) ?_
              refine t_iast 234 (h - 3) (ab_dd tk_m_reckons 134 rfl) rfl (by decide) (Nat.lt_of_lt_of_le (by decide) hm1.1) (hm1.2.1 5 (by decide)) (by rw [show (1 : Int32) = nI 1 from rfl, pk_sub (by omega)]; congr 1) (by omega) (by decide) ?_
              refine x_goto 270 (ab_dd tk_m_reckons 135 rfl) (by decide) ?_
              refine x_iincN 273 7 1 (fun y => [some (.ref 120), some (.int (nI l)), some (.int (nI c)), some (.int (nI r)), some (.int seat1), some (.int month1), some (.int (nI (h - 2))), some (.int y), some (.int (cd k))]) (ab_dd tk_m_reckons 155 rfl) rfl (by decide) rfl (by decide) (fun _ => rfl) (fun v5 ev5 => ?_)
              refine x_goto 70 (ab_dd tk_m_reckons 156 rfl) (by decide) ?_
              have hw : v5 = nI (k + 1) := by rw [ev5, nI_1]
              subst hw
              refine x_forget 8 ?_
              refine ih (k + 1) (by omega) _ (h - 2) ?_ ?_ ?_
              · exact hE.pI (by decide)
              · intro i hi
                exact hW i hi
              · show lwS wd (cd k) (lwE wd cd k (0, f0)) = (_, up2 (sI S1) 125 _ _ 125)
                rw [upd_up2, hst]
                unfold lwS
                rw [if_neg (Int32.not_lt.mpr h111), if_neg h156, if_pos h187, if_neg h211]
            · refine x_aload_n 215 0 (ab_dd tk_m_reckons 123 rfl) rfl rfl rfl ?_
              refine t_getP 218 125 (ab_dd tk_m_reckons 124 rfl) rfl F_m_30 (by decide) (Nat.lt_of_lt_of_le (by decide) hm1.1) (hm1.2.1 0 (by decide)) rfl (hm1.2.2 16 (by decide)) ?_
              refine x_iload 220 6 (ab_dd tk_m_reckons 125 rfl) rfl rfl ?_
              refine t_iald 221 (h - 2) (ab_dd tk_m_reckons 126 rfl) rfl (by decide) (Nat.lt_of_lt_of_le (by decide) hm1.1) (hm1.2.1 5 (by decide)) rfl (by omega) (by decide) ?_
              refine x_goto 233 (ab_dd tk_m_reckons 127 rfl) (by decide) ?_
              refine t_iast 234 (h - 3) (ab_dd tk_m_reckons 134 rfl) rfl (by decide) (Nat.lt_of_lt_of_le (by decide) hm1.1) (hm1.2.1 5 (by decide)) (by rw [show (1 : Int32) = nI 1 from rfl, pk_sub (by omega)]; congr 1) (by omega) (by decide) ?_
              refine x_goto 270 (ab_dd tk_m_reckons 135 rfl) (by decide) ?_
              refine x_iincN 273 7 1 (fun y => [some (.ref 120), some (.int (nI l)), some (.int (nI c)), some (.int (nI r)), some (.int seat1), some (.int month1), some (.int (nI (h - 2))), some (.int y), some (.int (cd k))]) (ab_dd tk_m_reckons 155 rfl) rfl (by decide) rfl (by decide) (fun _ => rfl) (fun v6 ev6 => ?_)
              refine x_goto 70 (ab_dd tk_m_reckons 156 rfl) (by decide) ?_
              have hw : v6 = nI (k + 1) := by rw [ev6, nI_1]
              subst hw
              refine x_forget 8 ?_
              refine ih (k + 1) (by omega) _ (h - 2) ?_ ?_ ?_
              · exact hE.pI (by decide)
              · intro i hi
                exact hW i hi
              · show lwS wd (cd k) (lwE wd cd k (0, f0)) = (_, up2 (sI S1) 125 _ _ 125)
                rw [upd_up2, hst]
                unfold lwS
                rw [if_neg (Int32.not_lt.mpr h111), if_neg h156, if_pos h187, if_pos h211]
        · rw [if_neg (Int32.not_lt.mpr h111), if_pos h156] at hkk
          refine x_aload_n 160 0 (ab_dd tk_m_reckons 91 rfl) rfl rfl rfl ?_
          refine t_getP 163 125 (ab_dd tk_m_reckons 92 rfl) rfl F_m_30 (by decide) (Nat.lt_of_lt_of_le (by decide) hm1.1) (hm1.2.1 0 (by decide)) rfl (hm1.2.2 16 (by decide)) ?_
          refine x_iload 165 6 (ab_dd tk_m_reckons 93 rfl) rfl rfl ?_
          refine x_iconst 166 1 (ab_dd tk_m_reckons 94 rfl) rfl (by decide) ?_
          refine x_isub 167 (ab_dd tk_m_reckons 95 rfl) rfl ?_
          refine x_iconst 168 1 (ab_dd tk_m_reckons 96 rfl) rfl (by decide) ?_
          refine x_aload_n 169 0 (ab_dd tk_m_reckons 97 rfl) rfl rfl rfl ?_
          refine t_getP 172 125 (ab_dd tk_m_reckons 98 rfl) rfl F_m_30 (by decide) (Nat.lt_of_lt_of_le (by decide) hm1.1) (hm1.2.1 0 (by decide)) rfl (hm1.2.2 16 (by decide)) ?_
          refine x_iload 174 6 (ab_dd tk_m_reckons 99 rfl) rfl rfl ?_
          refine x_iconst 175 1 (ab_dd tk_m_reckons 100 rfl) rfl (by decide) ?_
          refine x_isub 176 (ab_dd tk_m_reckons 101 rfl) rfl ?_
          refine t_iald 177 (h - 1) (ab_dd tk_m_reckons 102 rfl) rfl (by decide) (Nat.lt_of_lt_of_le (by decide) hm1.1) (hm1.2.1 5 (by decide)) (by rw [show (1 : Int32) = nI 1 from rfl, pk_sub (by omega)]) (by omega) (by decide) ?_
          refine x_isub 178 (ab_dd tk_m_reckons 103 rfl) rfl ?_
          refine t_iast 179 (h - 1) (ab_dd tk_m_reckons 104 rfl) rfl (by decide) (Nat.lt_of_lt_of_le (by decide) hm1.1) (hm1.2.1 5 (by decide)) (by rw [show (1 : Int32) = nI 1 from rfl, pk_sub (by omega)]) (by omega) (by decide) ?_
          refine x_goto 270 (ab_dd tk_m_reckons 105 rfl) (by decide) ?_
          refine x_iincN 273 7 1 (fun y => [some (.ref 120), some (.int (nI l)), some (.int (nI c)), some (.int (nI r)), some (.int seat1), some (.int month1), some (.int (nI h)), some (.int y), some (.int (cd k))]) (ab_dd tk_m_reckons 155 rfl) rfl (by decide) rfl (by decide) (fun _ => rfl) (fun v7 ev7 => ?_)
          refine x_goto 70 (ab_dd tk_m_reckons 156 rfl) (by decide) ?_
          have hw : v7 = nI (k + 1) := by rw [ev7, nI_1]
          subst hw
          refine x_forget 8 ?_
          refine ih (k + 1) (by omega) _ h ?_ ?_ ?_
          · exact hE.pI (by decide)
          · intro i hi
            exact hW i hi
          · show lwS wd (cd k) (lwE wd cd k (0, f0)) = (_, up2 (sI S1) 125 _ _ 125)
            rw [upd_up2, hst]
            unfold lwS
            rw [if_neg (Int32.not_lt.mpr h111), if_pos h156]
      · rw [if_pos (Int32.not_le.mp h111)] at hkk
        refine x_aload_n 115 0 (ab_dd tk_m_reckons 71 rfl) rfl rfl rfl ?_
        refine t_getP 118 125 (ab_dd tk_m_reckons 72 rfl) rfl F_m_30 (by decide) (Nat.lt_of_lt_of_le (by decide) hm1.1) (hm1.2.1 0 (by decide)) rfl (hm1.2.2 16 (by decide)) ?_
        refine x_iload 120 6 (ab_dd tk_m_reckons 73 rfl) rfl rfl ?_
        refine x_iload 122 8 (ab_dd tk_m_reckons 74 rfl) rfl rfl ?_
        refine x_sipush 125 1000 (ab_dd tk_m_reckons 75 rfl) rfl (by decide) ?_
        refine x_icmp_ge 128 133 (ab_dd tk_m_reckons 76 rfl) rfl (by decide) (fun h125 => ?_) (fun h125 => ?_)
        · have hq := lw_word h125 hkk
          refine x_aload_n 134 0 (ab_dd tk_m_reckons 79 rfl) rfl rfl rfl ?_
          refine t_getP 137 126 (ab_dd tk_m_reckons 80 rfl) rfl F_m_33 (by decide) (Nat.lt_of_lt_of_le (by decide) hm1.1) (hm1.2.1 0 (by decide)) rfl (hm1.2.2 17 (by decide)) ?_
          refine x_iload 139 8 (ab_dd tk_m_reckons 81 rfl) rfl rfl ?_
          refine x_sipush 142 1000 (ab_dd tk_m_reckons 82 rfl) rfl (by decide) ?_
          refine x_isub 143 (ab_dd tk_m_reckons 83 rfl) rfl ?_
          refine t_iald 144 (cN (cd k - 1000)) (ab_dd tk_m_reckons 84 rfl) rfl (by decide) (Nat.lt_of_lt_of_le (by decide) hm1.1) (hm1.2.1 6 (by decide)) (by obtain ⟨q, hq1, hq2⟩ := hq; rw [hq2, cN_nI (by omega)]) (by obtain ⟨q, hq1, hq2⟩ := hq; rw [hq2, cN_nI (by omega)]; exact hq1) (by decide) ?_
          refine t_iast 145 h (ab_dd tk_m_reckons 85 rfl) rfl (by decide) (Nat.lt_of_lt_of_le (by decide) hm1.1) (hm1.2.1 5 (by decide)) rfl (by omega) (by decide) ?_
          refine x_iincN 148 6 1 (fun y => [some (.ref 120), some (.int (nI l)), some (.int (nI c)), some (.int (nI r)), some (.int seat1), some (.int month1), some (.int y), some (.int (nI k)), some (.int (cd k))]) (ab_dd tk_m_reckons 86 rfl) rfl (by decide) rfl (by decide) (fun _ => rfl) (fun v8 ev8 => ?_)
          refine x_goto 270 (ab_dd tk_m_reckons 87 rfl) (by decide) ?_
          refine x_iincN 273 7 1 (fun y => [some (.ref 120), some (.int (nI l)), some (.int (nI c)), some (.int (nI r)), some (.int seat1), some (.int month1), some (.int v8), some (.int y), some (.int (cd k))]) (ab_dd tk_m_reckons 155 rfl) rfl (by decide) rfl (by decide) (fun _ => rfl) (fun v9 ev9 => ?_)
          refine x_goto 70 (ab_dd tk_m_reckons 156 rfl) (by decide) ?_
          have hh : v8 = nI (h + 1) := by rw [ev8, nI_1]
          subst hh
          have hw : v9 = nI (k + 1) := by rw [ev9, nI_1]
          subst hw
          refine x_forget 8 ?_
          refine ih (k + 1) (by omega) _ (h + 1) ?_ ?_ ?_
          · exact hE.pI (by decide)
          · intro i hi
            exact hW i hi
          · show lwS wd (cd k) (lwE wd cd k (0, f0)) = (_, up2 (sI S1) 125 _ _ 125)
            rw [upd_up2, hst]
            unfold lwS
            rw [if_pos (Int32.not_le.mp h111), if_neg (Int32.not_lt.mpr h125)]
            obtain ⟨q, hq1, hq2⟩ := hq
            rw [hW _ (by rw [hq2, cN_nI (by omega)]; exact hq1)]
        · refine x_iload 130 8 (ab_dd tk_m_reckons 77 rfl) rfl rfl ?_
          refine x_goto 144 (ab_dd tk_m_reckons 78 rfl) (by decide) ?_
          refine t_iast 145 h (ab_dd tk_m_reckons 85 rfl) rfl (by decide) (Nat.lt_of_lt_of_le (by decide) hm1.1) (hm1.2.1 5 (by decide)) rfl (by omega) (by decide) ?_
          refine x_iincN 148 6 1 (fun y => [some (.ref 120), some (.int (nI l)), some (.int (nI c)), some (.int (nI r)), some (.int seat1), some (.int month1), some (.int y), some (.int (nI k)), some (.int (cd k))]) (ab_dd tk_m_reckons 86 rfl) rfl (by decide) rfl (by decide) (fun _ => rfl) (fun v10 ev10 => ?_)
          refine x_goto 270 (ab_dd tk_m_reckons 87 rfl) (by decide) ?_
          refine x_iincN 273 7 1 (fun y => [some (.ref 120), some (.int (nI l)), some (.int (nI c)), some (.int (nI r)), some (.int seat1), some (.int month1), some (.int v10), some (.int y), some (.int (cd k))]) (ab_dd tk_m_reckons 155 rfl) rfl (by decide) rfl (by decide) (fun _ => rfl) (fun v11 ev11 => ?_)
          refine x_goto 70 (ab_dd tk_m_reckons 156 rfl) (by decide) ?_
          have hh : v10 = nI (h + 1) := by rw [ev10, nI_1]
          subst hh
          have hw : v11 = nI (k + 1) := by rw [ev11, nI_1]
          subst hw
          refine x_forget 8 ?_
          refine ih (k + 1) (by omega) _ (h + 1) ?_ ?_ ?_
          · exact hE.pI (by decide)
          · intro i hi
            exact hW i hi
          · show lwS wd (cd k) (lwE wd cd k (0, f0)) = (_, up2 (sI S1) 125 _ _ 125)
            rw [upd_up2, hst]
            unfold lwS
            rw [if_pos (Int32.not_le.mp h111), if_pos (Int32.not_le.mp h125)]
  refine x_aload_n 1 0 (ab_dd tk_m_reckons 0 rfl) rfl rfl rfl ?_
  refine t_getP 4 126 (ab_dd tk_m_reckons 1 rfl) rfl F_m_33 (by decide) (Nat.lt_of_lt_of_le (by decide) hm.1) (hm.2.1 0 (by decide)) rfl (hm.2.2 17 (by decide)) ?_
  refine x_iconst 5 0 (ab_dd tk_m_reckons 2 rfl) rfl (by decide) ?_
  refine x_iload_n 6 3 (ab_dd tk_m_reckons 3 rfl) rfl rfl rfl ?_
  refine t_iast 7 0 (ab_dd tk_m_reckons 4 rfl) rfl (by decide) (Nat.lt_of_lt_of_le (by decide) hm.1) (hm.2.1 6 (by decide)) (by decide) (by decide) (by decide) ?_
  refine x_aload_n 8 0 (ab_dd tk_m_reckons 5 rfl) rfl rfl rfl ?_
  refine t_getP 11 126 (ab_dd tk_m_reckons 6 rfl) rfl F_m_33 (by decide) (Nat.lt_of_lt_of_le (by decide) hm.1) (hm.2.1 0 (by decide)) rfl (hm.2.2 17 (by decide)) ?_
  refine x_iconst 12 1 (ab_dd tk_m_reckons 7 rfl) rfl (by decide) ?_
  refine x_aload_n 13 0 (ab_dd tk_m_reckons 8 rfl) rfl rfl rfl ?_
  refine t_getP 16 121 (ab_dd tk_m_reckons 9 rfl) rfl F_m_13 (by decide) (Nat.lt_of_lt_of_le (by decide) hm.1) (hm.2.1 0 (by decide)) rfl (hm.2.2 1 (by decide)) ?_
  refine x_bipush 18 28 (ab_dd tk_m_reckons 10 rfl) rfl (by decide) ?_
  refine x_iload_n 19 3 (ab_dd tk_m_reckons 11 rfl) rfl rfl rfl ?_
  refine x_iadd 20 (ab_dd tk_m_reckons 12 rfl) rfl ?_
  refine t_iald 21 (28 + r) (ab_dd tk_m_reckons 13 rfl) rfl (by decide) (Nat.lt_of_lt_of_le (by decide) hm.1) (hm.2.1 1 (by decide)) (by rw [show (28 : Int32) = nI 28 from rfl, nI_add]) (by omega) (by decide) ?_
  refine t_iast 22 1 (ab_dd tk_m_reckons 14 rfl) rfl (by decide) (Nat.lt_of_lt_of_le (by decide) hm.1) (hm.2.1 6 (by decide)) (by decide) (by decide) (by decide) ?_
  refine x_aload_n 23 0 (ab_dd tk_m_reckons 15 rfl) rfl rfl rfl ?_
  refine t_getP 26 126 (ab_dd tk_m_reckons 16 rfl) rfl F_m_33 (by decide) (Nat.lt_of_lt_of_le (by decide) hm.1) (hm.2.1 0 (by decide)) rfl (hm.2.2 17 (by decide)) ?_
  refine x_iconst 27 2 (ab_dd tk_m_reckons 17 rfl) rfl (by decide) ?_
  refine x_aload_n 28 0 (ab_dd tk_m_reckons 18 rfl) rfl rfl rfl ?_
  refine t_getP 31 121 (ab_dd tk_m_reckons 19 rfl) rfl F_m_13 (by decide) (Nat.lt_of_lt_of_le (by decide) hm.1) (hm.2.1 0 (by decide)) rfl (hm.2.2 1 (by decide)) ?_
  refine x_bipush 33 8 (ab_dd tk_m_reckons 20 rfl) rfl (by decide) ?_
  refine x_iload_n 34 3 (ab_dd tk_m_reckons 21 rfl) rfl rfl rfl ?_
  refine x_iadd 35 (ab_dd tk_m_reckons 22 rfl) rfl ?_
  refine t_iald 36 (8 + r) (ab_dd tk_m_reckons 23 rfl) rfl (by decide) (Nat.lt_of_lt_of_le (by decide) hm.1) (hm.2.1 1 (by decide)) (by rw [show (8 : Int32) = nI 8 from rfl, nI_add]) (by omega) (by decide) ?_
  refine t_iast 37 2 (ab_dd tk_m_reckons 24 rfl) rfl (by decide) (Nat.lt_of_lt_of_le (by decide) hm.1) (hm.2.1 6 (by decide)) (by decide) (by decide) (by decide) ?_
  refine x_aload_n 38 0 (ab_dd tk_m_reckons 25 rfl) rfl rfl rfl ?_
  refine t_getP 41 126 (ab_dd tk_m_reckons 26 rfl) rfl F_m_33 (by decide) (Nat.lt_of_lt_of_le (by decide) hm.1) (hm.2.1 0 (by decide)) rfl (hm.2.2 17 (by decide)) ?_
  refine x_iconst 42 3 (ab_dd tk_m_reckons 27 rfl) rfl (by decide) ?_
  refine x_iload_n 43 2 (ab_dd tk_m_reckons 28 rfl) rfl rfl rfl ?_
  refine x_iload_n 44 3 (ab_dd tk_m_reckons 29 rfl) rfl rfl rfl ?_
  refine x_callS 47 M_m_warmthIn 1 2 [_, _] (ab_dd tk_m_reckons 30 rfl) rfl (by decide) K_m_warmthIn T_m_warmthIn L_m_228 rfl (Nat.le_of_ble_eq_true rfl) (w_warmthIn _ c r hc hr) (fun v1 w1 h1 => ?_)
  obtain ⟨rfl, rfl⟩ := h1
  refine t_iast 48 3 (ab_dd tk_m_reckons 31 rfl) rfl (by decide) (Nat.lt_of_lt_of_le (by decide) hm.1) (hm.2.1 6 (by decide)) (by decide) (by decide) (by decide) ?_
  refine x_aload_n 49 0 (ab_dd tk_m_reckons 32 rfl) rfl rfl rfl ?_
  refine t_getP 52 126 (ab_dd tk_m_reckons 33 rfl) rfl F_m_33 (by decide) (Nat.lt_of_lt_of_le (by decide) hm.1) (hm.2.1 0 (by decide)) rfl (hm.2.2 17 (by decide)) ?_
  refine x_iconst 53 4 (ab_dd tk_m_reckons 34 rfl) rfl (by decide) ?_
  refine x_iload 55 4 (ab_dd tk_m_reckons 35 rfl) rfl rfl ?_
  refine t_iast 56 4 (ab_dd tk_m_reckons 36 rfl) rfl (by decide) (Nat.lt_of_lt_of_le (by decide) hm.1) (hm.2.1 6 (by decide)) (by decide) (by decide) (by decide) ?_
  refine x_aload_n 57 0 (ab_dd tk_m_reckons 37 rfl) rfl rfl rfl ?_
  refine t_getP 60 126 (ab_dd tk_m_reckons 38 rfl) rfl F_m_33 (by decide) (Nat.lt_of_lt_of_le (by decide) hm.1) (hm.2.1 0 (by decide)) rfl (hm.2.2 17 (by decide)) ?_
  refine x_iconst 61 5 (ab_dd tk_m_reckons 39 rfl) rfl (by decide) ?_
  refine x_iload 63 5 (ab_dd tk_m_reckons 40 rfl) rfl rfl ?_
  refine t_iast 64 5 (ab_dd tk_m_reckons 41 rfl) rfl (by decide) (Nat.lt_of_lt_of_le (by decide) hm.1) (hm.2.1 6 (by decide)) (by decide) (by decide) (by decide) ?_
  refine x_iconst 65 0 (ab_dd tk_m_reckons 42 rfl) rfl (by decide) ?_
  refine x_topi (fun v1 ev1 => ?_)
  refine x_istore 67 [some (.ref 120), some (.int (nI l)), some (.int (nI c)), some (.int (nI r)), some (.int seat1), some (.int month1), some (.int v1), none, none] 6 (ab_dd tk_m_reckons 43 rfl) rfl (by decide) rfl ?_
  refine x_iconst 68 0 (ab_dd tk_m_reckons 44 rfl) rfl (by decide) ?_
  refine x_topi (fun v2 ev2 => ?_)
  refine x_istore 70 [some (.ref 120), some (.int (nI l)), some (.int (nI c)), some (.int (nI r)), some (.int seat1), some (.int month1), some (.int v1), some (.int v2), none] 7 (ab_dd tk_m_reckons 45 rfl) rfl (by decide) rfl ?_
  subst ev1; subst ev2
  refine loop (mCn S l) 0 (by omega) _ 0 ((((((sEq.rf.pI (by decide)).pI (by decide)).pI (by decide)).pI (by decide)).pI (by decide)).pI (by decide)) (fun i hi => ?_) ?_
  · rw [← hwd]
    show up2 (up2 (up2 (up2 (up2 (up2 (sI S) 126 0 _) 126 1 _) 126 2 _) 126 3 _) 126 4 _) 126 5 _ 126 i = _
    unfold mWd
    match i, hi with
    | 0, _ => rfl
    | 1, _ => rfl
    | 2, _ => rfl
    | 3, _ => rfl
    | 4, _ => rfl
    | 5, _ => rfl
    | 6, _ => rfl
    | 7, _ => rfl
    | 8, _ => rfl
  · show (0, f0) = (0, _)
    rw [← hf0]
    rfl
