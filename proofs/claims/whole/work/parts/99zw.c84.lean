/-! ===== the law's cases ===== -/
theorem tk50 {S S1 : ab_S} (h : (sw S1).1.take 50 = (sw S).1.take 50) (hn : 50 ≤ sn S) (hn1 : 50 ≤ sn S1) : S1.1 48 = S.1 48 := by
  have e1 : ((sw S1).1.take 50)[48]? = some (S1.1 48) := by rw [List.getElem?_take_of_lt (by decide)]; exact sw_old (by decide) hn1
  have e2 : ((sw S).1.take 50)[48]? = some (S.1 48) := by rw [List.getElem?_take_of_lt (by decide)]; exact sw_old (by decide) hn
  rw [h, e2] at e1
  exact (Option.some.inj e1).symm
theorem tw {G : ab_G} {S : ab_S} {u d1 d2 : Nat} {M1 M2 : ab_M} {A1 A2 : List Value} (h : two G S u d1 M1 A1 d2 M2 A2) (hn : 50 ≤ sn S) : ab_C G d1 M1 A1 (sw S) (fun v w1 => ∃ S1, w1 = sw S1 ∧ S1.1 48 = S.1 48 ∧ rkd M1.2.2.2 v ∧ mSh S1 ∧ ab_C G d2 M2 A2 (sw S1) (fun v' w2 => v' = v ∧ ∃ S2, w2 = sw S2 ∧ Sim S2 (u + 128) ∧ gA S S2 904 929 ∧ S2.1 = S.1)) := by
  obtain ⟨v, w', hr, S1, rfl, h1, h2, h3, h4, h5⟩ := h
  exact ⟨v, sw S1, hr, S1, rfl, tk50 hr.2.2.1 hn (by omega), h1, h2, h5⟩
def tb_law_0 : List (Nat × Instr × Nat) := [(212, .aload_n 1, 1), (213, .aload_n 0, 1), (214, .iload_n 3, 1), (215, .iconst 1, 1), (216, .iadd, 1), (217, .iaload, 1), (218, .aload_n 0, 1), (219, .iload_n 3, 1), (220, .iconst 2, 1), (221, .iadd, 1), (222, .iaload, 1), (223, .aload_n 0, 1), (224, .iload_n 3, 1), (225, .iconst 3, 1), (226, .iadd, 1), (227, .iaload, 1), (228, .aload_n 0, 1), (229, .iload_n 3, 1), (230, .iconst 4, 1), (231, .iadd, 1), (232, .iaload, 1), (233, .aload_n 0, 1), (234, .iload_n 3, 1), (235, .iconst 5, 1), (236, .iadd, 1), (237, .iaload, 1), (238, .invokevirtual 13, 3), (241, .aload_n 2, 1), (242, .aload_n 0, 1), (243, .iload_n 3, 1), (244, .iconst 1, 1), (245, .iadd, 1), (246, .iaload, 1), (247, .aload_n 0, 1), (248, .iload_n 3, 1), (249, .iconst 2, 1), (250, .iadd, 1), (251, .iaload, 1), (252, .aload_n 0, 1), (253, .iload_n 3, 1), (254, .iconst 3, 1), (255, .iadd, 1), (256, .iaload, 1), (257, .aload_n 0, 1), (258, .iload_n 3, 1), (259, .iconst 4, 1), (260, .iadd, 1), (261, .iaload, 1), (262, .aload_n 0, 1), (263, .iload_n 3, 1), (264, .iconst 5, 1), (265, .iadd, 1), (266, .iaload, 1), (267, .invokevirtual 17, 3), (270, .if_icmp .eq 1167, 3), (273, .iconst 0, 1), (274, .ireturn, 1)]
theorem tk_law_0 : ∀ q ∈ tb_law_0, decode ab_law.2.1 q.1 = .ok q.2 := by decide +kernel
theorem law_0 {G : ab_G} {S : ab_S} {u L j : Nat} {xs : Nat → Int32} {Q : Option Value → ab_H → Prop} (hS : Sim S u) (hu : u + 128 < 2 ^ 20) (hj : j + 6 ≤ L) (hL : L ≤ 3072) (h48 : S.1 48 = .inl (.int, L, .inl xs)) (K : ∀ S2, Sim S2 (u + 128) → gA S S2 904 929 → S2.1 = S.1 → ab_Ex G 1000 ab_law 1437 [some (.ref 48), some (.ref 50), some (.ref 120), some (.int (nI j))] [] (sw S2) Q) : ab_Ex G 1000 ab_law 212 [some (.ref 48), some (.ref 50), some (.ref 120), some (.int (nI j))] [] (sw S) Q := by
  obtain ⟨im, c, b, bh, nb, st, st2, n, s, f, t, tp, h, hQ⟩ := hS
  have hx := h.1
  have h50 : 50 ≤ sn S := by have := hQ.1.1; omega
  refine x_aload_n 213 1 (ab_dd tk_law_0 0 rfl) rfl rfl rfl ?_
  refine x_aload_n 214 0 (ab_dd tk_law_0 1 rfl) rfl rfl rfl ?_
  refine x_iload_n 215 3 (ab_dd tk_law_0 2 rfl) rfl rfl rfl ?_
  refine x_iconst 216 1 (ab_dd tk_law_0 3 rfl) rfl (by decide) (x_topn 1 rfl ?_)
  refine x_iadd 217 (ab_dd tk_law_0 4 rfl) rfl (x_topn (j + 1) (nI_add _ _) ?_)
  refine t_ialdK 218 (j + 1) (ab_dd tk_law_0 5 rfl) rfl (by decide) h50 h48 rfl (by omega) (by omega) ?_
  refine x_aload_n 219 0 (ab_dd tk_law_0 6 rfl) rfl rfl rfl ?_
  refine x_iload_n 220 3 (ab_dd tk_law_0 7 rfl) rfl rfl rfl ?_
  refine x_iconst 221 2 (ab_dd tk_law_0 8 rfl) rfl (by decide) (x_topn 2 rfl ?_)
  refine x_iadd 222 (ab_dd tk_law_0 9 rfl) rfl (x_topn (j + 2) (nI_add _ _) ?_)
  refine t_ialdK 223 (j + 2) (ab_dd tk_law_0 10 rfl) rfl (by decide) h50 h48 rfl (by omega) (by omega) ?_
  refine x_aload_n 224 0 (ab_dd tk_law_0 11 rfl) rfl rfl rfl ?_
  refine x_iload_n 225 3 (ab_dd tk_law_0 12 rfl) rfl rfl rfl ?_
  refine x_iconst 226 3 (ab_dd tk_law_0 13 rfl) rfl (by decide) (x_topn 3 rfl ?_)
  refine x_iadd 227 (ab_dd tk_law_0 14 rfl) rfl (x_topn (j + 3) (nI_add _ _) ?_)
  refine t_ialdK 228 (j + 3) (ab_dd tk_law_0 15 rfl) rfl (by decide) h50 h48 rfl (by omega) (by omega) ?_
  refine x_aload_n 229 0 (ab_dd tk_law_0 16 rfl) rfl rfl rfl ?_
  refine x_iload_n 230 3 (ab_dd tk_law_0 17 rfl) rfl rfl rfl ?_
  refine x_iconst 231 4 (ab_dd tk_law_0 18 rfl) rfl (by decide) (x_topn 4 rfl ?_)
  refine x_iadd 232 (ab_dd tk_law_0 19 rfl) rfl (x_topn (j + 4) (nI_add _ _) ?_)
  refine t_ialdK 233 (j + 4) (ab_dd tk_law_0 20 rfl) rfl (by decide) h50 h48 rfl (by omega) (by omega) ?_
  refine x_aload_n 234 0 (ab_dd tk_law_0 21 rfl) rfl rfl rfl ?_
  refine x_iload_n 235 3 (ab_dd tk_law_0 22 rfl) rfl rfl rfl ?_
  refine x_iconst 236 5 (ab_dd tk_law_0 23 rfl) rfl (by decide) (x_topn 5 rfl ?_)
  refine x_iadd 237 (ab_dd tk_law_0 24 rfl) rfl (x_topn (j + 5) (nI_add _ _) ?_)
  refine t_ialdK 238 (j + 5) (ab_dd tk_law_0 25 rfl) rfl (by decide) h50 h48 rfl (by omega) (by omega) ?_
  refine t_callV 241 M_s_feed 7 5 [_, _, _, _, _] (ab_dd tk_law_0 26 rfl) rfl (by decide) K_s_feed V_s_feed.1 V_s_feed.2 L_law_13 rfl (Nat.le_of_ble_eq_true rfl) (by decide) (Nat.lt_of_lt_of_le (by decide) hx.1) (hx.2.1 0 (by decide)) rfl (tw (w_feed h hQ hu (xs (j + 1)) (xs (j + 2)) (xs (j + 3)) (xs (j + 4)) (xs (j + 5))) h50) (fun v1 w1 h1 => ?_)
  obtain ⟨S1, rfl, h4, hv, hm1, hC⟩ := h1
  have h481 : S1.1 48 = .inl (.int, L, .inl xs) := h4.trans h48
  have h51 : 50 ≤ sn S1 := by have := hm1.1; omega
  obtain ⟨y, rfl⟩ := hv
  refine x_aload_n 242 2 (ab_dd tk_law_0 27 rfl) rfl rfl rfl ?_
  refine x_aload_n 243 0 (ab_dd tk_law_0 28 rfl) rfl rfl rfl ?_
  refine x_iload_n 244 3 (ab_dd tk_law_0 29 rfl) rfl rfl rfl ?_
  refine x_iconst 245 1 (ab_dd tk_law_0 30 rfl) rfl (by decide) (x_topn 1 rfl ?_)
  refine x_iadd 246 (ab_dd tk_law_0 31 rfl) rfl (x_topn (j + 1) (nI_add _ _) ?_)
  refine t_ialdK 247 (j + 1) (ab_dd tk_law_0 32 rfl) rfl (by decide) h51 h481 rfl (by omega) (by omega) ?_
  refine x_aload_n 248 0 (ab_dd tk_law_0 33 rfl) rfl rfl rfl ?_
  refine x_iload_n 249 3 (ab_dd tk_law_0 34 rfl) rfl rfl rfl ?_
  refine x_iconst 250 2 (ab_dd tk_law_0 35 rfl) rfl (by decide) (x_topn 2 rfl ?_)
  refine x_iadd 251 (ab_dd tk_law_0 36 rfl) rfl (x_topn (j + 2) (nI_add _ _) ?_)
  refine t_ialdK 252 (j + 2) (ab_dd tk_law_0 37 rfl) rfl (by decide) h51 h481 rfl (by omega) (by omega) ?_
  refine x_aload_n 253 0 (ab_dd tk_law_0 38 rfl) rfl rfl rfl ?_
  refine x_iload_n 254 3 (ab_dd tk_law_0 39 rfl) rfl rfl rfl ?_
  refine x_iconst 255 3 (ab_dd tk_law_0 40 rfl) rfl (by decide) (x_topn 3 rfl ?_)
  refine x_iadd 256 (ab_dd tk_law_0 41 rfl) rfl (x_topn (j + 3) (nI_add _ _) ?_)
  refine t_ialdK 257 (j + 3) (ab_dd tk_law_0 42 rfl) rfl (by decide) h51 h481 rfl (by omega) (by omega) ?_
  refine x_aload_n 258 0 (ab_dd tk_law_0 43 rfl) rfl rfl rfl ?_
  refine x_iload_n 259 3 (ab_dd tk_law_0 44 rfl) rfl rfl rfl ?_
  refine x_iconst 260 4 (ab_dd tk_law_0 45 rfl) rfl (by decide) (x_topn 4 rfl ?_)
  refine x_iadd 261 (ab_dd tk_law_0 46 rfl) rfl (x_topn (j + 4) (nI_add _ _) ?_)
  refine t_ialdK 262 (j + 4) (ab_dd tk_law_0 47 rfl) rfl (by decide) h51 h481 rfl (by omega) (by omega) ?_
  refine x_aload_n 263 0 (ab_dd tk_law_0 48 rfl) rfl rfl rfl ?_
  refine x_iload_n 264 3 (ab_dd tk_law_0 49 rfl) rfl rfl rfl ?_
  refine x_iconst 265 5 (ab_dd tk_law_0 50 rfl) rfl (by decide) (x_topn 5 rfl ?_)
  refine x_iadd 266 (ab_dd tk_law_0 51 rfl) rfl (x_topn (j + 5) (nI_add _ _) ?_)
  refine t_ialdK 267 (j + 5) (ab_dd tk_law_0 52 rfl) rfl (by decide) h51 h481 rfl (by omega) (by omega) ?_
  refine t_callV 270 M_m_feed 0 5 [_, _, _, _, _] (ab_dd tk_law_0 53 rfl) rfl (by decide) K_m_feed V_m_feed.1 V_m_feed.2 L_law_17 rfl (Nat.le_of_ble_eq_true rfl) (by decide) (Nat.lt_of_lt_of_le (by decide) hm1.1) (hm1.2.1 0 (by decide)) rfl hC (fun v2 w2 h2 => ?_)
  obtain ⟨rfl, S2, rfl, hS2, hG2, hk2⟩ := h2
  exact x_icmp_eq_t 1437 (ab_dd tk_law_0 54 rfl) (by decide) rfl (K S2 hS2 hG2 hk2)
def tb_law_1 : List (Nat × Instr × Nat) := [(275, .aload_n 1, 1), (276, .aload_n 0, 1), (277, .iload_n 3, 1), (278, .iconst 1, 1), (279, .iadd, 1), (280, .iaload, 1), (281, .invokevirtual 18, 3), (284, .aload_n 2, 1), (285, .aload_n 0, 1), (286, .iload_n 3, 1), (287, .iconst 1, 1), (288, .iadd, 1), (289, .iaload, 1), (290, .invokevirtual 22, 3), (293, .if_icmp .eq 1144, 3), (296, .iconst 0, 1), (297, .ireturn, 1)]
theorem tk_law_1 : ∀ q ∈ tb_law_1, decode ab_law.2.1 q.1 = .ok q.2 := by decide +kernel
theorem law_1 {G : ab_G} {S : ab_S} {u L j : Nat} {xs : Nat → Int32} {Q : Option Value → ab_H → Prop} (hS : Sim S u) (hu : u + 128 < 2 ^ 20) (hj : j + 6 ≤ L) (hL : L ≤ 3072) (h48 : S.1 48 = .inl (.int, L, .inl xs)) (K : ∀ S2, Sim S2 (u + 128) → gA S S2 904 929 → S2.1 = S.1 → ab_Ex G 1000 ab_law 1437 [some (.ref 48), some (.ref 50), some (.ref 120), some (.int (nI j))] [] (sw S2) Q) : ab_Ex G 1000 ab_law 275 [some (.ref 48), some (.ref 50), some (.ref 120), some (.int (nI j))] [] (sw S) Q := by
  obtain ⟨im, c, b, bh, nb, st, st2, n, s, f, t, tp, h, hQ⟩ := hS
  have hx := h.1
  have h50 : 50 ≤ sn S := by have := hQ.1.1; omega
  refine x_aload_n 276 1 (ab_dd tk_law_1 0 rfl) rfl rfl rfl ?_
  refine x_aload_n 277 0 (ab_dd tk_law_1 1 rfl) rfl rfl rfl ?_
  refine x_iload_n 278 3 (ab_dd tk_law_1 2 rfl) rfl rfl rfl ?_
  refine x_iconst 279 1 (ab_dd tk_law_1 3 rfl) rfl (by decide) (x_topn 1 rfl ?_)
  refine x_iadd 280 (ab_dd tk_law_1 4 rfl) rfl (x_topn (j + 1) (nI_add _ _) ?_)
  refine t_ialdK 281 (j + 1) (ab_dd tk_law_1 5 rfl) rfl (by decide) h50 h48 rfl (by omega) (by omega) ?_
  refine t_callV 284 M_s_train 104 1 [_] (ab_dd tk_law_1 6 rfl) rfl (by decide) K_s_train V_s_train.1 V_s_train.2 L_law_18 rfl (Nat.le_of_ble_eq_true rfl) (by decide) (Nat.lt_of_lt_of_le (by decide) hx.1) (hx.2.1 0 (by decide)) rfl (tw (w_train h hQ hu (xs (j + 1))) h50) (fun v1 w1 h1 => ?_)
  obtain ⟨S1, rfl, h4, hv, hm1, hC⟩ := h1
  have h481 : S1.1 48 = .inl (.int, L, .inl xs) := h4.trans h48
  have h51 : 50 ≤ sn S1 := by have := hm1.1; omega
  obtain ⟨y, rfl⟩ := hv
  refine x_aload_n 285 2 (ab_dd tk_law_1 7 rfl) rfl rfl rfl ?_
  refine x_aload_n 286 0 (ab_dd tk_law_1 8 rfl) rfl rfl rfl ?_
  refine x_iload_n 287 3 (ab_dd tk_law_1 9 rfl) rfl rfl rfl ?_
  refine x_iconst 288 1 (ab_dd tk_law_1 10 rfl) rfl (by decide) (x_topn 1 rfl ?_)
  refine x_iadd 289 (ab_dd tk_law_1 11 rfl) rfl (x_topn (j + 1) (nI_add _ _) ?_)
  refine t_ialdK 290 (j + 1) (ab_dd tk_law_1 12 rfl) rfl (by decide) h51 h481 rfl (by omega) (by omega) ?_
  refine t_callV 293 M_m_train 82 1 [_] (ab_dd tk_law_1 13 rfl) rfl (by decide) K_m_train V_m_train.1 V_m_train.2 L_law_22 rfl (Nat.le_of_ble_eq_true rfl) (by decide) (Nat.lt_of_lt_of_le (by decide) hm1.1) (hm1.2.1 0 (by decide)) rfl hC (fun v2 w2 h2 => ?_)
  obtain ⟨rfl, S2, rfl, hS2, hG2, hk2⟩ := h2
  exact x_icmp_eq_t 1437 (ab_dd tk_law_1 14 rfl) (by decide) rfl (K S2 hS2 hG2 hk2)
def tb_law_2 : List (Nat × Instr × Nat) := [(298, .aload_n 1, 1), (299, .aload_n 0, 1), (300, .iload_n 3, 1), (301, .iconst 1, 1), (302, .iadd, 1), (303, .iaload, 1), (304, .invokevirtual 23, 3), (307, .aload_n 2, 1), (308, .aload_n 0, 1), (309, .iload_n 3, 1), (310, .iconst 1, 1), (311, .iadd, 1), (312, .iaload, 1), (313, .invokevirtual 26, 3), (316, .if_icmp .eq 1121, 3), (319, .iconst 0, 1), (320, .ireturn, 1)]
theorem tk_law_2 : ∀ q ∈ tb_law_2, decode ab_law.2.1 q.1 = .ok q.2 := by decide +kernel
theorem law_2 {G : ab_G} {S : ab_S} {u L j : Nat} {xs : Nat → Int32} {Q : Option Value → ab_H → Prop} (hS : Sim S u) (hu : u + 128 < 2 ^ 20) (hj : j + 6 ≤ L) (hL : L ≤ 3072) (h48 : S.1 48 = .inl (.int, L, .inl xs)) (K : ∀ S2, Sim S2 (u + 128) → gA S S2 904 929 → S2.1 = S.1 → ab_Ex G 1000 ab_law 1437 [some (.ref 48), some (.ref 50), some (.ref 120), some (.int (nI j))] [] (sw S2) Q) : ab_Ex G 1000 ab_law 298 [some (.ref 48), some (.ref 50), some (.ref 120), some (.int (nI j))] [] (sw S) Q := by
  obtain ⟨im, c, b, bh, nb, st, st2, n, s, f, t, tp, h, hQ⟩ := hS
  have hx := h.1
  have h50 : 50 ≤ sn S := by have := hQ.1.1; omega
  refine x_aload_n 299 1 (ab_dd tk_law_2 0 rfl) rfl rfl rfl ?_
  refine x_aload_n 300 0 (ab_dd tk_law_2 1 rfl) rfl rfl rfl ?_
  refine x_iload_n 301 3 (ab_dd tk_law_2 2 rfl) rfl rfl rfl ?_
  refine x_iconst 302 1 (ab_dd tk_law_2 3 rfl) rfl (by decide) (x_topn 1 rfl ?_)
  refine x_iadd 303 (ab_dd tk_law_2 4 rfl) rfl (x_topn (j + 1) (nI_add _ _) ?_)
  refine t_ialdK 304 (j + 1) (ab_dd tk_law_2 5 rfl) rfl (by decide) h50 h48 rfl (by omega) (by omega) ?_
  refine t_callV 307 M_s_fault 0 1 [_] (ab_dd tk_law_2 6 rfl) rfl (by decide) K_s_fault V_s_fault.1 V_s_fault.2 L_law_23 rfl (Nat.le_of_ble_eq_true rfl) (by decide) (Nat.lt_of_lt_of_le (by decide) hx.1) (hx.2.1 0 (by decide)) rfl (tw (w_fault h hQ hu (xs (j + 1))) h50) (fun v1 w1 h1 => ?_)
  obtain ⟨S1, rfl, h4, hv, hm1, hC⟩ := h1
  have h481 : S1.1 48 = .inl (.int, L, .inl xs) := h4.trans h48
  have h51 : 50 ≤ sn S1 := by have := hm1.1; omega
  obtain ⟨y, rfl⟩ := hv
  refine x_aload_n 308 2 (ab_dd tk_law_2 7 rfl) rfl rfl rfl ?_
  refine x_aload_n 309 0 (ab_dd tk_law_2 8 rfl) rfl rfl rfl ?_
  refine x_iload_n 310 3 (ab_dd tk_law_2 9 rfl) rfl rfl rfl ?_
  refine x_iconst 311 1 (ab_dd tk_law_2 10 rfl) rfl (by decide) (x_topn 1 rfl ?_)
  refine x_iadd 312 (ab_dd tk_law_2 11 rfl) rfl (x_topn (j + 1) (nI_add _ _) ?_)
  refine t_ialdK 313 (j + 1) (ab_dd tk_law_2 12 rfl) rfl (by decide) h51 h481 rfl (by omega) (by omega) ?_
  refine t_callV 316 M_m_fault 0 1 [_] (ab_dd tk_law_2 13 rfl) rfl (by decide) K_m_fault V_m_fault.1 V_m_fault.2 L_law_26 rfl (Nat.le_of_ble_eq_true rfl) (by decide) (Nat.lt_of_lt_of_le (by decide) hm1.1) (hm1.2.1 0 (by decide)) rfl hC (fun v2 w2 h2 => ?_)
  obtain ⟨rfl, S2, rfl, hS2, hG2, hk2⟩ := h2
  exact x_icmp_eq_t 1437 (ab_dd tk_law_2 14 rfl) (by decide) rfl (K S2 hS2 hG2 hk2)
def tb_law_3 : List (Nat × Instr × Nat) := [(321, .aload_n 1, 1), (322, .aload_n 0, 1), (323, .iload_n 3, 1), (324, .iconst 1, 1), (325, .iadd, 1), (326, .iaload, 1), (327, .aload_n 0, 1), (328, .iload_n 3, 1), (329, .iconst 2, 1), (330, .iadd, 1), (331, .iaload, 1), (332, .invokevirtual 27, 3), (335, .aload_n 2, 1), (336, .aload_n 0, 1), (337, .iload_n 3, 1), (338, .iconst 1, 1), (339, .iadd, 1), (340, .iaload, 1), (341, .aload_n 0, 1), (342, .iload_n 3, 1), (343, .iconst 2, 1), (344, .iadd, 1), (345, .iaload, 1), (346, .invokevirtual 31, 3), (349, .if_icmp .eq 1088, 3), (352, .iconst 0, 1), (353, .ireturn, 1)]
theorem tk_law_3 : ∀ q ∈ tb_law_3, decode ab_law.2.1 q.1 = .ok q.2 := by decide +kernel
theorem law_3 {G : ab_G} {S : ab_S} {u L j : Nat} {xs : Nat → Int32} {Q : Option Value → ab_H → Prop} (hS : Sim S u) (hu : u + 128 < 2 ^ 20) (hj : j + 6 ≤ L) (hL : L ≤ 3072) (h48 : S.1 48 = .inl (.int, L, .inl xs)) (K : ∀ S2, Sim S2 (u + 128) → gA S S2 904 929 → S2.1 = S.1 → ab_Ex G 1000 ab_law 1437 [some (.ref 48), some (.ref 50), some (.ref 120), some (.int (nI j))] [] (sw S2) Q) : ab_Ex G 1000 ab_law 321 [some (.ref 48), some (.ref 50), some (.ref 120), some (.int (nI j))] [] (sw S) Q := by
  obtain ⟨im, c, b, bh, nb, st, st2, n, s, f, t, tp, h, hQ⟩ := hS
  have hx := h.1
  have h50 : 50 ≤ sn S := by have := hQ.1.1; omega
  refine x_aload_n 322 1 (ab_dd tk_law_3 0 rfl) rfl rfl rfl ?_
  refine x_aload_n 323 0 (ab_dd tk_law_3 1 rfl) rfl rfl rfl ?_
  refine x_iload_n 324 3 (ab_dd tk_law_3 2 rfl) rfl rfl rfl ?_
  refine x_iconst 325 1 (ab_dd tk_law_3 3 rfl) rfl (by decide) (x_topn 1 rfl ?_)
  refine x_iadd 326 (ab_dd tk_law_3 4 rfl) rfl (x_topn (j + 1) (nI_add _ _) ?_)
  refine t_ialdK 327 (j + 1) (ab_dd tk_law_3 5 rfl) rfl (by decide) h50 h48 rfl (by omega) (by omega) ?_
  refine x_aload_n 328 0 (ab_dd tk_law_3 6 rfl) rfl rfl rfl ?_
  refine x_iload_n 329 3 (ab_dd tk_law_3 7 rfl) rfl rfl rfl ?_
  refine x_iconst 330 2 (ab_dd tk_law_3 8 rfl) rfl (by decide) (x_topn 2 rfl ?_)
  refine x_iadd 331 (ab_dd tk_law_3 9 rfl) rfl (x_topn (j + 2) (nI_add _ _) ?_)
  refine t_ialdK 332 (j + 2) (ab_dd tk_law_3 10 rfl) rfl (by decide) h50 h48 rfl (by omega) (by omega) ?_
  refine t_callV 335 M_s_rider 7 2 [_, _] (ab_dd tk_law_3 11 rfl) rfl (by decide) K_s_rider V_s_rider.1 V_s_rider.2 L_law_27 rfl (Nat.le_of_ble_eq_true rfl) (by decide) (Nat.lt_of_lt_of_le (by decide) hx.1) (hx.2.1 0 (by decide)) rfl (tw (w_rider h hQ hu (xs (j + 1)) (xs (j + 2))) h50) (fun v1 w1 h1 => ?_)
  obtain ⟨S1, rfl, h4, hv, hm1, hC⟩ := h1
  have h481 : S1.1 48 = .inl (.int, L, .inl xs) := h4.trans h48
  have h51 : 50 ≤ sn S1 := by have := hm1.1; omega
  obtain ⟨y, rfl⟩ := hv
  refine x_aload_n 336 2 (ab_dd tk_law_3 12 rfl) rfl rfl rfl ?_
  refine x_aload_n 337 0 (ab_dd tk_law_3 13 rfl) rfl rfl rfl ?_
  refine x_iload_n 338 3 (ab_dd tk_law_3 14 rfl) rfl rfl rfl ?_
  refine x_iconst 339 1 (ab_dd tk_law_3 15 rfl) rfl (by decide) (x_topn 1 rfl ?_)
  refine x_iadd 340 (ab_dd tk_law_3 16 rfl) rfl (x_topn (j + 1) (nI_add _ _) ?_)
  refine t_ialdK 341 (j + 1) (ab_dd tk_law_3 17 rfl) rfl (by decide) h51 h481 rfl (by omega) (by omega) ?_
  refine x_aload_n 342 0 (ab_dd tk_law_3 18 rfl) rfl rfl rfl ?_
  refine x_iload_n 343 3 (ab_dd tk_law_3 19 rfl) rfl rfl rfl ?_
  refine x_iconst 344 2 (ab_dd tk_law_3 20 rfl) rfl (by decide) (x_topn 2 rfl ?_)
  refine x_iadd 345 (ab_dd tk_law_3 21 rfl) rfl (x_topn (j + 2) (nI_add _ _) ?_)
  refine t_ialdK 346 (j + 2) (ab_dd tk_law_3 22 rfl) rfl (by decide) h51 h481 rfl (by omega) (by omega) ?_
  refine t_callV 349 M_m_rider 2 2 [_, _] (ab_dd tk_law_3 23 rfl) rfl (by decide) K_m_rider V_m_rider.1 V_m_rider.2 L_law_31 rfl (Nat.le_of_ble_eq_true rfl) (by decide) (Nat.lt_of_lt_of_le (by decide) hm1.1) (hm1.2.1 0 (by decide)) rfl hC (fun v2 w2 h2 => ?_)
  obtain ⟨rfl, S2, rfl, hS2, hG2, hk2⟩ := h2
  exact x_icmp_eq_t 1437 (ab_dd tk_law_3 24 rfl) (by decide) rfl (K S2 hS2 hG2 hk2)
def tb_law_4 : List (Nat × Instr × Nat) := [(354, .aload_n 1, 1), (355, .aload_n 0, 1), (356, .iload_n 3, 1), (357, .iconst 1, 1), (358, .iadd, 1), (359, .iaload, 1), (360, .invokevirtual 32, 3), (363, .aload_n 2, 1), (364, .aload_n 0, 1), (365, .iload_n 3, 1), (366, .iconst 1, 1), (367, .iadd, 1), (368, .iaload, 1), (369, .invokevirtual 35, 3), (372, .if_icmp .eq 1065, 3), (375, .iconst 0, 1), (376, .ireturn, 1)]
theorem tk_law_4 : ∀ q ∈ tb_law_4, decode ab_law.2.1 q.1 = .ok q.2 := by decide +kernel
theorem law_4 {G : ab_G} {S : ab_S} {u L j : Nat} {xs : Nat → Int32} {Q : Option Value → ab_H → Prop} (hS : Sim S u) (hu : u + 128 < 2 ^ 20) (hj : j + 6 ≤ L) (hL : L ≤ 3072) (h48 : S.1 48 = .inl (.int, L, .inl xs)) (K : ∀ S2, Sim S2 (u + 128) → gA S S2 904 929 → S2.1 = S.1 → ab_Ex G 1000 ab_law 1437 [some (.ref 48), some (.ref 50), some (.ref 120), some (.int (nI j))] [] (sw S2) Q) : ab_Ex G 1000 ab_law 354 [some (.ref 48), some (.ref 50), some (.ref 120), some (.int (nI j))] [] (sw S) Q := by
  obtain ⟨im, c, b, bh, nb, st, st2, n, s, f, t, tp, h, hQ⟩ := hS
  have hx := h.1
  have h50 : 50 ≤ sn S := by have := hQ.1.1; omega
  refine x_aload_n 355 1 (ab_dd tk_law_4 0 rfl) rfl rfl rfl ?_
  refine x_aload_n 356 0 (ab_dd tk_law_4 1 rfl) rfl rfl rfl ?_
  refine x_iload_n 357 3 (ab_dd tk_law_4 2 rfl) rfl rfl rfl ?_
  refine x_iconst 358 1 (ab_dd tk_law_4 3 rfl) rfl (by decide) (x_topn 1 rfl ?_)
  refine x_iadd 359 (ab_dd tk_law_4 4 rfl) rfl (x_topn (j + 1) (nI_add _ _) ?_)
  refine t_ialdK 360 (j + 1) (ab_dd tk_law_4 5 rfl) rfl (by decide) h50 h48 rfl (by omega) (by omega) ?_
  refine t_callV 363 M_s_seat 7 1 [_] (ab_dd tk_law_4 6 rfl) rfl (by decide) K_s_seat V_s_seat.1 V_s_seat.2 L_law_32 rfl (Nat.le_of_ble_eq_true rfl) (by decide) (Nat.lt_of_lt_of_le (by decide) hx.1) (hx.2.1 0 (by decide)) rfl (tw (w_seat h hQ hu (xs (j + 1))) h50) (fun v1 w1 h1 => ?_)
  obtain ⟨S1, rfl, h4, hv, hm1, hC⟩ := h1
  have h481 : S1.1 48 = .inl (.int, L, .inl xs) := h4.trans h48
  have h51 : 50 ≤ sn S1 := by have := hm1.1; omega
  obtain ⟨y, rfl⟩ := hv
  refine x_aload_n 364 2 (ab_dd tk_law_4 7 rfl) rfl rfl rfl ?_
  refine x_aload_n 365 0 (ab_dd tk_law_4 8 rfl) rfl rfl rfl ?_
  refine x_iload_n 366 3 (ab_dd tk_law_4 9 rfl) rfl rfl rfl ?_
  refine x_iconst 367 1 (ab_dd tk_law_4 10 rfl) rfl (by decide) (x_topn 1 rfl ?_)
  refine x_iadd 368 (ab_dd tk_law_4 11 rfl) rfl (x_topn (j + 1) (nI_add _ _) ?_)
  refine t_ialdK 369 (j + 1) (ab_dd tk_law_4 12 rfl) rfl (by decide) h51 h481 rfl (by omega) (by omega) ?_
  refine t_callV 372 M_m_seat 2 1 [_] (ab_dd tk_law_4 13 rfl) rfl (by decide) K_m_seat V_m_seat.1 V_m_seat.2 L_law_35 rfl (Nat.le_of_ble_eq_true rfl) (by decide) (Nat.lt_of_lt_of_le (by decide) hm1.1) (hm1.2.1 0 (by decide)) rfl hC (fun v2 w2 h2 => ?_)
  obtain ⟨rfl, S2, rfl, hS2, hG2, hk2⟩ := h2
  exact x_icmp_eq_t 1437 (ab_dd tk_law_4 14 rfl) (by decide) rfl (K S2 hS2 hG2 hk2)
def tb_law_5 : List (Nat × Instr × Nat) := [(377, .aload_n 1, 1), (378, .aload_n 0, 1), (379, .iload_n 3, 1), (380, .iconst 1, 1), (381, .iadd, 1), (382, .iaload, 1), (383, .invokevirtual 36, 3), (386, .aload_n 2, 1), (387, .aload_n 0, 1), (388, .iload_n 3, 1), (389, .iconst 1, 1), (390, .iadd, 1), (391, .iaload, 1), (392, .invokevirtual 39, 3), (395, .if_icmp .eq 1042, 3), (398, .iconst 0, 1), (399, .ireturn, 1)]
theorem tk_law_5 : ∀ q ∈ tb_law_5, decode ab_law.2.1 q.1 = .ok q.2 := by decide +kernel
theorem law_5 {G : ab_G} {S : ab_S} {u L j : Nat} {xs : Nat → Int32} {Q : Option Value → ab_H → Prop} (hS : Sim S u) (hu : u + 128 < 2 ^ 20) (hj : j + 6 ≤ L) (hL : L ≤ 3072) (h48 : S.1 48 = .inl (.int, L, .inl xs)) (K : ∀ S2, Sim S2 (u + 128) → gA S S2 904 929 → S2.1 = S.1 → ab_Ex G 1000 ab_law 1437 [some (.ref 48), some (.ref 50), some (.ref 120), some (.int (nI j))] [] (sw S2) Q) : ab_Ex G 1000 ab_law 377 [some (.ref 48), some (.ref 50), some (.ref 120), some (.int (nI j))] [] (sw S) Q := by
  obtain ⟨im, c, b, bh, nb, st, st2, n, s, f, t, tp, h, hQ⟩ := hS
  have hx := h.1
  have h50 : 50 ≤ sn S := by have := hQ.1.1; omega
  refine x_aload_n 378 1 (ab_dd tk_law_5 0 rfl) rfl rfl rfl ?_
  refine x_aload_n 379 0 (ab_dd tk_law_5 1 rfl) rfl rfl rfl ?_
  refine x_iload_n 380 3 (ab_dd tk_law_5 2 rfl) rfl rfl rfl ?_
  refine x_iconst 381 1 (ab_dd tk_law_5 3 rfl) rfl (by decide) (x_topn 1 rfl ?_)
  refine x_iadd 382 (ab_dd tk_law_5 4 rfl) rfl (x_topn (j + 1) (nI_add _ _) ?_)
  refine t_ialdK 383 (j + 1) (ab_dd tk_law_5 5 rfl) rfl (by decide) h50 h48 rfl (by omega) (by omega) ?_
  refine t_callV 386 M_s_why 7 1 [_] (ab_dd tk_law_5 6 rfl) rfl (by decide) K_s_why V_s_why.1 V_s_why.2 L_law_36 rfl (Nat.le_of_ble_eq_true rfl) (by decide) (Nat.lt_of_lt_of_le (by decide) hx.1) (hx.2.1 0 (by decide)) rfl (tw (w_why h hQ hu (xs (j + 1))) h50) (fun v1 w1 h1 => ?_)
  obtain ⟨S1, rfl, h4, hv, hm1, hC⟩ := h1
  have h481 : S1.1 48 = .inl (.int, L, .inl xs) := h4.trans h48
  have h51 : 50 ≤ sn S1 := by have := hm1.1; omega
  obtain ⟨y, rfl⟩ := hv
  refine x_aload_n 387 2 (ab_dd tk_law_5 7 rfl) rfl rfl rfl ?_
  refine x_aload_n 388 0 (ab_dd tk_law_5 8 rfl) rfl rfl rfl ?_
  refine x_iload_n 389 3 (ab_dd tk_law_5 9 rfl) rfl rfl rfl ?_
  refine x_iconst 390 1 (ab_dd tk_law_5 10 rfl) rfl (by decide) (x_topn 1 rfl ?_)
  refine x_iadd 391 (ab_dd tk_law_5 11 rfl) rfl (x_topn (j + 1) (nI_add _ _) ?_)
  refine t_ialdK 392 (j + 1) (ab_dd tk_law_5 12 rfl) rfl (by decide) h51 h481 rfl (by omega) (by omega) ?_
  refine t_callV 395 M_m_why 5 1 [_] (ab_dd tk_law_5 13 rfl) rfl (by decide) K_m_why V_m_why.1 V_m_why.2 L_law_39 rfl (Nat.le_of_ble_eq_true rfl) (by decide) (Nat.lt_of_lt_of_le (by decide) hm1.1) (hm1.2.1 0 (by decide)) rfl hC (fun v2 w2 h2 => ?_)
  obtain ⟨rfl, S2, rfl, hS2, hG2, hk2⟩ := h2
  exact x_icmp_eq_t 1437 (ab_dd tk_law_5 14 rfl) (by decide) rfl (K S2 hS2 hG2 hk2)
def tb_law_6 : List (Nat × Instr × Nat) := [(400, .aload_n 1, 1), (401, .aload_n 0, 1), (402, .iload_n 3, 1), (403, .iconst 1, 1), (404, .iadd, 1), (405, .iaload, 1), (406, .aload_n 0, 1), (407, .iload_n 3, 1), (408, .iconst 2, 1), (409, .iadd, 1), (410, .iaload, 1), (411, .invokevirtual 40, 3), (414, .aload_n 2, 1), (415, .aload_n 0, 1), (416, .iload_n 3, 1), (417, .iconst 1, 1), (418, .iadd, 1), (419, .iaload, 1), (420, .aload_n 0, 1), (421, .iload_n 3, 1), (422, .iconst 2, 1), (423, .iadd, 1), (424, .iaload, 1), (425, .invokevirtual 43, 3), (428, .if_icmp .eq 1009, 3), (431, .iconst 0, 1), (432, .ireturn, 1)]
theorem tk_law_6 : ∀ q ∈ tb_law_6, decode ab_law.2.1 q.1 = .ok q.2 := by decide +kernel
theorem law_6 {G : ab_G} {S : ab_S} {u L j : Nat} {xs : Nat → Int32} {Q : Option Value → ab_H → Prop} (hS : Sim S u) (hu : u + 128 < 2 ^ 20) (hj : j + 6 ≤ L) (hL : L ≤ 3072) (h48 : S.1 48 = .inl (.int, L, .inl xs)) (K : ∀ S2, Sim S2 (u + 128) → gA S S2 904 929 → S2.1 = S.1 → ab_Ex G 1000 ab_law 1437 [some (.ref 48), some (.ref 50), some (.ref 120), some (.int (nI j))] [] (sw S2) Q) : ab_Ex G 1000 ab_law 400 [some (.ref 48), some (.ref 50), some (.ref 120), some (.int (nI j))] [] (sw S) Q := by
  obtain ⟨im, c, b, bh, nb, st, st2, n, s, f, t, tp, h, hQ⟩ := hS
  have hx := h.1
  have h50 : 50 ≤ sn S := by have := hQ.1.1; omega
  refine x_aload_n 401 1 (ab_dd tk_law_6 0 rfl) rfl rfl rfl ?_
  refine x_aload_n 402 0 (ab_dd tk_law_6 1 rfl) rfl rfl rfl ?_
  refine x_iload_n 403 3 (ab_dd tk_law_6 2 rfl) rfl rfl rfl ?_
  refine x_iconst 404 1 (ab_dd tk_law_6 3 rfl) rfl (by decide) (x_topn 1 rfl ?_)
  refine x_iadd 405 (ab_dd tk_law_6 4 rfl) rfl (x_topn (j + 1) (nI_add _ _) ?_)
  refine t_ialdK 406 (j + 1) (ab_dd tk_law_6 5 rfl) rfl (by decide) h50 h48 rfl (by omega) (by omega) ?_
  refine x_aload_n 407 0 (ab_dd tk_law_6 6 rfl) rfl rfl rfl ?_
  refine x_iload_n 408 3 (ab_dd tk_law_6 7 rfl) rfl rfl rfl ?_
  refine x_iconst 409 2 (ab_dd tk_law_6 8 rfl) rfl (by decide) (x_topn 2 rfl ?_)
  refine x_iadd 410 (ab_dd tk_law_6 9 rfl) rfl (x_topn (j + 2) (nI_add _ _) ?_)
  refine t_ialdK 411 (j + 2) (ab_dd tk_law_6 10 rfl) rfl (by decide) h50 h48 rfl (by omega) (by omega) ?_
  refine t_callV 414 M_s_by 7 2 [_, _] (ab_dd tk_law_6 11 rfl) rfl (by decide) K_s_by V_s_by.1 V_s_by.2 L_law_40 rfl (Nat.le_of_ble_eq_true rfl) (by decide) (Nat.lt_of_lt_of_le (by decide) hx.1) (hx.2.1 0 (by decide)) rfl (tw (w_by h hQ hu (xs (j + 1)) (xs (j + 2))) h50) (fun v1 w1 h1 => ?_)
  obtain ⟨S1, rfl, h4, hv, hm1, hC⟩ := h1
  have h481 : S1.1 48 = .inl (.int, L, .inl xs) := h4.trans h48
  have h51 : 50 ≤ sn S1 := by have := hm1.1; omega
  obtain ⟨y, rfl⟩ := hv
  refine x_aload_n 415 2 (ab_dd tk_law_6 12 rfl) rfl rfl rfl ?_
  refine x_aload_n 416 0 (ab_dd tk_law_6 13 rfl) rfl rfl rfl ?_
  refine x_iload_n 417 3 (ab_dd tk_law_6 14 rfl) rfl rfl rfl ?_
  refine x_iconst 418 1 (ab_dd tk_law_6 15 rfl) rfl (by decide) (x_topn 1 rfl ?_)
  refine x_iadd 419 (ab_dd tk_law_6 16 rfl) rfl (x_topn (j + 1) (nI_add _ _) ?_)
  refine t_ialdK 420 (j + 1) (ab_dd tk_law_6 17 rfl) rfl (by decide) h51 h481 rfl (by omega) (by omega) ?_
  refine x_aload_n 421 0 (ab_dd tk_law_6 18 rfl) rfl rfl rfl ?_
  refine x_iload_n 422 3 (ab_dd tk_law_6 19 rfl) rfl rfl rfl ?_
  refine x_iconst 423 2 (ab_dd tk_law_6 20 rfl) rfl (by decide) (x_topn 2 rfl ?_)
  refine x_iadd 424 (ab_dd tk_law_6 21 rfl) rfl (x_topn (j + 2) (nI_add _ _) ?_)
  refine t_ialdK 425 (j + 2) (ab_dd tk_law_6 22 rfl) rfl (by decide) h51 h481 rfl (by omega) (by omega) ?_
  refine t_callV 428 M_m_by 5 2 [_, _] (ab_dd tk_law_6 23 rfl) rfl (by decide) K_m_by V_m_by.1 V_m_by.2 L_law_43 rfl (Nat.le_of_ble_eq_true rfl) (by decide) (Nat.lt_of_lt_of_le (by decide) hm1.1) (hm1.2.1 0 (by decide)) rfl hC (fun v2 w2 h2 => ?_)
  obtain ⟨rfl, S2, rfl, hS2, hG2, hk2⟩ := h2
  exact x_icmp_eq_t 1437 (ab_dd tk_law_6 24 rfl) (by decide) rfl (K S2 hS2 hG2 hk2)
def tb_law_7 : List (Nat × Instr × Nat) := [(433, .aload_n 1, 1), (434, .aload_n 0, 1), (435, .iload_n 3, 1), (436, .iconst 1, 1), (437, .iadd, 1), (438, .iaload, 1), (439, .invokevirtual 44, 3), (442, .aload_n 2, 1), (443, .aload_n 0, 1), (444, .iload_n 3, 1), (445, .iconst 1, 1), (446, .iadd, 1), (447, .iaload, 1), (448, .invokevirtual 47, 3), (451, .if_icmp .eq 986, 3), (454, .iconst 0, 1), (455, .ireturn, 1)]
theorem tk_law_7 : ∀ q ∈ tb_law_7, decode ab_law.2.1 q.1 = .ok q.2 := by decide +kernel
theorem law_7 {G : ab_G} {S : ab_S} {u L j : Nat} {xs : Nat → Int32} {Q : Option Value → ab_H → Prop} (hS : Sim S u) (hu : u + 128 < 2 ^ 20) (hj : j + 6 ≤ L) (hL : L ≤ 3072) (h48 : S.1 48 = .inl (.int, L, .inl xs)) (K : ∀ S2, Sim S2 (u + 128) → gA S S2 904 929 → S2.1 = S.1 → ab_Ex G 1000 ab_law 1437 [some (.ref 48), some (.ref 50), some (.ref 120), some (.int (nI j))] [] (sw S2) Q) : ab_Ex G 1000 ab_law 433 [some (.ref 48), some (.ref 50), some (.ref 120), some (.int (nI j))] [] (sw S) Q := by
  obtain ⟨im, c, b, bh, nb, st, st2, n, s, f, t, tp, h, hQ⟩ := hS
  have hx := h.1
  have h50 : 50 ≤ sn S := by have := hQ.1.1; omega
  refine x_aload_n 434 1 (ab_dd tk_law_7 0 rfl) rfl rfl rfl ?_
  refine x_aload_n 435 0 (ab_dd tk_law_7 1 rfl) rfl rfl rfl ?_
  refine x_iload_n 436 3 (ab_dd tk_law_7 2 rfl) rfl rfl rfl ?_
  refine x_iconst 437 1 (ab_dd tk_law_7 3 rfl) rfl (by decide) (x_topn 1 rfl ?_)
  refine x_iadd 438 (ab_dd tk_law_7 4 rfl) rfl (x_topn (j + 1) (nI_add _ _) ?_)
  refine t_ialdK 439 (j + 1) (ab_dd tk_law_7 5 rfl) rfl (by decide) h50 h48 rfl (by omega) (by omega) ?_
  refine t_callV 442 M_s_stop 7 1 [_] (ab_dd tk_law_7 6 rfl) rfl (by decide) K_s_stop V_s_stop.1 V_s_stop.2 L_law_44 rfl (Nat.le_of_ble_eq_true rfl) (by decide) (Nat.lt_of_lt_of_le (by decide) hx.1) (hx.2.1 0 (by decide)) rfl (tw (w_stop h hQ hu (xs (j + 1))) h50) (fun v1 w1 h1 => ?_)
  obtain ⟨S1, rfl, h4, hv, hm1, hC⟩ := h1
  have h481 : S1.1 48 = .inl (.int, L, .inl xs) := h4.trans h48
  have h51 : 50 ≤ sn S1 := by have := hm1.1; omega
  obtain ⟨y, rfl⟩ := hv
  refine x_aload_n 443 2 (ab_dd tk_law_7 7 rfl) rfl rfl rfl ?_
  refine x_aload_n 444 0 (ab_dd tk_law_7 8 rfl) rfl rfl rfl ?_
  refine x_iload_n 445 3 (ab_dd tk_law_7 9 rfl) rfl rfl rfl ?_
  refine x_iconst 446 1 (ab_dd tk_law_7 10 rfl) rfl (by decide) (x_topn 1 rfl ?_)
  refine x_iadd 447 (ab_dd tk_law_7 11 rfl) rfl (x_topn (j + 1) (nI_add _ _) ?_)
  refine t_ialdK 448 (j + 1) (ab_dd tk_law_7 12 rfl) rfl (by decide) h51 h481 rfl (by omega) (by omega) ?_
  refine t_callV 451 M_m_stop 6 1 [_] (ab_dd tk_law_7 13 rfl) rfl (by decide) K_m_stop V_m_stop.1 V_m_stop.2 L_law_47 rfl (Nat.le_of_ble_eq_true rfl) (by decide) (Nat.lt_of_lt_of_le (by decide) hm1.1) (hm1.2.1 0 (by decide)) rfl hC (fun v2 w2 h2 => ?_)
  obtain ⟨rfl, S2, rfl, hS2, hG2, hk2⟩ := h2
  exact x_icmp_eq_t 1437 (ab_dd tk_law_7 14 rfl) (by decide) rfl (K S2 hS2 hG2 hk2)
def tb_law_8 : List (Nat × Instr × Nat) := [(456, .aload_n 1, 1), (457, .aload_n 0, 1), (458, .iload_n 3, 1), (459, .iconst 1, 1), (460, .iadd, 1), (461, .iaload, 1), (462, .invokevirtual 48, 3), (465, .aload_n 2, 1), (466, .aload_n 0, 1), (467, .iload_n 3, 1), (468, .iconst 1, 1), (469, .iadd, 1), (470, .iaload, 1), (471, .invokevirtual 51, 3), (474, .if_icmp .eq 963, 3), (477, .iconst 0, 1), (478, .ireturn, 1)]
theorem tk_law_8 : ∀ q ∈ tb_law_8, decode ab_law.2.1 q.1 = .ok q.2 := by decide +kernel
theorem law_8 {G : ab_G} {S : ab_S} {u L j : Nat} {xs : Nat → Int32} {Q : Option Value → ab_H → Prop} (hS : Sim S u) (hu : u + 128 < 2 ^ 20) (hj : j + 6 ≤ L) (hL : L ≤ 3072) (h48 : S.1 48 = .inl (.int, L, .inl xs)) (K : ∀ S2, Sim S2 (u + 128) → gA S S2 904 929 → S2.1 = S.1 → ab_Ex G 1000 ab_law 1437 [some (.ref 48), some (.ref 50), some (.ref 120), some (.int (nI j))] [] (sw S2) Q) : ab_Ex G 1000 ab_law 456 [some (.ref 48), some (.ref 50), some (.ref 120), some (.int (nI j))] [] (sw S) Q := by
  obtain ⟨im, c, b, bh, nb, st, st2, n, s, f, t, tp, h, hQ⟩ := hS
  have hx := h.1
  have h50 : 50 ≤ sn S := by have := hQ.1.1; omega
  refine x_aload_n 457 1 (ab_dd tk_law_8 0 rfl) rfl rfl rfl ?_
  refine x_aload_n 458 0 (ab_dd tk_law_8 1 rfl) rfl rfl rfl ?_
  refine x_iload_n 459 3 (ab_dd tk_law_8 2 rfl) rfl rfl rfl ?_
  refine x_iconst 460 1 (ab_dd tk_law_8 3 rfl) rfl (by decide) (x_topn 1 rfl ?_)
  refine x_iadd 461 (ab_dd tk_law_8 4 rfl) rfl (x_topn (j + 1) (nI_add _ _) ?_)
  refine t_ialdK 462 (j + 1) (ab_dd tk_law_8 5 rfl) rfl (by decide) h50 h48 rfl (by omega) (by omega) ?_
  refine t_callV 465 M_s_stops 7 1 [_] (ab_dd tk_law_8 6 rfl) rfl (by decide) K_s_stops V_s_stops.1 V_s_stops.2 L_law_48 rfl (Nat.le_of_ble_eq_true rfl) (by decide) (Nat.lt_of_lt_of_le (by decide) hx.1) (hx.2.1 0 (by decide)) rfl (tw (w_stops h hQ hu (xs (j + 1))) h50) (fun v1 w1 h1 => ?_)
  obtain ⟨S1, rfl, h4, hv, hm1, hC⟩ := h1
  have h481 : S1.1 48 = .inl (.int, L, .inl xs) := h4.trans h48
  have h51 : 50 ≤ sn S1 := by have := hm1.1; omega
  obtain ⟨y, rfl⟩ := hv
  refine x_aload_n 466 2 (ab_dd tk_law_8 7 rfl) rfl rfl rfl ?_
  refine x_aload_n 467 0 (ab_dd tk_law_8 8 rfl) rfl rfl rfl ?_
  refine x_iload_n 468 3 (ab_dd tk_law_8 9 rfl) rfl rfl rfl ?_
  refine x_iconst 469 1 (ab_dd tk_law_8 10 rfl) rfl (by decide) (x_topn 1 rfl ?_)
  refine x_iadd 470 (ab_dd tk_law_8 11 rfl) rfl (x_topn (j + 1) (nI_add _ _) ?_)
  refine t_ialdK 471 (j + 1) (ab_dd tk_law_8 12 rfl) rfl (by decide) h51 h481 rfl (by omega) (by omega) ?_
  refine t_callV 474 M_m_stops 6 1 [_] (ab_dd tk_law_8 13 rfl) rfl (by decide) K_m_stops V_m_stops.1 V_m_stops.2 L_law_51 rfl (Nat.le_of_ble_eq_true rfl) (by decide) (Nat.lt_of_lt_of_le (by decide) hm1.1) (hm1.2.1 0 (by decide)) rfl hC (fun v2 w2 h2 => ?_)
  obtain ⟨rfl, S2, rfl, hS2, hG2, hk2⟩ := h2
  exact x_icmp_eq_t 1437 (ab_dd tk_law_8 14 rfl) (by decide) rfl (K S2 hS2 hG2 hk2)
def tb_law_9 : List (Nat × Instr × Nat) := [(479, .aload_n 1, 1), (480, .aload_n 0, 1), (481, .iload_n 3, 1), (482, .iconst 1, 1), (483, .iadd, 1), (484, .iaload, 1), (485, .aload_n 0, 1), (486, .iload_n 3, 1), (487, .iconst 2, 1), (488, .iadd, 1), (489, .iaload, 1), (490, .invokevirtual 52, 3), (493, .aload_n 2, 1), (494, .aload_n 0, 1), (495, .iload_n 3, 1), (496, .iconst 1, 1), (497, .iadd, 1), (498, .iaload, 1), (499, .aload_n 0, 1), (500, .iload_n 3, 1), (501, .iconst 2, 1), (502, .iadd, 1), (503, .iaload, 1), (504, .invokevirtual 55, 3), (507, .if_icmp .eq 930, 3), (510, .iconst 0, 1), (511, .ireturn, 1)]
theorem tk_law_9 : ∀ q ∈ tb_law_9, decode ab_law.2.1 q.1 = .ok q.2 := by decide +kernel
theorem law_9 {G : ab_G} {S : ab_S} {u L j : Nat} {xs : Nat → Int32} {Q : Option Value → ab_H → Prop} (hS : Sim S u) (hu : u + 128 < 2 ^ 20) (hj : j + 6 ≤ L) (hL : L ≤ 3072) (h48 : S.1 48 = .inl (.int, L, .inl xs)) (K : ∀ S2, Sim S2 (u + 128) → gA S S2 904 929 → S2.1 = S.1 → ab_Ex G 1000 ab_law 1437 [some (.ref 48), some (.ref 50), some (.ref 120), some (.int (nI j))] [] (sw S2) Q) : ab_Ex G 1000 ab_law 479 [some (.ref 48), some (.ref 50), some (.ref 120), some (.int (nI j))] [] (sw S) Q := by
  obtain ⟨im, c, b, bh, nb, st, st2, n, s, f, t, tp, h, hQ⟩ := hS
  have hx := h.1
  have h50 : 50 ≤ sn S := by have := hQ.1.1; omega
  refine x_aload_n 480 1 (ab_dd tk_law_9 0 rfl) rfl rfl rfl ?_
  refine x_aload_n 481 0 (ab_dd tk_law_9 1 rfl) rfl rfl rfl ?_
  refine x_iload_n 482 3 (ab_dd tk_law_9 2 rfl) rfl rfl rfl ?_
  refine x_iconst 483 1 (ab_dd tk_law_9 3 rfl) rfl (by decide) (x_topn 1 rfl ?_)
  refine x_iadd 484 (ab_dd tk_law_9 4 rfl) rfl (x_topn (j + 1) (nI_add _ _) ?_)
  refine t_ialdK 485 (j + 1) (ab_dd tk_law_9 5 rfl) rfl (by decide) h50 h48 rfl (by omega) (by omega) ?_
  refine x_aload_n 486 0 (ab_dd tk_law_9 6 rfl) rfl rfl rfl ?_
  refine x_iload_n 487 3 (ab_dd tk_law_9 7 rfl) rfl rfl rfl ?_
  refine x_iconst 488 2 (ab_dd tk_law_9 8 rfl) rfl (by decide) (x_topn 2 rfl ?_)
  refine x_iadd 489 (ab_dd tk_law_9 9 rfl) rfl (x_topn (j + 2) (nI_add _ _) ?_)
  refine t_ialdK 490 (j + 2) (ab_dd tk_law_9 10 rfl) rfl (by decide) h50 h48 rfl (by omega) (by omega) ?_
  refine t_callV 493 M_s_give 7 2 [_, _] (ab_dd tk_law_9 11 rfl) rfl (by decide) K_s_give V_s_give.1 V_s_give.2 L_law_52 rfl (Nat.le_of_ble_eq_true rfl) (by decide) (Nat.lt_of_lt_of_le (by decide) hx.1) (hx.2.1 0 (by decide)) rfl (tw (w_give h hQ hu (xs (j + 1)) (xs (j + 2))) h50) (fun v1 w1 h1 => ?_)
  obtain ⟨S1, rfl, h4, hv, hm1, hC⟩ := h1
  have h481 : S1.1 48 = .inl (.int, L, .inl xs) := h4.trans h48
  have h51 : 50 ≤ sn S1 := by have := hm1.1; omega
  obtain ⟨y, rfl⟩ := hv
  refine x_aload_n 494 2 (ab_dd tk_law_9 12 rfl) rfl rfl rfl ?_
  refine x_aload_n 495 0 (ab_dd tk_law_9 13 rfl) rfl rfl rfl ?_
  refine x_iload_n 496 3 (ab_dd tk_law_9 14 rfl) rfl rfl rfl ?_
  refine x_iconst 497 1 (ab_dd tk_law_9 15 rfl) rfl (by decide) (x_topn 1 rfl ?_)
  refine x_iadd 498 (ab_dd tk_law_9 16 rfl) rfl (x_topn (j + 1) (nI_add _ _) ?_)
  refine t_ialdK 499 (j + 1) (ab_dd tk_law_9 17 rfl) rfl (by decide) h51 h481 rfl (by omega) (by omega) ?_
  refine x_aload_n 500 0 (ab_dd tk_law_9 18 rfl) rfl rfl rfl ?_
  refine x_iload_n 501 3 (ab_dd tk_law_9 19 rfl) rfl rfl rfl ?_
  refine x_iconst 502 2 (ab_dd tk_law_9 20 rfl) rfl (by decide) (x_topn 2 rfl ?_)
  refine x_iadd 503 (ab_dd tk_law_9 21 rfl) rfl (x_topn (j + 2) (nI_add _ _) ?_)
  refine t_ialdK 504 (j + 2) (ab_dd tk_law_9 22 rfl) rfl (by decide) h51 h481 rfl (by omega) (by omega) ?_
  refine t_callV 507 M_m_give 3 2 [_, _] (ab_dd tk_law_9 23 rfl) rfl (by decide) K_m_give V_m_give.1 V_m_give.2 L_law_55 rfl (Nat.le_of_ble_eq_true rfl) (by decide) (Nat.lt_of_lt_of_le (by decide) hm1.1) (hm1.2.1 0 (by decide)) rfl hC (fun v2 w2 h2 => ?_)
  obtain ⟨rfl, S2, rfl, hS2, hG2, hk2⟩ := h2
  exact x_icmp_eq_t 1437 (ab_dd tk_law_9 24 rfl) (by decide) rfl (K S2 hS2 hG2 hk2)
def tb_law_10 : List (Nat × Instr × Nat) := [(512, .aload_n 1, 1), (513, .aload_n 0, 1), (514, .iload_n 3, 1), (515, .iconst 1, 1), (516, .iadd, 1), (517, .iaload, 1), (518, .invokevirtual 56, 3), (521, .aload_n 2, 1), (522, .aload_n 0, 1), (523, .iload_n 3, 1), (524, .iconst 1, 1), (525, .iadd, 1), (526, .iaload, 1), (527, .invokevirtual 59, 3), (530, .if_icmp .eq 907, 3), (533, .iconst 0, 1), (534, .ireturn, 1)]
theorem tk_law_10 : ∀ q ∈ tb_law_10, decode ab_law.2.1 q.1 = .ok q.2 := by decide +kernel
theorem law_10 {G : ab_G} {S : ab_S} {u L j : Nat} {xs : Nat → Int32} {Q : Option Value → ab_H → Prop} (hS : Sim S u) (hu : u + 128 < 2 ^ 20) (hj : j + 6 ≤ L) (hL : L ≤ 3072) (h48 : S.1 48 = .inl (.int, L, .inl xs)) (K : ∀ S2, Sim S2 (u + 128) → gA S S2 904 929 → S2.1 = S.1 → ab_Ex G 1000 ab_law 1437 [some (.ref 48), some (.ref 50), some (.ref 120), some (.int (nI j))] [] (sw S2) Q) : ab_Ex G 1000 ab_law 512 [some (.ref 48), some (.ref 50), some (.ref 120), some (.int (nI j))] [] (sw S) Q := by
  obtain ⟨im, c, b, bh, nb, st, st2, n, s, f, t, tp, h, hQ⟩ := hS
  have hx := h.1
  have h50 : 50 ≤ sn S := by have := hQ.1.1; omega
  refine x_aload_n 513 1 (ab_dd tk_law_10 0 rfl) rfl rfl rfl ?_
  refine x_aload_n 514 0 (ab_dd tk_law_10 1 rfl) rfl rfl rfl ?_
  refine x_iload_n 515 3 (ab_dd tk_law_10 2 rfl) rfl rfl rfl ?_
  refine x_iconst 516 1 (ab_dd tk_law_10 3 rfl) rfl (by decide) (x_topn 1 rfl ?_)
  refine x_iadd 517 (ab_dd tk_law_10 4 rfl) rfl (x_topn (j + 1) (nI_add _ _) ?_)
  refine t_ialdK 518 (j + 1) (ab_dd tk_law_10 5 rfl) rfl (by decide) h50 h48 rfl (by omega) (by omega) ?_
  refine t_callV 521 M_s_rug 7 1 [_] (ab_dd tk_law_10 6 rfl) rfl (by decide) K_s_rug V_s_rug.1 V_s_rug.2 L_law_56 rfl (Nat.le_of_ble_eq_true rfl) (by decide) (Nat.lt_of_lt_of_le (by decide) hx.1) (hx.2.1 0 (by decide)) rfl (tw (w_rug h hQ hu (xs (j + 1))) h50) (fun v1 w1 h1 => ?_)
  obtain ⟨S1, rfl, h4, hv, hm1, hC⟩ := h1
  have h481 : S1.1 48 = .inl (.int, L, .inl xs) := h4.trans h48
  have h51 : 50 ≤ sn S1 := by have := hm1.1; omega
  obtain ⟨y, rfl⟩ := hv
  refine x_aload_n 522 2 (ab_dd tk_law_10 7 rfl) rfl rfl rfl ?_
  refine x_aload_n 523 0 (ab_dd tk_law_10 8 rfl) rfl rfl rfl ?_
  refine x_iload_n 524 3 (ab_dd tk_law_10 9 rfl) rfl rfl rfl ?_
  refine x_iconst 525 1 (ab_dd tk_law_10 10 rfl) rfl (by decide) (x_topn 1 rfl ?_)
  refine x_iadd 526 (ab_dd tk_law_10 11 rfl) rfl (x_topn (j + 1) (nI_add _ _) ?_)
  refine t_ialdK 527 (j + 1) (ab_dd tk_law_10 12 rfl) rfl (by decide) h51 h481 rfl (by omega) (by omega) ?_
  refine t_callV 530 M_m_rug 3 1 [_] (ab_dd tk_law_10 13 rfl) rfl (by decide) K_m_rug V_m_rug.1 V_m_rug.2 L_law_59 rfl (Nat.le_of_ble_eq_true rfl) (by decide) (Nat.lt_of_lt_of_le (by decide) hm1.1) (hm1.2.1 0 (by decide)) rfl hC (fun v2 w2 h2 => ?_)
  obtain ⟨rfl, S2, rfl, hS2, hG2, hk2⟩ := h2
  exact x_icmp_eq_t 1437 (ab_dd tk_law_10 14 rfl) (by decide) rfl (K S2 hS2 hG2 hk2)
def tb_law_11 : List (Nat × Instr × Nat) := [(535, .aload_n 1, 1), (536, .aload_n 0, 1), (537, .iload_n 3, 1), (538, .iconst 1, 1), (539, .iadd, 1), (540, .iaload, 1), (541, .invokevirtual 60, 3), (544, .aload_n 2, 1), (545, .aload_n 0, 1), (546, .iload_n 3, 1), (547, .iconst 1, 1), (548, .iadd, 1), (549, .iaload, 1), (550, .invokevirtual 63, 3), (553, .if_icmp .eq 884, 3), (556, .iconst 0, 1), (557, .ireturn, 1)]
theorem tk_law_11 : ∀ q ∈ tb_law_11, decode ab_law.2.1 q.1 = .ok q.2 := by decide +kernel
theorem law_11 {G : ab_G} {S : ab_S} {u L j : Nat} {xs : Nat → Int32} {Q : Option Value → ab_H → Prop} (hS : Sim S u) (hu : u + 128 < 2 ^ 20) (hj : j + 6 ≤ L) (hL : L ≤ 3072) (h48 : S.1 48 = .inl (.int, L, .inl xs)) (K : ∀ S2, Sim S2 (u + 128) → gA S S2 904 929 → S2.1 = S.1 → ab_Ex G 1000 ab_law 1437 [some (.ref 48), some (.ref 50), some (.ref 120), some (.int (nI j))] [] (sw S2) Q) : ab_Ex G 1000 ab_law 535 [some (.ref 48), some (.ref 50), some (.ref 120), some (.int (nI j))] [] (sw S) Q := by
  obtain ⟨im, c, b, bh, nb, st, st2, n, s, f, t, tp, h, hQ⟩ := hS
  have hx := h.1
  have h50 : 50 ≤ sn S := by have := hQ.1.1; omega
  refine x_aload_n 536 1 (ab_dd tk_law_11 0 rfl) rfl rfl rfl ?_
  refine x_aload_n 537 0 (ab_dd tk_law_11 1 rfl) rfl rfl rfl ?_
  refine x_iload_n 538 3 (ab_dd tk_law_11 2 rfl) rfl rfl rfl ?_
  refine x_iconst 539 1 (ab_dd tk_law_11 3 rfl) rfl (by decide) (x_topn 1 rfl ?_)
  refine x_iadd 540 (ab_dd tk_law_11 4 rfl) rfl (x_topn (j + 1) (nI_add _ _) ?_)
  refine t_ialdK 541 (j + 1) (ab_dd tk_law_11 5 rfl) rfl (by decide) h50 h48 rfl (by omega) (by omega) ?_
  refine t_callV 544 M_s_month 7 1 [_] (ab_dd tk_law_11 6 rfl) rfl (by decide) K_s_month V_s_month.1 V_s_month.2 L_law_60 rfl (Nat.le_of_ble_eq_true rfl) (by decide) (Nat.lt_of_lt_of_le (by decide) hx.1) (hx.2.1 0 (by decide)) rfl (tw (w_month h hQ hu (xs (j + 1))) h50) (fun v1 w1 h1 => ?_)
  obtain ⟨S1, rfl, h4, hv, hm1, hC⟩ := h1
  have h481 : S1.1 48 = .inl (.int, L, .inl xs) := h4.trans h48
  have h51 : 50 ≤ sn S1 := by have := hm1.1; omega
  obtain ⟨y, rfl⟩ := hv
  refine x_aload_n 545 2 (ab_dd tk_law_11 7 rfl) rfl rfl rfl ?_
  refine x_aload_n 546 0 (ab_dd tk_law_11 8 rfl) rfl rfl rfl ?_
  refine x_iload_n 547 3 (ab_dd tk_law_11 9 rfl) rfl rfl rfl ?_
  refine x_iconst 548 1 (ab_dd tk_law_11 10 rfl) rfl (by decide) (x_topn 1 rfl ?_)
  refine x_iadd 549 (ab_dd tk_law_11 11 rfl) rfl (x_topn (j + 1) (nI_add _ _) ?_)
  refine t_ialdK 550 (j + 1) (ab_dd tk_law_11 12 rfl) rfl (by decide) h51 h481 rfl (by omega) (by omega) ?_
  refine t_callV 553 M_m_month 3 1 [_] (ab_dd tk_law_11 13 rfl) rfl (by decide) K_m_month V_m_month.1 V_m_month.2 L_law_63 rfl (Nat.le_of_ble_eq_true rfl) (by decide) (Nat.lt_of_lt_of_le (by decide) hm1.1) (hm1.2.1 0 (by decide)) rfl hC (fun v2 w2 h2 => ?_)
  obtain ⟨rfl, S2, rfl, hS2, hG2, hk2⟩ := h2
  exact x_icmp_eq_t 1437 (ab_dd tk_law_11 14 rfl) (by decide) rfl (K S2 hS2 hG2 hk2)
def tb_law_12 : List (Nat × Instr × Nat) := [(558, .aload_n 1, 1), (559, .aload_n 0, 1), (560, .iload_n 3, 1), (561, .iconst 1, 1), (562, .iadd, 1), (563, .iaload, 1), (564, .invokevirtual 64, 3), (567, .aload_n 2, 1), (568, .aload_n 0, 1), (569, .iload_n 3, 1), (570, .iconst 1, 1), (571, .iadd, 1), (572, .iaload, 1), (573, .invokevirtual 67, 3), (576, .if_icmp .eq 861, 3), (579, .iconst 0, 1), (580, .ireturn, 1)]
theorem tk_law_12 : ∀ q ∈ tb_law_12, decode ab_law.2.1 q.1 = .ok q.2 := by decide +kernel
theorem law_12 {G : ab_G} {S : ab_S} {u L j : Nat} {xs : Nat → Int32} {Q : Option Value → ab_H → Prop} (hS : Sim S u) (hu : u + 128 < 2 ^ 20) (hj : j + 6 ≤ L) (hL : L ≤ 3072) (h48 : S.1 48 = .inl (.int, L, .inl xs)) (K : ∀ S2, Sim S2 (u + 128) → gA S S2 904 929 → S2.1 = S.1 → ab_Ex G 1000 ab_law 1437 [some (.ref 48), some (.ref 50), some (.ref 120), some (.int (nI j))] [] (sw S2) Q) : ab_Ex G 1000 ab_law 558 [some (.ref 48), some (.ref 50), some (.ref 120), some (.int (nI j))] [] (sw S) Q := by
  obtain ⟨im, c, b, bh, nb, st, st2, n, s, f, t, tp, h, hQ⟩ := hS
  have hx := h.1
  have h50 : 50 ≤ sn S := by have := hQ.1.1; omega
  refine x_aload_n 559 1 (ab_dd tk_law_12 0 rfl) rfl rfl rfl ?_
  refine x_aload_n 560 0 (ab_dd tk_law_12 1 rfl) rfl rfl rfl ?_
  refine x_iload_n 561 3 (ab_dd tk_law_12 2 rfl) rfl rfl rfl ?_
  refine x_iconst 562 1 (ab_dd tk_law_12 3 rfl) rfl (by decide) (x_topn 1 rfl ?_)
  refine x_iadd 563 (ab_dd tk_law_12 4 rfl) rfl (x_topn (j + 1) (nI_add _ _) ?_)
  refine t_ialdK 564 (j + 1) (ab_dd tk_law_12 5 rfl) rfl (by decide) h50 h48 rfl (by omega) (by omega) ?_
  refine t_callV 567 M_s_undo 7 1 [_] (ab_dd tk_law_12 6 rfl) rfl (by decide) K_s_undo V_s_undo.1 V_s_undo.2 L_law_64 rfl (Nat.le_of_ble_eq_true rfl) (by decide) (Nat.lt_of_lt_of_le (by decide) hx.1) (hx.2.1 0 (by decide)) rfl (tw (w_undo h hQ hu (xs (j + 1))) h50) (fun v1 w1 h1 => ?_)
  obtain ⟨S1, rfl, h4, hv, hm1, hC⟩ := h1
  have h481 : S1.1 48 = .inl (.int, L, .inl xs) := h4.trans h48
  have h51 : 50 ≤ sn S1 := by have := hm1.1; omega
  obtain ⟨y, rfl⟩ := hv
  refine x_aload_n 568 2 (ab_dd tk_law_12 7 rfl) rfl rfl rfl ?_
  refine x_aload_n 569 0 (ab_dd tk_law_12 8 rfl) rfl rfl rfl ?_
  refine x_iload_n 570 3 (ab_dd tk_law_12 9 rfl) rfl rfl rfl ?_
  refine x_iconst 571 1 (ab_dd tk_law_12 10 rfl) rfl (by decide) (x_topn 1 rfl ?_)
  refine x_iadd 572 (ab_dd tk_law_12 11 rfl) rfl (x_topn (j + 1) (nI_add _ _) ?_)
  refine t_ialdK 573 (j + 1) (ab_dd tk_law_12 12 rfl) rfl (by decide) h51 h481 rfl (by omega) (by omega) ?_
  refine t_callV 576 M_m_undo 1 1 [_] (ab_dd tk_law_12 13 rfl) rfl (by decide) K_m_undo V_m_undo.1 V_m_undo.2 L_law_67 rfl (Nat.le_of_ble_eq_true rfl) (by decide) (Nat.lt_of_lt_of_le (by decide) hm1.1) (hm1.2.1 0 (by decide)) rfl hC (fun v2 w2 h2 => ?_)
  obtain ⟨rfl, S2, rfl, hS2, hG2, hk2⟩ := h2
  exact x_icmp_eq_t 1437 (ab_dd tk_law_12 14 rfl) (by decide) rfl (K S2 hS2 hG2 hk2)
def tb_law_13 : List (Nat × Instr × Nat) := [(581, .aload_n 1, 1), (582, .aload_n 0, 1), (583, .iload_n 3, 1), (584, .iconst 1, 1), (585, .iadd, 1), (586, .iaload, 1), (587, .aload_n 0, 1), (588, .iload_n 3, 1), (589, .iconst 2, 1), (590, .iadd, 1), (591, .iaload, 1), (592, .invokevirtual 68, 3), (595, .aload_n 2, 1), (596, .aload_n 0, 1), (597, .iload_n 3, 1), (598, .iconst 1, 1), (599, .iadd, 1), (600, .iaload, 1), (601, .aload_n 0, 1), (602, .iload_n 3, 1), (603, .iconst 2, 1), (604, .iadd, 1), (605, .iaload, 1), (606, .invokevirtual 71, 3), (609, .if_icmp .eq 828, 3), (612, .iconst 0, 1), (613, .ireturn, 1)]
theorem tk_law_13 : ∀ q ∈ tb_law_13, decode ab_law.2.1 q.1 = .ok q.2 := by decide +kernel
theorem law_13 {G : ab_G} {S : ab_S} {u L j : Nat} {xs : Nat → Int32} {Q : Option Value → ab_H → Prop} (hS : Sim S u) (hu : u + 128 < 2 ^ 20) (hj : j + 6 ≤ L) (hL : L ≤ 3072) (h48 : S.1 48 = .inl (.int, L, .inl xs)) (K : ∀ S2, Sim S2 (u + 128) → gA S S2 904 929 → S2.1 = S.1 → ab_Ex G 1000 ab_law 1437 [some (.ref 48), some (.ref 50), some (.ref 120), some (.int (nI j))] [] (sw S2) Q) : ab_Ex G 1000 ab_law 581 [some (.ref 48), some (.ref 50), some (.ref 120), some (.int (nI j))] [] (sw S) Q := by
  obtain ⟨im, c, b, bh, nb, st, st2, n, s, f, t, tp, h, hQ⟩ := hS
  have hx := h.1
  have h50 : 50 ≤ sn S := by have := hQ.1.1; omega
  refine x_aload_n 582 1 (ab_dd tk_law_13 0 rfl) rfl rfl rfl ?_
  refine x_aload_n 583 0 (ab_dd tk_law_13 1 rfl) rfl rfl rfl ?_
  refine x_iload_n 584 3 (ab_dd tk_law_13 2 rfl) rfl rfl rfl ?_
  refine x_iconst 585 1 (ab_dd tk_law_13 3 rfl) rfl (by decide) (x_topn 1 rfl ?_)
  refine x_iadd 586 (ab_dd tk_law_13 4 rfl) rfl (x_topn (j + 1) (nI_add _ _) ?_)
  refine t_ialdK 587 (j + 1) (ab_dd tk_law_13 5 rfl) rfl (by decide) h50 h48 rfl (by omega) (by omega) ?_
  refine x_aload_n 588 0 (ab_dd tk_law_13 6 rfl) rfl rfl rfl ?_
  refine x_iload_n 589 3 (ab_dd tk_law_13 7 rfl) rfl rfl rfl ?_
  refine x_iconst 590 2 (ab_dd tk_law_13 8 rfl) rfl (by decide) (x_topn 2 rfl ?_)
  refine x_iadd 591 (ab_dd tk_law_13 9 rfl) rfl (x_topn (j + 2) (nI_add _ _) ?_)
  refine t_ialdK 592 (j + 2) (ab_dd tk_law_13 10 rfl) rfl (by decide) h50 h48 rfl (by omega) (by omega) ?_
  refine t_callV 595 M_s_judge 7 2 [_, _] (ab_dd tk_law_13 11 rfl) rfl (by decide) K_s_judge V_s_judge.1 V_s_judge.2 L_law_68 rfl (Nat.le_of_ble_eq_true rfl) (by decide) (Nat.lt_of_lt_of_le (by decide) hx.1) (hx.2.1 0 (by decide)) rfl (tw (w_judge h hQ hu (xs (j + 1)) (xs (j + 2))) h50) (fun v1 w1 h1 => ?_)
  obtain ⟨S1, rfl, h4, hv, hm1, hC⟩ := h1
  have h481 : S1.1 48 = .inl (.int, L, .inl xs) := h4.trans h48
  have h51 : 50 ≤ sn S1 := by have := hm1.1; omega
  obtain ⟨y, rfl⟩ := hv
  refine x_aload_n 596 2 (ab_dd tk_law_13 12 rfl) rfl rfl rfl ?_
  refine x_aload_n 597 0 (ab_dd tk_law_13 13 rfl) rfl rfl rfl ?_
  refine x_iload_n 598 3 (ab_dd tk_law_13 14 rfl) rfl rfl rfl ?_
  refine x_iconst 599 1 (ab_dd tk_law_13 15 rfl) rfl (by decide) (x_topn 1 rfl ?_)
  refine x_iadd 600 (ab_dd tk_law_13 16 rfl) rfl (x_topn (j + 1) (nI_add _ _) ?_)
  refine t_ialdK 601 (j + 1) (ab_dd tk_law_13 17 rfl) rfl (by decide) h51 h481 rfl (by omega) (by omega) ?_
  refine x_aload_n 602 0 (ab_dd tk_law_13 18 rfl) rfl rfl rfl ?_
  refine x_iload_n 603 3 (ab_dd tk_law_13 19 rfl) rfl rfl rfl ?_
  refine x_iconst 604 2 (ab_dd tk_law_13 20 rfl) rfl (by decide) (x_topn 2 rfl ?_)
  refine x_iadd 605 (ab_dd tk_law_13 21 rfl) rfl (x_topn (j + 2) (nI_add _ _) ?_)
  refine t_ialdK 606 (j + 2) (ab_dd tk_law_13 22 rfl) rfl (by decide) h51 h481 rfl (by omega) (by omega) ?_
  refine t_callV 609 M_m_judge 8 2 [_, _] (ab_dd tk_law_13 23 rfl) rfl (by decide) K_m_judge V_m_judge.1 V_m_judge.2 L_law_71 rfl (Nat.le_of_ble_eq_true rfl) (by decide) (Nat.lt_of_lt_of_le (by decide) hm1.1) (hm1.2.1 0 (by decide)) rfl hC (fun v2 w2 h2 => ?_)
  obtain ⟨rfl, S2, rfl, hS2, hG2, hk2⟩ := h2
  exact x_icmp_eq_t 1437 (ab_dd tk_law_13 24 rfl) (by decide) rfl (K S2 hS2 hG2 hk2)
def tb_law_14 : List (Nat × Instr × Nat) := [(614, .aload_n 1, 1), (615, .aload_n 0, 1), (616, .iload_n 3, 1), (617, .iconst 1, 1), (618, .iadd, 1), (619, .iaload, 1), (620, .invokevirtual 72, 3), (623, .aload_n 2, 1), (624, .aload_n 0, 1), (625, .iload_n 3, 1), (626, .iconst 1, 1), (627, .iadd, 1), (628, .iaload, 1), (629, .invokevirtual 75, 3), (632, .if_icmp .eq 805, 3), (635, .iconst 0, 1), (636, .ireturn, 1)]
theorem tk_law_14 : ∀ q ∈ tb_law_14, decode ab_law.2.1 q.1 = .ok q.2 := by decide +kernel
theorem law_14 {G : ab_G} {S : ab_S} {u L j : Nat} {xs : Nat → Int32} {Q : Option Value → ab_H → Prop} (hS : Sim S u) (hu : u + 128 < 2 ^ 20) (hj : j + 6 ≤ L) (hL : L ≤ 3072) (h48 : S.1 48 = .inl (.int, L, .inl xs)) (K : ∀ S2, Sim S2 (u + 128) → gA S S2 904 929 → S2.1 = S.1 → ab_Ex G 1000 ab_law 1437 [some (.ref 48), some (.ref 50), some (.ref 120), some (.int (nI j))] [] (sw S2) Q) : ab_Ex G 1000 ab_law 614 [some (.ref 48), some (.ref 50), some (.ref 120), some (.int (nI j))] [] (sw S) Q := by
  obtain ⟨im, c, b, bh, nb, st, st2, n, s, f, t, tp, h, hQ⟩ := hS
  have hx := h.1
  have h50 : 50 ≤ sn S := by have := hQ.1.1; omega
  refine x_aload_n 615 1 (ab_dd tk_law_14 0 rfl) rfl rfl rfl ?_
  refine x_aload_n 616 0 (ab_dd tk_law_14 1 rfl) rfl rfl rfl ?_
  refine x_iload_n 617 3 (ab_dd tk_law_14 2 rfl) rfl rfl rfl ?_
  refine x_iconst 618 1 (ab_dd tk_law_14 3 rfl) rfl (by decide) (x_topn 1 rfl ?_)
  refine x_iadd 619 (ab_dd tk_law_14 4 rfl) rfl (x_topn (j + 1) (nI_add _ _) ?_)
  refine t_ialdK 620 (j + 1) (ab_dd tk_law_14 5 rfl) rfl (by decide) h50 h48 rfl (by omega) (by omega) ?_
  refine t_callV 623 M_s_perform 7 1 [_] (ab_dd tk_law_14 6 rfl) rfl (by decide) K_s_perform V_s_perform.1 V_s_perform.2 L_law_72 rfl (Nat.le_of_ble_eq_true rfl) (by decide) (Nat.lt_of_lt_of_le (by decide) hx.1) (hx.2.1 0 (by decide)) rfl (tw (w_perform h hQ hu (xs (j + 1))) h50) (fun v1 w1 h1 => ?_)
  obtain ⟨S1, rfl, h4, hv, hm1, hC⟩ := h1
  have h481 : S1.1 48 = .inl (.int, L, .inl xs) := h4.trans h48
  have h51 : 50 ≤ sn S1 := by have := hm1.1; omega
  obtain ⟨y, rfl⟩ := hv
  refine x_aload_n 624 2 (ab_dd tk_law_14 7 rfl) rfl rfl rfl ?_
  refine x_aload_n 625 0 (ab_dd tk_law_14 8 rfl) rfl rfl rfl ?_
  refine x_iload_n 626 3 (ab_dd tk_law_14 9 rfl) rfl rfl rfl ?_
  refine x_iconst 627 1 (ab_dd tk_law_14 10 rfl) rfl (by decide) (x_topn 1 rfl ?_)
  refine x_iadd 628 (ab_dd tk_law_14 11 rfl) rfl (x_topn (j + 1) (nI_add _ _) ?_)
  refine t_ialdK 629 (j + 1) (ab_dd tk_law_14 12 rfl) rfl (by decide) h51 h481 rfl (by omega) (by omega) ?_
  refine t_callV 632 M_m_perform 8 1 [_] (ab_dd tk_law_14 13 rfl) rfl (by decide) K_m_perform V_m_perform.1 V_m_perform.2 L_law_75 rfl (Nat.le_of_ble_eq_true rfl) (by decide) (Nat.lt_of_lt_of_le (by decide) hm1.1) (hm1.2.1 0 (by decide)) rfl hC (fun v2 w2 h2 => ?_)
  obtain ⟨rfl, S2, rfl, hS2, hG2, hk2⟩ := h2
  exact x_icmp_eq_t 1437 (ab_dd tk_law_14 14 rfl) (by decide) rfl (K S2 hS2 hG2 hk2)
def tb_law_15 : List (Nat × Instr × Nat) := [(637, .aload_n 1, 1), (638, .aload_n 0, 1), (639, .iload_n 3, 1), (640, .iconst 1, 1), (641, .iadd, 1), (642, .iaload, 1), (643, .aload_n 0, 1), (644, .iload_n 3, 1), (645, .iconst 2, 1), (646, .iadd, 1), (647, .iaload, 1), (648, .invokevirtual 76, 3), (651, .aload_n 2, 1), (652, .aload_n 0, 1), (653, .iload_n 3, 1), (654, .iconst 1, 1), (655, .iadd, 1), (656, .iaload, 1), (657, .aload_n 0, 1), (658, .iload_n 3, 1), (659, .iconst 2, 1), (660, .iadd, 1), (661, .iaload, 1), (662, .invokevirtual 79, 3), (665, .if_icmp .eq 772, 3), (668, .iconst 0, 1), (669, .ireturn, 1)]
theorem tk_law_15 : ∀ q ∈ tb_law_15, decode ab_law.2.1 q.1 = .ok q.2 := by decide +kernel
theorem law_15 {G : ab_G} {S : ab_S} {u L j : Nat} {xs : Nat → Int32} {Q : Option Value → ab_H → Prop} (hS : Sim S u) (hu : u + 128 < 2 ^ 20) (hj : j + 6 ≤ L) (hL : L ≤ 3072) (h48 : S.1 48 = .inl (.int, L, .inl xs)) (K : ∀ S2, Sim S2 (u + 128) → gA S S2 904 929 → S2.1 = S.1 → ab_Ex G 1000 ab_law 1437 [some (.ref 48), some (.ref 50), some (.ref 120), some (.int (nI j))] [] (sw S2) Q) : ab_Ex G 1000 ab_law 637 [some (.ref 48), some (.ref 50), some (.ref 120), some (.int (nI j))] [] (sw S) Q := by
  obtain ⟨im, c, b, bh, nb, st, st2, n, s, f, t, tp, h, hQ⟩ := hS
  have hx := h.1
  have h50 : 50 ≤ sn S := by have := hQ.1.1; omega
  refine x_aload_n 638 1 (ab_dd tk_law_15 0 rfl) rfl rfl rfl ?_
  refine x_aload_n 639 0 (ab_dd tk_law_15 1 rfl) rfl rfl rfl ?_
  refine x_iload_n 640 3 (ab_dd tk_law_15 2 rfl) rfl rfl rfl ?_
  refine x_iconst 641 1 (ab_dd tk_law_15 3 rfl) rfl (by decide) (x_topn 1 rfl ?_)
  refine x_iadd 642 (ab_dd tk_law_15 4 rfl) rfl (x_topn (j + 1) (nI_add _ _) ?_)
  refine t_ialdK 643 (j + 1) (ab_dd tk_law_15 5 rfl) rfl (by decide) h50 h48 rfl (by omega) (by omega) ?_
  refine x_aload_n 644 0 (ab_dd tk_law_15 6 rfl) rfl rfl rfl ?_
  refine x_iload_n 645 3 (ab_dd tk_law_15 7 rfl) rfl rfl rfl ?_
  refine x_iconst 646 2 (ab_dd tk_law_15 8 rfl) rfl (by decide) (x_topn 2 rfl ?_)
  refine x_iadd 647 (ab_dd tk_law_15 9 rfl) rfl (x_topn (j + 2) (nI_add _ _) ?_)
  refine t_ialdK 648 (j + 2) (ab_dd tk_law_15 10 rfl) rfl (by decide) h50 h48 rfl (by omega) (by omega) ?_
  refine t_callV 651 M_s_journey 7 2 [_, _] (ab_dd tk_law_15 11 rfl) rfl (by decide) K_s_journey V_s_journey.1 V_s_journey.2 L_law_76 rfl (Nat.le_of_ble_eq_true rfl) (by decide) (Nat.lt_of_lt_of_le (by decide) hx.1) (hx.2.1 0 (by decide)) rfl (tw (w_journey h hQ hu (xs (j + 1)) (xs (j + 2))) h50) (fun v1 w1 h1 => ?_)
  obtain ⟨S1, rfl, h4, hv, hm1, hC⟩ := h1
  have h481 : S1.1 48 = .inl (.int, L, .inl xs) := h4.trans h48
  have h51 : 50 ≤ sn S1 := by have := hm1.1; omega
  obtain ⟨y, rfl⟩ := hv
  refine x_aload_n 652 2 (ab_dd tk_law_15 12 rfl) rfl rfl rfl ?_
  refine x_aload_n 653 0 (ab_dd tk_law_15 13 rfl) rfl rfl rfl ?_
  refine x_iload_n 654 3 (ab_dd tk_law_15 14 rfl) rfl rfl rfl ?_
  refine x_iconst 655 1 (ab_dd tk_law_15 15 rfl) rfl (by decide) (x_topn 1 rfl ?_)
  refine x_iadd 656 (ab_dd tk_law_15 16 rfl) rfl (x_topn (j + 1) (nI_add _ _) ?_)
  refine t_ialdK 657 (j + 1) (ab_dd tk_law_15 17 rfl) rfl (by decide) h51 h481 rfl (by omega) (by omega) ?_
  refine x_aload_n 658 0 (ab_dd tk_law_15 18 rfl) rfl rfl rfl ?_
  refine x_iload_n 659 3 (ab_dd tk_law_15 19 rfl) rfl rfl rfl ?_
  refine x_iconst 660 2 (ab_dd tk_law_15 20 rfl) rfl (by decide) (x_topn 2 rfl ?_)
  refine x_iadd 661 (ab_dd tk_law_15 21 rfl) rfl (x_topn (j + 2) (nI_add _ _) ?_)
  refine t_ialdK 662 (j + 2) (ab_dd tk_law_15 22 rfl) rfl (by decide) h51 h481 rfl (by omega) (by omega) ?_
  refine t_callV 665 M_m_journey 7 2 [_, _] (ab_dd tk_law_15 23 rfl) rfl (by decide) K_m_journey V_m_journey.1 V_m_journey.2 L_law_79 rfl (Nat.le_of_ble_eq_true rfl) (by decide) (Nat.lt_of_lt_of_le (by decide) hm1.1) (hm1.2.1 0 (by decide)) rfl hC (fun v2 w2 h2 => ?_)
  obtain ⟨rfl, S2, rfl, hS2, hG2, hk2⟩ := h2
  exact x_icmp_eq_t 1437 (ab_dd tk_law_15 24 rfl) (by decide) rfl (K S2 hS2 hG2 hk2)
def tb_law_16 : List (Nat × Instr × Nat) := [(670, .aload_n 1, 1), (671, .aload_n 0, 1), (672, .iload_n 3, 1), (673, .iconst 1, 1), (674, .iadd, 1), (675, .iaload, 1), (676, .aload_n 0, 1), (677, .iload_n 3, 1), (678, .iconst 2, 1), (679, .iadd, 1), (680, .iaload, 1), (681, .invokevirtual 80, 3), (684, .aload_n 2, 1), (685, .aload_n 0, 1), (686, .iload_n 3, 1), (687, .iconst 1, 1), (688, .iadd, 1), (689, .iaload, 1), (690, .aload_n 0, 1), (691, .iload_n 3, 1), (692, .iconst 2, 1), (693, .iadd, 1), (694, .iaload, 1), (695, .invokevirtual 83, 3), (698, .if_icmp .eq 739, 3), (701, .iconst 0, 1), (702, .ireturn, 1)]
theorem tk_law_16 : ∀ q ∈ tb_law_16, decode ab_law.2.1 q.1 = .ok q.2 := by decide +kernel
theorem law_16 {G : ab_G} {S : ab_S} {u L j : Nat} {xs : Nat → Int32} {Q : Option Value → ab_H → Prop} (hS : Sim S u) (hu : u + 128 < 2 ^ 20) (hj : j + 6 ≤ L) (hL : L ≤ 3072) (h48 : S.1 48 = .inl (.int, L, .inl xs)) (K : ∀ S2, Sim S2 (u + 128) → gA S S2 904 929 → S2.1 = S.1 → ab_Ex G 1000 ab_law 1437 [some (.ref 48), some (.ref 50), some (.ref 120), some (.int (nI j))] [] (sw S2) Q) : ab_Ex G 1000 ab_law 670 [some (.ref 48), some (.ref 50), some (.ref 120), some (.int (nI j))] [] (sw S) Q := by
  obtain ⟨im, c, b, bh, nb, st, st2, n, s, f, t, tp, h, hQ⟩ := hS
  have hx := h.1
  have h50 : 50 ≤ sn S := by have := hQ.1.1; omega
  refine x_aload_n 671 1 (ab_dd tk_law_16 0 rfl) rfl rfl rfl ?_
  refine x_aload_n 672 0 (ab_dd tk_law_16 1 rfl) rfl rfl rfl ?_
  refine x_iload_n 673 3 (ab_dd tk_law_16 2 rfl) rfl rfl rfl ?_
  refine x_iconst 674 1 (ab_dd tk_law_16 3 rfl) rfl (by decide) (x_topn 1 rfl ?_)
  refine x_iadd 675 (ab_dd tk_law_16 4 rfl) rfl (x_topn (j + 1) (nI_add _ _) ?_)
  refine t_ialdK 676 (j + 1) (ab_dd tk_law_16 5 rfl) rfl (by decide) h50 h48 rfl (by omega) (by omega) ?_
  refine x_aload_n 677 0 (ab_dd tk_law_16 6 rfl) rfl rfl rfl ?_
  refine x_iload_n 678 3 (ab_dd tk_law_16 7 rfl) rfl rfl rfl ?_
  refine x_iconst 679 2 (ab_dd tk_law_16 8 rfl) rfl (by decide) (x_topn 2 rfl ?_)
  refine x_iadd 680 (ab_dd tk_law_16 9 rfl) rfl (x_topn (j + 2) (nI_add _ _) ?_)
  refine t_ialdK 681 (j + 2) (ab_dd tk_law_16 10 rfl) rfl (by decide) h50 h48 rfl (by omega) (by omega) ?_
  refine t_callV 684 M_s_lies 7 2 [_, _] (ab_dd tk_law_16 11 rfl) rfl (by decide) K_s_lies V_s_lies.1 V_s_lies.2 L_law_80 rfl (Nat.le_of_ble_eq_true rfl) (by decide) (Nat.lt_of_lt_of_le (by decide) hx.1) (hx.2.1 0 (by decide)) rfl (tw (w_lies h hQ hu (xs (j + 1)) (xs (j + 2))) h50) (fun v1 w1 h1 => ?_)
  obtain ⟨S1, rfl, h4, hv, hm1, hC⟩ := h1
  have h481 : S1.1 48 = .inl (.int, L, .inl xs) := h4.trans h48
  have h51 : 50 ≤ sn S1 := by have := hm1.1; omega
  obtain ⟨y, rfl⟩ := hv
  refine x_aload_n 685 2 (ab_dd tk_law_16 12 rfl) rfl rfl rfl ?_
  refine x_aload_n 686 0 (ab_dd tk_law_16 13 rfl) rfl rfl rfl ?_
  refine x_iload_n 687 3 (ab_dd tk_law_16 14 rfl) rfl rfl rfl ?_
  refine x_iconst 688 1 (ab_dd tk_law_16 15 rfl) rfl (by decide) (x_topn 1 rfl ?_)
  refine x_iadd 689 (ab_dd tk_law_16 16 rfl) rfl (x_topn (j + 1) (nI_add _ _) ?_)
  refine t_ialdK 690 (j + 1) (ab_dd tk_law_16 17 rfl) rfl (by decide) h51 h481 rfl (by omega) (by omega) ?_
  refine x_aload_n 691 0 (ab_dd tk_law_16 18 rfl) rfl rfl rfl ?_
  refine x_iload_n 692 3 (ab_dd tk_law_16 19 rfl) rfl rfl rfl ?_
  refine x_iconst 693 2 (ab_dd tk_law_16 20 rfl) rfl (by decide) (x_topn 2 rfl ?_)
  refine x_iadd 694 (ab_dd tk_law_16 21 rfl) rfl (x_topn (j + 2) (nI_add _ _) ?_)
  refine t_ialdK 695 (j + 2) (ab_dd tk_law_16 22 rfl) rfl (by decide) h51 h481 rfl (by omega) (by omega) ?_
  refine t_callV 698 M_m_lies 6 2 [_, _] (ab_dd tk_law_16 23 rfl) rfl (by decide) K_m_lies V_m_lies.1 V_m_lies.2 L_law_83 rfl (Nat.le_of_ble_eq_true rfl) (by decide) (Nat.lt_of_lt_of_le (by decide) hm1.1) (hm1.2.1 0 (by decide)) rfl hC (fun v2 w2 h2 => ?_)
  obtain ⟨rfl, S2, rfl, hS2, hG2, hk2⟩ := h2
  exact x_icmp_eq_t 1437 (ab_dd tk_law_16 24 rfl) (by decide) rfl (K S2 hS2 hG2 hk2)
def tb_law_17 : List (Nat × Instr × Nat) := [(703, .aload_n 1, 1), (704, .aload_n 0, 1), (705, .iload_n 3, 1), (706, .iconst 1, 1), (707, .iadd, 1), (708, .iaload, 1), (709, .invokevirtual 84, 3), (712, .aload_n 2, 1), (713, .aload_n 0, 1), (714, .iload_n 3, 1), (715, .iconst 1, 1), (716, .iadd, 1), (717, .iaload, 1), (718, .invokevirtual 87, 3), (721, .if_icmp .eq 716, 3), (724, .iconst 0, 1), (725, .ireturn, 1)]
theorem tk_law_17 : ∀ q ∈ tb_law_17, decode ab_law.2.1 q.1 = .ok q.2 := by decide +kernel
theorem law_17 {G : ab_G} {S : ab_S} {u L j : Nat} {xs : Nat → Int32} {Q : Option Value → ab_H → Prop} (hS : Sim S u) (hu : u + 128 < 2 ^ 20) (hj : j + 6 ≤ L) (hL : L ≤ 3072) (h48 : S.1 48 = .inl (.int, L, .inl xs)) (K : ∀ S2, Sim S2 (u + 128) → gA S S2 904 929 → S2.1 = S.1 → ab_Ex G 1000 ab_law 1437 [some (.ref 48), some (.ref 50), some (.ref 120), some (.int (nI j))] [] (sw S2) Q) : ab_Ex G 1000 ab_law 703 [some (.ref 48), some (.ref 50), some (.ref 120), some (.int (nI j))] [] (sw S) Q := by
  obtain ⟨im, c, b, bh, nb, st, st2, n, s, f, t, tp, h, hQ⟩ := hS
  have hx := h.1
  have h50 : 50 ≤ sn S := by have := hQ.1.1; omega
  refine x_aload_n 704 1 (ab_dd tk_law_17 0 rfl) rfl rfl rfl ?_
  refine x_aload_n 705 0 (ab_dd tk_law_17 1 rfl) rfl rfl rfl ?_
  refine x_iload_n 706 3 (ab_dd tk_law_17 2 rfl) rfl rfl rfl ?_
  refine x_iconst 707 1 (ab_dd tk_law_17 3 rfl) rfl (by decide) (x_topn 1 rfl ?_)
  refine x_iadd 708 (ab_dd tk_law_17 4 rfl) rfl (x_topn (j + 1) (nI_add _ _) ?_)
  refine t_ialdK 709 (j + 1) (ab_dd tk_law_17 5 rfl) rfl (by decide) h50 h48 rfl (by omega) (by omega) ?_
  refine t_callV 712 M_s_round 7 1 [_] (ab_dd tk_law_17 6 rfl) rfl (by decide) K_s_round V_s_round.1 V_s_round.2 L_law_84 rfl (Nat.le_of_ble_eq_true rfl) (by decide) (Nat.lt_of_lt_of_le (by decide) hx.1) (hx.2.1 0 (by decide)) rfl (tw (w_round h hQ hu (xs (j + 1))) h50) (fun v1 w1 h1 => ?_)
  obtain ⟨S1, rfl, h4, hv, hm1, hC⟩ := h1
  have h481 : S1.1 48 = .inl (.int, L, .inl xs) := h4.trans h48
  have h51 : 50 ≤ sn S1 := by have := hm1.1; omega
  obtain ⟨y, rfl⟩ := hv
  refine x_aload_n 713 2 (ab_dd tk_law_17 7 rfl) rfl rfl rfl ?_
  refine x_aload_n 714 0 (ab_dd tk_law_17 8 rfl) rfl rfl rfl ?_
  refine x_iload_n 715 3 (ab_dd tk_law_17 9 rfl) rfl rfl rfl ?_
  refine x_iconst 716 1 (ab_dd tk_law_17 10 rfl) rfl (by decide) (x_topn 1 rfl ?_)
  refine x_iadd 717 (ab_dd tk_law_17 11 rfl) rfl (x_topn (j + 1) (nI_add _ _) ?_)
  refine t_ialdK 718 (j + 1) (ab_dd tk_law_17 12 rfl) rfl (by decide) h51 h481 rfl (by omega) (by omega) ?_
  refine t_callV 721 M_m_round 6 1 [_] (ab_dd tk_law_17 13 rfl) rfl (by decide) K_m_round V_m_round.1 V_m_round.2 L_law_87 rfl (Nat.le_of_ble_eq_true rfl) (by decide) (Nat.lt_of_lt_of_le (by decide) hm1.1) (hm1.2.1 0 (by decide)) rfl hC (fun v2 w2 h2 => ?_)
  obtain ⟨rfl, S2, rfl, hS2, hG2, hk2⟩ := h2
  exact x_icmp_eq_t 1437 (ab_dd tk_law_17 14 rfl) (by decide) rfl (K S2 hS2 hG2 hk2)
def tb_law_18 : List (Nat × Instr × Nat) := [(726, .aload_n 1, 1), (727, .aload_n 0, 1), (728, .iload_n 3, 1), (729, .iconst 1, 1), (730, .iadd, 1), (731, .iaload, 1), (732, .invokevirtual 88, 3), (735, .aload_n 2, 1), (736, .aload_n 0, 1), (737, .iload_n 3, 1), (738, .iconst 1, 1), (739, .iadd, 1), (740, .iaload, 1), (741, .invokevirtual 91, 3), (744, .if_icmp .eq 693, 3), (747, .iconst 0, 1), (748, .ireturn, 1)]
theorem tk_law_18 : ∀ q ∈ tb_law_18, decode ab_law.2.1 q.1 = .ok q.2 := by decide +kernel
theorem law_18 {G : ab_G} {S : ab_S} {u L j : Nat} {xs : Nat → Int32} {Q : Option Value → ab_H → Prop} (hS : Sim S u) (hu : u + 128 < 2 ^ 20) (hj : j + 6 ≤ L) (hL : L ≤ 3072) (h48 : S.1 48 = .inl (.int, L, .inl xs)) (K : ∀ S2, Sim S2 (u + 128) → gA S S2 904 929 → S2.1 = S.1 → ab_Ex G 1000 ab_law 1437 [some (.ref 48), some (.ref 50), some (.ref 120), some (.int (nI j))] [] (sw S2) Q) : ab_Ex G 1000 ab_law 726 [some (.ref 48), some (.ref 50), some (.ref 120), some (.int (nI j))] [] (sw S) Q := by
  obtain ⟨im, c, b, bh, nb, st, st2, n, s, f, t, tp, h, hQ⟩ := hS
  have hx := h.1
  have h50 : 50 ≤ sn S := by have := hQ.1.1; omega
  refine x_aload_n 727 1 (ab_dd tk_law_18 0 rfl) rfl rfl rfl ?_
  refine x_aload_n 728 0 (ab_dd tk_law_18 1 rfl) rfl rfl rfl ?_
  refine x_iload_n 729 3 (ab_dd tk_law_18 2 rfl) rfl rfl rfl ?_
  refine x_iconst 730 1 (ab_dd tk_law_18 3 rfl) rfl (by decide) (x_topn 1 rfl ?_)
  refine x_iadd 731 (ab_dd tk_law_18 4 rfl) rfl (x_topn (j + 1) (nI_add _ _) ?_)
  refine t_ialdK 732 (j + 1) (ab_dd tk_law_18 5 rfl) rfl (by decide) h50 h48 rfl (by omega) (by omega) ?_
  refine t_callV 735 M_s_when 7 1 [_] (ab_dd tk_law_18 6 rfl) rfl (by decide) K_s_when V_s_when.1 V_s_when.2 L_law_88 rfl (Nat.le_of_ble_eq_true rfl) (by decide) (Nat.lt_of_lt_of_le (by decide) hx.1) (hx.2.1 0 (by decide)) rfl (tw (w_when h hQ hu (xs (j + 1))) h50) (fun v1 w1 h1 => ?_)
  obtain ⟨S1, rfl, h4, hv, hm1, hC⟩ := h1
  have h481 : S1.1 48 = .inl (.int, L, .inl xs) := h4.trans h48
  have h51 : 50 ≤ sn S1 := by have := hm1.1; omega
  obtain ⟨y, rfl⟩ := hv
  refine x_aload_n 736 2 (ab_dd tk_law_18 7 rfl) rfl rfl rfl ?_
  refine x_aload_n 737 0 (ab_dd tk_law_18 8 rfl) rfl rfl rfl ?_
  refine x_iload_n 738 3 (ab_dd tk_law_18 9 rfl) rfl rfl rfl ?_
  refine x_iconst 739 1 (ab_dd tk_law_18 10 rfl) rfl (by decide) (x_topn 1 rfl ?_)
  refine x_iadd 740 (ab_dd tk_law_18 11 rfl) rfl (x_topn (j + 1) (nI_add _ _) ?_)
  refine t_ialdK 741 (j + 1) (ab_dd tk_law_18 12 rfl) rfl (by decide) h51 h481 rfl (by omega) (by omega) ?_
  refine t_callV 744 M_m_when 6 1 [_] (ab_dd tk_law_18 13 rfl) rfl (by decide) K_m_when V_m_when.1 V_m_when.2 L_law_91 rfl (Nat.le_of_ble_eq_true rfl) (by decide) (Nat.lt_of_lt_of_le (by decide) hm1.1) (hm1.2.1 0 (by decide)) rfl hC (fun v2 w2 h2 => ?_)
  obtain ⟨rfl, S2, rfl, hS2, hG2, hk2⟩ := h2
  exact x_icmp_eq_t 1437 (ab_dd tk_law_18 14 rfl) (by decide) rfl (K S2 hS2 hG2 hk2)
def tb_law_19 : List (Nat × Instr × Nat) := [(749, .aload_n 1, 1), (750, .aload_n 0, 1), (751, .iload_n 3, 1), (752, .iconst 1, 1), (753, .iadd, 1), (754, .iaload, 1), (755, .invokevirtual 92, 3), (758, .aload_n 2, 1), (759, .aload_n 0, 1), (760, .iload_n 3, 1), (761, .iconst 1, 1), (762, .iadd, 1), (763, .iaload, 1), (764, .invokevirtual 95, 3), (767, .if_icmp .eq 670, 3), (770, .iconst 0, 1), (771, .ireturn, 1)]
theorem tk_law_19 : ∀ q ∈ tb_law_19, decode ab_law.2.1 q.1 = .ok q.2 := by decide +kernel
theorem law_19 {G : ab_G} {S : ab_S} {u L j : Nat} {xs : Nat → Int32} {Q : Option Value → ab_H → Prop} (hS : Sim S u) (hu : u + 128 < 2 ^ 20) (hj : j + 6 ≤ L) (hL : L ≤ 3072) (h48 : S.1 48 = .inl (.int, L, .inl xs)) (K : ∀ S2, Sim S2 (u + 128) → gA S S2 904 929 → S2.1 = S.1 → ab_Ex G 1000 ab_law 1437 [some (.ref 48), some (.ref 50), some (.ref 120), some (.int (nI j))] [] (sw S2) Q) : ab_Ex G 1000 ab_law 749 [some (.ref 48), some (.ref 50), some (.ref 120), some (.int (nI j))] [] (sw S) Q := by
  obtain ⟨im, c, b, bh, nb, st, st2, n, s, f, t, tp, h, hQ⟩ := hS
  have hx := h.1
  have h50 : 50 ≤ sn S := by have := hQ.1.1; omega
  refine x_aload_n 750 1 (ab_dd tk_law_19 0 rfl) rfl rfl rfl ?_
  refine x_aload_n 751 0 (ab_dd tk_law_19 1 rfl) rfl rfl rfl ?_
  refine x_iload_n 752 3 (ab_dd tk_law_19 2 rfl) rfl rfl rfl ?_
  refine x_iconst 753 1 (ab_dd tk_law_19 3 rfl) rfl (by decide) (x_topn 1 rfl ?_)
  refine x_iadd 754 (ab_dd tk_law_19 4 rfl) rfl (x_topn (j + 1) (nI_add _ _) ?_)
  refine t_ialdK 755 (j + 1) (ab_dd tk_law_19 5 rfl) rfl (by decide) h50 h48 rfl (by omega) (by omega) ?_
  refine t_callV 758 M_s_soonest 7 1 [_] (ab_dd tk_law_19 6 rfl) rfl (by decide) K_s_soonest V_s_soonest.1 V_s_soonest.2 L_law_92 rfl (Nat.le_of_ble_eq_true rfl) (by decide) (Nat.lt_of_lt_of_le (by decide) hx.1) (hx.2.1 0 (by decide)) rfl (tw (w_soonest h hQ hu (xs (j + 1))) h50) (fun v1 w1 h1 => ?_)
  obtain ⟨S1, rfl, h4, hv, hm1, hC⟩ := h1
  have h481 : S1.1 48 = .inl (.int, L, .inl xs) := h4.trans h48
  have h51 : 50 ≤ sn S1 := by have := hm1.1; omega
  obtain ⟨y, rfl⟩ := hv
  refine x_aload_n 759 2 (ab_dd tk_law_19 7 rfl) rfl rfl rfl ?_
  refine x_aload_n 760 0 (ab_dd tk_law_19 8 rfl) rfl rfl rfl ?_
  refine x_iload_n 761 3 (ab_dd tk_law_19 9 rfl) rfl rfl rfl ?_
  refine x_iconst 762 1 (ab_dd tk_law_19 10 rfl) rfl (by decide) (x_topn 1 rfl ?_)
  refine x_iadd 763 (ab_dd tk_law_19 11 rfl) rfl (x_topn (j + 1) (nI_add _ _) ?_)
  refine t_ialdK 764 (j + 1) (ab_dd tk_law_19 12 rfl) rfl (by decide) h51 h481 rfl (by omega) (by omega) ?_
  refine t_callV 767 M_m_soonest 7 1 [_] (ab_dd tk_law_19 13 rfl) rfl (by decide) K_m_soonest V_m_soonest.1 V_m_soonest.2 L_law_95 rfl (Nat.le_of_ble_eq_true rfl) (by decide) (Nat.lt_of_lt_of_le (by decide) hm1.1) (hm1.2.1 0 (by decide)) rfl hC (fun v2 w2 h2 => ?_)
  obtain ⟨rfl, S2, rfl, hS2, hG2, hk2⟩ := h2
  exact x_icmp_eq_t 1437 (ab_dd tk_law_19 14 rfl) (by decide) rfl (K S2 hS2 hG2 hk2)
def tb_law_20 : List (Nat × Instr × Nat) := [(772, .aload_n 1, 1), (773, .aload_n 0, 1), (774, .iload_n 3, 1), (775, .iconst 1, 1), (776, .iadd, 1), (777, .iaload, 1), (778, .aload_n 0, 1), (779, .iload_n 3, 1), (780, .iconst 2, 1), (781, .iadd, 1), (782, .iaload, 1), (783, .invokevirtual 96, 3), (786, .aload_n 2, 1), (787, .aload_n 0, 1), (788, .iload_n 3, 1), (789, .iconst 1, 1), (790, .iadd, 1), (791, .iaload, 1), (792, .aload_n 0, 1), (793, .iload_n 3, 1), (794, .iconst 2, 1), (795, .iadd, 1), (796, .iaload, 1), (797, .invokevirtual 99, 3), (800, .if_icmp .eq 637, 3), (803, .iconst 0, 1), (804, .ireturn, 1)]
theorem tk_law_20 : ∀ q ∈ tb_law_20, decode ab_law.2.1 q.1 = .ok q.2 := by decide +kernel
theorem law_20 {G : ab_G} {S : ab_S} {u L j : Nat} {xs : Nat → Int32} {Q : Option Value → ab_H → Prop} (hS : Sim S u) (hu : u + 128 < 2 ^ 20) (hj : j + 6 ≤ L) (hL : L ≤ 3072) (h48 : S.1 48 = .inl (.int, L, .inl xs)) (K : ∀ S2, Sim S2 (u + 128) → gA S S2 904 929 → S2.1 = S.1 → ab_Ex G 1000 ab_law 1437 [some (.ref 48), some (.ref 50), some (.ref 120), some (.int (nI j))] [] (sw S2) Q) : ab_Ex G 1000 ab_law 772 [some (.ref 48), some (.ref 50), some (.ref 120), some (.int (nI j))] [] (sw S) Q := by
  obtain ⟨im, c, b, bh, nb, st, st2, n, s, f, t, tp, h, hQ⟩ := hS
  have hx := h.1
  have h50 : 50 ≤ sn S := by have := hQ.1.1; omega
  refine x_aload_n 773 1 (ab_dd tk_law_20 0 rfl) rfl rfl rfl ?_
  refine x_aload_n 774 0 (ab_dd tk_law_20 1 rfl) rfl rfl rfl ?_
  refine x_iload_n 775 3 (ab_dd tk_law_20 2 rfl) rfl rfl rfl ?_
  refine x_iconst 776 1 (ab_dd tk_law_20 3 rfl) rfl (by decide) (x_topn 1 rfl ?_)
  refine x_iadd 777 (ab_dd tk_law_20 4 rfl) rfl (x_topn (j + 1) (nI_add _ _) ?_)
  refine t_ialdK 778 (j + 1) (ab_dd tk_law_20 5 rfl) rfl (by decide) h50 h48 rfl (by omega) (by omega) ?_
  refine x_aload_n 779 0 (ab_dd tk_law_20 6 rfl) rfl rfl rfl ?_
  refine x_iload_n 780 3 (ab_dd tk_law_20 7 rfl) rfl rfl rfl ?_
  refine x_iconst 781 2 (ab_dd tk_law_20 8 rfl) rfl (by decide) (x_topn 2 rfl ?_)
  refine x_iadd 782 (ab_dd tk_law_20 9 rfl) rfl (x_topn (j + 2) (nI_add _ _) ?_)
  refine t_ialdK 783 (j + 2) (ab_dd tk_law_20 10 rfl) rfl (by decide) h50 h48 rfl (by omega) (by omega) ?_
  refine t_callV 786 M_s_way 7 2 [_, _] (ab_dd tk_law_20 11 rfl) rfl (by decide) K_s_way V_s_way.1 V_s_way.2 L_law_96 rfl (Nat.le_of_ble_eq_true rfl) (by decide) (Nat.lt_of_lt_of_le (by decide) hx.1) (hx.2.1 0 (by decide)) rfl (tw (w_way h hQ hu (xs (j + 1)) (xs (j + 2))) h50) (fun v1 w1 h1 => ?_)
  obtain ⟨S1, rfl, h4, hv, hm1, hC⟩ := h1
  have h481 : S1.1 48 = .inl (.int, L, .inl xs) := h4.trans h48
  have h51 : 50 ≤ sn S1 := by have := hm1.1; omega
  obtain ⟨y, rfl⟩ := hv
  refine x_aload_n 787 2 (ab_dd tk_law_20 12 rfl) rfl rfl rfl ?_
  refine x_aload_n 788 0 (ab_dd tk_law_20 13 rfl) rfl rfl rfl ?_
  refine x_iload_n 789 3 (ab_dd tk_law_20 14 rfl) rfl rfl rfl ?_
  refine x_iconst 790 1 (ab_dd tk_law_20 15 rfl) rfl (by decide) (x_topn 1 rfl ?_)
  refine x_iadd 791 (ab_dd tk_law_20 16 rfl) rfl (x_topn (j + 1) (nI_add _ _) ?_)
  refine t_ialdK 792 (j + 1) (ab_dd tk_law_20 17 rfl) rfl (by decide) h51 h481 rfl (by omega) (by omega) ?_
  refine x_aload_n 793 0 (ab_dd tk_law_20 18 rfl) rfl rfl rfl ?_
  refine x_iload_n 794 3 (ab_dd tk_law_20 19 rfl) rfl rfl rfl ?_
  refine x_iconst 795 2 (ab_dd tk_law_20 20 rfl) rfl (by decide) (x_topn 2 rfl ?_)
  refine x_iadd 796 (ab_dd tk_law_20 21 rfl) rfl (x_topn (j + 2) (nI_add _ _) ?_)
  refine t_ialdK 797 (j + 2) (ab_dd tk_law_20 22 rfl) rfl (by decide) h51 h481 rfl (by omega) (by omega) ?_
  refine t_callV 800 M_m_way 7 2 [_, _] (ab_dd tk_law_20 23 rfl) rfl (by decide) K_m_way V_m_way.1 V_m_way.2 L_law_99 rfl (Nat.le_of_ble_eq_true rfl) (by decide) (Nat.lt_of_lt_of_le (by decide) hm1.1) (hm1.2.1 0 (by decide)) rfl hC (fun v2 w2 h2 => ?_)
  obtain ⟨rfl, S2, rfl, hS2, hG2, hk2⟩ := h2
  exact x_icmp_eq_t 1437 (ab_dd tk_law_20 24 rfl) (by decide) rfl (K S2 hS2 hG2 hk2)
def tb_law_21 : List (Nat × Instr × Nat) := [(805, .aload_n 1, 1), (806, .aload_n 0, 1), (807, .iload_n 3, 1), (808, .iconst 1, 1), (809, .iadd, 1), (810, .iaload, 1), (811, .aload_n 0, 1), (812, .iload_n 3, 1), (813, .iconst 2, 1), (814, .iadd, 1), (815, .iaload, 1), (816, .invokevirtual 100, 3), (819, .aload_n 2, 1), (820, .aload_n 0, 1), (821, .iload_n 3, 1), (822, .iconst 1, 1), (823, .iadd, 1), (824, .iaload, 1), (825, .aload_n 0, 1), (826, .iload_n 3, 1), (827, .iconst 2, 1), (828, .iadd, 1), (829, .iaload, 1), (830, .invokevirtual 104, 3), (833, .lcmp, 1), (834, .ifCond .eq 603, 3), (837, .iconst 0, 1), (838, .ireturn, 1)]
theorem tk_law_21 : ∀ q ∈ tb_law_21, decode ab_law.2.1 q.1 = .ok q.2 := by decide +kernel
theorem law_21 {G : ab_G} {S : ab_S} {u L j : Nat} {xs : Nat → Int32} {Q : Option Value → ab_H → Prop} (hS : Sim S u) (hu : u + 128 < 2 ^ 20) (hj : j + 6 ≤ L) (hL : L ≤ 3072) (h48 : S.1 48 = .inl (.int, L, .inl xs)) (K : ∀ S2, Sim S2 (u + 128) → gA S S2 904 929 → S2.1 = S.1 → ab_Ex G 1000 ab_law 1437 [some (.ref 48), some (.ref 50), some (.ref 120), some (.int (nI j))] [] (sw S2) Q) : ab_Ex G 1000 ab_law 805 [some (.ref 48), some (.ref 50), some (.ref 120), some (.int (nI j))] [] (sw S) Q := by
  obtain ⟨im, c, b, bh, nb, st, st2, n, s, f, t, tp, h, hQ⟩ := hS
  have hx := h.1
  have h50 : 50 ≤ sn S := by have := hQ.1.1; omega
  refine x_aload_n 806 1 (ab_dd tk_law_21 0 rfl) rfl rfl rfl ?_
  refine x_aload_n 807 0 (ab_dd tk_law_21 1 rfl) rfl rfl rfl ?_
  refine x_iload_n 808 3 (ab_dd tk_law_21 2 rfl) rfl rfl rfl ?_
  refine x_iconst 809 1 (ab_dd tk_law_21 3 rfl) rfl (by decide) (x_topn 1 rfl ?_)
  refine x_iadd 810 (ab_dd tk_law_21 4 rfl) rfl (x_topn (j + 1) (nI_add _ _) ?_)
  refine t_ialdK 811 (j + 1) (ab_dd tk_law_21 5 rfl) rfl (by decide) h50 h48 rfl (by omega) (by omega) ?_
  refine x_aload_n 812 0 (ab_dd tk_law_21 6 rfl) rfl rfl rfl ?_
  refine x_iload_n 813 3 (ab_dd tk_law_21 7 rfl) rfl rfl rfl ?_
  refine x_iconst 814 2 (ab_dd tk_law_21 8 rfl) rfl (by decide) (x_topn 2 rfl ?_)
  refine x_iadd 815 (ab_dd tk_law_21 9 rfl) rfl (x_topn (j + 2) (nI_add _ _) ?_)
  refine t_ialdK 816 (j + 2) (ab_dd tk_law_21 10 rfl) rfl (by decide) h50 h48 rfl (by omega) (by omega) ?_
  refine t_callV 819 M_s_rows 7 2 [_, _] (ab_dd tk_law_21 11 rfl) rfl (by decide) K_s_rows V_s_rows.1 V_s_rows.2 L_law_100 rfl (Nat.le_of_ble_eq_true rfl) (by decide) (Nat.lt_of_lt_of_le (by decide) hx.1) (hx.2.1 0 (by decide)) rfl (tw (w_rows h hQ hu (xs (j + 1)) (xs (j + 2))) h50) (fun v1 w1 h1 => ?_)
  obtain ⟨S1, rfl, h4, hv, hm1, hC⟩ := h1
  have h481 : S1.1 48 = .inl (.int, L, .inl xs) := h4.trans h48
  have h51 : 50 ≤ sn S1 := by have := hm1.1; omega
  obtain ⟨y, rfl⟩ := hv
  refine x_aload_n 820 2 (ab_dd tk_law_21 12 rfl) rfl rfl rfl ?_
  refine x_aload_n 821 0 (ab_dd tk_law_21 13 rfl) rfl rfl rfl ?_
  refine x_iload_n 822 3 (ab_dd tk_law_21 14 rfl) rfl rfl rfl ?_
  refine x_iconst 823 1 (ab_dd tk_law_21 15 rfl) rfl (by decide) (x_topn 1 rfl ?_)
  refine x_iadd 824 (ab_dd tk_law_21 16 rfl) rfl (x_topn (j + 1) (nI_add _ _) ?_)
  refine t_ialdK 825 (j + 1) (ab_dd tk_law_21 17 rfl) rfl (by decide) h51 h481 rfl (by omega) (by omega) ?_
  refine x_aload_n 826 0 (ab_dd tk_law_21 18 rfl) rfl rfl rfl ?_
  refine x_iload_n 827 3 (ab_dd tk_law_21 19 rfl) rfl rfl rfl ?_
  refine x_iconst 828 2 (ab_dd tk_law_21 20 rfl) rfl (by decide) (x_topn 2 rfl ?_)
  refine x_iadd 829 (ab_dd tk_law_21 21 rfl) rfl (x_topn (j + 2) (nI_add _ _) ?_)
  refine t_ialdK 830 (j + 2) (ab_dd tk_law_21 22 rfl) rfl (by decide) h51 h481 rfl (by omega) (by omega) ?_
  refine t_callV 833 M_m_rows 6 2 [_, _] (ab_dd tk_law_21 23 rfl) rfl (by decide) K_m_rows V_m_rows.1 V_m_rows.2 L_law_104 rfl (Nat.le_of_ble_eq_true rfl) (by decide) (Nat.lt_of_lt_of_le (by decide) hm1.1) (hm1.2.1 0 (by decide)) rfl hC (fun v2 w2 h2 => ?_)
  obtain ⟨rfl, S2, rfl, hS2, hG2, hk2⟩ := h2
  refine x_lcmp 834 (ab_dd tk_law_21 24 rfl) rfl ?_
  exact x_if_eq_t 1437 (ab_dd tk_law_21 25 rfl) (by decide) ((lg_cmp_eq _ _).mpr rfl) (K S2 hS2 hG2 hk2)
def tb_law_22 : List (Nat × Instr × Nat) := [(839, .aload_n 1, 1), (840, .aload_n 0, 1), (841, .iload_n 3, 1), (842, .iconst 1, 1), (843, .iadd, 1), (844, .iaload, 1), (845, .invokevirtual 105, 3), (848, .aload_n 2, 1), (849, .aload_n 0, 1), (850, .iload_n 3, 1), (851, .iconst 1, 1), (852, .iadd, 1), (853, .iaload, 1), (854, .invokevirtual 108, 3), (857, .if_icmp .eq 580, 3), (860, .iconst 0, 1), (861, .ireturn, 1)]
theorem tk_law_22 : ∀ q ∈ tb_law_22, decode ab_law.2.1 q.1 = .ok q.2 := by decide +kernel
theorem law_22 {G : ab_G} {S : ab_S} {u L j : Nat} {xs : Nat → Int32} {Q : Option Value → ab_H → Prop} (hS : Sim S u) (hu : u + 128 < 2 ^ 20) (hj : j + 6 ≤ L) (hL : L ≤ 3072) (h48 : S.1 48 = .inl (.int, L, .inl xs)) (K : ∀ S2, Sim S2 (u + 128) → gA S S2 904 929 → S2.1 = S.1 → ab_Ex G 1000 ab_law 1437 [some (.ref 48), some (.ref 50), some (.ref 120), some (.int (nI j))] [] (sw S2) Q) : ab_Ex G 1000 ab_law 839 [some (.ref 48), some (.ref 50), some (.ref 120), some (.int (nI j))] [] (sw S) Q := by
  obtain ⟨im, c, b, bh, nb, st, st2, n, s, f, t, tp, h, hQ⟩ := hS
  have hx := h.1
  have h50 : 50 ≤ sn S := by have := hQ.1.1; omega
  refine x_aload_n 840 1 (ab_dd tk_law_22 0 rfl) rfl rfl rfl ?_
  refine x_aload_n 841 0 (ab_dd tk_law_22 1 rfl) rfl rfl rfl ?_
  refine x_iload_n 842 3 (ab_dd tk_law_22 2 rfl) rfl rfl rfl ?_
  refine x_iconst 843 1 (ab_dd tk_law_22 3 rfl) rfl (by decide) (x_topn 1 rfl ?_)
  refine x_iadd 844 (ab_dd tk_law_22 4 rfl) rfl (x_topn (j + 1) (nI_add _ _) ?_)
  refine t_ialdK 845 (j + 1) (ab_dd tk_law_22 5 rfl) rfl (by decide) h50 h48 rfl (by omega) (by omega) ?_
  refine t_callV 848 M_s_keeps 7 1 [_] (ab_dd tk_law_22 6 rfl) rfl (by decide) K_s_keeps V_s_keeps.1 V_s_keeps.2 L_law_105 rfl (Nat.le_of_ble_eq_true rfl) (by decide) (Nat.lt_of_lt_of_le (by decide) hx.1) (hx.2.1 0 (by decide)) rfl (tw (w_keeps h hQ hu (xs (j + 1))) h50) (fun v1 w1 h1 => ?_)
  obtain ⟨S1, rfl, h4, hv, hm1, hC⟩ := h1
  have h481 : S1.1 48 = .inl (.int, L, .inl xs) := h4.trans h48
  have h51 : 50 ≤ sn S1 := by have := hm1.1; omega
  obtain ⟨y, rfl⟩ := hv
  refine x_aload_n 849 2 (ab_dd tk_law_22 7 rfl) rfl rfl rfl ?_
  refine x_aload_n 850 0 (ab_dd tk_law_22 8 rfl) rfl rfl rfl ?_
  refine x_iload_n 851 3 (ab_dd tk_law_22 9 rfl) rfl rfl rfl ?_
  refine x_iconst 852 1 (ab_dd tk_law_22 10 rfl) rfl (by decide) (x_topn 1 rfl ?_)
  refine x_iadd 853 (ab_dd tk_law_22 11 rfl) rfl (x_topn (j + 1) (nI_add _ _) ?_)
  refine t_ialdK 854 (j + 1) (ab_dd tk_law_22 12 rfl) rfl (by decide) h51 h481 rfl (by omega) (by omega) ?_
  refine t_callV 857 M_m_keeps 7 1 [_] (ab_dd tk_law_22 13 rfl) rfl (by decide) K_m_keeps V_m_keeps.1 V_m_keeps.2 L_law_108 rfl (Nat.le_of_ble_eq_true rfl) (by decide) (Nat.lt_of_lt_of_le (by decide) hm1.1) (hm1.2.1 0 (by decide)) rfl hC (fun v2 w2 h2 => ?_)
  obtain ⟨rfl, S2, rfl, hS2, hG2, hk2⟩ := h2
  exact x_icmp_eq_t 1437 (ab_dd tk_law_22 14 rfl) (by decide) rfl (K S2 hS2 hG2 hk2)
def tb_law_23 : List (Nat × Instr × Nat) := [(862, .aload_n 1, 1), (863, .aload_n 0, 1), (864, .iload_n 3, 1), (865, .iconst 1, 1), (866, .iadd, 1), (867, .iaload, 1), (868, .invokevirtual 109, 3), (871, .aload_n 2, 1), (872, .aload_n 0, 1), (873, .iload_n 3, 1), (874, .iconst 1, 1), (875, .iadd, 1), (876, .iaload, 1), (877, .invokevirtual 112, 3), (880, .if_icmp .eq 557, 3), (883, .iconst 0, 1), (884, .ireturn, 1)]
theorem tk_law_23 : ∀ q ∈ tb_law_23, decode ab_law.2.1 q.1 = .ok q.2 := by decide +kernel
theorem law_23 {G : ab_G} {S : ab_S} {u L j : Nat} {xs : Nat → Int32} {Q : Option Value → ab_H → Prop} (hS : Sim S u) (hu : u + 128 < 2 ^ 20) (hj : j + 6 ≤ L) (hL : L ≤ 3072) (h48 : S.1 48 = .inl (.int, L, .inl xs)) (K : ∀ S2, Sim S2 (u + 128) → gA S S2 904 929 → S2.1 = S.1 → ab_Ex G 1000 ab_law 1437 [some (.ref 48), some (.ref 50), some (.ref 120), some (.int (nI j))] [] (sw S2) Q) : ab_Ex G 1000 ab_law 862 [some (.ref 48), some (.ref 50), some (.ref 120), some (.int (nI j))] [] (sw S) Q := by
  obtain ⟨im, c, b, bh, nb, st, st2, n, s, f, t, tp, h, hQ⟩ := hS
  have hx := h.1
  have h50 : 50 ≤ sn S := by have := hQ.1.1; omega
  refine x_aload_n 863 1 (ab_dd tk_law_23 0 rfl) rfl rfl rfl ?_
  refine x_aload_n 864 0 (ab_dd tk_law_23 1 rfl) rfl rfl rfl ?_
  refine x_iload_n 865 3 (ab_dd tk_law_23 2 rfl) rfl rfl rfl ?_
  refine x_iconst 866 1 (ab_dd tk_law_23 3 rfl) rfl (by decide) (x_topn 1 rfl ?_)
  refine x_iadd 867 (ab_dd tk_law_23 4 rfl) rfl (x_topn (j + 1) (nI_add _ _) ?_)
  refine t_ialdK 868 (j + 1) (ab_dd tk_law_23 5 rfl) rfl (by decide) h50 h48 rfl (by omega) (by omega) ?_
  refine t_callV 871 M_s_most 7 1 [_] (ab_dd tk_law_23 6 rfl) rfl (by decide) K_s_most V_s_most.1 V_s_most.2 L_law_109 rfl (Nat.le_of_ble_eq_true rfl) (by decide) (Nat.lt_of_lt_of_le (by decide) hx.1) (hx.2.1 0 (by decide)) rfl (tw (w_most h hQ hu (xs (j + 1))) h50) (fun v1 w1 h1 => ?_)
  obtain ⟨S1, rfl, h4, hv, hm1, hC⟩ := h1
  have h481 : S1.1 48 = .inl (.int, L, .inl xs) := h4.trans h48
  have h51 : 50 ≤ sn S1 := by have := hm1.1; omega
  obtain ⟨y, rfl⟩ := hv
  refine x_aload_n 872 2 (ab_dd tk_law_23 7 rfl) rfl rfl rfl ?_
  refine x_aload_n 873 0 (ab_dd tk_law_23 8 rfl) rfl rfl rfl ?_
  refine x_iload_n 874 3 (ab_dd tk_law_23 9 rfl) rfl rfl rfl ?_
  refine x_iconst 875 1 (ab_dd tk_law_23 10 rfl) rfl (by decide) (x_topn 1 rfl ?_)
  refine x_iadd 876 (ab_dd tk_law_23 11 rfl) rfl (x_topn (j + 1) (nI_add _ _) ?_)
  refine t_ialdK 877 (j + 1) (ab_dd tk_law_23 12 rfl) rfl (by decide) h51 h481 rfl (by omega) (by omega) ?_
  refine t_callV 880 M_m_most 6 1 [_] (ab_dd tk_law_23 13 rfl) rfl (by decide) K_m_most V_m_most.1 V_m_most.2 L_law_112 rfl (Nat.le_of_ble_eq_true rfl) (by decide) (Nat.lt_of_lt_of_le (by decide) hm1.1) (hm1.2.1 0 (by decide)) rfl hC (fun v2 w2 h2 => ?_)
  obtain ⟨rfl, S2, rfl, hS2, hG2, hk2⟩ := h2
  exact x_icmp_eq_t 1437 (ab_dd tk_law_23 14 rfl) (by decide) rfl (K S2 hS2 hG2 hk2)
def tb_law_24 : List (Nat × Instr × Nat) := [(885, .aload_n 1, 1), (886, .invokevirtual 113, 3), (889, .aload_n 2, 1), (890, .invokevirtual 117, 3), (893, .if_icmp .eq 544, 3), (896, .iconst 0, 1), (897, .ireturn, 1)]
theorem tk_law_24 : ∀ q ∈ tb_law_24, decode ab_law.2.1 q.1 = .ok q.2 := by decide +kernel
theorem law_24 {G : ab_G} {S : ab_S} {u L j : Nat} {xs : Nat → Int32} {Q : Option Value → ab_H → Prop} (hS : Sim S u) (hu : u + 128 < 2 ^ 20) (hj : j + 6 ≤ L) (hL : L ≤ 3072) (h48 : S.1 48 = .inl (.int, L, .inl xs)) (K : ∀ S2, Sim S2 (u + 128) → gA S S2 904 929 → S2.1 = S.1 → ab_Ex G 1000 ab_law 1437 [some (.ref 48), some (.ref 50), some (.ref 120), some (.int (nI j))] [] (sw S2) Q) : ab_Ex G 1000 ab_law 885 [some (.ref 48), some (.ref 50), some (.ref 120), some (.int (nI j))] [] (sw S) Q := by
  obtain ⟨im, c, b, bh, nb, st, st2, n, s, f, t, tp, h, hQ⟩ := hS
  have hx := h.1
  have h50 : 50 ≤ sn S := by have := hQ.1.1; omega
  refine x_aload_n 886 1 (ab_dd tk_law_24 0 rfl) rfl rfl rfl ?_
  refine t_callV 889 M_s_stands 7 0 [] (ab_dd tk_law_24 1 rfl) rfl (by decide) K_s_stands V_s_stands.1 V_s_stands.2 L_law_113 rfl (Nat.le_of_ble_eq_true rfl) (by decide) (Nat.lt_of_lt_of_le (by decide) hx.1) (hx.2.1 0 (by decide)) rfl (tw (w_stands h hQ hu) h50) (fun v1 w1 h1 => ?_)
  obtain ⟨S1, rfl, h4, hv, hm1, hC⟩ := h1
  have h481 : S1.1 48 = .inl (.int, L, .inl xs) := h4.trans h48
  have h51 : 50 ≤ sn S1 := by have := hm1.1; omega
  obtain ⟨y, rfl⟩ := hv
  refine x_aload_n 890 2 (ab_dd tk_law_24 2 rfl) rfl rfl rfl ?_
  refine t_callV 893 M_m_stands 6 0 [] (ab_dd tk_law_24 3 rfl) rfl (by decide) K_m_stands V_m_stands.1 V_m_stands.2 L_law_117 rfl (Nat.le_of_ble_eq_true rfl) (by decide) (Nat.lt_of_lt_of_le (by decide) hm1.1) (hm1.2.1 0 (by decide)) rfl hC (fun v2 w2 h2 => ?_)
  obtain ⟨rfl, S2, rfl, hS2, hG2, hk2⟩ := h2
  exact x_icmp_eq_t 1437 (ab_dd tk_law_24 4 rfl) (by decide) rfl (K S2 hS2 hG2 hk2)
def tb_law_25 : List (Nat × Instr × Nat) := [(898, .aload_n 1, 1), (899, .aload_n 0, 1), (900, .iload_n 3, 1), (901, .iconst 1, 1), (902, .iadd, 1), (903, .iaload, 1), (904, .aload_n 0, 1), (905, .iload_n 3, 1), (906, .iconst 2, 1), (907, .iadd, 1), (908, .iaload, 1), (909, .invokevirtual 118, 3), (912, .aload_n 2, 1), (913, .aload_n 0, 1), (914, .iload_n 3, 1), (915, .iconst 1, 1), (916, .iadd, 1), (917, .iaload, 1), (918, .aload_n 0, 1), (919, .iload_n 3, 1), (920, .iconst 2, 1), (921, .iadd, 1), (922, .iaload, 1), (923, .invokevirtual 121, 3), (926, .if_icmp .eq 511, 3), (929, .iconst 0, 1), (930, .ireturn, 1)]
theorem tk_law_25 : ∀ q ∈ tb_law_25, decode ab_law.2.1 q.1 = .ok q.2 := by decide +kernel
theorem law_25 {G : ab_G} {S : ab_S} {u L j : Nat} {xs : Nat → Int32} {Q : Option Value → ab_H → Prop} (hS : Sim S u) (hu : u + 128 < 2 ^ 20) (hj : j + 6 ≤ L) (hL : L ≤ 3072) (h48 : S.1 48 = .inl (.int, L, .inl xs)) (K : ∀ S2, Sim S2 (u + 128) → gA S S2 904 929 → S2.1 = S.1 → ab_Ex G 1000 ab_law 1437 [some (.ref 48), some (.ref 50), some (.ref 120), some (.int (nI j))] [] (sw S2) Q) : ab_Ex G 1000 ab_law 898 [some (.ref 48), some (.ref 50), some (.ref 120), some (.int (nI j))] [] (sw S) Q := by
  obtain ⟨im, c, b, bh, nb, st, st2, n, s, f, t, tp, h, hQ⟩ := hS
  have hx := h.1
  have h50 : 50 ≤ sn S := by have := hQ.1.1; omega
  refine x_aload_n 899 1 (ab_dd tk_law_25 0 rfl) rfl rfl rfl ?_
  refine x_aload_n 900 0 (ab_dd tk_law_25 1 rfl) rfl rfl rfl ?_
  refine x_iload_n 901 3 (ab_dd tk_law_25 2 rfl) rfl rfl rfl ?_
  refine x_iconst 902 1 (ab_dd tk_law_25 3 rfl) rfl (by decide) (x_topn 1 rfl ?_)
  refine x_iadd 903 (ab_dd tk_law_25 4 rfl) rfl (x_topn (j + 1) (nI_add _ _) ?_)
  refine t_ialdK 904 (j + 1) (ab_dd tk_law_25 5 rfl) rfl (by decide) h50 h48 rfl (by omega) (by omega) ?_
  refine x_aload_n 905 0 (ab_dd tk_law_25 6 rfl) rfl rfl rfl ?_
  refine x_iload_n 906 3 (ab_dd tk_law_25 7 rfl) rfl rfl rfl ?_
  refine x_iconst 907 2 (ab_dd tk_law_25 8 rfl) rfl (by decide) (x_topn 2 rfl ?_)
  refine x_iadd 908 (ab_dd tk_law_25 9 rfl) rfl (x_topn (j + 2) (nI_add _ _) ?_)
  refine t_ialdK 909 (j + 2) (ab_dd tk_law_25 10 rfl) rfl (by decide) h50 h48 rfl (by omega) (by omega) ?_
  refine t_callV 912 M_s_placing 7 2 [_, _] (ab_dd tk_law_25 11 rfl) rfl (by decide) K_s_placing V_s_placing.1 V_s_placing.2 L_law_118 rfl (Nat.le_of_ble_eq_true rfl) (by decide) (Nat.lt_of_lt_of_le (by decide) hx.1) (hx.2.1 0 (by decide)) rfl (tw (w_placing h hQ hu (xs (j + 1)) (xs (j + 2))) h50) (fun v1 w1 h1 => ?_)
  obtain ⟨S1, rfl, h4, hv, hm1, hC⟩ := h1
  have h481 : S1.1 48 = .inl (.int, L, .inl xs) := h4.trans h48
  have h51 : 50 ≤ sn S1 := by have := hm1.1; omega
  obtain ⟨y, rfl⟩ := hv
  refine x_aload_n 913 2 (ab_dd tk_law_25 12 rfl) rfl rfl rfl ?_
  refine x_aload_n 914 0 (ab_dd tk_law_25 13 rfl) rfl rfl rfl ?_
  refine x_iload_n 915 3 (ab_dd tk_law_25 14 rfl) rfl rfl rfl ?_
  refine x_iconst 916 1 (ab_dd tk_law_25 15 rfl) rfl (by decide) (x_topn 1 rfl ?_)
  refine x_iadd 917 (ab_dd tk_law_25 16 rfl) rfl (x_topn (j + 1) (nI_add _ _) ?_)
  refine t_ialdK 918 (j + 1) (ab_dd tk_law_25 17 rfl) rfl (by decide) h51 h481 rfl (by omega) (by omega) ?_
  refine x_aload_n 919 0 (ab_dd tk_law_25 18 rfl) rfl rfl rfl ?_
  refine x_iload_n 920 3 (ab_dd tk_law_25 19 rfl) rfl rfl rfl ?_
  refine x_iconst 921 2 (ab_dd tk_law_25 20 rfl) rfl (by decide) (x_topn 2 rfl ?_)
  refine x_iadd 922 (ab_dd tk_law_25 21 rfl) rfl (x_topn (j + 2) (nI_add _ _) ?_)
  refine t_ialdK 923 (j + 2) (ab_dd tk_law_25 22 rfl) rfl (by decide) h51 h481 rfl (by omega) (by omega) ?_
  refine t_callV 926 M_m_placing 10 2 [_, _] (ab_dd tk_law_25 23 rfl) rfl (by decide) K_m_placing V_m_placing.1 V_m_placing.2 L_law_121 rfl (Nat.le_of_ble_eq_true rfl) (by decide) (Nat.lt_of_lt_of_le (by decide) hm1.1) (hm1.2.1 0 (by decide)) rfl hC (fun v2 w2 h2 => ?_)
  obtain ⟨rfl, S2, rfl, hS2, hG2, hk2⟩ := h2
  exact x_icmp_eq_t 1437 (ab_dd tk_law_25 24 rfl) (by decide) rfl (K S2 hS2 hG2 hk2)
def tb_law_26 : List (Nat × Instr × Nat) := [(931, .aload_n 1, 1), (932, .aload_n 0, 1), (933, .iload_n 3, 1), (934, .iconst 1, 1), (935, .iadd, 1), (936, .iaload, 1), (937, .aload_n 0, 1), (938, .iload_n 3, 1), (939, .iconst 2, 1), (940, .iadd, 1), (941, .iaload, 1), (942, .invokevirtual 122, 3), (945, .aload_n 2, 1), (946, .aload_n 0, 1), (947, .iload_n 3, 1), (948, .iconst 1, 1), (949, .iadd, 1), (950, .iaload, 1), (951, .aload_n 0, 1), (952, .iload_n 3, 1), (953, .iconst 2, 1), (954, .iadd, 1), (955, .iaload, 1), (956, .invokevirtual 125, 3), (959, .if_icmp .eq 478, 3), (962, .iconst 0, 1), (963, .ireturn, 1)]
theorem tk_law_26 : ∀ q ∈ tb_law_26, decode ab_law.2.1 q.1 = .ok q.2 := by decide +kernel
theorem law_26 {G : ab_G} {S : ab_S} {u L j : Nat} {xs : Nat → Int32} {Q : Option Value → ab_H → Prop} (hS : Sim S u) (hu : u + 128 < 2 ^ 20) (hj : j + 6 ≤ L) (hL : L ≤ 3072) (h48 : S.1 48 = .inl (.int, L, .inl xs)) (K : ∀ S2, Sim S2 (u + 128) → gA S S2 904 929 → S2.1 = S.1 → ab_Ex G 1000 ab_law 1437 [some (.ref 48), some (.ref 50), some (.ref 120), some (.int (nI j))] [] (sw S2) Q) : ab_Ex G 1000 ab_law 931 [some (.ref 48), some (.ref 50), some (.ref 120), some (.int (nI j))] [] (sw S) Q := by
  obtain ⟨im, c, b, bh, nb, st, st2, n, s, f, t, tp, h, hQ⟩ := hS
  have hx := h.1
  have h50 : 50 ≤ sn S := by have := hQ.1.1; omega
  refine x_aload_n 932 1 (ab_dd tk_law_26 0 rfl) rfl rfl rfl ?_
  refine x_aload_n 933 0 (ab_dd tk_law_26 1 rfl) rfl rfl rfl ?_
  refine x_iload_n 934 3 (ab_dd tk_law_26 2 rfl) rfl rfl rfl ?_
  refine x_iconst 935 1 (ab_dd tk_law_26 3 rfl) rfl (by decide) (x_topn 1 rfl ?_)
  refine x_iadd 936 (ab_dd tk_law_26 4 rfl) rfl (x_topn (j + 1) (nI_add _ _) ?_)
  refine t_ialdK 937 (j + 1) (ab_dd tk_law_26 5 rfl) rfl (by decide) h50 h48 rfl (by omega) (by omega) ?_
  refine x_aload_n 938 0 (ab_dd tk_law_26 6 rfl) rfl rfl rfl ?_
  refine x_iload_n 939 3 (ab_dd tk_law_26 7 rfl) rfl rfl rfl ?_
  refine x_iconst 940 2 (ab_dd tk_law_26 8 rfl) rfl (by decide) (x_topn 2 rfl ?_)
  refine x_iadd 941 (ab_dd tk_law_26 9 rfl) rfl (x_topn (j + 2) (nI_add _ _) ?_)
  refine t_ialdK 942 (j + 2) (ab_dd tk_law_26 10 rfl) rfl (by decide) h50 h48 rfl (by omega) (by omega) ?_
  refine t_callV 945 M_s_trades 7 2 [_, _] (ab_dd tk_law_26 11 rfl) rfl (by decide) K_s_trades V_s_trades.1 V_s_trades.2 L_law_122 rfl (Nat.le_of_ble_eq_true rfl) (by decide) (Nat.lt_of_lt_of_le (by decide) hx.1) (hx.2.1 0 (by decide)) rfl (tw (w_trades h hQ hu (xs (j + 1)) (xs (j + 2))) h50) (fun v1 w1 h1 => ?_)
  obtain ⟨S1, rfl, h4, hv, hm1, hC⟩ := h1
  have h481 : S1.1 48 = .inl (.int, L, .inl xs) := h4.trans h48
  have h51 : 50 ≤ sn S1 := by have := hm1.1; omega
  obtain ⟨y, rfl⟩ := hv
  refine x_aload_n 946 2 (ab_dd tk_law_26 12 rfl) rfl rfl rfl ?_
  refine x_aload_n 947 0 (ab_dd tk_law_26 13 rfl) rfl rfl rfl ?_
  refine x_iload_n 948 3 (ab_dd tk_law_26 14 rfl) rfl rfl rfl ?_
  refine x_iconst 949 1 (ab_dd tk_law_26 15 rfl) rfl (by decide) (x_topn 1 rfl ?_)
  refine x_iadd 950 (ab_dd tk_law_26 16 rfl) rfl (x_topn (j + 1) (nI_add _ _) ?_)
  refine t_ialdK 951 (j + 1) (ab_dd tk_law_26 17 rfl) rfl (by decide) h51 h481 rfl (by omega) (by omega) ?_
  refine x_aload_n 952 0 (ab_dd tk_law_26 18 rfl) rfl rfl rfl ?_
  refine x_iload_n 953 3 (ab_dd tk_law_26 19 rfl) rfl rfl rfl ?_
  refine x_iconst 954 2 (ab_dd tk_law_26 20 rfl) rfl (by decide) (x_topn 2 rfl ?_)
  refine x_iadd 955 (ab_dd tk_law_26 21 rfl) rfl (x_topn (j + 2) (nI_add _ _) ?_)
  refine t_ialdK 956 (j + 2) (ab_dd tk_law_26 22 rfl) rfl (by decide) h51 h481 rfl (by omega) (by omega) ?_
  refine t_callV 959 M_m_trades 3 2 [_, _] (ab_dd tk_law_26 23 rfl) rfl (by decide) K_m_trades V_m_trades.1 V_m_trades.2 L_law_125 rfl (Nat.le_of_ble_eq_true rfl) (by decide) (Nat.lt_of_lt_of_le (by decide) hm1.1) (hm1.2.1 0 (by decide)) rfl hC (fun v2 w2 h2 => ?_)
  obtain ⟨rfl, S2, rfl, hS2, hG2, hk2⟩ := h2
  exact x_icmp_eq_t 1437 (ab_dd tk_law_26 24 rfl) (by decide) rfl (K S2 hS2 hG2 hk2)
def tb_law_27 : List (Nat × Instr × Nat) := [(964, .aload_n 1, 1), (965, .invokevirtual 126, 3), (968, .aload_n 2, 1), (969, .invokevirtual 129, 3), (972, .if_icmp .eq 465, 3), (975, .iconst 0, 1), (976, .ireturn, 1)]
theorem tk_law_27 : ∀ q ∈ tb_law_27, decode ab_law.2.1 q.1 = .ok q.2 := by decide +kernel
theorem law_27 {G : ab_G} {S : ab_S} {u L j : Nat} {xs : Nat → Int32} {Q : Option Value → ab_H → Prop} (hS : Sim S u) (hu : u + 128 < 2 ^ 20) (hj : j + 6 ≤ L) (hL : L ≤ 3072) (h48 : S.1 48 = .inl (.int, L, .inl xs)) (K : ∀ S2, Sim S2 (u + 128) → gA S S2 904 929 → S2.1 = S.1 → ab_Ex G 1000 ab_law 1437 [some (.ref 48), some (.ref 50), some (.ref 120), some (.int (nI j))] [] (sw S2) Q) : ab_Ex G 1000 ab_law 964 [some (.ref 48), some (.ref 50), some (.ref 120), some (.int (nI j))] [] (sw S) Q := by
  obtain ⟨im, c, b, bh, nb, st, st2, n, s, f, t, tp, h, hQ⟩ := hS
  have hx := h.1
  have h50 : 50 ≤ sn S := by have := hQ.1.1; omega
  refine x_aload_n 965 1 (ab_dd tk_law_27 0 rfl) rfl rfl rfl ?_
  refine t_callV 968 M_s_glad 7 0 [] (ab_dd tk_law_27 1 rfl) rfl (by decide) K_s_glad V_s_glad.1 V_s_glad.2 L_law_126 rfl (Nat.le_of_ble_eq_true rfl) (by decide) (Nat.lt_of_lt_of_le (by decide) hx.1) (hx.2.1 0 (by decide)) rfl (tw (w_glad h hQ hu) h50) (fun v1 w1 h1 => ?_)
  obtain ⟨S1, rfl, h4, hv, hm1, hC⟩ := h1
  have h481 : S1.1 48 = .inl (.int, L, .inl xs) := h4.trans h48
  have h51 : 50 ≤ sn S1 := by have := hm1.1; omega
  obtain ⟨y, rfl⟩ := hv
  refine x_aload_n 969 2 (ab_dd tk_law_27 2 rfl) rfl rfl rfl ?_
  refine t_callV 972 M_m_glad 3 0 [] (ab_dd tk_law_27 3 rfl) rfl (by decide) K_m_glad V_m_glad.1 V_m_glad.2 L_law_129 rfl (Nat.le_of_ble_eq_true rfl) (by decide) (Nat.lt_of_lt_of_le (by decide) hm1.1) (hm1.2.1 0 (by decide)) rfl hC (fun v2 w2 h2 => ?_)
  obtain ⟨rfl, S2, rfl, hS2, hG2, hk2⟩ := h2
  exact x_icmp_eq_t 1437 (ab_dd tk_law_27 4 rfl) (by decide) rfl (K S2 hS2 hG2 hk2)
def tb_law_28 : List (Nat × Instr × Nat) := [(977, .aload_n 1, 1), (978, .aload_n 0, 1), (979, .iload_n 3, 1), (980, .iconst 1, 1), (981, .iadd, 1), (982, .iaload, 1), (983, .aload_n 0, 1), (984, .iload_n 3, 1), (985, .iconst 2, 1), (986, .iadd, 1), (987, .iaload, 1), (988, .invokevirtual 130, 3), (991, .aload_n 2, 1), (992, .aload_n 0, 1), (993, .iload_n 3, 1), (994, .iconst 1, 1), (995, .iadd, 1), (996, .iaload, 1), (997, .aload_n 0, 1), (998, .iload_n 3, 1), (999, .iconst 2, 1), (1000, .iadd, 1), (1001, .iaload, 1), (1002, .invokevirtual 133, 3), (1005, .if_icmp .eq 432, 3), (1008, .iconst 0, 1), (1009, .ireturn, 1)]
theorem tk_law_28 : ∀ q ∈ tb_law_28, decode ab_law.2.1 q.1 = .ok q.2 := by decide +kernel
theorem law_28 {G : ab_G} {S : ab_S} {u L j : Nat} {xs : Nat → Int32} {Q : Option Value → ab_H → Prop} (hS : Sim S u) (hu : u + 128 < 2 ^ 20) (hj : j + 6 ≤ L) (hL : L ≤ 3072) (h48 : S.1 48 = .inl (.int, L, .inl xs)) (K : ∀ S2, Sim S2 (u + 128) → gA S S2 904 929 → S2.1 = S.1 → ab_Ex G 1000 ab_law 1437 [some (.ref 48), some (.ref 50), some (.ref 120), some (.int (nI j))] [] (sw S2) Q) : ab_Ex G 1000 ab_law 977 [some (.ref 48), some (.ref 50), some (.ref 120), some (.int (nI j))] [] (sw S) Q := by
  obtain ⟨im, c, b, bh, nb, st, st2, n, s, f, t, tp, h, hQ⟩ := hS
  have hx := h.1
  have h50 : 50 ≤ sn S := by have := hQ.1.1; omega
  refine x_aload_n 978 1 (ab_dd tk_law_28 0 rfl) rfl rfl rfl ?_
  refine x_aload_n 979 0 (ab_dd tk_law_28 1 rfl) rfl rfl rfl ?_
  refine x_iload_n 980 3 (ab_dd tk_law_28 2 rfl) rfl rfl rfl ?_
  refine x_iconst 981 1 (ab_dd tk_law_28 3 rfl) rfl (by decide) (x_topn 1 rfl ?_)
  refine x_iadd 982 (ab_dd tk_law_28 4 rfl) rfl (x_topn (j + 1) (nI_add _ _) ?_)
  refine t_ialdK 983 (j + 1) (ab_dd tk_law_28 5 rfl) rfl (by decide) h50 h48 rfl (by omega) (by omega) ?_
  refine x_aload_n 984 0 (ab_dd tk_law_28 6 rfl) rfl rfl rfl ?_
  refine x_iload_n 985 3 (ab_dd tk_law_28 7 rfl) rfl rfl rfl ?_
  refine x_iconst 986 2 (ab_dd tk_law_28 8 rfl) rfl (by decide) (x_topn 2 rfl ?_)
  refine x_iadd 987 (ab_dd tk_law_28 9 rfl) rfl (x_topn (j + 2) (nI_add _ _) ?_)
  refine t_ialdK 988 (j + 2) (ab_dd tk_law_28 10 rfl) rfl (by decide) h50 h48 rfl (by omega) (by omega) ?_
  refine t_callV 991 M_s_seasons 7 2 [_, _] (ab_dd tk_law_28 11 rfl) rfl (by decide) K_s_seasons V_s_seasons.1 V_s_seasons.2 L_law_130 rfl (Nat.le_of_ble_eq_true rfl) (by decide) (Nat.lt_of_lt_of_le (by decide) hx.1) (hx.2.1 0 (by decide)) rfl (tw (w_seasons h hQ hu (xs (j + 1)) (xs (j + 2))) h50) (fun v1 w1 h1 => ?_)
  obtain ⟨S1, rfl, h4, hv, hm1, hC⟩ := h1
  have h481 : S1.1 48 = .inl (.int, L, .inl xs) := h4.trans h48
  have h51 : 50 ≤ sn S1 := by have := hm1.1; omega
  obtain ⟨y, rfl⟩ := hv
  refine x_aload_n 992 2 (ab_dd tk_law_28 12 rfl) rfl rfl rfl ?_
  refine x_aload_n 993 0 (ab_dd tk_law_28 13 rfl) rfl rfl rfl ?_
  refine x_iload_n 994 3 (ab_dd tk_law_28 14 rfl) rfl rfl rfl ?_
  refine x_iconst 995 1 (ab_dd tk_law_28 15 rfl) rfl (by decide) (x_topn 1 rfl ?_)
  refine x_iadd 996 (ab_dd tk_law_28 16 rfl) rfl (x_topn (j + 1) (nI_add _ _) ?_)
  refine t_ialdK 997 (j + 1) (ab_dd tk_law_28 17 rfl) rfl (by decide) h51 h481 rfl (by omega) (by omega) ?_
  refine x_aload_n 998 0 (ab_dd tk_law_28 18 rfl) rfl rfl rfl ?_
  refine x_iload_n 999 3 (ab_dd tk_law_28 19 rfl) rfl rfl rfl ?_
  refine x_iconst 1000 2 (ab_dd tk_law_28 20 rfl) rfl (by decide) (x_topn 2 rfl ?_)
  refine x_iadd 1001 (ab_dd tk_law_28 21 rfl) rfl (x_topn (j + 2) (nI_add _ _) ?_)
  refine t_ialdK 1002 (j + 2) (ab_dd tk_law_28 22 rfl) rfl (by decide) h51 h481 rfl (by omega) (by omega) ?_
  refine t_callV 1005 M_m_seasons 7 2 [_, _] (ab_dd tk_law_28 23 rfl) rfl (by decide) K_m_seasons V_m_seasons.1 V_m_seasons.2 L_law_133 rfl (Nat.le_of_ble_eq_true rfl) (by decide) (Nat.lt_of_lt_of_le (by decide) hm1.1) (hm1.2.1 0 (by decide)) rfl hC (fun v2 w2 h2 => ?_)
  obtain ⟨rfl, S2, rfl, hS2, hG2, hk2⟩ := h2
  exact x_icmp_eq_t 1437 (ab_dd tk_law_28 24 rfl) (by decide) rfl (K S2 hS2 hG2 hk2)
def tb_law_29 : List (Nat × Instr × Nat) := [(1010, .aload_n 1, 1), (1011, .aload_n 0, 1), (1012, .iload_n 3, 1), (1013, .iconst 1, 1), (1014, .iadd, 1), (1015, .iaload, 1), (1016, .aload_n 0, 1), (1017, .iload_n 3, 1), (1018, .iconst 2, 1), (1019, .iadd, 1), (1020, .iaload, 1), (1021, .invokevirtual 134, 3), (1024, .aload_n 2, 1), (1025, .aload_n 0, 1), (1026, .iload_n 3, 1), (1027, .iconst 1, 1), (1028, .iadd, 1), (1029, .iaload, 1), (1030, .aload_n 0, 1), (1031, .iload_n 3, 1), (1032, .iconst 2, 1), (1033, .iadd, 1), (1034, .iaload, 1), (1035, .invokevirtual 137, 3), (1038, .if_icmp .eq 399, 3), (1041, .iconst 0, 1), (1042, .ireturn, 1)]
theorem tk_law_29 : ∀ q ∈ tb_law_29, decode ab_law.2.1 q.1 = .ok q.2 := by decide +kernel
theorem law_29 {G : ab_G} {S : ab_S} {u L j : Nat} {xs : Nat → Int32} {Q : Option Value → ab_H → Prop} (hS : Sim S u) (hu : u + 128 < 2 ^ 20) (hj : j + 6 ≤ L) (hL : L ≤ 3072) (h48 : S.1 48 = .inl (.int, L, .inl xs)) (K : ∀ S2, Sim S2 (u + 128) → gA S S2 904 929 → S2.1 = S.1 → ab_Ex G 1000 ab_law 1437 [some (.ref 48), some (.ref 50), some (.ref 120), some (.int (nI j))] [] (sw S2) Q) : ab_Ex G 1000 ab_law 1010 [some (.ref 48), some (.ref 50), some (.ref 120), some (.int (nI j))] [] (sw S) Q := by
  obtain ⟨im, c, b, bh, nb, st, st2, n, s, f, t, tp, h, hQ⟩ := hS
  have hx := h.1
  have h50 : 50 ≤ sn S := by have := hQ.1.1; omega
  refine x_aload_n 1011 1 (ab_dd tk_law_29 0 rfl) rfl rfl rfl ?_
  refine x_aload_n 1012 0 (ab_dd tk_law_29 1 rfl) rfl rfl rfl ?_
  refine x_iload_n 1013 3 (ab_dd tk_law_29 2 rfl) rfl rfl rfl ?_
  refine x_iconst 1014 1 (ab_dd tk_law_29 3 rfl) rfl (by decide) (x_topn 1 rfl ?_)
  refine x_iadd 1015 (ab_dd tk_law_29 4 rfl) rfl (x_topn (j + 1) (nI_add _ _) ?_)
  refine t_ialdK 1016 (j + 1) (ab_dd tk_law_29 5 rfl) rfl (by decide) h50 h48 rfl (by omega) (by omega) ?_
  refine x_aload_n 1017 0 (ab_dd tk_law_29 6 rfl) rfl rfl rfl ?_
  refine x_iload_n 1018 3 (ab_dd tk_law_29 7 rfl) rfl rfl rfl ?_
  refine x_iconst 1019 2 (ab_dd tk_law_29 8 rfl) rfl (by decide) (x_topn 2 rfl ?_)
  refine x_iadd 1020 (ab_dd tk_law_29 9 rfl) rfl (x_topn (j + 2) (nI_add _ _) ?_)
  refine t_ialdK 1021 (j + 2) (ab_dd tk_law_29 10 rfl) rfl (by decide) h50 h48 rfl (by omega) (by omega) ?_
  refine t_callV 1024 M_s_months 7 2 [_, _] (ab_dd tk_law_29 11 rfl) rfl (by decide) K_s_months V_s_months.1 V_s_months.2 L_law_134 rfl (Nat.le_of_ble_eq_true rfl) (by decide) (Nat.lt_of_lt_of_le (by decide) hx.1) (hx.2.1 0 (by decide)) rfl (tw (w_months h hQ hu (xs (j + 1)) (xs (j + 2))) h50) (fun v1 w1 h1 => ?_)
  obtain ⟨S1, rfl, h4, hv, hm1, hC⟩ := h1
  have h481 : S1.1 48 = .inl (.int, L, .inl xs) := h4.trans h48
  have h51 : 50 ≤ sn S1 := by have := hm1.1; omega
  obtain ⟨y, rfl⟩ := hv
  refine x_aload_n 1025 2 (ab_dd tk_law_29 12 rfl) rfl rfl rfl ?_
  refine x_aload_n 1026 0 (ab_dd tk_law_29 13 rfl) rfl rfl rfl ?_
  refine x_iload_n 1027 3 (ab_dd tk_law_29 14 rfl) rfl rfl rfl ?_
  refine x_iconst 1028 1 (ab_dd tk_law_29 15 rfl) rfl (by decide) (x_topn 1 rfl ?_)
  refine x_iadd 1029 (ab_dd tk_law_29 16 rfl) rfl (x_topn (j + 1) (nI_add _ _) ?_)
  refine t_ialdK 1030 (j + 1) (ab_dd tk_law_29 17 rfl) rfl (by decide) h51 h481 rfl (by omega) (by omega) ?_
  refine x_aload_n 1031 0 (ab_dd tk_law_29 18 rfl) rfl rfl rfl ?_
  refine x_iload_n 1032 3 (ab_dd tk_law_29 19 rfl) rfl rfl rfl ?_
  refine x_iconst 1033 2 (ab_dd tk_law_29 20 rfl) rfl (by decide) (x_topn 2 rfl ?_)
  refine x_iadd 1034 (ab_dd tk_law_29 21 rfl) rfl (x_topn (j + 2) (nI_add _ _) ?_)
  refine t_ialdK 1035 (j + 2) (ab_dd tk_law_29 22 rfl) rfl (by decide) h51 h481 rfl (by omega) (by omega) ?_
  refine t_callV 1038 M_m_months 6 2 [_, _] (ab_dd tk_law_29 23 rfl) rfl (by decide) K_m_months V_m_months.1 V_m_months.2 L_law_137 rfl (Nat.le_of_ble_eq_true rfl) (by decide) (Nat.lt_of_lt_of_le (by decide) hm1.1) (hm1.2.1 0 (by decide)) rfl hC (fun v2 w2 h2 => ?_)
  obtain ⟨rfl, S2, rfl, hS2, hG2, hk2⟩ := h2
  exact x_icmp_eq_t 1437 (ab_dd tk_law_29 24 rfl) (by decide) rfl (K S2 hS2 hG2 hk2)
def tb_law_30 : List (Nat × Instr × Nat) := [(1043, .aload_n 1, 1), (1044, .aload_n 0, 1), (1045, .iload_n 3, 1), (1046, .iconst 1, 1), (1047, .iadd, 1), (1048, .iaload, 1), (1049, .aload_n 0, 1), (1050, .iload_n 3, 1), (1051, .iconst 2, 1), (1052, .iadd, 1), (1053, .iaload, 1), (1054, .invokevirtual 138, 3), (1057, .aload_n 2, 1), (1058, .aload_n 0, 1), (1059, .iload_n 3, 1), (1060, .iconst 1, 1), (1061, .iadd, 1), (1062, .iaload, 1), (1063, .aload_n 0, 1), (1064, .iload_n 3, 1), (1065, .iconst 2, 1), (1066, .iadd, 1), (1067, .iaload, 1), (1068, .invokevirtual 141, 3), (1071, .if_icmp .eq 366, 3), (1074, .iconst 0, 1), (1075, .ireturn, 1)]
theorem tk_law_30 : ∀ q ∈ tb_law_30, decode ab_law.2.1 q.1 = .ok q.2 := by decide +kernel
theorem law_30 {G : ab_G} {S : ab_S} {u L j : Nat} {xs : Nat → Int32} {Q : Option Value → ab_H → Prop} (hS : Sim S u) (hu : u + 128 < 2 ^ 20) (hj : j + 6 ≤ L) (hL : L ≤ 3072) (h48 : S.1 48 = .inl (.int, L, .inl xs)) (K : ∀ S2, Sim S2 (u + 128) → gA S S2 904 929 → S2.1 = S.1 → ab_Ex G 1000 ab_law 1437 [some (.ref 48), some (.ref 50), some (.ref 120), some (.int (nI j))] [] (sw S2) Q) : ab_Ex G 1000 ab_law 1043 [some (.ref 48), some (.ref 50), some (.ref 120), some (.int (nI j))] [] (sw S) Q := by
  obtain ⟨im, c, b, bh, nb, st, st2, n, s, f, t, tp, h, hQ⟩ := hS
  have hx := h.1
  have h50 : 50 ≤ sn S := by have := hQ.1.1; omega
  refine x_aload_n 1044 1 (ab_dd tk_law_30 0 rfl) rfl rfl rfl ?_
  refine x_aload_n 1045 0 (ab_dd tk_law_30 1 rfl) rfl rfl rfl ?_
  refine x_iload_n 1046 3 (ab_dd tk_law_30 2 rfl) rfl rfl rfl ?_
  refine x_iconst 1047 1 (ab_dd tk_law_30 3 rfl) rfl (by decide) (x_topn 1 rfl ?_)
  refine x_iadd 1048 (ab_dd tk_law_30 4 rfl) rfl (x_topn (j + 1) (nI_add _ _) ?_)
  refine t_ialdK 1049 (j + 1) (ab_dd tk_law_30 5 rfl) rfl (by decide) h50 h48 rfl (by omega) (by omega) ?_
  refine x_aload_n 1050 0 (ab_dd tk_law_30 6 rfl) rfl rfl rfl ?_
  refine x_iload_n 1051 3 (ab_dd tk_law_30 7 rfl) rfl rfl rfl ?_
  refine x_iconst 1052 2 (ab_dd tk_law_30 8 rfl) rfl (by decide) (x_topn 2 rfl ?_)
  refine x_iadd 1053 (ab_dd tk_law_30 9 rfl) rfl (x_topn (j + 2) (nI_add _ _) ?_)
  refine t_ialdK 1054 (j + 2) (ab_dd tk_law_30 10 rfl) rfl (by decide) h50 h48 rfl (by omega) (by omega) ?_
  refine t_callV 1057 M_s_attempt 7 2 [_, _] (ab_dd tk_law_30 11 rfl) rfl (by decide) K_s_attempt V_s_attempt.1 V_s_attempt.2 L_law_138 rfl (Nat.le_of_ble_eq_true rfl) (by decide) (Nat.lt_of_lt_of_le (by decide) hx.1) (hx.2.1 0 (by decide)) rfl (tw (w_attempt h hQ hu (xs (j + 1)) (xs (j + 2))) h50) (fun v1 w1 h1 => ?_)
  obtain ⟨S1, rfl, h4, hv, hm1, hC⟩ := h1
  have h481 : S1.1 48 = .inl (.int, L, .inl xs) := h4.trans h48
  have h51 : 50 ≤ sn S1 := by have := hm1.1; omega
  obtain ⟨y, rfl⟩ := hv
  refine x_aload_n 1058 2 (ab_dd tk_law_30 12 rfl) rfl rfl rfl ?_
  refine x_aload_n 1059 0 (ab_dd tk_law_30 13 rfl) rfl rfl rfl ?_
  refine x_iload_n 1060 3 (ab_dd tk_law_30 14 rfl) rfl rfl rfl ?_
  refine x_iconst 1061 1 (ab_dd tk_law_30 15 rfl) rfl (by decide) (x_topn 1 rfl ?_)
  refine x_iadd 1062 (ab_dd tk_law_30 16 rfl) rfl (x_topn (j + 1) (nI_add _ _) ?_)
  refine t_ialdK 1063 (j + 1) (ab_dd tk_law_30 17 rfl) rfl (by decide) h51 h481 rfl (by omega) (by omega) ?_
  refine x_aload_n 1064 0 (ab_dd tk_law_30 18 rfl) rfl rfl rfl ?_
  refine x_iload_n 1065 3 (ab_dd tk_law_30 19 rfl) rfl rfl rfl ?_
  refine x_iconst 1066 2 (ab_dd tk_law_30 20 rfl) rfl (by decide) (x_topn 2 rfl ?_)
  refine x_iadd 1067 (ab_dd tk_law_30 21 rfl) rfl (x_topn (j + 2) (nI_add _ _) ?_)
  refine t_ialdK 1068 (j + 2) (ab_dd tk_law_30 22 rfl) rfl (by decide) h51 h481 rfl (by omega) (by omega) ?_
  refine t_callV 1071 M_m_attempt 7 2 [_, _] (ab_dd tk_law_30 23 rfl) rfl (by decide) K_m_attempt V_m_attempt.1 V_m_attempt.2 L_law_141 rfl (Nat.le_of_ble_eq_true rfl) (by decide) (Nat.lt_of_lt_of_le (by decide) hm1.1) (hm1.2.1 0 (by decide)) rfl hC (fun v2 w2 h2 => ?_)
  obtain ⟨rfl, S2, rfl, hS2, hG2, hk2⟩ := h2
  exact x_icmp_eq_t 1437 (ab_dd tk_law_30 24 rfl) (by decide) rfl (K S2 hS2 hG2 hk2)
def tb_law_31 : List (Nat × Instr × Nat) := [(1076, .aload_n 1, 1), (1077, .aload_n 0, 1), (1078, .iload_n 3, 1), (1079, .iconst 1, 1), (1080, .iadd, 1), (1081, .iaload, 1), (1082, .aload_n 0, 1), (1083, .iload_n 3, 1), (1084, .iconst 2, 1), (1085, .iadd, 1), (1086, .iaload, 1), (1087, .invokevirtual 142, 3), (1090, .aload_n 2, 1), (1091, .aload_n 0, 1), (1092, .iload_n 3, 1), (1093, .iconst 1, 1), (1094, .iadd, 1), (1095, .iaload, 1), (1096, .aload_n 0, 1), (1097, .iload_n 3, 1), (1098, .iconst 2, 1), (1099, .iadd, 1), (1100, .iaload, 1), (1101, .invokevirtual 145, 3), (1104, .if_icmp .eq 333, 3), (1107, .iconst 0, 1), (1108, .ireturn, 1)]
theorem tk_law_31 : ∀ q ∈ tb_law_31, decode ab_law.2.1 q.1 = .ok q.2 := by decide +kernel
theorem law_31 {G : ab_G} {S : ab_S} {u L j : Nat} {xs : Nat → Int32} {Q : Option Value → ab_H → Prop} (hS : Sim S u) (hu : u + 128 < 2 ^ 20) (hj : j + 6 ≤ L) (hL : L ≤ 3072) (h48 : S.1 48 = .inl (.int, L, .inl xs)) (K : ∀ S2, Sim S2 (u + 128) → gA S S2 904 929 → S2.1 = S.1 → ab_Ex G 1000 ab_law 1437 [some (.ref 48), some (.ref 50), some (.ref 120), some (.int (nI j))] [] (sw S2) Q) : ab_Ex G 1000 ab_law 1076 [some (.ref 48), some (.ref 50), some (.ref 120), some (.int (nI j))] [] (sw S) Q := by
  obtain ⟨im, c, b, bh, nb, st, st2, n, s, f, t, tp, h, hQ⟩ := hS
  have hx := h.1
  have h50 : 50 ≤ sn S := by have := hQ.1.1; omega
  refine x_aload_n 1077 1 (ab_dd tk_law_31 0 rfl) rfl rfl rfl ?_
  refine x_aload_n 1078 0 (ab_dd tk_law_31 1 rfl) rfl rfl rfl ?_
  refine x_iload_n 1079 3 (ab_dd tk_law_31 2 rfl) rfl rfl rfl ?_
  refine x_iconst 1080 1 (ab_dd tk_law_31 3 rfl) rfl (by decide) (x_topn 1 rfl ?_)
  refine x_iadd 1081 (ab_dd tk_law_31 4 rfl) rfl (x_topn (j + 1) (nI_add _ _) ?_)
  refine t_ialdK 1082 (j + 1) (ab_dd tk_law_31 5 rfl) rfl (by decide) h50 h48 rfl (by omega) (by omega) ?_
  refine x_aload_n 1083 0 (ab_dd tk_law_31 6 rfl) rfl rfl rfl ?_
  refine x_iload_n 1084 3 (ab_dd tk_law_31 7 rfl) rfl rfl rfl ?_
  refine x_iconst 1085 2 (ab_dd tk_law_31 8 rfl) rfl (by decide) (x_topn 2 rfl ?_)
  refine x_iadd 1086 (ab_dd tk_law_31 9 rfl) rfl (x_topn (j + 2) (nI_add _ _) ?_)
  refine t_ialdK 1087 (j + 2) (ab_dd tk_law_31 10 rfl) rfl (by decide) h50 h48 rfl (by omega) (by omega) ?_
  refine t_callV 1090 M_s_forces 7 2 [_, _] (ab_dd tk_law_31 11 rfl) rfl (by decide) K_s_forces V_s_forces.1 V_s_forces.2 L_law_142 rfl (Nat.le_of_ble_eq_true rfl) (by decide) (Nat.lt_of_lt_of_le (by decide) hx.1) (hx.2.1 0 (by decide)) rfl (tw (w_forces h hQ hu (xs (j + 1)) (xs (j + 2))) h50) (fun v1 w1 h1 => ?_)
  obtain ⟨S1, rfl, h4, hv, hm1, hC⟩ := h1
  have h481 : S1.1 48 = .inl (.int, L, .inl xs) := h4.trans h48
  have h51 : 50 ≤ sn S1 := by have := hm1.1; omega
  obtain ⟨y, rfl⟩ := hv
  refine x_aload_n 1091 2 (ab_dd tk_law_31 12 rfl) rfl rfl rfl ?_
  refine x_aload_n 1092 0 (ab_dd tk_law_31 13 rfl) rfl rfl rfl ?_
  refine x_iload_n 1093 3 (ab_dd tk_law_31 14 rfl) rfl rfl rfl ?_
  refine x_iconst 1094 1 (ab_dd tk_law_31 15 rfl) rfl (by decide) (x_topn 1 rfl ?_)
  refine x_iadd 1095 (ab_dd tk_law_31 16 rfl) rfl (x_topn (j + 1) (nI_add _ _) ?_)
  refine t_ialdK 1096 (j + 1) (ab_dd tk_law_31 17 rfl) rfl (by decide) h51 h481 rfl (by omega) (by omega) ?_
  refine x_aload_n 1097 0 (ab_dd tk_law_31 18 rfl) rfl rfl rfl ?_
  refine x_iload_n 1098 3 (ab_dd tk_law_31 19 rfl) rfl rfl rfl ?_
  refine x_iconst 1099 2 (ab_dd tk_law_31 20 rfl) rfl (by decide) (x_topn 2 rfl ?_)
  refine x_iadd 1100 (ab_dd tk_law_31 21 rfl) rfl (x_topn (j + 2) (nI_add _ _) ?_)
  refine t_ialdK 1101 (j + 2) (ab_dd tk_law_31 22 rfl) rfl (by decide) h51 h481 rfl (by omega) (by omega) ?_
  refine t_callV 1104 M_m_forces 7 2 [_, _] (ab_dd tk_law_31 23 rfl) rfl (by decide) K_m_forces V_m_forces.1 V_m_forces.2 L_law_145 rfl (Nat.le_of_ble_eq_true rfl) (by decide) (Nat.lt_of_lt_of_le (by decide) hm1.1) (hm1.2.1 0 (by decide)) rfl hC (fun v2 w2 h2 => ?_)
  obtain ⟨rfl, S2, rfl, hS2, hG2, hk2⟩ := h2
  exact x_icmp_eq_t 1437 (ab_dd tk_law_31 24 rfl) (by decide) rfl (K S2 hS2 hG2 hk2)
def tb_law_32 : List (Nat × Instr × Nat) := [(1109, .aload_n 1, 1), (1110, .aload_n 0, 1), (1111, .iload_n 3, 1), (1112, .iconst 1, 1), (1113, .iadd, 1), (1114, .iaload, 1), (1115, .aload_n 0, 1), (1116, .iload_n 3, 1), (1117, .iconst 2, 1), (1118, .iadd, 1), (1119, .iaload, 1), (1120, .invokevirtual 146, 3), (1123, .aload_n 2, 1), (1124, .aload_n 0, 1), (1125, .iload_n 3, 1), (1126, .iconst 1, 1), (1127, .iadd, 1), (1128, .iaload, 1), (1129, .aload_n 0, 1), (1130, .iload_n 3, 1), (1131, .iconst 2, 1), (1132, .iadd, 1), (1133, .iaload, 1), (1134, .invokevirtual 149, 3), (1137, .if_icmp .eq 300, 3), (1140, .iconst 0, 1), (1141, .ireturn, 1)]
theorem tk_law_32 : ∀ q ∈ tb_law_32, decode ab_law.2.1 q.1 = .ok q.2 := by decide +kernel
theorem law_32 {G : ab_G} {S : ab_S} {u L j : Nat} {xs : Nat → Int32} {Q : Option Value → ab_H → Prop} (hS : Sim S u) (hu : u + 128 < 2 ^ 20) (hj : j + 6 ≤ L) (hL : L ≤ 3072) (h48 : S.1 48 = .inl (.int, L, .inl xs)) (K : ∀ S2, Sim S2 (u + 128) → gA S S2 904 929 → S2.1 = S.1 → ab_Ex G 1000 ab_law 1437 [some (.ref 48), some (.ref 50), some (.ref 120), some (.int (nI j))] [] (sw S2) Q) : ab_Ex G 1000 ab_law 1109 [some (.ref 48), some (.ref 50), some (.ref 120), some (.int (nI j))] [] (sw S) Q := by
  obtain ⟨im, c, b, bh, nb, st, st2, n, s, f, t, tp, h, hQ⟩ := hS
  have hx := h.1
  have h50 : 50 ≤ sn S := by have := hQ.1.1; omega
  refine x_aload_n 1110 1 (ab_dd tk_law_32 0 rfl) rfl rfl rfl ?_
  refine x_aload_n 1111 0 (ab_dd tk_law_32 1 rfl) rfl rfl rfl ?_
  refine x_iload_n 1112 3 (ab_dd tk_law_32 2 rfl) rfl rfl rfl ?_
  refine x_iconst 1113 1 (ab_dd tk_law_32 3 rfl) rfl (by decide) (x_topn 1 rfl ?_)
  refine x_iadd 1114 (ab_dd tk_law_32 4 rfl) rfl (x_topn (j + 1) (nI_add _ _) ?_)
  refine t_ialdK 1115 (j + 1) (ab_dd tk_law_32 5 rfl) rfl (by decide) h50 h48 rfl (by omega) (by omega) ?_
  refine x_aload_n 1116 0 (ab_dd tk_law_32 6 rfl) rfl rfl rfl ?_
  refine x_iload_n 1117 3 (ab_dd tk_law_32 7 rfl) rfl rfl rfl ?_
  refine x_iconst 1118 2 (ab_dd tk_law_32 8 rfl) rfl (by decide) (x_topn 2 rfl ?_)
  refine x_iadd 1119 (ab_dd tk_law_32 9 rfl) rfl (x_topn (j + 2) (nI_add _ _) ?_)
  refine t_ialdK 1120 (j + 2) (ab_dd tk_law_32 10 rfl) rfl (by decide) h50 h48 rfl (by omega) (by omega) ?_
  refine t_callV 1123 M_s_best 7 2 [_, _] (ab_dd tk_law_32 11 rfl) rfl (by decide) K_s_best V_s_best.1 V_s_best.2 L_law_146 rfl (Nat.le_of_ble_eq_true rfl) (by decide) (Nat.lt_of_lt_of_le (by decide) hx.1) (hx.2.1 0 (by decide)) rfl (tw (w_best h hQ hu (xs (j + 1)) (xs (j + 2))) h50) (fun v1 w1 h1 => ?_)
  obtain ⟨S1, rfl, h4, hv, hm1, hC⟩ := h1
  have h481 : S1.1 48 = .inl (.int, L, .inl xs) := h4.trans h48
  have h51 : 50 ≤ sn S1 := by have := hm1.1; omega
  obtain ⟨y, rfl⟩ := hv
  refine x_aload_n 1124 2 (ab_dd tk_law_32 12 rfl) rfl rfl rfl ?_
  refine x_aload_n 1125 0 (ab_dd tk_law_32 13 rfl) rfl rfl rfl ?_
  refine x_iload_n 1126 3 (ab_dd tk_law_32 14 rfl) rfl rfl rfl ?_
  refine x_iconst 1127 1 (ab_dd tk_law_32 15 rfl) rfl (by decide) (x_topn 1 rfl ?_)
  refine x_iadd 1128 (ab_dd tk_law_32 16 rfl) rfl (x_topn (j + 1) (nI_add _ _) ?_)
  refine t_ialdK 1129 (j + 1) (ab_dd tk_law_32 17 rfl) rfl (by decide) h51 h481 rfl (by omega) (by omega) ?_
  refine x_aload_n 1130 0 (ab_dd tk_law_32 18 rfl) rfl rfl rfl ?_
  refine x_iload_n 1131 3 (ab_dd tk_law_32 19 rfl) rfl rfl rfl ?_
  refine x_iconst 1132 2 (ab_dd tk_law_32 20 rfl) rfl (by decide) (x_topn 2 rfl ?_)
  refine x_iadd 1133 (ab_dd tk_law_32 21 rfl) rfl (x_topn (j + 2) (nI_add _ _) ?_)
  refine t_ialdK 1134 (j + 2) (ab_dd tk_law_32 22 rfl) rfl (by decide) h51 h481 rfl (by omega) (by omega) ?_
  refine t_callV 1137 M_m_best 7 2 [_, _] (ab_dd tk_law_32 23 rfl) rfl (by decide) K_m_best V_m_best.1 V_m_best.2 L_law_149 rfl (Nat.le_of_ble_eq_true rfl) (by decide) (Nat.lt_of_lt_of_le (by decide) hm1.1) (hm1.2.1 0 (by decide)) rfl hC (fun v2 w2 h2 => ?_)
  obtain ⟨rfl, S2, rfl, hS2, hG2, hk2⟩ := h2
  exact x_icmp_eq_t 1437 (ab_dd tk_law_32 24 rfl) (by decide) rfl (K S2 hS2 hG2 hk2)
def tb_law_33 : List (Nat × Instr × Nat) := [(1142, .aload_n 1, 1), (1143, .aload_n 0, 1), (1144, .iload_n 3, 1), (1145, .iconst 1, 1), (1146, .iadd, 1), (1147, .iaload, 1), (1148, .aload_n 0, 1), (1149, .iload_n 3, 1), (1150, .iconst 2, 1), (1151, .iadd, 1), (1152, .iaload, 1), (1153, .aload_n 0, 1), (1154, .iload_n 3, 1), (1155, .iconst 3, 1), (1156, .iadd, 1), (1157, .iaload, 1), (1158, .invokevirtual 150, 3), (1161, .aload_n 2, 1), (1162, .aload_n 0, 1), (1163, .iload_n 3, 1), (1164, .iconst 1, 1), (1165, .iadd, 1), (1166, .iaload, 1), (1167, .aload_n 0, 1), (1168, .iload_n 3, 1), (1169, .iconst 2, 1), (1170, .iadd, 1), (1171, .iaload, 1), (1172, .aload_n 0, 1), (1173, .iload_n 3, 1), (1174, .iconst 3, 1), (1175, .iadd, 1), (1176, .iaload, 1), (1177, .invokevirtual 154, 3), (1180, .if_icmp .eq 257, 3), (1183, .iconst 0, 1), (1184, .ireturn, 1)]
theorem tk_law_33 : ∀ q ∈ tb_law_33, decode ab_law.2.1 q.1 = .ok q.2 := by decide +kernel
theorem law_33 {G : ab_G} {S : ab_S} {u L j : Nat} {xs : Nat → Int32} {Q : Option Value → ab_H → Prop} (hS : Sim S u) (hu : u + 128 < 2 ^ 20) (hj : j + 6 ≤ L) (hL : L ≤ 3072) (h48 : S.1 48 = .inl (.int, L, .inl xs)) (K : ∀ S2, Sim S2 (u + 128) → gA S S2 904 929 → S2.1 = S.1 → ab_Ex G 1000 ab_law 1437 [some (.ref 48), some (.ref 50), some (.ref 120), some (.int (nI j))] [] (sw S2) Q) : ab_Ex G 1000 ab_law 1142 [some (.ref 48), some (.ref 50), some (.ref 120), some (.int (nI j))] [] (sw S) Q := by
  obtain ⟨im, c, b, bh, nb, st, st2, n, s, f, t, tp, h, hQ⟩ := hS
  have hx := h.1
  have h50 : 50 ≤ sn S := by have := hQ.1.1; omega
  refine x_aload_n 1143 1 (ab_dd tk_law_33 0 rfl) rfl rfl rfl ?_
  refine x_aload_n 1144 0 (ab_dd tk_law_33 1 rfl) rfl rfl rfl ?_
  refine x_iload_n 1145 3 (ab_dd tk_law_33 2 rfl) rfl rfl rfl ?_
  refine x_iconst 1146 1 (ab_dd tk_law_33 3 rfl) rfl (by decide) (x_topn 1 rfl ?_)
  refine x_iadd 1147 (ab_dd tk_law_33 4 rfl) rfl (x_topn (j + 1) (nI_add _ _) ?_)
  refine t_ialdK 1148 (j + 1) (ab_dd tk_law_33 5 rfl) rfl (by decide) h50 h48 rfl (by omega) (by omega) ?_
  refine x_aload_n 1149 0 (ab_dd tk_law_33 6 rfl) rfl rfl rfl ?_
  refine x_iload_n 1150 3 (ab_dd tk_law_33 7 rfl) rfl rfl rfl ?_
  refine x_iconst 1151 2 (ab_dd tk_law_33 8 rfl) rfl (by decide) (x_topn 2 rfl ?_)
  refine x_iadd 1152 (ab_dd tk_law_33 9 rfl) rfl (x_topn (j + 2) (nI_add _ _) ?_)
  refine t_ialdK 1153 (j + 2) (ab_dd tk_law_33 10 rfl) rfl (by decide) h50 h48 rfl (by omega) (by omega) ?_
  refine x_aload_n 1154 0 (ab_dd tk_law_33 11 rfl) rfl rfl rfl ?_
  refine x_iload_n 1155 3 (ab_dd tk_law_33 12 rfl) rfl rfl rfl ?_
  refine x_iconst 1156 3 (ab_dd tk_law_33 13 rfl) rfl (by decide) (x_topn 3 rfl ?_)
  refine x_iadd 1157 (ab_dd tk_law_33 14 rfl) rfl (x_topn (j + 3) (nI_add _ _) ?_)
  refine t_ialdK 1158 (j + 3) (ab_dd tk_law_33 15 rfl) rfl (by decide) h50 h48 rfl (by omega) (by omega) ?_
  refine t_callV 1161 M_s_chance 7 3 [_, _, _] (ab_dd tk_law_33 16 rfl) rfl (by decide) K_s_chance V_s_chance.1 V_s_chance.2 L_law_150 rfl (Nat.le_of_ble_eq_true rfl) (by decide) (Nat.lt_of_lt_of_le (by decide) hx.1) (hx.2.1 0 (by decide)) rfl (tw (w_chance h hQ hu (xs (j + 1)) (xs (j + 2)) (xs (j + 3))) h50) (fun v1 w1 h1 => ?_)
  obtain ⟨S1, rfl, h4, hv, hm1, hC⟩ := h1
  have h481 : S1.1 48 = .inl (.int, L, .inl xs) := h4.trans h48
  have h51 : 50 ≤ sn S1 := by have := hm1.1; omega
  obtain ⟨y, rfl⟩ := hv
  refine x_aload_n 1162 2 (ab_dd tk_law_33 17 rfl) rfl rfl rfl ?_
  refine x_aload_n 1163 0 (ab_dd tk_law_33 18 rfl) rfl rfl rfl ?_
  refine x_iload_n 1164 3 (ab_dd tk_law_33 19 rfl) rfl rfl rfl ?_
  refine x_iconst 1165 1 (ab_dd tk_law_33 20 rfl) rfl (by decide) (x_topn 1 rfl ?_)
  refine x_iadd 1166 (ab_dd tk_law_33 21 rfl) rfl (x_topn (j + 1) (nI_add _ _) ?_)
  refine t_ialdK 1167 (j + 1) (ab_dd tk_law_33 22 rfl) rfl (by decide) h51 h481 rfl (by omega) (by omega) ?_
  refine x_aload_n 1168 0 (ab_dd tk_law_33 23 rfl) rfl rfl rfl ?_
  refine x_iload_n 1169 3 (ab_dd tk_law_33 24 rfl) rfl rfl rfl ?_
  refine x_iconst 1170 2 (ab_dd tk_law_33 25 rfl) rfl (by decide) (x_topn 2 rfl ?_)
  refine x_iadd 1171 (ab_dd tk_law_33 26 rfl) rfl (x_topn (j + 2) (nI_add _ _) ?_)
  refine t_ialdK 1172 (j + 2) (ab_dd tk_law_33 27 rfl) rfl (by decide) h51 h481 rfl (by omega) (by omega) ?_
  refine x_aload_n 1173 0 (ab_dd tk_law_33 28 rfl) rfl rfl rfl ?_
  refine x_iload_n 1174 3 (ab_dd tk_law_33 29 rfl) rfl rfl rfl ?_
  refine x_iconst 1175 3 (ab_dd tk_law_33 30 rfl) rfl (by decide) (x_topn 3 rfl ?_)
  refine x_iadd 1176 (ab_dd tk_law_33 31 rfl) rfl (x_topn (j + 3) (nI_add _ _) ?_)
  refine t_ialdK 1177 (j + 3) (ab_dd tk_law_33 32 rfl) rfl (by decide) h51 h481 rfl (by omega) (by omega) ?_
  refine t_callV 1180 M_m_chance 46 3 [_, _, _] (ab_dd tk_law_33 33 rfl) rfl (by decide) K_m_chance V_m_chance.1 V_m_chance.2 L_law_154 rfl (Nat.le_of_ble_eq_true rfl) (by decide) (Nat.lt_of_lt_of_le (by decide) hm1.1) (hm1.2.1 0 (by decide)) rfl hC (fun v2 w2 h2 => ?_)
  obtain ⟨rfl, S2, rfl, hS2, hG2, hk2⟩ := h2
  exact x_icmp_eq_t 1437 (ab_dd tk_law_33 34 rfl) (by decide) rfl (K S2 hS2 hG2 hk2)
def tb_law_34 : List (Nat × Instr × Nat) := [(1185, .aload_n 1, 1), (1186, .aload_n 0, 1), (1187, .iload_n 3, 1), (1188, .iconst 1, 1), (1189, .iadd, 1), (1190, .iaload, 1), (1191, .aload_n 0, 1), (1192, .iload_n 3, 1), (1193, .iconst 2, 1), (1194, .iadd, 1), (1195, .iaload, 1), (1196, .invokevirtual 155, 3), (1199, .aload_n 2, 1), (1200, .aload_n 0, 1), (1201, .iload_n 3, 1), (1202, .iconst 1, 1), (1203, .iadd, 1), (1204, .iaload, 1), (1205, .aload_n 0, 1), (1206, .iload_n 3, 1), (1207, .iconst 2, 1), (1208, .iadd, 1), (1209, .iaload, 1), (1210, .invokevirtual 158, 3), (1213, .if_icmp .eq 224, 3), (1216, .iconst 0, 1), (1217, .ireturn, 1)]
theorem tk_law_34 : ∀ q ∈ tb_law_34, decode ab_law.2.1 q.1 = .ok q.2 := by decide +kernel
theorem law_34 {G : ab_G} {S : ab_S} {u L j : Nat} {xs : Nat → Int32} {Q : Option Value → ab_H → Prop} (hS : Sim S u) (hu : u + 128 < 2 ^ 20) (hj : j + 6 ≤ L) (hL : L ≤ 3072) (h48 : S.1 48 = .inl (.int, L, .inl xs)) (K : ∀ S2, Sim S2 (u + 128) → gA S S2 904 929 → S2.1 = S.1 → ab_Ex G 1000 ab_law 1437 [some (.ref 48), some (.ref 50), some (.ref 120), some (.int (nI j))] [] (sw S2) Q) : ab_Ex G 1000 ab_law 1185 [some (.ref 48), some (.ref 50), some (.ref 120), some (.int (nI j))] [] (sw S) Q := by
  obtain ⟨im, c, b, bh, nb, st, st2, n, s, f, t, tp, h, hQ⟩ := hS
  have hx := h.1
  have h50 : 50 ≤ sn S := by have := hQ.1.1; omega
  refine x_aload_n 1186 1 (ab_dd tk_law_34 0 rfl) rfl rfl rfl ?_
  refine x_aload_n 1187 0 (ab_dd tk_law_34 1 rfl) rfl rfl rfl ?_
  refine x_iload_n 1188 3 (ab_dd tk_law_34 2 rfl) rfl rfl rfl ?_
  refine x_iconst 1189 1 (ab_dd tk_law_34 3 rfl) rfl (by decide) (x_topn 1 rfl ?_)
  refine x_iadd 1190 (ab_dd tk_law_34 4 rfl) rfl (x_topn (j + 1) (nI_add _ _) ?_)
  refine t_ialdK 1191 (j + 1) (ab_dd tk_law_34 5 rfl) rfl (by decide) h50 h48 rfl (by omega) (by omega) ?_
  refine x_aload_n 1192 0 (ab_dd tk_law_34 6 rfl) rfl rfl rfl ?_
  refine x_iload_n 1193 3 (ab_dd tk_law_34 7 rfl) rfl rfl rfl ?_
  refine x_iconst 1194 2 (ab_dd tk_law_34 8 rfl) rfl (by decide) (x_topn 2 rfl ?_)
  refine x_iadd 1195 (ab_dd tk_law_34 9 rfl) rfl (x_topn (j + 2) (nI_add _ _) ?_)
  refine t_ialdK 1196 (j + 2) (ab_dd tk_law_34 10 rfl) rfl (by decide) h50 h48 rfl (by omega) (by omega) ?_
  refine t_callV 1199 M_s_mean 7 2 [_, _] (ab_dd tk_law_34 11 rfl) rfl (by decide) K_s_mean V_s_mean.1 V_s_mean.2 L_law_155 rfl (Nat.le_of_ble_eq_true rfl) (by decide) (Nat.lt_of_lt_of_le (by decide) hx.1) (hx.2.1 0 (by decide)) rfl (tw (w_mean h hQ hu (xs (j + 1)) (xs (j + 2))) h50) (fun v1 w1 h1 => ?_)
  obtain ⟨S1, rfl, h4, hv, hm1, hC⟩ := h1
  have h481 : S1.1 48 = .inl (.int, L, .inl xs) := h4.trans h48
  have h51 : 50 ≤ sn S1 := by have := hm1.1; omega
  obtain ⟨y, rfl⟩ := hv
  refine x_aload_n 1200 2 (ab_dd tk_law_34 12 rfl) rfl rfl rfl ?_
  refine x_aload_n 1201 0 (ab_dd tk_law_34 13 rfl) rfl rfl rfl ?_
  refine x_iload_n 1202 3 (ab_dd tk_law_34 14 rfl) rfl rfl rfl ?_
  refine x_iconst 1203 1 (ab_dd tk_law_34 15 rfl) rfl (by decide) (x_topn 1 rfl ?_)
  refine x_iadd 1204 (ab_dd tk_law_34 16 rfl) rfl (x_topn (j + 1) (nI_add _ _) ?_)
  refine t_ialdK 1205 (j + 1) (ab_dd tk_law_34 17 rfl) rfl (by decide) h51 h481 rfl (by omega) (by omega) ?_
  refine x_aload_n 1206 0 (ab_dd tk_law_34 18 rfl) rfl rfl rfl ?_
  refine x_iload_n 1207 3 (ab_dd tk_law_34 19 rfl) rfl rfl rfl ?_
  refine x_iconst 1208 2 (ab_dd tk_law_34 20 rfl) rfl (by decide) (x_topn 2 rfl ?_)
  refine x_iadd 1209 (ab_dd tk_law_34 21 rfl) rfl (x_topn (j + 2) (nI_add _ _) ?_)
  refine t_ialdK 1210 (j + 2) (ab_dd tk_law_34 22 rfl) rfl (by decide) h51 h481 rfl (by omega) (by omega) ?_
  refine t_callV 1213 M_m_mean 46 2 [_, _] (ab_dd tk_law_34 23 rfl) rfl (by decide) K_m_mean V_m_mean.1 V_m_mean.2 L_law_158 rfl (Nat.le_of_ble_eq_true rfl) (by decide) (Nat.lt_of_lt_of_le (by decide) hm1.1) (hm1.2.1 0 (by decide)) rfl hC (fun v2 w2 h2 => ?_)
  obtain ⟨rfl, S2, rfl, hS2, hG2, hk2⟩ := h2
  exact x_icmp_eq_t 1437 (ab_dd tk_law_34 24 rfl) (by decide) rfl (K S2 hS2 hG2 hk2)
def tb_law_35 : List (Nat × Instr × Nat) := [(1218, .aload_n 1, 1), (1219, .aload_n 0, 1), (1220, .iload_n 3, 1), (1221, .iconst 1, 1), (1222, .iadd, 1), (1223, .iaload, 1), (1224, .aload_n 0, 1), (1225, .iload_n 3, 1), (1226, .iconst 2, 1), (1227, .iadd, 1), (1228, .iaload, 1), (1229, .aload_n 0, 1), (1230, .iload_n 3, 1), (1231, .iconst 3, 1), (1232, .iadd, 1), (1233, .iaload, 1), (1234, .invokevirtual 159, 3), (1237, .aload_n 2, 1), (1238, .aload_n 0, 1), (1239, .iload_n 3, 1), (1240, .iconst 1, 1), (1241, .iadd, 1), (1242, .iaload, 1), (1243, .aload_n 0, 1), (1244, .iload_n 3, 1), (1245, .iconst 2, 1), (1246, .iadd, 1), (1247, .iaload, 1), (1248, .aload_n 0, 1), (1249, .iload_n 3, 1), (1250, .iconst 3, 1), (1251, .iadd, 1), (1252, .iaload, 1), (1253, .invokevirtual 162, 3), (1256, .if_icmp .eq 181, 3), (1259, .iconst 0, 1), (1260, .ireturn, 1)]
theorem tk_law_35 : ∀ q ∈ tb_law_35, decode ab_law.2.1 q.1 = .ok q.2 := by decide +kernel
theorem law_35 {G : ab_G} {S : ab_S} {u L j : Nat} {xs : Nat → Int32} {Q : Option Value → ab_H → Prop} (hS : Sim S u) (hu : u + 128 < 2 ^ 20) (hj : j + 6 ≤ L) (hL : L ≤ 3072) (h48 : S.1 48 = .inl (.int, L, .inl xs)) (K : ∀ S2, Sim S2 (u + 128) → gA S S2 904 929 → S2.1 = S.1 → ab_Ex G 1000 ab_law 1437 [some (.ref 48), some (.ref 50), some (.ref 120), some (.int (nI j))] [] (sw S2) Q) : ab_Ex G 1000 ab_law 1218 [some (.ref 48), some (.ref 50), some (.ref 120), some (.int (nI j))] [] (sw S) Q := by
  obtain ⟨im, c, b, bh, nb, st, st2, n, s, f, t, tp, h, hQ⟩ := hS
  have hx := h.1
  have h50 : 50 ≤ sn S := by have := hQ.1.1; omega
  refine x_aload_n 1219 1 (ab_dd tk_law_35 0 rfl) rfl rfl rfl ?_
  refine x_aload_n 1220 0 (ab_dd tk_law_35 1 rfl) rfl rfl rfl ?_
  refine x_iload_n 1221 3 (ab_dd tk_law_35 2 rfl) rfl rfl rfl ?_
  refine x_iconst 1222 1 (ab_dd tk_law_35 3 rfl) rfl (by decide) (x_topn 1 rfl ?_)
  refine x_iadd 1223 (ab_dd tk_law_35 4 rfl) rfl (x_topn (j + 1) (nI_add _ _) ?_)
  refine t_ialdK 1224 (j + 1) (ab_dd tk_law_35 5 rfl) rfl (by decide) h50 h48 rfl (by omega) (by omega) ?_
  refine x_aload_n 1225 0 (ab_dd tk_law_35 6 rfl) rfl rfl rfl ?_
  refine x_iload_n 1226 3 (ab_dd tk_law_35 7 rfl) rfl rfl rfl ?_
  refine x_iconst 1227 2 (ab_dd tk_law_35 8 rfl) rfl (by decide) (x_topn 2 rfl ?_)
  refine x_iadd 1228 (ab_dd tk_law_35 9 rfl) rfl (x_topn (j + 2) (nI_add _ _) ?_)
  refine t_ialdK 1229 (j + 2) (ab_dd tk_law_35 10 rfl) rfl (by decide) h50 h48 rfl (by omega) (by omega) ?_
  refine x_aload_n 1230 0 (ab_dd tk_law_35 11 rfl) rfl rfl rfl ?_
  refine x_iload_n 1231 3 (ab_dd tk_law_35 12 rfl) rfl rfl rfl ?_
  refine x_iconst 1232 3 (ab_dd tk_law_35 13 rfl) rfl (by decide) (x_topn 3 rfl ?_)
  refine x_iadd 1233 (ab_dd tk_law_35 14 rfl) rfl (x_topn (j + 3) (nI_add _ _) ?_)
  refine t_ialdK 1234 (j + 3) (ab_dd tk_law_35 15 rfl) rfl (by decide) h50 h48 rfl (by omega) (by omega) ?_
  refine t_callV 1237 M_s_numbers 7 3 [_, _, _] (ab_dd tk_law_35 16 rfl) rfl (by decide) K_s_numbers V_s_numbers.1 V_s_numbers.2 L_law_159 rfl (Nat.le_of_ble_eq_true rfl) (by decide) (Nat.lt_of_lt_of_le (by decide) hx.1) (hx.2.1 0 (by decide)) rfl (tw (w_numbers h hQ hu (xs (j + 1)) (xs (j + 2)) (xs (j + 3))) h50) (fun v1 w1 h1 => ?_)
  obtain ⟨S1, rfl, h4, hv, hm1, hC⟩ := h1
  have h481 : S1.1 48 = .inl (.int, L, .inl xs) := h4.trans h48
  have h51 : 50 ≤ sn S1 := by have := hm1.1; omega
  obtain ⟨y, rfl⟩ := hv
  refine x_aload_n 1238 2 (ab_dd tk_law_35 17 rfl) rfl rfl rfl ?_
  refine x_aload_n 1239 0 (ab_dd tk_law_35 18 rfl) rfl rfl rfl ?_
  refine x_iload_n 1240 3 (ab_dd tk_law_35 19 rfl) rfl rfl rfl ?_
  refine x_iconst 1241 1 (ab_dd tk_law_35 20 rfl) rfl (by decide) (x_topn 1 rfl ?_)
  refine x_iadd 1242 (ab_dd tk_law_35 21 rfl) rfl (x_topn (j + 1) (nI_add _ _) ?_)
  refine t_ialdK 1243 (j + 1) (ab_dd tk_law_35 22 rfl) rfl (by decide) h51 h481 rfl (by omega) (by omega) ?_
  refine x_aload_n 1244 0 (ab_dd tk_law_35 23 rfl) rfl rfl rfl ?_
  refine x_iload_n 1245 3 (ab_dd tk_law_35 24 rfl) rfl rfl rfl ?_
  refine x_iconst 1246 2 (ab_dd tk_law_35 25 rfl) rfl (by decide) (x_topn 2 rfl ?_)
  refine x_iadd 1247 (ab_dd tk_law_35 26 rfl) rfl (x_topn (j + 2) (nI_add _ _) ?_)
  refine t_ialdK 1248 (j + 2) (ab_dd tk_law_35 27 rfl) rfl (by decide) h51 h481 rfl (by omega) (by omega) ?_
  refine x_aload_n 1249 0 (ab_dd tk_law_35 28 rfl) rfl rfl rfl ?_
  refine x_iload_n 1250 3 (ab_dd tk_law_35 29 rfl) rfl rfl rfl ?_
  refine x_iconst 1251 3 (ab_dd tk_law_35 30 rfl) rfl (by decide) (x_topn 3 rfl ?_)
  refine x_iadd 1252 (ab_dd tk_law_35 31 rfl) rfl (x_topn (j + 3) (nI_add _ _) ?_)
  refine t_ialdK 1253 (j + 3) (ab_dd tk_law_35 32 rfl) rfl (by decide) h51 h481 rfl (by omega) (by omega) ?_
  refine t_callV 1256 M_m_numbers 1 3 [_, _, _] (ab_dd tk_law_35 33 rfl) rfl (by decide) K_m_numbers V_m_numbers.1 V_m_numbers.2 L_law_162 rfl (Nat.le_of_ble_eq_true rfl) (by decide) (Nat.lt_of_lt_of_le (by decide) hm1.1) (hm1.2.1 0 (by decide)) rfl hC (fun v2 w2 h2 => ?_)
  obtain ⟨rfl, S2, rfl, hS2, hG2, hk2⟩ := h2
  exact x_icmp_eq_t 1437 (ab_dd tk_law_35 34 rfl) (by decide) rfl (K S2 hS2 hG2 hk2)
def tb_law_36 : List (Nat × Instr × Nat) := [(1261, .aload_n 1, 1), (1262, .aload_n 0, 1), (1263, .iload_n 3, 1), (1264, .iconst 1, 1), (1265, .iadd, 1), (1266, .iaload, 1), (1267, .aload_n 0, 1), (1268, .iload_n 3, 1), (1269, .iconst 2, 1), (1270, .iadd, 1), (1271, .iaload, 1), (1272, .aload_n 0, 1), (1273, .iload_n 3, 1), (1274, .iconst 3, 1), (1275, .iadd, 1), (1276, .iaload, 1), (1277, .i2l, 1), (1278, .bipush 32, 2), (1280, .lshl, 1), (1281, .aload_n 0, 1), (1282, .iload_n 3, 1), (1283, .iconst 4, 1), (1284, .iadd, 1), (1285, .iaload, 1), (1286, .i2l, 1), (1287, .ldc2_w 163, 3), (1290, .land, 1), (1291, .lor, 1), (1292, .invokevirtual 165, 3), (1295, .aload_n 2, 1), (1296, .aload_n 0, 1), (1297, .iload_n 3, 1), (1298, .iconst 1, 1), (1299, .iadd, 1), (1300, .iaload, 1), (1301, .aload_n 0, 1), (1302, .iload_n 3, 1), (1303, .iconst 2, 1), (1304, .iadd, 1), (1305, .iaload, 1), (1306, .aload_n 0, 1), (1307, .iload_n 3, 1), (1308, .iconst 3, 1), (1309, .iadd, 1), (1310, .iaload, 1), (1311, .i2l, 1), (1312, .bipush 32, 2), (1314, .lshl, 1), (1315, .aload_n 0, 1), (1316, .iload_n 3, 1), (1317, .iconst 4, 1), (1318, .iadd, 1), (1319, .iaload, 1), (1320, .i2l, 1), (1321, .ldc2_w 163, 3), (1324, .land, 1), (1325, .lor, 1), (1326, .invokevirtual 169, 3), (1329, .lcmp, 1), (1330, .ifCond .eq 107, 3), (1333, .iconst 0, 1), (1334, .ireturn, 1)]
theorem tk_law_36 : ∀ q ∈ tb_law_36, decode ab_law.2.1 q.1 = .ok q.2 := by decide +kernel
theorem law_36 {G : ab_G} {S : ab_S} {u L j : Nat} {xs : Nat → Int32} {Q : Option Value → ab_H → Prop} (hS : Sim S u) (hu : u + 128 < 2 ^ 20) (hj : j + 6 ≤ L) (hL : L ≤ 3072) (h48 : S.1 48 = .inl (.int, L, .inl xs)) (K : ∀ S2, Sim S2 (u + 128) → gA S S2 904 929 → S2.1 = S.1 → ab_Ex G 1000 ab_law 1437 [some (.ref 48), some (.ref 50), some (.ref 120), some (.int (nI j))] [] (sw S2) Q) : ab_Ex G 1000 ab_law 1261 [some (.ref 48), some (.ref 50), some (.ref 120), some (.int (nI j))] [] (sw S) Q := by
  obtain ⟨im, c, b, bh, nb, st, st2, n, s, f, t, tp, h, hQ⟩ := hS
  have hx := h.1
  have h50 : 50 ≤ sn S := by have := hQ.1.1; omega
  refine x_aload_n 1262 1 (ab_dd tk_law_36 0 rfl) rfl rfl rfl ?_
  refine x_aload_n 1263 0 (ab_dd tk_law_36 1 rfl) rfl rfl rfl ?_
  refine x_iload_n 1264 3 (ab_dd tk_law_36 2 rfl) rfl rfl rfl ?_
  refine x_iconst 1265 1 (ab_dd tk_law_36 3 rfl) rfl (by decide) (x_topn 1 rfl ?_)
  refine x_iadd 1266 (ab_dd tk_law_36 4 rfl) rfl (x_topn (j + 1) (nI_add _ _) ?_)
  refine t_ialdK 1267 (j + 1) (ab_dd tk_law_36 5 rfl) rfl (by decide) h50 h48 rfl (by omega) (by omega) ?_
  refine x_aload_n 1268 0 (ab_dd tk_law_36 6 rfl) rfl rfl rfl ?_
  refine x_iload_n 1269 3 (ab_dd tk_law_36 7 rfl) rfl rfl rfl ?_
  refine x_iconst 1270 2 (ab_dd tk_law_36 8 rfl) rfl (by decide) (x_topn 2 rfl ?_)
  refine x_iadd 1271 (ab_dd tk_law_36 9 rfl) rfl (x_topn (j + 2) (nI_add _ _) ?_)
  refine t_ialdK 1272 (j + 2) (ab_dd tk_law_36 10 rfl) rfl (by decide) h50 h48 rfl (by omega) (by omega) ?_
  refine x_aload_n 1273 0 (ab_dd tk_law_36 11 rfl) rfl rfl rfl ?_
  refine x_iload_n 1274 3 (ab_dd tk_law_36 12 rfl) rfl rfl rfl ?_
  refine x_iconst 1275 3 (ab_dd tk_law_36 13 rfl) rfl (by decide) (x_topn 3 rfl ?_)
  refine x_iadd 1276 (ab_dd tk_law_36 14 rfl) rfl (x_topn (j + 3) (nI_add _ _) ?_)
  refine t_ialdK 1277 (j + 3) (ab_dd tk_law_36 15 rfl) rfl (by decide) h50 h48 rfl (by omega) (by omega) ?_
  refine x_i2l 1278 (ab_dd tk_law_36 16 rfl) rfl ?_
  refine x_bipush 1280 32 (ab_dd tk_law_36 17 rfl) rfl (by decide) ?_
  refine x_lshl 1281 (ab_dd tk_law_36 18 rfl) rfl ?_
  refine x_aload_n 1282 0 (ab_dd tk_law_36 19 rfl) rfl rfl rfl ?_
  refine x_iload_n 1283 3 (ab_dd tk_law_36 20 rfl) rfl rfl rfl ?_
  refine x_iconst 1284 4 (ab_dd tk_law_36 21 rfl) rfl (by decide) (x_topn 4 rfl ?_)
  refine x_iadd 1285 (ab_dd tk_law_36 22 rfl) rfl (x_topn (j + 4) (nI_add _ _) ?_)
  refine t_ialdK 1286 (j + 4) (ab_dd tk_law_36 23 rfl) rfl (by decide) h50 h48 rfl (by omega) (by omega) ?_
  refine x_i2l 1287 (ab_dd tk_law_36 24 rfl) rfl ?_
  refine x_ldc2 1290 (ab_dd tk_law_36 25 rfl) rfl C_law_163 ?_
  refine x_land 1291 (ab_dd tk_law_36 26 rfl) rfl ?_
  refine x_lor 1292 (ab_dd tk_law_36 27 rfl) rfl ?_
  refine t_callV 1295 M_s_write 7 3 [_, _, _] (ab_dd tk_law_36 28 rfl) rfl (by decide) K_s_write V_s_write.1 V_s_write.2 L_law_165 rfl (Nat.le_of_ble_eq_true rfl) (by decide) (Nat.lt_of_lt_of_le (by decide) hx.1) (hx.2.1 0 (by decide)) rfl (tw (w_write h hQ hu (xs (j + 1)) (xs (j + 2)) _) h50) (fun v1 w1 h1 => ?_)
  obtain ⟨S1, rfl, h4, hv, hm1, hC⟩ := h1
  have h481 : S1.1 48 = .inl (.int, L, .inl xs) := h4.trans h48
  have h51 : 50 ≤ sn S1 := by have := hm1.1; omega
  obtain ⟨y, rfl⟩ := hv
  refine x_aload_n 1296 2 (ab_dd tk_law_36 29 rfl) rfl rfl rfl ?_
  refine x_aload_n 1297 0 (ab_dd tk_law_36 30 rfl) rfl rfl rfl ?_
  refine x_iload_n 1298 3 (ab_dd tk_law_36 31 rfl) rfl rfl rfl ?_
  refine x_iconst 1299 1 (ab_dd tk_law_36 32 rfl) rfl (by decide) (x_topn 1 rfl ?_)
  refine x_iadd 1300 (ab_dd tk_law_36 33 rfl) rfl (x_topn (j + 1) (nI_add _ _) ?_)
  refine t_ialdK 1301 (j + 1) (ab_dd tk_law_36 34 rfl) rfl (by decide) h51 h481 rfl (by omega) (by omega) ?_
  refine x_aload_n 1302 0 (ab_dd tk_law_36 35 rfl) rfl rfl rfl ?_
  refine x_iload_n 1303 3 (ab_dd tk_law_36 36 rfl) rfl rfl rfl ?_
  refine x_iconst 1304 2 (ab_dd tk_law_36 37 rfl) rfl (by decide) (x_topn 2 rfl ?_)
  refine x_iadd 1305 (ab_dd tk_law_36 38 rfl) rfl (x_topn (j + 2) (nI_add _ _) ?_)
  refine t_ialdK 1306 (j + 2) (ab_dd tk_law_36 39 rfl) rfl (by decide) h51 h481 rfl (by omega) (by omega) ?_
  refine x_aload_n 1307 0 (ab_dd tk_law_36 40 rfl) rfl rfl rfl ?_
  refine x_iload_n 1308 3 (ab_dd tk_law_36 41 rfl) rfl rfl rfl ?_
  refine x_iconst 1309 3 (ab_dd tk_law_36 42 rfl) rfl (by decide) (x_topn 3 rfl ?_)
  refine x_iadd 1310 (ab_dd tk_law_36 43 rfl) rfl (x_topn (j + 3) (nI_add _ _) ?_)
  refine t_ialdK 1311 (j + 3) (ab_dd tk_law_36 44 rfl) rfl (by decide) h51 h481 rfl (by omega) (by omega) ?_
  refine x_i2l 1312 (ab_dd tk_law_36 45 rfl) rfl ?_
  refine x_bipush 1314 32 (ab_dd tk_law_36 46 rfl) rfl (by decide) ?_
  refine x_lshl 1315 (ab_dd tk_law_36 47 rfl) rfl ?_
  refine x_aload_n 1316 0 (ab_dd tk_law_36 48 rfl) rfl rfl rfl ?_
  refine x_iload_n 1317 3 (ab_dd tk_law_36 49 rfl) rfl rfl rfl ?_
  refine x_iconst 1318 4 (ab_dd tk_law_36 50 rfl) rfl (by decide) (x_topn 4 rfl ?_)
  refine x_iadd 1319 (ab_dd tk_law_36 51 rfl) rfl (x_topn (j + 4) (nI_add _ _) ?_)
  refine t_ialdK 1320 (j + 4) (ab_dd tk_law_36 52 rfl) rfl (by decide) h51 h481 rfl (by omega) (by omega) ?_
  refine x_i2l 1321 (ab_dd tk_law_36 53 rfl) rfl ?_
  refine x_ldc2 1324 (ab_dd tk_law_36 54 rfl) rfl C_law_163 ?_
  refine x_land 1325 (ab_dd tk_law_36 55 rfl) rfl ?_
  refine x_lor 1326 (ab_dd tk_law_36 56 rfl) rfl ?_
  refine t_callV 1329 M_m_write 2 3 [_, _, _] (ab_dd tk_law_36 57 rfl) rfl (by decide) K_m_write V_m_write.1 V_m_write.2 L_law_169 rfl (Nat.le_of_ble_eq_true rfl) (by decide) (Nat.lt_of_lt_of_le (by decide) hm1.1) (hm1.2.1 0 (by decide)) rfl hC (fun v2 w2 h2 => ?_)
  obtain ⟨rfl, S2, rfl, hS2, hG2, hk2⟩ := h2
  refine x_lcmp 1330 (ab_dd tk_law_36 58 rfl) rfl ?_
  exact x_if_eq_t 1437 (ab_dd tk_law_36 59 rfl) (by decide) ((lg_cmp_eq _ _).mpr rfl) (K S2 hS2 hG2 hk2)
def tb_law_37 : List (Nat × Instr × Nat) := [(1335, .aload_n 1, 1), (1336, .aload_n 0, 1), (1337, .iload_n 3, 1), (1338, .iconst 1, 1), (1339, .iadd, 1), (1340, .iaload, 1), (1341, .aload_n 0, 1), (1342, .iload_n 3, 1), (1343, .iconst 2, 1), (1344, .iadd, 1), (1345, .iaload, 1), (1346, .invokevirtual 170, 3), (1349, .aload_n 2, 1), (1350, .aload_n 0, 1), (1351, .iload_n 3, 1), (1352, .iconst 1, 1), (1353, .iadd, 1), (1354, .iaload, 1), (1355, .aload_n 0, 1), (1356, .iload_n 3, 1), (1357, .iconst 2, 1), (1358, .iadd, 1), (1359, .iaload, 1), (1360, .invokevirtual 173, 3), (1363, .if_icmp .eq 74, 3), (1366, .iconst 0, 1), (1367, .ireturn, 1)]
theorem tk_law_37 : ∀ q ∈ tb_law_37, decode ab_law.2.1 q.1 = .ok q.2 := by decide +kernel
theorem law_37 {G : ab_G} {S : ab_S} {u L j : Nat} {xs : Nat → Int32} {Q : Option Value → ab_H → Prop} (hS : Sim S u) (hu : u + 128 < 2 ^ 20) (hj : j + 6 ≤ L) (hL : L ≤ 3072) (h48 : S.1 48 = .inl (.int, L, .inl xs)) (K : ∀ S2, Sim S2 (u + 128) → gA S S2 904 929 → S2.1 = S.1 → ab_Ex G 1000 ab_law 1437 [some (.ref 48), some (.ref 50), some (.ref 120), some (.int (nI j))] [] (sw S2) Q) : ab_Ex G 1000 ab_law 1335 [some (.ref 48), some (.ref 50), some (.ref 120), some (.int (nI j))] [] (sw S) Q := by
  obtain ⟨im, c, b, bh, nb, st, st2, n, s, f, t, tp, h, hQ⟩ := hS
  have hx := h.1
  have h50 : 50 ≤ sn S := by have := hQ.1.1; omega
  refine x_aload_n 1336 1 (ab_dd tk_law_37 0 rfl) rfl rfl rfl ?_
  refine x_aload_n 1337 0 (ab_dd tk_law_37 1 rfl) rfl rfl rfl ?_
  refine x_iload_n 1338 3 (ab_dd tk_law_37 2 rfl) rfl rfl rfl ?_
  refine x_iconst 1339 1 (ab_dd tk_law_37 3 rfl) rfl (by decide) (x_topn 1 rfl ?_)
  refine x_iadd 1340 (ab_dd tk_law_37 4 rfl) rfl (x_topn (j + 1) (nI_add _ _) ?_)
  refine t_ialdK 1341 (j + 1) (ab_dd tk_law_37 5 rfl) rfl (by decide) h50 h48 rfl (by omega) (by omega) ?_
  refine x_aload_n 1342 0 (ab_dd tk_law_37 6 rfl) rfl rfl rfl ?_
  refine x_iload_n 1343 3 (ab_dd tk_law_37 7 rfl) rfl rfl rfl ?_
  refine x_iconst 1344 2 (ab_dd tk_law_37 8 rfl) rfl (by decide) (x_topn 2 rfl ?_)
  refine x_iadd 1345 (ab_dd tk_law_37 9 rfl) rfl (x_topn (j + 2) (nI_add _ _) ?_)
  refine t_ialdK 1346 (j + 2) (ab_dd tk_law_37 10 rfl) rfl (by decide) h50 h48 rfl (by omega) (by omega) ?_
  refine t_callV 1349 M_s_lists 7 2 [_, _] (ab_dd tk_law_37 11 rfl) rfl (by decide) K_s_lists V_s_lists.1 V_s_lists.2 L_law_170 rfl (Nat.le_of_ble_eq_true rfl) (by decide) (Nat.lt_of_lt_of_le (by decide) hx.1) (hx.2.1 0 (by decide)) rfl (tw (w_lists h hQ hu (xs (j + 1)) (xs (j + 2))) h50) (fun v1 w1 h1 => ?_)
  obtain ⟨S1, rfl, h4, hv, hm1, hC⟩ := h1
  have h481 : S1.1 48 = .inl (.int, L, .inl xs) := h4.trans h48
  have h51 : 50 ≤ sn S1 := by have := hm1.1; omega
  obtain ⟨y, rfl⟩ := hv
  refine x_aload_n 1350 2 (ab_dd tk_law_37 12 rfl) rfl rfl rfl ?_
  refine x_aload_n 1351 0 (ab_dd tk_law_37 13 rfl) rfl rfl rfl ?_
  refine x_iload_n 1352 3 (ab_dd tk_law_37 14 rfl) rfl rfl rfl ?_
  refine x_iconst 1353 1 (ab_dd tk_law_37 15 rfl) rfl (by decide) (x_topn 1 rfl ?_)
  refine x_iadd 1354 (ab_dd tk_law_37 16 rfl) rfl (x_topn (j + 1) (nI_add _ _) ?_)
  refine t_ialdK 1355 (j + 1) (ab_dd tk_law_37 17 rfl) rfl (by decide) h51 h481 rfl (by omega) (by omega) ?_
  refine x_aload_n 1356 0 (ab_dd tk_law_37 18 rfl) rfl rfl rfl ?_
  refine x_iload_n 1357 3 (ab_dd tk_law_37 19 rfl) rfl rfl rfl ?_
  refine x_iconst 1358 2 (ab_dd tk_law_37 20 rfl) rfl (by decide) (x_topn 2 rfl ?_)
  refine x_iadd 1359 (ab_dd tk_law_37 21 rfl) rfl (x_topn (j + 2) (nI_add _ _) ?_)
  refine t_ialdK 1360 (j + 2) (ab_dd tk_law_37 22 rfl) rfl (by decide) h51 h481 rfl (by omega) (by omega) ?_
  refine t_callV 1363 M_m_lists 6 2 [_, _] (ab_dd tk_law_37 23 rfl) rfl (by decide) K_m_lists V_m_lists.1 V_m_lists.2 L_law_173 rfl (Nat.le_of_ble_eq_true rfl) (by decide) (Nat.lt_of_lt_of_le (by decide) hm1.1) (hm1.2.1 0 (by decide)) rfl hC (fun v2 w2 h2 => ?_)
  obtain ⟨rfl, S2, rfl, hS2, hG2, hk2⟩ := h2
  exact x_icmp_eq_t 1437 (ab_dd tk_law_37 24 rfl) (by decide) rfl (K S2 hS2 hG2 hk2)
def tb_law_38 : List (Nat × Instr × Nat) := [(1368, .aload_n 1, 1), (1369, .aload_n 0, 1), (1370, .iload_n 3, 1), (1371, .iconst 1, 1), (1372, .iadd, 1), (1373, .iaload, 1), (1374, .invokevirtual 174, 3), (1377, .aload_n 2, 1), (1378, .aload_n 0, 1), (1379, .iload_n 3, 1), (1380, .iconst 1, 1), (1381, .iadd, 1), (1382, .iaload, 1), (1383, .invokevirtual 177, 3), (1386, .if_icmp .eq 51, 3), (1389, .iconst 0, 1), (1390, .ireturn, 1)]
theorem tk_law_38 : ∀ q ∈ tb_law_38, decode ab_law.2.1 q.1 = .ok q.2 := by decide +kernel
theorem law_38 {G : ab_G} {S : ab_S} {u L j : Nat} {xs : Nat → Int32} {Q : Option Value → ab_H → Prop} (hS : Sim S u) (hu : u + 128 < 2 ^ 20) (hj : j + 6 ≤ L) (hL : L ≤ 3072) (h48 : S.1 48 = .inl (.int, L, .inl xs)) (K : ∀ S2, Sim S2 (u + 128) → gA S S2 904 929 → S2.1 = S.1 → ab_Ex G 1000 ab_law 1437 [some (.ref 48), some (.ref 50), some (.ref 120), some (.int (nI j))] [] (sw S2) Q) : ab_Ex G 1000 ab_law 1368 [some (.ref 48), some (.ref 50), some (.ref 120), some (.int (nI j))] [] (sw S) Q := by
  obtain ⟨im, c, b, bh, nb, st, st2, n, s, f, t, tp, h, hQ⟩ := hS
  have hx := h.1
  have h50 : 50 ≤ sn S := by have := hQ.1.1; omega
  refine x_aload_n 1369 1 (ab_dd tk_law_38 0 rfl) rfl rfl rfl ?_
  refine x_aload_n 1370 0 (ab_dd tk_law_38 1 rfl) rfl rfl rfl ?_
  refine x_iload_n 1371 3 (ab_dd tk_law_38 2 rfl) rfl rfl rfl ?_
  refine x_iconst 1372 1 (ab_dd tk_law_38 3 rfl) rfl (by decide) (x_topn 1 rfl ?_)
  refine x_iadd 1373 (ab_dd tk_law_38 4 rfl) rfl (x_topn (j + 1) (nI_add _ _) ?_)
  refine t_ialdK 1374 (j + 1) (ab_dd tk_law_38 5 rfl) rfl (by decide) h50 h48 rfl (by omega) (by omega) ?_
  refine t_callV 1377 M_s_image 7 1 [_] (ab_dd tk_law_38 6 rfl) rfl (by decide) K_s_image V_s_image.1 V_s_image.2 L_law_174 rfl (Nat.le_of_ble_eq_true rfl) (by decide) (Nat.lt_of_lt_of_le (by decide) hx.1) (hx.2.1 0 (by decide)) rfl (tw (w_image h hQ hu (xs (j + 1))) h50) (fun v1 w1 h1 => ?_)
  obtain ⟨S1, rfl, h4, hv, hm1, hC⟩ := h1
  have h481 : S1.1 48 = .inl (.int, L, .inl xs) := h4.trans h48
  have h51 : 50 ≤ sn S1 := by have := hm1.1; omega
  obtain ⟨y, rfl⟩ := hv
  refine x_aload_n 1378 2 (ab_dd tk_law_38 7 rfl) rfl rfl rfl ?_
  refine x_aload_n 1379 0 (ab_dd tk_law_38 8 rfl) rfl rfl rfl ?_
  refine x_iload_n 1380 3 (ab_dd tk_law_38 9 rfl) rfl rfl rfl ?_
  refine x_iconst 1381 1 (ab_dd tk_law_38 10 rfl) rfl (by decide) (x_topn 1 rfl ?_)
  refine x_iadd 1382 (ab_dd tk_law_38 11 rfl) rfl (x_topn (j + 1) (nI_add _ _) ?_)
  refine t_ialdK 1383 (j + 1) (ab_dd tk_law_38 12 rfl) rfl (by decide) h51 h481 rfl (by omega) (by omega) ?_
  refine t_callV 1386 M_m_image 1 1 [_] (ab_dd tk_law_38 13 rfl) rfl (by decide) K_m_image V_m_image.1 V_m_image.2 L_law_177 rfl (Nat.le_of_ble_eq_true rfl) (by decide) (Nat.lt_of_lt_of_le (by decide) hm1.1) (hm1.2.1 0 (by decide)) rfl hC (fun v2 w2 h2 => ?_)
  obtain ⟨rfl, S2, rfl, hS2, hG2, hk2⟩ := h2
  exact x_icmp_eq_t 1437 (ab_dd tk_law_38 14 rfl) (by decide) rfl (K S2 hS2 hG2 hk2)
def tb_law_39 : List (Nat × Instr × Nat) := [(1391, .aload_n 1, 1), (1392, .aload_n 0, 1), (1393, .iload_n 3, 1), (1394, .iconst 1, 1), (1395, .iadd, 1), (1396, .iaload, 1), (1397, .invokevirtual 178, 3), (1400, .aload_n 2, 1), (1401, .aload_n 0, 1), (1402, .iload_n 3, 1), (1403, .iconst 1, 1), (1404, .iadd, 1), (1405, .iaload, 1), (1406, .invokevirtual 181, 3), (1409, .if_icmp .eq 28, 3), (1412, .iconst 0, 1), (1413, .ireturn, 1)]
theorem tk_law_39 : ∀ q ∈ tb_law_39, decode ab_law.2.1 q.1 = .ok q.2 := by decide +kernel
theorem law_39 {G : ab_G} {S : ab_S} {u L j : Nat} {xs : Nat → Int32} {Q : Option Value → ab_H → Prop} (hS : Sim S u) (hu : u + 128 < 2 ^ 20) (hj : j + 6 ≤ L) (hL : L ≤ 3072) (h48 : S.1 48 = .inl (.int, L, .inl xs)) (K : ∀ S2, Sim S2 (u + 128) → gA S S2 904 929 → S2.1 = S.1 → ab_Ex G 1000 ab_law 1437 [some (.ref 48), some (.ref 50), some (.ref 120), some (.int (nI j))] [] (sw S2) Q) : ab_Ex G 1000 ab_law 1391 [some (.ref 48), some (.ref 50), some (.ref 120), some (.int (nI j))] [] (sw S) Q := by
  obtain ⟨im, c, b, bh, nb, st, st2, n, s, f, t, tp, h, hQ⟩ := hS
  have hx := h.1
  have h50 : 50 ≤ sn S := by have := hQ.1.1; omega
  refine x_aload_n 1392 1 (ab_dd tk_law_39 0 rfl) rfl rfl rfl ?_
  refine x_aload_n 1393 0 (ab_dd tk_law_39 1 rfl) rfl rfl rfl ?_
  refine x_iload_n 1394 3 (ab_dd tk_law_39 2 rfl) rfl rfl rfl ?_
  refine x_iconst 1395 1 (ab_dd tk_law_39 3 rfl) rfl (by decide) (x_topn 1 rfl ?_)
  refine x_iadd 1396 (ab_dd tk_law_39 4 rfl) rfl (x_topn (j + 1) (nI_add _ _) ?_)
  refine t_ialdK 1397 (j + 1) (ab_dd tk_law_39 5 rfl) rfl (by decide) h50 h48 rfl (by omega) (by omega) ?_
  refine t_callV 1400 M_s_restore 7 1 [_] (ab_dd tk_law_39 6 rfl) rfl (by decide) K_s_restore V_s_restore.1 V_s_restore.2 L_law_178 rfl (Nat.le_of_ble_eq_true rfl) (by decide) (Nat.lt_of_lt_of_le (by decide) hx.1) (hx.2.1 0 (by decide)) rfl (tw (w_restore h hQ hu (xs (j + 1))) h50) (fun v1 w1 h1 => ?_)
  obtain ⟨S1, rfl, h4, hv, hm1, hC⟩ := h1
  have h481 : S1.1 48 = .inl (.int, L, .inl xs) := h4.trans h48
  have h51 : 50 ≤ sn S1 := by have := hm1.1; omega
  obtain ⟨y, rfl⟩ := hv
  refine x_aload_n 1401 2 (ab_dd tk_law_39 7 rfl) rfl rfl rfl ?_
  refine x_aload_n 1402 0 (ab_dd tk_law_39 8 rfl) rfl rfl rfl ?_
  refine x_iload_n 1403 3 (ab_dd tk_law_39 9 rfl) rfl rfl rfl ?_
  refine x_iconst 1404 1 (ab_dd tk_law_39 10 rfl) rfl (by decide) (x_topn 1 rfl ?_)
  refine x_iadd 1405 (ab_dd tk_law_39 11 rfl) rfl (x_topn (j + 1) (nI_add _ _) ?_)
  refine t_ialdK 1406 (j + 1) (ab_dd tk_law_39 12 rfl) rfl (by decide) h51 h481 rfl (by omega) (by omega) ?_
  refine t_callV 1409 M_m_restore 1 1 [_] (ab_dd tk_law_39 13 rfl) rfl (by decide) K_m_restore V_m_restore.1 V_m_restore.2 L_law_181 rfl (Nat.le_of_ble_eq_true rfl) (by decide) (Nat.lt_of_lt_of_le (by decide) hm1.1) (hm1.2.1 0 (by decide)) rfl hC (fun v2 w2 h2 => ?_)
  obtain ⟨rfl, S2, rfl, hS2, hG2, hk2⟩ := h2
  exact x_icmp_eq_t 1437 (ab_dd tk_law_39 14 rfl) (by decide) rfl (K S2 hS2 hG2 hk2)
def tb_law_40 : List (Nat × Instr × Nat) := [(1414, .aload_n 1, 1), (1415, .aload_n 0, 1), (1416, .iload_n 3, 1), (1417, .iconst 1, 1), (1418, .iadd, 1), (1419, .iaload, 1), (1420, .invokevirtual 182, 3), (1423, .aload_n 2, 1), (1424, .aload_n 0, 1), (1425, .iload_n 3, 1), (1426, .iconst 1, 1), (1427, .iadd, 1), (1428, .iaload, 1), (1429, .invokevirtual 185, 3), (1432, .if_icmp .eq 5, 3), (1435, .iconst 0, 1), (1436, .ireturn, 1)]
theorem tk_law_40 : ∀ q ∈ tb_law_40, decode ab_law.2.1 q.1 = .ok q.2 := by decide +kernel
theorem law_40 {G : ab_G} {S : ab_S} {u L j : Nat} {xs : Nat → Int32} {Q : Option Value → ab_H → Prop} (hS : Sim S u) (hu : u + 128 < 2 ^ 20) (hj : j + 6 ≤ L) (hL : L ≤ 3072) (h48 : S.1 48 = .inl (.int, L, .inl xs)) (K : ∀ S2, Sim S2 (u + 128) → gA S S2 904 929 → S2.1 = S.1 → ab_Ex G 1000 ab_law 1437 [some (.ref 48), some (.ref 50), some (.ref 120), some (.int (nI j))] [] (sw S2) Q) : ab_Ex G 1000 ab_law 1414 [some (.ref 48), some (.ref 50), some (.ref 120), some (.int (nI j))] [] (sw S) Q := by
  obtain ⟨im, c, b, bh, nb, st, st2, n, s, f, t, tp, h, hQ⟩ := hS
  have hx := h.1
  have h50 : 50 ≤ sn S := by have := hQ.1.1; omega
  refine x_aload_n 1415 1 (ab_dd tk_law_40 0 rfl) rfl rfl rfl ?_
  refine x_aload_n 1416 0 (ab_dd tk_law_40 1 rfl) rfl rfl rfl ?_
  refine x_iload_n 1417 3 (ab_dd tk_law_40 2 rfl) rfl rfl rfl ?_
  refine x_iconst 1418 1 (ab_dd tk_law_40 3 rfl) rfl (by decide) (x_topn 1 rfl ?_)
  refine x_iadd 1419 (ab_dd tk_law_40 4 rfl) rfl (x_topn (j + 1) (nI_add _ _) ?_)
  refine t_ialdK 1420 (j + 1) (ab_dd tk_law_40 5 rfl) rfl (by decide) h50 h48 rfl (by omega) (by omega) ?_
  refine t_callV 1423 M_s_count 7 1 [_] (ab_dd tk_law_40 6 rfl) rfl (by decide) K_s_count V_s_count.1 V_s_count.2 L_law_182 rfl (Nat.le_of_ble_eq_true rfl) (by decide) (Nat.lt_of_lt_of_le (by decide) hx.1) (hx.2.1 0 (by decide)) rfl (tw (w_count h hQ hu (xs (j + 1))) h50) (fun v1 w1 h1 => ?_)
  obtain ⟨S1, rfl, h4, hv, hm1, hC⟩ := h1
  have h481 : S1.1 48 = .inl (.int, L, .inl xs) := h4.trans h48
  have h51 : 50 ≤ sn S1 := by have := hm1.1; omega
  obtain ⟨y, rfl⟩ := hv
  refine x_aload_n 1424 2 (ab_dd tk_law_40 7 rfl) rfl rfl rfl ?_
  refine x_aload_n 1425 0 (ab_dd tk_law_40 8 rfl) rfl rfl rfl ?_
  refine x_iload_n 1426 3 (ab_dd tk_law_40 9 rfl) rfl rfl rfl ?_
  refine x_iconst 1427 1 (ab_dd tk_law_40 10 rfl) rfl (by decide) (x_topn 1 rfl ?_)
  refine x_iadd 1428 (ab_dd tk_law_40 11 rfl) rfl (x_topn (j + 1) (nI_add _ _) ?_)
  refine t_ialdK 1429 (j + 1) (ab_dd tk_law_40 12 rfl) rfl (by decide) h51 h481 rfl (by omega) (by omega) ?_
  refine t_callV 1432 M_m_count 3 1 [_] (ab_dd tk_law_40 13 rfl) rfl (by decide) K_m_count V_m_count.1 V_m_count.2 L_law_185 rfl (Nat.le_of_ble_eq_true rfl) (by decide) (Nat.lt_of_lt_of_le (by decide) hm1.1) (hm1.2.1 0 (by decide)) rfl hC (fun v2 w2 h2 => ?_)
  obtain ⟨rfl, S2, rfl, hS2, hG2, hk2⟩ := h2
  exact x_icmp_eq_t 1437 (ab_dd tk_law_40 14 rfl) (by decide) rfl (K S2 hS2 hG2 hk2)
