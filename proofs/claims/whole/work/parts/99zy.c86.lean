/-! ===== the law from its begin ===== -/
def S_0 (L : Nat) (xs : Nat → Int32) : ab_S := (fun i => (ab_kk L xs).getD i (.inr (15, [])), fun _ => .inr 0, fun _ _ => 0, fun _ _ => 0, fun _ _ => none, 50, 0)
theorem S_0w (L : Nat) (xs : Nat → Int32) : sw (S_0 L xs) = ab_w0 L xs := rfl
theorem S_0k (L : Nat) (xs : Nat → Int32) : kSh (S_0 L xs).1 := by
  refine ⟨fun t ht => ?_, rfl, rfl⟩
  match t, ht with
  | 0, _ => exact ⟨rfl, rfl⟩
  | 1, _ => exact ⟨rfl, rfl⟩
  | 2, _ => exact ⟨rfl, rfl⟩
  | 3, _ => exact ⟨rfl, rfl⟩
  | 4, _ => exact ⟨rfl, rfl⟩
  | 5, _ => exact ⟨rfl, rfl⟩
  | 6, _ => exact ⟨rfl, rfl⟩
  | 7, _ => exact ⟨rfl, rfl⟩
  | 8, _ => exact ⟨rfl, rfl⟩
  | 9, _ => exact ⟨rfl, rfl⟩
  | 10, _ => exact ⟨rfl, rfl⟩
  | 11, _ => exact ⟨rfl, rfl⟩
  | 12, _ => exact ⟨rfl, rfl⟩
  | 13, _ => exact ⟨rfl, rfl⟩
  | 14, _ => exact ⟨rfl, rfl⟩
  | 15, _ => exact ⟨rfl, rfl⟩
  | 16, _ => exact ⟨rfl, rfl⟩
  | 17, _ => exact ⟨rfl, rfl⟩
  | 18, _ => exact ⟨rfl, rfl⟩
  | 19, _ => exact ⟨rfl, rfl⟩
  | 20, _ => exact ⟨rfl, rfl⟩
  | 21, _ => exact ⟨rfl, rfl⟩
  | 22, _ => exact ⟨rfl, rfl⟩
  | t + 23, ht => exact absurd ht (by omega)
theorem law_begin {G : ab_G} {L : Nat} {xs : Nat → Int32} (hL : L ≤ 3072) {S : ab_S} (kc : kSh S.1) (h48 : S.1 48 = .inl (.int, L, .inl xs)) (hn0 : sn S = 50) (hz0 : sz S = 0) : ab_Ex G 1000 ab_law 0 [some (.ref 48), none, none, none] [] (sw S) (ab_ok (ab_w0 L xs)) := by
  refine t_newO (ci := 11) 3 (ab_dd tk_law_h 0 rfl) rfl (by omega) rfl Q_law_7 N_s.1 N_s.2 (x_topR 50 hn0 ?_)
  refine x_dup 4 (ab_dd tk_law_h 1 rfl) rfl rfl ?_
  refine x_callI 7 M_s_init 4 0 [] (ab_dd tk_law_h 2 rfl) rfl (by decide) K_s_init rfl rfl V_s_init L_law_9 rfl (Nat.le_of_ble_eq_true rfl) (c_s_init (S := pN S (.inr 11) 17) kc (by show sn S + 1 = 51; omega) (by show up1 (sK S) (sn S) _ 50 = _; rw [hn0]; exact up1_s)) (fun v1 w1 h1 => ?_)
  obtain ⟨rfl, S1, rfl, hx, hse, e1, hn1, hz1, q2, q3, q4, q5, q6, q7, q8, q9, q10, q11, q12, q13, q14⟩ := h1
  refine x_astore_n 8 [some (.ref 48), some (.ref 50), none, none] 1 (ab_dd tk_law_h 3 rfl) rfl rfl (by decide) rfl ?_
  refine t_newO (ci := 12) 11 (ab_dd tk_law_h 4 rfl) rfl (by omega) rfl Q_law_10 N_m.1 N_m.2 (x_topR 120 hn1 ?_)
  refine x_dup 12 (ab_dd tk_law_h 5 rfl) rfl rfl ?_
  refine x_callI 15 M_m_init 2 0 [] (ab_dd tk_law_h 6 rfl) rfl (by decide) K_m_init rfl rfl V_m_init L_law_12 rfl (Nat.le_of_ble_eq_true rfl) (c_m_init (S := pN S1 (.inr 12) 45) (by show sn S1 + 1 = 121; omega) (by show up1 (sK S1) (sn S1) _ 120 = _; rw [hn1]; exact up1_s) (by show up1 (sI S1) (sn S1) _ 120 = _; rw [hn1]; exact up1_s) (by show up1 (sP S1) (sn S1) _ 120 = _; rw [hn1]; exact up1_s)) (fun v1 w1 h1 => ?_)
  obtain ⟨rfl, S2, rfl, r1, r2, r3, r4, r5, r6, r7, r8, r9, r10⟩ := h1
  have kc1 : kSh S1.1 := by rw [e1]; exact kc
  obtain ⟨z1, z2, z3, z4⟩ := sim0 kc1 hx hse hn1 q2 q3 q4 q5 q6 q7 q8 q9 q10 q11 q12 q13 q14 rfl r1 r2 r3 r4 r5 r6 r7 r8 r9 r10
  refine x_astore_n 16 [some (.ref 48), some (.ref 50), some (.ref 120), none] 2 (ab_dd tk_law_h 7 rfl) rfl rfl (by decide) rfl ?_
  refine x_iconst 17 0 (ab_dd tk_law_h 8 rfl) rfl (by decide) (x_topn 0 rfl ?_)
  refine x_istore_n 18 [some (.ref 48), some (.ref 50), some (.ref 120), some (.int (nI 0))] 3 (ab_dd tk_law_h 9 rfl) rfl rfl (by decide) rfl ?_
  have hzz : sz S1 ≤ 20017 := by
    have e : sz (pN S (.inr 11) 17) = sz S + 17 := rfl
    rw [e, hz0] at hz1
    exact hz1
  exact law_loop hL 513 0 rfl (Nat.zero_le _) S2 z1 (by rw [z2, e1]; exact h48) (Nat.le_of_eq z3) (Nat.le_trans (Nat.le_of_eq z4) (by omega))
theorem law_goal : ab_goal := fun G L xs hL => by
  have h := law_begin (G := G) hL (S_0k L xs) rfl rfl rfl
  rw [S_0w] at h
  exact h
