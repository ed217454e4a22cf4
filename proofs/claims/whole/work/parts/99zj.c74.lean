/-! ===== constructors: what they leave, cell by cell ===== -/
theorem x_topR {G : ab_G} {d : Nat} {M : ab_M} {pc : Nat} {ls : ab_L} {st : List Value} {w : ab_H} {Q : Option Value → ab_H → Prop} {a : Nat} (b : Nat) (h : a = b) (k : ab_Ex G d M pc ls (.ref b :: st) w Q) : ab_Ex G d M pc ls (.ref a :: st) w Q := by rw [h]; exact k
/-- a state with n cells, said openly -/
abbrev oS (k : Nat → ab_E) (K : Nat → (FieldType × Nat) ⊕ Nat) (I : Nat → Nat → Int32) (J : Nat → Nat → Int64) (P : Nat → Nat → Option Nat) (n z : Nat) : ab_S := (k, K, I, J, P, n, z)
def X_ca_52 (S : ab_S) : ab_S := (pP (pP (pP (pN (pP (pN (pI (pI (pI (pI (pI S 52 0 (nI 0)) 52 1 (nI 0)) 52 2 (nI 0)) 52 3 (nI 0)) 52 4 (nI 0)) (.inl (.int, 4)) 4) 52 5 (some 53)) (.inl (.int, 16)) 16) 52 6 (some 54)) 52 7 none) 52 8 none)
theorem c_X_ca_52 {G : ab_G} {S : ab_S} (hn : sn S = 53) (hK : sK S 52 = .inr 0) : ab_C G 1 M_ca_init [.ref 52] (sw S) (fun v w' => v = none ∧ w' = sw (X_ca_52 S)) := by
  obtain ⟨k, K, I, J, P, n, z⟩ := S
  have hn2 : n = 53 := hn
  subst hn2
  replace hK : K 52 = .inr 0 := hK
  refine x_enter [some (.ref 52)] (by decide) (Nat.le_of_ble_eq_true rfl) rfl (fun v w' h => by obtain ⟨rfl, -⟩ := h; trivial) ?_
  refine x_aload_n 1 0 (ab_dd tk_ca_init 0 rfl) rfl rfl rfl ?_
  refine x_objInit 4 (ab_dd tk_ca_init 1 rfl) rfl (by omega) L_ca_3 O_inst O_code (Nat.le_of_ble_eq_true rfl) ?_
  refine x_aload_n 5 0 (ab_dd tk_ca_init 2 rfl) rfl rfl rfl ?_
  refine x_iconst 6 0 (ab_dd tk_ca_init 3 rfl) rfl (by decide) (x_topn 0 rfl ?_)
  refine t_putI 9 (ab_dd tk_ca_init 4 rfl) rfl F_ca_9 (by decide) (Nat.le_of_ble_eq_true rfl) hK rfl rfl rfl ?_
  refine x_aload_n 10 0 (ab_dd tk_ca_init 5 rfl) rfl rfl rfl ?_
  refine x_iconst 11 0 (ab_dd tk_ca_init 6 rfl) rfl (by decide) (x_topn 0 rfl ?_)
  refine t_putI 14 (ab_dd tk_ca_init 7 rfl) rfl F_ca_15 (by decide) (Nat.le_of_ble_eq_true rfl) hK rfl rfl rfl ?_
  refine x_aload_n 15 0 (ab_dd tk_ca_init 8 rfl) rfl rfl rfl ?_
  refine x_iconst 16 0 (ab_dd tk_ca_init 9 rfl) rfl (by decide) (x_topn 0 rfl ?_)
  refine t_putI 19 (ab_dd tk_ca_init 10 rfl) rfl F_ca_18 (by decide) (Nat.le_of_ble_eq_true rfl) hK rfl rfl rfl ?_
  refine x_aload_n 20 0 (ab_dd tk_ca_init 11 rfl) rfl rfl rfl ?_
  refine x_iconst 21 0 (ab_dd tk_ca_init 12 rfl) rfl (by decide) (x_topn 0 rfl ?_)
  refine t_putI 24 (ab_dd tk_ca_init 13 rfl) rfl F_ca_21 (by decide) (Nat.le_of_ble_eq_true rfl) hK rfl rfl rfl ?_
  refine x_aload_n 25 0 (ab_dd tk_ca_init 14 rfl) rfl rfl rfl ?_
  refine x_iconst 26 0 (ab_dd tk_ca_init 15 rfl) rfl (by decide) (x_topn 0 rfl ?_)
  refine t_putI 29 (ab_dd tk_ca_init 16 rfl) rfl F_ca_24 (by decide) (Nat.le_of_ble_eq_true rfl) hK rfl rfl rfl ?_
  refine x_aload_n 30 0 (ab_dd tk_ca_init 17 rfl) rfl rfl rfl ?_
  refine x_iconst 31 4 (ab_dd tk_ca_init 18 rfl) rfl (by decide) (x_topn 4 rfl ?_)
  refine t_newI 33 4 (ab_dd tk_ca_init 19 rfl) rfl (Nat.le_of_ble_eq_true rfl) A_int rfl (by decide) (x_topR 53 rfl ?_)
  refine t_putPF 36 (ab_dd tk_ca_init 20 rfl) rfl F_ca_27 rfl (no_nest (by decide +kernel)) (by decide) (Nat.le_of_ble_eq_true rfl) hK rfl ?_
  refine x_aload_n 37 0 (ab_dd tk_ca_init 21 rfl) rfl rfl rfl ?_
  refine x_bipush 39 16 (ab_dd tk_ca_init 22 rfl) rfl (by decide) (x_topn 16 rfl ?_)
  refine t_newI 41 16 (ab_dd tk_ca_init 23 rfl) rfl (Nat.le_of_ble_eq_true rfl) A_int rfl (by decide) (x_topR 54 rfl ?_)
  refine t_putPF 44 (ab_dd tk_ca_init 24 rfl) rfl F_ca_31 rfl (no_nest (by decide +kernel)) (by decide) (Nat.le_of_ble_eq_true rfl) hK rfl ?_
  refine x_aload_n 45 0 (ab_dd tk_ca_init 25 rfl) rfl rfl rfl ?_
  refine x_null 46 (ab_dd tk_ca_init 26 rfl) rfl ?_
  refine t_putPN 49 (ab_dd tk_ca_init 27 rfl) rfl F_ca_34 (by decide) (Nat.le_of_ble_eq_true rfl) hK rfl ?_
  refine x_aload_n 50 0 (ab_dd tk_ca_init 28 rfl) rfl rfl rfl ?_
  refine x_null 51 (ab_dd tk_ca_init 29 rfl) rfl ?_
  refine t_putPN 54 (ab_dd tk_ca_init 30 rfl) rfl F_ca_37 (by decide) (Nat.le_of_ble_eq_true rfl) hK rfl ?_
  exact x_vret (ab_dd tk_ca_init 31 rfl) ⟨rfl, rfl⟩
def X_sd_55 (S : ab_S) : ab_S := (pI (pI (pI (pI (pI S 55 0 (nI 0)) 55 1 (nI 0)) 55 2 (nI 0)) 55 3 (nI 0)) 55 4 (nI 0))
theorem c_X_sd_55 {G : ab_G} {S : ab_S} (hn : sn S = 56) (hK : sK S 55 = .inr 8) : ab_C G 1 M_sd_init [.ref 55] (sw S) (fun v w' => v = none ∧ w' = sw (X_sd_55 S)) := by
  obtain ⟨k, K, I, J, P, n, z⟩ := S
  have hn2 : n = 56 := hn
  subst hn2
  replace hK : K 55 = .inr 8 := hK
  refine x_enter [some (.ref 55)] (by decide) (Nat.le_of_ble_eq_true rfl) rfl (fun v w' h => by obtain ⟨rfl, -⟩ := h; trivial) ?_
  refine x_aload_n 1 0 (ab_dd tk_sd_init 0 rfl) rfl rfl rfl ?_
  refine x_objInit 4 (ab_dd tk_sd_init 1 rfl) rfl (by omega) L_sd_1 O_inst O_code (Nat.le_of_ble_eq_true rfl) ?_
  refine x_aload_n 5 0 (ab_dd tk_sd_init 2 rfl) rfl rfl rfl ?_
  refine x_iconst 6 0 (ab_dd tk_sd_init 3 rfl) rfl (by decide) (x_topn 0 rfl ?_)
  refine t_putI 9 (ab_dd tk_sd_init 4 rfl) rfl F_sd_7 (by decide) (Nat.le_of_ble_eq_true rfl) hK rfl rfl rfl ?_
  refine x_aload_n 10 0 (ab_dd tk_sd_init 5 rfl) rfl rfl rfl ?_
  refine x_iconst 11 0 (ab_dd tk_sd_init 6 rfl) rfl (by decide) (x_topn 0 rfl ?_)
  refine t_putI 14 (ab_dd tk_sd_init 7 rfl) rfl F_sd_13 (by decide) (Nat.le_of_ble_eq_true rfl) hK rfl rfl rfl ?_
  refine x_aload_n 15 0 (ab_dd tk_sd_init 8 rfl) rfl rfl rfl ?_
  refine x_iconst 16 0 (ab_dd tk_sd_init 9 rfl) rfl (by decide) (x_topn 0 rfl ?_)
  refine t_putI 19 (ab_dd tk_sd_init 10 rfl) rfl F_sd_16 (by decide) (Nat.le_of_ble_eq_true rfl) hK rfl rfl rfl ?_
  refine x_aload_n 20 0 (ab_dd tk_sd_init 11 rfl) rfl rfl rfl ?_
  refine x_iconst 21 0 (ab_dd tk_sd_init 12 rfl) rfl (by decide) (x_topn 0 rfl ?_)
  refine t_putI 24 (ab_dd tk_sd_init 13 rfl) rfl F_sd_19 (by decide) (Nat.le_of_ble_eq_true rfl) hK rfl rfl rfl ?_
  refine x_aload_n 25 0 (ab_dd tk_sd_init 14 rfl) rfl rfl rfl ?_
  refine x_iconst 26 0 (ab_dd tk_sd_init 15 rfl) rfl (by decide) (x_topn 0 rfl ?_)
  refine t_putI 29 (ab_dd tk_sd_init 16 rfl) rfl F_sd_22 (by decide) (Nat.le_of_ble_eq_true rfl) hK rfl rfl rfl ?_
  exact x_vret (ab_dd tk_sd_init 17 rfl) ⟨rfl, rfl⟩
def X_sd_56 (S : ab_S) : ab_S := (pI (pI (pI (pI (pI S 56 0 (nI 0)) 56 1 (nI 0)) 56 2 (nI 0)) 56 3 (nI 0)) 56 4 (nI 0))
theorem c_X_sd_56 {G : ab_G} {S : ab_S} (hn : sn S = 57) (hK : sK S 56 = .inr 8) : ab_C G 1 M_sd_init [.ref 56] (sw S) (fun v w' => v = none ∧ w' = sw (X_sd_56 S)) := by
  obtain ⟨k, K, I, J, P, n, z⟩ := S
  have hn2 : n = 57 := hn
  subst hn2
  replace hK : K 56 = .inr 8 := hK
  refine x_enter [some (.ref 56)] (by decide) (Nat.le_of_ble_eq_true rfl) rfl (fun v w' h => by obtain ⟨rfl, -⟩ := h; trivial) ?_
  refine x_aload_n 1 0 (ab_dd tk_sd_init 0 rfl) rfl rfl rfl ?_
  refine x_objInit 4 (ab_dd tk_sd_init 1 rfl) rfl (by omega) L_sd_1 O_inst O_code (Nat.le_of_ble_eq_true rfl) ?_
  refine x_aload_n 5 0 (ab_dd tk_sd_init 2 rfl) rfl rfl rfl ?_
  refine x_iconst 6 0 (ab_dd tk_sd_init 3 rfl) rfl (by decide) (x_topn 0 rfl ?_)
  refine t_putI 9 (ab_dd tk_sd_init 4 rfl) rfl F_sd_7 (by decide) (Nat.le_of_ble_eq_true rfl) hK rfl rfl rfl ?_
  refine x_aload_n 10 0 (ab_dd tk_sd_init 5 rfl) rfl rfl rfl ?_
  refine x_iconst 11 0 (ab_dd tk_sd_init 6 rfl) rfl (by decide) (x_topn 0 rfl ?_)
  refine t_putI 14 (ab_dd tk_sd_init 7 rfl) rfl F_sd_13 (by decide) (Nat.le_of_ble_eq_true rfl) hK rfl rfl rfl ?_
  refine x_aload_n 15 0 (ab_dd tk_sd_init 8 rfl) rfl rfl rfl ?_
  refine x_iconst 16 0 (ab_dd tk_sd_init 9 rfl) rfl (by decide) (x_topn 0 rfl ?_)
  refine t_putI 19 (ab_dd tk_sd_init 10 rfl) rfl F_sd_16 (by decide) (Nat.le_of_ble_eq_true rfl) hK rfl rfl rfl ?_
  refine x_aload_n 20 0 (ab_dd tk_sd_init 11 rfl) rfl rfl rfl ?_
  refine x_iconst 21 0 (ab_dd tk_sd_init 12 rfl) rfl (by decide) (x_topn 0 rfl ?_)
  refine t_putI 24 (ab_dd tk_sd_init 13 rfl) rfl F_sd_19 (by decide) (Nat.le_of_ble_eq_true rfl) hK rfl rfl rfl ?_
  refine x_aload_n 25 0 (ab_dd tk_sd_init 14 rfl) rfl rfl rfl ?_
  refine x_iconst 26 0 (ab_dd tk_sd_init 15 rfl) rfl (by decide) (x_topn 0 rfl ?_)
  refine t_putI 29 (ab_dd tk_sd_init 16 rfl) rfl F_sd_22 (by decide) (Nat.le_of_ble_eq_true rfl) hK rfl rfl rfl ?_
  exact x_vret (ab_dd tk_sd_init 17 rfl) ⟨rfl, rfl⟩
def X_sd_59 (S : ab_S) : ab_S := (pI (pI (pI (pI (pI S 59 0 (nI 0)) 59 1 (nI 0)) 59 2 (nI 0)) 59 3 (nI 0)) 59 4 (nI 0))
theorem c_X_sd_59 {G : ab_G} {S : ab_S} (hn : sn S = 60) (hK : sK S 59 = .inr 8) : ab_C G 1 M_sd_init [.ref 59] (sw S) (fun v w' => v = none ∧ w' = sw (X_sd_59 S)) := by
  obtain ⟨k, K, I, J, P, n, z⟩ := S
  have hn2 : n = 60 := hn
  subst hn2
  replace hK : K 59 = .inr 8 := hK
  refine x_enter [some (.ref 59)] (by decide) (Nat.le_of_ble_eq_true rfl) rfl (fun v w' h => by obtain ⟨rfl, -⟩ := h; trivial) ?_
  refine x_aload_n 1 0 (ab_dd tk_sd_init 0 rfl) rfl rfl rfl ?_
  refine x_objInit 4 (ab_dd tk_sd_init 1 rfl) rfl (by omega) L_sd_1 O_inst O_code (Nat.le_of_ble_eq_true rfl) ?_
  refine x_aload_n 5 0 (ab_dd tk_sd_init 2 rfl) rfl rfl rfl ?_
  refine x_iconst 6 0 (ab_dd tk_sd_init 3 rfl) rfl (by decide) (x_topn 0 rfl ?_)
  refine t_putI 9 (ab_dd tk_sd_init 4 rfl) rfl F_sd_7 (by decide) (Nat.le_of_ble_eq_true rfl) hK rfl rfl rfl ?_
  refine x_aload_n 10 0 (ab_dd tk_sd_init 5 rfl) rfl rfl rfl ?_
  refine x_iconst 11 0 (ab_dd tk_sd_init 6 rfl) rfl (by decide) (x_topn 0 rfl ?_)
  refine t_putI 14 (ab_dd tk_sd_init 7 rfl) rfl F_sd_13 (by decide) (Nat.le_of_ble_eq_true rfl) hK rfl rfl rfl ?_
  refine x_aload_n 15 0 (ab_dd tk_sd_init 8 rfl) rfl rfl rfl ?_
  refine x_iconst 16 0 (ab_dd tk_sd_init 9 rfl) rfl (by decide) (x_topn 0 rfl ?_)
  refine t_putI 19 (ab_dd tk_sd_init 10 rfl) rfl F_sd_16 (by decide) (Nat.le_of_ble_eq_true rfl) hK rfl rfl rfl ?_
  refine x_aload_n 20 0 (ab_dd tk_sd_init 11 rfl) rfl rfl rfl ?_
  refine x_iconst 21 0 (ab_dd tk_sd_init 12 rfl) rfl (by decide) (x_topn 0 rfl ?_)
  refine t_putI 24 (ab_dd tk_sd_init 13 rfl) rfl F_sd_19 (by decide) (Nat.le_of_ble_eq_true rfl) hK rfl rfl rfl ?_
  refine x_aload_n 25 0 (ab_dd tk_sd_init 14 rfl) rfl rfl rfl ?_
  refine x_iconst 26 0 (ab_dd tk_sd_init 15 rfl) rfl (by decide) (x_topn 0 rfl ?_)
  refine t_putI 29 (ab_dd tk_sd_init 16 rfl) rfl F_sd_22 (by decide) (Nat.le_of_ble_eq_true rfl) hK rfl rfl rfl ?_
  exact x_vret (ab_dd tk_sd_init 17 rfl) ⟨rfl, rfl⟩
def X_sd_60 (S : ab_S) : ab_S := (pI (pI (pI (pI (pI S 60 0 (nI 0)) 60 1 (nI 0)) 60 2 (nI 0)) 60 3 (nI 0)) 60 4 (nI 0))
theorem c_X_sd_60 {G : ab_G} {S : ab_S} (hn : sn S = 61) (hK : sK S 60 = .inr 8) : ab_C G 1 M_sd_init [.ref 60] (sw S) (fun v w' => v = none ∧ w' = sw (X_sd_60 S)) := by
  obtain ⟨k, K, I, J, P, n, z⟩ := S
  have hn2 : n = 61 := hn
  subst hn2
  replace hK : K 60 = .inr 8 := hK
  refine x_enter [some (.ref 60)] (by decide) (Nat.le_of_ble_eq_true rfl) rfl (fun v w' h => by obtain ⟨rfl, -⟩ := h; trivial) ?_
  refine x_aload_n 1 0 (ab_dd tk_sd_init 0 rfl) rfl rfl rfl ?_
  refine x_objInit 4 (ab_dd tk_sd_init 1 rfl) rfl (by omega) L_sd_1 O_inst O_code (Nat.le_of_ble_eq_true rfl) ?_
  refine x_aload_n 5 0 (ab_dd tk_sd_init 2 rfl) rfl rfl rfl ?_
  refine x_iconst 6 0 (ab_dd tk_sd_init 3 rfl) rfl (by decide) (x_topn 0 rfl ?_)
  refine t_putI 9 (ab_dd tk_sd_init 4 rfl) rfl F_sd_7 (by decide) (Nat.le_of_ble_eq_true rfl) hK rfl rfl rfl ?_
  refine x_aload_n 10 0 (ab_dd tk_sd_init 5 rfl) rfl rfl rfl ?_
  refine x_iconst 11 0 (ab_dd tk_sd_init 6 rfl) rfl (by decide) (x_topn 0 rfl ?_)
  refine t_putI 14 (ab_dd tk_sd_init 7 rfl) rfl F_sd_13 (by decide) (Nat.le_of_ble_eq_true rfl) hK rfl rfl rfl ?_
  refine x_aload_n 15 0 (ab_dd tk_sd_init 8 rfl) rfl rfl rfl ?_
  refine x_iconst 16 0 (ab_dd tk_sd_init 9 rfl) rfl (by decide) (x_topn 0 rfl ?_)
  refine t_putI 19 (ab_dd tk_sd_init 10 rfl) rfl F_sd_16 (by decide) (Nat.le_of_ble_eq_true rfl) hK rfl rfl rfl ?_
  refine x_aload_n 20 0 (ab_dd tk_sd_init 11 rfl) rfl rfl rfl ?_
  refine x_iconst 21 0 (ab_dd tk_sd_init 12 rfl) rfl (by decide) (x_topn 0 rfl ?_)
  refine t_putI 24 (ab_dd tk_sd_init 13 rfl) rfl F_sd_19 (by decide) (Nat.le_of_ble_eq_true rfl) hK rfl rfl rfl ?_
  refine x_aload_n 25 0 (ab_dd tk_sd_init 14 rfl) rfl rfl rfl ?_
  refine x_iconst 26 0 (ab_dd tk_sd_init 15 rfl) rfl (by decide) (x_topn 0 rfl ?_)
  refine t_putI 29 (ab_dd tk_sd_init 16 rfl) rfl F_sd_22 (by decide) (Nat.le_of_ble_eq_true rfl) hK rfl rfl rfl ?_
  exact x_vret (ab_dd tk_sd_init 17 rfl) ⟨rfl, rfl⟩
def X_sd_61 (S : ab_S) : ab_S := (pI (pI (pI (pI (pI S 61 0 (nI 0)) 61 1 (nI 0)) 61 2 (nI 0)) 61 3 (nI 0)) 61 4 (nI 0))
theorem c_X_sd_61 {G : ab_G} {S : ab_S} (hn : sn S = 62) (hK : sK S 61 = .inr 8) : ab_C G 1 M_sd_init [.ref 61] (sw S) (fun v w' => v = none ∧ w' = sw (X_sd_61 S)) := by
  obtain ⟨k, K, I, J, P, n, z⟩ := S
  have hn2 : n = 62 := hn
  subst hn2
  replace hK : K 61 = .inr 8 := hK
  refine x_enter [some (.ref 61)] (by decide) (Nat.le_of_ble_eq_true rfl) rfl (fun v w' h => by obtain ⟨rfl, -⟩ := h; trivial) ?_
  refine x_aload_n 1 0 (ab_dd tk_sd_init 0 rfl) rfl rfl rfl ?_
  refine x_objInit 4 (ab_dd tk_sd_init 1 rfl) rfl (by omega) L_sd_1 O_inst O_code (Nat.le_of_ble_eq_true rfl) ?_
  refine x_aload_n 5 0 (ab_dd tk_sd_init 2 rfl) rfl rfl rfl ?_
  refine x_iconst 6 0 (ab_dd tk_sd_init 3 rfl) rfl (by decide) (x_topn 0 rfl ?_)
  refine t_putI 9 (ab_dd tk_sd_init 4 rfl) rfl F_sd_7 (by decide) (Nat.le_of_ble_eq_true rfl) hK rfl rfl rfl ?_
  refine x_aload_n 10 0 (ab_dd tk_sd_init 5 rfl) rfl rfl rfl ?_
  refine x_iconst 11 0 (ab_dd tk_sd_init 6 rfl) rfl (by decide) (x_topn 0 rfl ?_)
  refine t_putI 14 (ab_dd tk_sd_init 7 rfl) rfl F_sd_13 (by decide) (Nat.le_of_ble_eq_true rfl) hK rfl rfl rfl ?_
  refine x_aload_n 15 0 (ab_dd tk_sd_init 8 rfl) rfl rfl rfl ?_
  refine x_iconst 16 0 (ab_dd tk_sd_init 9 rfl) rfl (by decide) (x_topn 0 rfl ?_)
  refine t_putI 19 (ab_dd tk_sd_init 10 rfl) rfl F_sd_16 (by decide) (Nat.le_of_ble_eq_true rfl) hK rfl rfl rfl ?_
  refine x_aload_n 20 0 (ab_dd tk_sd_init 11 rfl) rfl rfl rfl ?_
  refine x_iconst 21 0 (ab_dd tk_sd_init 12 rfl) rfl (by decide) (x_topn 0 rfl ?_)
  refine t_putI 24 (ab_dd tk_sd_init 13 rfl) rfl F_sd_19 (by decide) (Nat.le_of_ble_eq_true rfl) hK rfl rfl rfl ?_
  refine x_aload_n 25 0 (ab_dd tk_sd_init 14 rfl) rfl rfl rfl ?_
  refine x_iconst 26 0 (ab_dd tk_sd_init 15 rfl) rfl (by decide) (x_topn 0 rfl ?_)
  refine t_putI 29 (ab_dd tk_sd_init 16 rfl) rfl F_sd_22 (by decide) (Nat.le_of_ble_eq_true rfl) hK rfl rfl rfl ?_
  exact x_vret (ab_dd tk_sd_init 17 rfl) ⟨rfl, rfl⟩
def X_sd_62 (S : ab_S) : ab_S := (pI (pI (pI (pI (pI S 62 0 (nI 0)) 62 1 (nI 0)) 62 2 (nI 0)) 62 3 (nI 0)) 62 4 (nI 0))
theorem c_X_sd_62 {G : ab_G} {S : ab_S} (hn : sn S = 63) (hK : sK S 62 = .inr 8) : ab_C G 1 M_sd_init [.ref 62] (sw S) (fun v w' => v = none ∧ w' = sw (X_sd_62 S)) := by
  obtain ⟨k, K, I, J, P, n, z⟩ := S
  have hn2 : n = 63 := hn
  subst hn2
  replace hK : K 62 = .inr 8 := hK
  refine x_enter [some (.ref 62)] (by decide) (Nat.le_of_ble_eq_true rfl) rfl (fun v w' h => by obtain ⟨rfl, -⟩ := h; trivial) ?_
  refine x_aload_n 1 0 (ab_dd tk_sd_init 0 rfl) rfl rfl rfl ?_
  refine x_objInit 4 (ab_dd tk_sd_init 1 rfl) rfl (by omega) L_sd_1 O_inst O_code (Nat.le_of_ble_eq_true rfl) ?_
  refine x_aload_n 5 0 (ab_dd tk_sd_init 2 rfl) rfl rfl rfl ?_
  refine x_iconst 6 0 (ab_dd tk_sd_init 3 rfl) rfl (by decide) (x_topn 0 rfl ?_)
  refine t_putI 9 (ab_dd tk_sd_init 4 rfl) rfl F_sd_7 (by decide) (Nat.le_of_ble_eq_true rfl) hK rfl rfl rfl ?_
  refine x_aload_n 10 0 (ab_dd tk_sd_init 5 rfl) rfl rfl rfl ?_
  refine x_iconst 11 0 (ab_dd tk_sd_init 6 rfl) rfl (by decide) (x_topn 0 rfl ?_)
  refine t_putI 14 (ab_dd tk_sd_init 7 rfl) rfl F_sd_13 (by decide) (Nat.le_of_ble_eq_true rfl) hK rfl rfl rfl ?_
  refine x_aload_n 15 0 (ab_dd tk_sd_init 8 rfl) rfl rfl rfl ?_
  refine x_iconst 16 0 (ab_dd tk_sd_init 9 rfl) rfl (by decide) (x_topn 0 rfl ?_)
  refine t_putI 19 (ab_dd tk_sd_init 10 rfl) rfl F_sd_16 (by decide) (Nat.le_of_ble_eq_true rfl) hK rfl rfl rfl ?_
  refine x_aload_n 20 0 (ab_dd tk_sd_init 11 rfl) rfl rfl rfl ?_
  refine x_iconst 21 0 (ab_dd tk_sd_init 12 rfl) rfl (by decide) (x_topn 0 rfl ?_)
  refine t_putI 24 (ab_dd tk_sd_init 13 rfl) rfl F_sd_19 (by decide) (Nat.le_of_ble_eq_true rfl) hK rfl rfl rfl ?_
  refine x_aload_n 25 0 (ab_dd tk_sd_init 14 rfl) rfl rfl rfl ?_
  refine x_iconst 26 0 (ab_dd tk_sd_init 15 rfl) rfl (by decide) (x_topn 0 rfl ?_)
  refine t_putI 29 (ab_dd tk_sd_init 16 rfl) rfl F_sd_22 (by decide) (Nat.le_of_ble_eq_true rfl) hK rfl rfl rfl ?_
  exact x_vret (ab_dd tk_sd_init 17 rfl) ⟨rfl, rfl⟩
def X_sd_63 (S : ab_S) : ab_S := (pI (pI (pI (pI (pI S 63 0 (nI 0)) 63 1 (nI 0)) 63 2 (nI 0)) 63 3 (nI 0)) 63 4 (nI 0))
theorem c_X_sd_63 {G : ab_G} {S : ab_S} (hn : sn S = 64) (hK : sK S 63 = .inr 8) : ab_C G 1 M_sd_init [.ref 63] (sw S) (fun v w' => v = none ∧ w' = sw (X_sd_63 S)) := by
  obtain ⟨k, K, I, J, P, n, z⟩ := S
  have hn2 : n = 64 := hn
  subst hn2
  replace hK : K 63 = .inr 8 := hK
  refine x_enter [some (.ref 63)] (by decide) (Nat.le_of_ble_eq_true rfl) rfl (fun v w' h => by obtain ⟨rfl, -⟩ := h; trivial) ?_
  refine x_aload_n 1 0 (ab_dd tk_sd_init 0 rfl) rfl rfl rfl ?_
  refine x_objInit 4 (ab_dd tk_sd_init 1 rfl) rfl (by omega) L_sd_1 O_inst O_code (Nat.le_of_ble_eq_true rfl) ?_
  refine x_aload_n 5 0 (ab_dd tk_sd_init 2 rfl) rfl rfl rfl ?_
  refine x_iconst 6 0 (ab_dd tk_sd_init 3 rfl) rfl (by decide) (x_topn 0 rfl ?_)
  refine t_putI 9 (ab_dd tk_sd_init 4 rfl) rfl F_sd_7 (by decide) (Nat.le_of_ble_eq_true rfl) hK rfl rfl rfl ?_
  refine x_aload_n 10 0 (ab_dd tk_sd_init 5 rfl) rfl rfl rfl ?_
  refine x_iconst 11 0 (ab_dd tk_sd_init 6 rfl) rfl (by decide) (x_topn 0 rfl ?_)
  refine t_putI 14 (ab_dd tk_sd_init 7 rfl) rfl F_sd_13 (by decide) (Nat.le_of_ble_eq_true rfl) hK rfl rfl rfl ?_
  refine x_aload_n 15 0 (ab_dd tk_sd_init 8 rfl) rfl rfl rfl ?_
  refine x_iconst 16 0 (ab_dd tk_sd_init 9 rfl) rfl (by decide) (x_topn 0 rfl ?_)
  refine t_putI 19 (ab_dd tk_sd_init 10 rfl) rfl F_sd_16 (by decide) (Nat.le_of_ble_eq_true rfl) hK rfl rfl rfl ?_
  refine x_aload_n 20 0 (ab_dd tk_sd_init 11 rfl) rfl rfl rfl ?_
  refine x_iconst 21 0 (ab_dd tk_sd_init 12 rfl) rfl (by decide) (x_topn 0 rfl ?_)
  refine t_putI 24 (ab_dd tk_sd_init 13 rfl) rfl F_sd_19 (by decide) (Nat.le_of_ble_eq_true rfl) hK rfl rfl rfl ?_
  refine x_aload_n 25 0 (ab_dd tk_sd_init 14 rfl) rfl rfl rfl ?_
  refine x_iconst 26 0 (ab_dd tk_sd_init 15 rfl) rfl (by decide) (x_topn 0 rfl ?_)
  refine t_putI 29 (ab_dd tk_sd_init 16 rfl) rfl F_sd_22 (by decide) (Nat.le_of_ble_eq_true rfl) hK rfl rfl rfl ?_
  exact x_vret (ab_dd tk_sd_init 17 rfl) ⟨rfl, rfl⟩
def X_sd_64 (S : ab_S) : ab_S := (pI (pI (pI (pI (pI S 64 0 (nI 0)) 64 1 (nI 0)) 64 2 (nI 0)) 64 3 (nI 0)) 64 4 (nI 0))
theorem c_X_sd_64 {G : ab_G} {S : ab_S} (hn : sn S = 65) (hK : sK S 64 = .inr 8) : ab_C G 1 M_sd_init [.ref 64] (sw S) (fun v w' => v = none ∧ w' = sw (X_sd_64 S)) := by
  obtain ⟨k, K, I, J, P, n, z⟩ := S
  have hn2 : n = 65 := hn
  subst hn2
  replace hK : K 64 = .inr 8 := hK
  refine x_enter [some (.ref 64)] (by decide) (Nat.le_of_ble_eq_true rfl) rfl (fun v w' h => by obtain ⟨rfl, -⟩ := h; trivial) ?_
  refine x_aload_n 1 0 (ab_dd tk_sd_init 0 rfl) rfl rfl rfl ?_
  refine x_objInit 4 (ab_dd tk_sd_init 1 rfl) rfl (by omega) L_sd_1 O_inst O_code (Nat.le_of_ble_eq_true rfl) ?_
  refine x_aload_n 5 0 (ab_dd tk_sd_init 2 rfl) rfl rfl rfl ?_
  refine x_iconst 6 0 (ab_dd tk_sd_init 3 rfl) rfl (by decide) (x_topn 0 rfl ?_)
  refine t_putI 9 (ab_dd tk_sd_init 4 rfl) rfl F_sd_7 (by decide) (Nat.le_of_ble_eq_true rfl) hK rfl rfl rfl ?_
  refine x_aload_n 10 0 (ab_dd tk_sd_init 5 rfl) rfl rfl rfl ?_
  refine x_iconst 11 0 (ab_dd tk_sd_init 6 rfl) rfl (by decide) (x_topn 0 rfl ?_)
  refine t_putI 14 (ab_dd tk_sd_init 7 rfl) rfl F_sd_13 (by decide) (Nat.le_of_ble_eq_true rfl) hK rfl rfl rfl ?_
  refine x_aload_n 15 0 (ab_dd tk_sd_init 8 rfl) rfl rfl rfl ?_
  refine x_iconst 16 0 (ab_dd tk_sd_init 9 rfl) rfl (by decide) (x_topn 0 rfl ?_)
  refine t_putI 19 (ab_dd tk_sd_init 10 rfl) rfl F_sd_16 (by decide) (Nat.le_of_ble_eq_true rfl) hK rfl rfl rfl ?_
  refine x_aload_n 20 0 (ab_dd tk_sd_init 11 rfl) rfl rfl rfl ?_
  refine x_iconst 21 0 (ab_dd tk_sd_init 12 rfl) rfl (by decide) (x_topn 0 rfl ?_)
  refine t_putI 24 (ab_dd tk_sd_init 13 rfl) rfl F_sd_19 (by decide) (Nat.le_of_ble_eq_true rfl) hK rfl rfl rfl ?_
  refine x_aload_n 25 0 (ab_dd tk_sd_init 14 rfl) rfl rfl rfl ?_
  refine x_iconst 26 0 (ab_dd tk_sd_init 15 rfl) rfl (by decide) (x_topn 0 rfl ?_)
  refine t_putI 29 (ab_dd tk_sd_init 16 rfl) rfl F_sd_22 (by decide) (Nat.le_of_ble_eq_true rfl) hK rfl rfl rfl ?_
  exact x_vret (ab_dd tk_sd_init 17 rfl) ⟨rfl, rfl⟩
def X_sd_65 (S : ab_S) : ab_S := (pI (pI (pI (pI (pI S 65 0 (nI 0)) 65 1 (nI 0)) 65 2 (nI 0)) 65 3 (nI 0)) 65 4 (nI 0))
theorem c_X_sd_65 {G : ab_G} {S : ab_S} (hn : sn S = 66) (hK : sK S 65 = .inr 8) : ab_C G 1 M_sd_init [.ref 65] (sw S) (fun v w' => v = none ∧ w' = sw (X_sd_65 S)) := by
  obtain ⟨k, K, I, J, P, n, z⟩ := S
  have hn2 : n = 66 := hn
  subst hn2
  replace hK : K 65 = .inr 8 := hK
  refine x_enter [some (.ref 65)] (by decide) (Nat.le_of_ble_eq_true rfl) rfl (fun v w' h => by obtain ⟨rfl, -⟩ := h; trivial) ?_
  refine x_aload_n 1 0 (ab_dd tk_sd_init 0 rfl) rfl rfl rfl ?_
  refine x_objInit 4 (ab_dd tk_sd_init 1 rfl) rfl (by omega) L_sd_1 O_inst O_code (Nat.le_of_ble_eq_true rfl) ?_
  refine x_aload_n 5 0 (ab_dd tk_sd_init 2 rfl) rfl rfl rfl ?_
  refine x_iconst 6 0 (ab_dd tk_sd_init 3 rfl) rfl (by decide) (x_topn 0 rfl ?_)
  refine t_putI 9 (ab_dd tk_sd_init 4 rfl) rfl F_sd_7 (by decide) (Nat.le_of_ble_eq_true rfl) hK rfl rfl rfl ?_
  refine x_aload_n 10 0 (ab_dd tk_sd_init 5 rfl) rfl rfl rfl ?_
  refine x_iconst 11 0 (ab_dd tk_sd_init 6 rfl) rfl (by decide) (x_topn 0 rfl ?_)
  refine t_putI 14 (ab_dd tk_sd_init 7 rfl) rfl F_sd_13 (by decide) (Nat.le_of_ble_eq_true rfl) hK rfl rfl rfl ?_
  refine x_aload_n 15 0 (ab_dd tk_sd_init 8 rfl) rfl rfl rfl ?_
  refine x_iconst 16 0 (ab_dd tk_sd_init 9 rfl) rfl (by decide) (x_topn 0 rfl ?_)
  refine t_putI 19 (ab_dd tk_sd_init 10 rfl) rfl F_sd_16 (by decide) (Nat.le_of_ble_eq_true rfl) hK rfl rfl rfl ?_
  refine x_aload_n 20 0 (ab_dd tk_sd_init 11 rfl) rfl rfl rfl ?_
  refine x_iconst 21 0 (ab_dd tk_sd_init 12 rfl) rfl (by decide) (x_topn 0 rfl ?_)
  refine t_putI 24 (ab_dd tk_sd_init 13 rfl) rfl F_sd_19 (by decide) (Nat.le_of_ble_eq_true rfl) hK rfl rfl rfl ?_
  refine x_aload_n 25 0 (ab_dd tk_sd_init 14 rfl) rfl rfl rfl ?_
  refine x_iconst 26 0 (ab_dd tk_sd_init 15 rfl) rfl (by decide) (x_topn 0 rfl ?_)
  refine t_putI 29 (ab_dd tk_sd_init 16 rfl) rfl F_sd_22 (by decide) (Nat.le_of_ble_eq_true rfl) hK rfl rfl rfl ?_
  exact x_vret (ab_dd tk_sd_init 17 rfl) ⟨rfl, rfl⟩
def X_sd_66 (S : ab_S) : ab_S := (pI (pI (pI (pI (pI S 66 0 (nI 0)) 66 1 (nI 0)) 66 2 (nI 0)) 66 3 (nI 0)) 66 4 (nI 0))
theorem c_X_sd_66 {G : ab_G} {S : ab_S} (hn : sn S = 67) (hK : sK S 66 = .inr 8) : ab_C G 1 M_sd_init [.ref 66] (sw S) (fun v w' => v = none ∧ w' = sw (X_sd_66 S)) := by
  obtain ⟨k, K, I, J, P, n, z⟩ := S
  have hn2 : n = 67 := hn
  subst hn2
  replace hK : K 66 = .inr 8 := hK
  refine x_enter [some (.ref 66)] (by decide) (Nat.le_of_ble_eq_true rfl) rfl (fun v w' h => by obtain ⟨rfl, -⟩ := h; trivial) ?_
  refine x_aload_n 1 0 (ab_dd tk_sd_init 0 rfl) rfl rfl rfl ?_
  refine x_objInit 4 (ab_dd tk_sd_init 1 rfl) rfl (by omega) L_sd_1 O_inst O_code (Nat.le_of_ble_eq_true rfl) ?_
  refine x_aload_n 5 0 (ab_dd tk_sd_init 2 rfl) rfl rfl rfl ?_
  refine x_iconst 6 0 (ab_dd tk_sd_init 3 rfl) rfl (by decide) (x_topn 0 rfl ?_)
  refine t_putI 9 (ab_dd tk_sd_init 4 rfl) rfl F_sd_7 (by decide) (Nat.le_of_ble_eq_true rfl) hK rfl rfl rfl ?_
  refine x_aload_n 10 0 (ab_dd tk_sd_init 5 rfl) rfl rfl rfl ?_
  refine x_iconst 11 0 (ab_dd tk_sd_init 6 rfl) rfl (by decide) (x_topn 0 rfl ?_)
  refine t_putI 14 (ab_dd tk_sd_init 7 rfl) rfl F_sd_13 (by decide) (Nat.le_of_ble_eq_true rfl) hK rfl rfl rfl ?_
  refine x_aload_n 15 0 (ab_dd tk_sd_init 8 rfl) rfl rfl rfl ?_
  refine x_iconst 16 0 (ab_dd tk_sd_init 9 rfl) rfl (by decide) (x_topn 0 rfl ?_)
  refine t_putI 19 (ab_dd tk_sd_init 10 rfl) rfl F_sd_16 (by decide) (Nat.le_of_ble_eq_true rfl) hK rfl rfl rfl ?_
  refine x_aload_n 20 0 (ab_dd tk_sd_init 11 rfl) rfl rfl rfl ?_
  refine x_iconst 21 0 (ab_dd tk_sd_init 12 rfl) rfl (by decide) (x_topn 0 rfl ?_)
  refine t_putI 24 (ab_dd tk_sd_init 13 rfl) rfl F_sd_19 (by decide) (Nat.le_of_ble_eq_true rfl) hK rfl rfl rfl ?_
  refine x_aload_n 25 0 (ab_dd tk_sd_init 14 rfl) rfl rfl rfl ?_
  refine x_iconst 26 0 (ab_dd tk_sd_init 15 rfl) rfl (by decide) (x_topn 0 rfl ?_)
  refine t_putI 29 (ab_dd tk_sd_init 16 rfl) rfl F_sd_22 (by decide) (Nat.le_of_ble_eq_true rfl) hK rfl rfl rfl ?_
  exact x_vret (ab_dd tk_sd_init 17 rfl) ⟨rfl, rfl⟩
def X_sd_67 (S : ab_S) : ab_S := (pI (pI (pI (pI (pI S 67 0 (nI 0)) 67 1 (nI 0)) 67 2 (nI 0)) 67 3 (nI 0)) 67 4 (nI 0))
theorem c_X_sd_67 {G : ab_G} {S : ab_S} (hn : sn S = 68) (hK : sK S 67 = .inr 8) : ab_C G 1 M_sd_init [.ref 67] (sw S) (fun v w' => v = none ∧ w' = sw (X_sd_67 S)) := by
  obtain ⟨k, K, I, J, P, n, z⟩ := S
  have hn2 : n = 68 := hn
  subst hn2
  replace hK : K 67 = .inr 8 := hK
  refine x_enter [some (.ref 67)] (by decide) (Nat.le_of_ble_eq_true rfl) rfl (fun v w' h => by obtain ⟨rfl, -⟩ := h; trivial) ?_
  refine x_aload_n 1 0 (ab_dd tk_sd_init 0 rfl) rfl rfl rfl ?_
  refine x_objInit 4 (ab_dd tk_sd_init 1 rfl) rfl (by omega) L_sd_1 O_inst O_code (Nat.le_of_ble_eq_true rfl) ?_
  refine x_aload_n 5 0 (ab_dd tk_sd_init 2 rfl) rfl rfl rfl ?_
  refine x_iconst 6 0 (ab_dd tk_sd_init 3 rfl) rfl (by decide) (x_topn 0 rfl ?_)
  refine t_putI 9 (ab_dd tk_sd_init 4 rfl) rfl F_sd_7 (by decide) (Nat.le_of_ble_eq_true rfl) hK rfl rfl rfl ?_
  refine x_aload_n 10 0 (ab_dd tk_sd_init 5 rfl) rfl rfl rfl ?_
  refine x_iconst 11 0 (ab_dd tk_sd_init 6 rfl) rfl (by decide) (x_topn 0 rfl ?_)
  refine t_putI 14 (ab_dd tk_sd_init 7 rfl) rfl F_sd_13 (by decide) (Nat.le_of_ble_eq_true rfl) hK rfl rfl rfl ?_
  refine x_aload_n 15 0 (ab_dd tk_sd_init 8 rfl) rfl rfl rfl ?_
  refine x_iconst 16 0 (ab_dd tk_sd_init 9 rfl) rfl (by decide) (x_topn 0 rfl ?_)
  refine t_putI 19 (ab_dd tk_sd_init 10 rfl) rfl F_sd_16 (by decide) (Nat.le_of_ble_eq_true rfl) hK rfl rfl rfl ?_
  refine x_aload_n 20 0 (ab_dd tk_sd_init 11 rfl) rfl rfl rfl ?_
  refine x_iconst 21 0 (ab_dd tk_sd_init 12 rfl) rfl (by decide) (x_topn 0 rfl ?_)
  refine t_putI 24 (ab_dd tk_sd_init 13 rfl) rfl F_sd_19 (by decide) (Nat.le_of_ble_eq_true rfl) hK rfl rfl rfl ?_
  refine x_aload_n 25 0 (ab_dd tk_sd_init 14 rfl) rfl rfl rfl ?_
  refine x_iconst 26 0 (ab_dd tk_sd_init 15 rfl) rfl (by decide) (x_topn 0 rfl ?_)
  refine t_putI 29 (ab_dd tk_sd_init 16 rfl) rfl F_sd_22 (by decide) (Nat.le_of_ble_eq_true rfl) hK rfl rfl rfl ?_
  exact x_vret (ab_dd tk_sd_init 17 rfl) ⟨rfl, rfl⟩
def X_sd_68 (S : ab_S) : ab_S := (pI (pI (pI (pI (pI S 68 0 (nI 0)) 68 1 (nI 0)) 68 2 (nI 0)) 68 3 (nI 0)) 68 4 (nI 0))
theorem c_X_sd_68 {G : ab_G} {S : ab_S} (hn : sn S = 69) (hK : sK S 68 = .inr 8) : ab_C G 1 M_sd_init [.ref 68] (sw S) (fun v w' => v = none ∧ w' = sw (X_sd_68 S)) := by
  obtain ⟨k, K, I, J, P, n, z⟩ := S
  have hn2 : n = 69 := hn
  subst hn2
  replace hK : K 68 = .inr 8 := hK
  refine x_enter [some (.ref 68)] (by decide) (Nat.le_of_ble_eq_true rfl) rfl (fun v w' h => by obtain ⟨rfl, -⟩ := h; trivial) ?_
  refine x_aload_n 1 0 (ab_dd tk_sd_init 0 rfl) rfl rfl rfl ?_
  refine x_objInit 4 (ab_dd tk_sd_init 1 rfl) rfl (by omega) L_sd_1 O_inst O_code (Nat.le_of_ble_eq_true rfl) ?_
  refine x_aload_n 5 0 (ab_dd tk_sd_init 2 rfl) rfl rfl rfl ?_
  refine x_iconst 6 0 (ab_dd tk_sd_init 3 rfl) rfl (by decide) (x_topn 0 rfl ?_)
  refine t_putI 9 (ab_dd tk_sd_init 4 rfl) rfl F_sd_7 (by decide) (Nat.le_of_ble_eq_true rfl) hK rfl rfl rfl ?_
  refine x_aload_n 10 0 (ab_dd tk_sd_init 5 rfl) rfl rfl rfl ?_
  refine x_iconst 11 0 (ab_dd tk_sd_init 6 rfl) rfl (by decide) (x_topn 0 rfl ?_)
  refine t_putI 14 (ab_dd tk_sd_init 7 rfl) rfl F_sd_13 (by decide) (Nat.le_of_ble_eq_true rfl) hK rfl rfl rfl ?_
  refine x_aload_n 15 0 (ab_dd tk_sd_init 8 rfl) rfl rfl rfl ?_
  refine x_iconst 16 0 (ab_dd tk_sd_init 9 rfl) rfl (by decide) (x_topn 0 rfl ?_)
  refine t_putI 19 (ab_dd tk_sd_init 10 rfl) rfl F_sd_16 (by decide) (Nat.le_of_ble_eq_true rfl) hK rfl rfl rfl ?_
  refine x_aload_n 20 0 (ab_dd tk_sd_init 11 rfl) rfl rfl rfl ?_
  refine x_iconst 21 0 (ab_dd tk_sd_init 12 rfl) rfl (by decide) (x_topn 0 rfl ?_)
  refine t_putI 24 (ab_dd tk_sd_init 13 rfl) rfl F_sd_19 (by decide) (Nat.le_of_ble_eq_true rfl) hK rfl rfl rfl ?_
  refine x_aload_n 25 0 (ab_dd tk_sd_init 14 rfl) rfl rfl rfl ?_
  refine x_iconst 26 0 (ab_dd tk_sd_init 15 rfl) rfl (by decide) (x_topn 0 rfl ?_)
  refine t_putI 29 (ab_dd tk_sd_init 16 rfl) rfl F_sd_22 (by decide) (Nat.le_of_ble_eq_true rfl) hK rfl rfl rfl ?_
  exact x_vret (ab_dd tk_sd_init 17 rfl) ⟨rfl, rfl⟩
def tb_pa_init : List (Nat × Instr × Nat) := [(0, .aload_n 0, 1), (1, .invokespecial 3, 3), (4, .aload_n 0, 1), (5, .bipush 10, 2), (7, .anewarray 9, 3), (10, .putfield 11, 3), (13, .aload_n 0, 1), (14, .iconst 0, 1), (15, .putfield 17, 3), (18, .aload_n 0, 1), (19, .iconst 0, 1), (20, .putfield 21, 3), (23, .iconst 0, 1), (24, .istore_n 1, 1), (25, .iload_n 1, 1), (26, .aload_n 0, 1), (27, .getfield 11, 3), (30, .arraylength, 1), (31, .if_icmp .ge 22, 3), (34, .aload_n 0, 1), (35, .getfield 11, 3), (38, .iload_n 1, 1), (39, .new 9, 3), (42, .dup, 1), (43, .invokespecial 24, 3), (46, .aastore, 1), (47, .iinc 1 1, 3), (50, .goto (-25), 3), (53, .return_, 1)]
theorem tk_pa_init : ∀ q ∈ tb_pa_init, decode M_pa_init.2.1 q.1 = .ok q.2 := by decide +kernel
def X_pa_57 (S : ab_S) : ab_S := (pP (X_sd_68 (pN (pP (X_sd_67 (pN (pP (X_sd_66 (pN (pP (X_sd_65 (pN (pP (X_sd_64 (pN (pP (X_sd_63 (pN (pP (X_sd_62 (pN (pP (X_sd_61 (pN (pP (X_sd_60 (pN (pP (X_sd_59 (pN (pI (pI (pP (pN S (.inl (.object "SeasonSeat$Stand", 10)) 10) 57 0 (some 58)) 57 1 (nI 0)) 57 2 (nI 0)) (.inr 8) 5)) 58 0 (some 59)) (.inr 8) 5)) 58 1 (some 60)) (.inr 8) 5)) 58 2 (some 61)) (.inr 8) 5)) 58 3 (some 62)) (.inr 8) 5)) 58 4 (some 63)) (.inr 8) 5)) 58 5 (some 64)) (.inr 8) 5)) 58 6 (some 65)) (.inr 8) 5)) 58 7 (some 66)) (.inr 8) 5)) 58 8 (some 67)) (.inr 8) 5)) 58 9 (some 68))
theorem c_X_pa_57 {G : ab_G} {S : ab_S} (hn : sn S = 58) (hK : sK S 57 = .inr 4) : ab_C G 2 M_pa_init [.ref 57] (sw S) (fun v w' => v = none ∧ w' = sw (X_pa_57 S)) := by
  obtain ⟨k, K, I, J, P, n, z⟩ := S
  have hn2 : n = 58 := hn
  subst hn2
  replace hK : K 57 = .inr 4 := hK
  refine x_enter [some (.ref 57), none] (by decide) (Nat.le_of_ble_eq_true rfl) rfl (fun v w' h => by obtain ⟨rfl, -⟩ := h; trivial) ?_
  refine x_aload_n 1 0 (ab_dd tk_pa_init 0 rfl) rfl rfl rfl ?_
  refine x_objInit 4 (ab_dd tk_pa_init 1 rfl) rfl (by omega) L_pa_3 O_inst O_code (Nat.le_of_ble_eq_true rfl) ?_
  refine x_aload_n 5 0 (ab_dd tk_pa_init 2 rfl) rfl rfl rfl ?_
  refine x_bipush 7 10 (ab_dd tk_pa_init 3 rfl) rfl (by decide) (x_topn 10 rfl ?_)
  refine t_anew 10 6 10 (ab_dd tk_pa_init 4 rfl) rfl (Nat.le_of_ble_eq_true rfl) rfl (by decide) Q_pa_9 rfl (by decide) (x_topR 58 rfl ?_)
  refine t_putPF 13 (ab_dd tk_pa_init 5 rfl) rfl F_pa_11 rfl (no_nest (by decide +kernel)) (by decide) (Nat.le_of_ble_eq_true rfl) hK rfl ?_
  refine x_aload_n 14 0 (ab_dd tk_pa_init 6 rfl) rfl rfl rfl ?_
  refine x_iconst 15 0 (ab_dd tk_pa_init 7 rfl) rfl (by decide) (x_topn 0 rfl ?_)
  refine t_putI 18 (ab_dd tk_pa_init 8 rfl) rfl F_pa_17 (by decide) (Nat.le_of_ble_eq_true rfl) hK rfl rfl rfl ?_
  refine x_aload_n 19 0 (ab_dd tk_pa_init 9 rfl) rfl rfl rfl ?_
  refine x_iconst 20 0 (ab_dd tk_pa_init 10 rfl) rfl (by decide) (x_topn 0 rfl ?_)
  refine t_putI 23 (ab_dd tk_pa_init 11 rfl) rfl F_pa_21 (by decide) (Nat.le_of_ble_eq_true rfl) hK rfl rfl rfl ?_
  refine x_iconst 24 0 (ab_dd tk_pa_init 12 rfl) rfl (by decide) (x_topn 0 rfl ?_)
  refine x_istore_n 25 [some (.ref 57), some (.int (nI 0))] 1 (ab_dd tk_pa_init 13 rfl) rfl rfl (by decide) rfl ?_
  refine x_iload_n 26 1 (ab_dd tk_pa_init 14 rfl) rfl rfl rfl ?_
  refine x_aload_n 27 0 (ab_dd tk_pa_init 15 rfl) rfl rfl rfl ?_
  refine t_getP 30 58 (ab_dd tk_pa_init 16 rfl) rfl F_pa_11 (by decide) (Nat.le_of_ble_eq_true rfl) hK rfl rfl ?_
  refine t_alen 31 6 (ab_dd tk_pa_init 17 rfl) rfl (by decide) (Nat.le_of_ble_eq_true rfl) rfl rfl ?_
  refine x_icmp_ge_f 34 (ab_dd tk_pa_init 18 rfl) rfl 53 (by decide) (fun z => absurd ((nI_leI (a := 10) (b := 0) (by omega) (by omega)).mp z) (show ¬ (10 ≤ 0) by omega)) ?_
  refine x_aload_n 35 0 (ab_dd tk_pa_init 19 rfl) rfl rfl rfl ?_
  refine t_getP 38 58 (ab_dd tk_pa_init 20 rfl) rfl F_pa_11 (by decide) (Nat.le_of_ble_eq_true rfl) hK rfl rfl ?_
  refine x_iload_n 39 1 (ab_dd tk_pa_init 21 rfl) rfl rfl rfl ?_
  refine t_newO (ci := 8) 42 (ab_dd tk_pa_init 22 rfl) rfl (Nat.le_of_ble_eq_true rfl) rfl Q_pa_9 N_sd.1 N_sd.2 (x_topR 59 rfl ?_)
  refine x_dup 43 (ab_dd tk_pa_init 23 rfl) rfl rfl ?_
  refine x_callI 46 M_sd_init 1 0 [] (ab_dd tk_pa_init 24 rfl) rfl (by first | decide | omega) K_sd_init rfl rfl V_sd_init L_pa_24 rfl (Nat.le_of_ble_eq_true rfl) (c_X_sd_59 rfl rfl) (fun v1 w1 h1 => ?_)
  obtain ⟨rfl, rfl⟩ := h1
  refine t_aast 47 6 0 (ab_dd tk_pa_init 25 rfl) rfl (by decide) (Nat.le_of_ble_eq_true rfl) rfl rfl (by decide) (Nat.le_of_ble_eq_true rfl) rfl rfl rfl (by omega) (by decide) ?_
  refine xn_iinc 50 1 (fun y => [some (.ref 57), some (.int y)]) 1 (ab_dd tk_pa_init 26 rfl) rfl (by decide) rfl (fun _ => rfl) (by decide) ?_
  refine x_goto 25 (ab_dd tk_pa_init 27 rfl) (by decide) ?_
  refine x_iload_n 26 1 (ab_dd tk_pa_init 14 rfl) rfl rfl rfl ?_
  refine x_aload_n 27 0 (ab_dd tk_pa_init 15 rfl) rfl rfl rfl ?_
  refine t_getP 30 58 (ab_dd tk_pa_init 16 rfl) rfl F_pa_11 (by decide) (Nat.le_of_ble_eq_true rfl) hK rfl rfl ?_
  refine t_alen 31 6 (ab_dd tk_pa_init 17 rfl) rfl (by decide) (Nat.le_of_ble_eq_true rfl) rfl rfl ?_
  refine x_icmp_ge_f 34 (ab_dd tk_pa_init 18 rfl) rfl 53 (by decide) (fun z => absurd ((nI_leI (a := 10) (b := 1) (by omega) (by omega)).mp z) (show ¬ (10 ≤ 1) by omega)) ?_
  refine x_aload_n 35 0 (ab_dd tk_pa_init 19 rfl) rfl rfl rfl ?_
  refine t_getP 38 58 (ab_dd tk_pa_init 20 rfl) rfl F_pa_11 (by decide) (Nat.le_of_ble_eq_true rfl) hK rfl rfl ?_
  refine x_iload_n 39 1 (ab_dd tk_pa_init 21 rfl) rfl rfl rfl ?_
  refine t_newO (ci := 8) 42 (ab_dd tk_pa_init 22 rfl) rfl (Nat.le_of_ble_eq_true rfl) rfl Q_pa_9 N_sd.1 N_sd.2 (x_topR 60 rfl ?_)
  refine x_dup 43 (ab_dd tk_pa_init 23 rfl) rfl rfl ?_
  refine x_callI 46 M_sd_init 1 0 [] (ab_dd tk_pa_init 24 rfl) rfl (by first | decide | omega) K_sd_init rfl rfl V_sd_init L_pa_24 rfl (Nat.le_of_ble_eq_true rfl) (c_X_sd_60 rfl rfl) (fun v1 w1 h1 => ?_)
  obtain ⟨rfl, rfl⟩ := h1
  refine t_aast 47 6 1 (ab_dd tk_pa_init 25 rfl) rfl (by decide) (Nat.le_of_ble_eq_true rfl) rfl rfl (by decide) (Nat.le_of_ble_eq_true rfl) rfl rfl rfl (by omega) (by decide) ?_
  refine xn_iinc 50 1 (fun y => [some (.ref 57), some (.int y)]) 2 (ab_dd tk_pa_init 26 rfl) rfl (by decide) rfl (fun _ => rfl) (by decide) ?_
  refine x_goto 25 (ab_dd tk_pa_init 27 rfl) (by decide) ?_
  refine x_iload_n 26 1 (ab_dd tk_pa_init 14 rfl) rfl rfl rfl ?_
  refine x_aload_n 27 0 (ab_dd tk_pa_init 15 rfl) rfl rfl rfl ?_
  refine t_getP 30 58 (ab_dd tk_pa_init 16 rfl) rfl F_pa_11 (by decide) (Nat.le_of_ble_eq_true rfl) hK rfl rfl ?_
  refine t_alen 31 6 (ab_dd tk_pa_init 17 rfl) rfl (by decide) (Nat.le_of_ble_eq_true rfl) rfl rfl ?_
  refine x_icmp_ge_f 34 (ab_dd tk_pa_init 18 rfl) rfl 53 (by decide) (fun z => absurd ((nI_leI (a := 10) (b := 2) (by omega) (by omega)).mp z) (show ¬ (10 ≤ 2) by omega)) ?_
  refine x_aload_n 35 0 (ab_dd tk_pa_init 19 rfl) rfl rfl rfl ?_
  refine t_getP 38 58 (ab_dd tk_pa_init 20 rfl) rfl F_pa_11 (by decide) (Nat.le_of_ble_eq_true rfl) hK rfl rfl ?_
  refine x_iload_n 39 1 (ab_dd tk_pa_init 21 rfl) rfl rfl rfl ?_
  refine t_newO (ci := 8) 42 (ab_dd tk_pa_init 22 rfl) rfl (Nat.le_of_ble_eq_true rfl) rfl Q_pa_9 N_sd.1 N_sd.2 (x_topR 61 rfl ?_)
  refine x_dup 43 (ab_dd tk_pa_init 23 rfl) rfl rfl ?_
  refine x_callI 46 M_sd_init 1 0 [] (ab_dd tk_pa_init 24 rfl) rfl (by first | decide | omega) K_sd_init rfl rfl V_sd_init L_pa_24 rfl (Nat.le_of_ble_eq_true rfl) (c_X_sd_61 rfl rfl) (fun v1 w1 h1 => ?_)
  obtain ⟨rfl, rfl⟩ := h1
  refine t_aast 47 6 2 (ab_dd tk_pa_init 25 rfl) rfl (by decide) (Nat.le_of_ble_eq_true rfl) rfl rfl (by decide) (Nat.le_of_ble_eq_true rfl) rfl rfl rfl (by omega) (by decide) ?_
  refine xn_iinc 50 1 (fun y => [some (.ref 57), some (.int y)]) 3 (ab_dd tk_pa_init 26 rfl) rfl (by decide) rfl (fun _ => rfl) (by decide) ?_
  refine x_goto 25 (ab_dd tk_pa_init 27 rfl) (by decide) ?_
  refine x_iload_n 26 1 (ab_dd tk_pa_init 14 rfl) rfl rfl rfl ?_
  refine x_aload_n 27 0 (ab_dd tk_pa_init 15 rfl) rfl rfl rfl ?_
  refine t_getP 30 58 (ab_dd tk_pa_init 16 rfl) rfl F_pa_11 (by decide) (Nat.le_of_ble_eq_true rfl) hK rfl rfl ?_
  refine t_alen 31 6 (ab_dd tk_pa_init 17 rfl) rfl (by decide) (Nat.le_of_ble_eq_true rfl) rfl rfl ?_
  refine x_icmp_ge_f 34 (ab_dd tk_pa_init 18 rfl) rfl 53 (by decide) (fun z => absurd ((nI_leI (a := 10) (b := 3) (by omega) (by omega)).mp z) (show ¬ (10 ≤ 3) by omega)) ?_
  refine x_aload_n 35 0 (ab_dd tk_pa_init 19 rfl) rfl rfl rfl ?_
  refine t_getP 38 58 (ab_dd tk_pa_init 20 rfl) rfl F_pa_11 (by decide) (Nat.le_of_ble_eq_true rfl) hK rfl rfl ?_
  refine x_iload_n 39 1 (ab_dd tk_pa_init 21 rfl) rfl rfl rfl ?_
  refine t_newO (ci := 8) 42 (ab_dd tk_pa_init 22 rfl) rfl (Nat.le_of_ble_eq_true rfl) rfl Q_pa_9 N_sd.1 N_sd.2 (x_topR 62 rfl ?_)
  refine x_dup 43 (ab_dd tk_pa_init 23 rfl) rfl rfl ?_
  refine x_callI 46 M_sd_init 1 0 [] (ab_dd tk_pa_init 24 rfl) rfl (by first | decide | omega) K_sd_init rfl rfl V_sd_init L_pa_24 rfl (Nat.le_of_ble_eq_true rfl) (c_X_sd_62 rfl rfl) (fun v1 w1 h1 => ?_)
  obtain ⟨rfl, rfl⟩ := h1
  refine t_aast 47 6 3 (ab_dd tk_pa_init 25 rfl) rfl (by decide) (Nat.le_of_ble_eq_true rfl) rfl rfl (by decide) (Nat.le_of_ble_eq_true rfl) rfl rfl rfl (by omega) (by decide) ?_
  refine xn_iinc 50 1 (fun y => [some (.ref 57), some (.int y)]) 4 (ab_dd tk_pa_init 26 rfl) rfl (by decide) rfl (fun _ => rfl) (by decide) ?_
  refine x_goto 25 (ab_dd tk_pa_init 27 rfl) (by decide) ?_
  refine x_iload_n 26 1 (ab_dd tk_pa_init 14 rfl) rfl rfl rfl ?_
  refine x_aload_n 27 0 (ab_dd tk_pa_init 15 rfl) rfl rfl rfl ?_
  refine t_getP 30 58 (ab_dd tk_pa_init 16 rfl) rfl F_pa_11 (by decide) (Nat.le_of_ble_eq_true rfl) hK rfl rfl ?_
  refine t_alen 31 6 (ab_dd tk_pa_init 17 rfl) rfl (by decide) (Nat.le_of_ble_eq_true rfl) rfl rfl ?_
  refine x_icmp_ge_f 34 (ab_dd tk_pa_init 18 rfl) rfl 53 (by decide) (fun z => absurd ((nI_leI (a := 10) (b := 4) (by omega) (by omega)).mp z) (show ¬ (10 ≤ 4) by omega)) ?_
  refine x_aload_n 35 0 (ab_dd tk_pa_init 19 rfl) rfl rfl rfl ?_
  refine t_getP 38 58 (ab_dd tk_pa_init 20 rfl) rfl F_pa_11 (by decide) (Nat.le_of_ble_eq_true rfl) hK rfl rfl ?_
  refine x_iload_n 39 1 (ab_dd tk_pa_init 21 rfl) rfl rfl rfl ?_
  refine t_newO (ci := 8) 42 (ab_dd tk_pa_init 22 rfl) rfl (Nat.le_of_ble_eq_true rfl) rfl Q_pa_9 N_sd.1 N_sd.2 (x_topR 63 rfl ?_)
  refine x_dup 43 (ab_dd tk_pa_init 23 rfl) rfl rfl ?_
  refine x_callI 46 M_sd_init 1 0 [] (ab_dd tk_pa_init 24 rfl) rfl (by first | decide | omega) K_sd_init rfl rfl V_sd_init L_pa_24 rfl (Nat.le_of_ble_eq_true rfl) (c_X_sd_63 rfl rfl) (fun v1 w1 h1 => ?_)
  obtain ⟨rfl, rfl⟩ := h1
  refine t_aast 47 6 4 (ab_dd tk_pa_init 25 rfl) rfl (by decide) (Nat.le_of_ble_eq_true rfl) rfl rfl (by decide) (Nat.le_of_ble_eq_true rfl) rfl rfl rfl (by omega) (by decide) ?_
  refine xn_iinc 50 1 (fun y => [some (.ref 57), some (.int y)]) 5 (ab_dd tk_pa_init 26 rfl) rfl (by decide) rfl (fun _ => rfl) (by decide) ?_
  refine x_goto 25 (ab_dd tk_pa_init 27 rfl) (by decide) ?_
  refine x_iload_n 26 1 (ab_dd tk_pa_init 14 rfl) rfl rfl rfl ?_
  refine x_aload_n 27 0 (ab_dd tk_pa_init 15 rfl) rfl rfl rfl ?_
  refine t_getP 30 58 (ab_dd tk_pa_init 16 rfl) rfl F_pa_11 (by decide) (Nat.le_of_ble_eq_true rfl) hK rfl rfl ?_
  refine t_alen 31 6 (ab_dd tk_pa_init 17 rfl) rfl (by decide) (Nat.le_of_ble_eq_true rfl) rfl rfl ?_
  refine x_icmp_ge_f 34 (ab_dd tk_pa_init 18 rfl) rfl 53 (by decide) (fun z => absurd ((nI_leI (a := 10) (b := 5) (by omega) (by omega)).mp z) (show ¬ (10 ≤ 5) by omega)) ?_
  refine x_aload_n 35 0 (ab_dd tk_pa_init 19 rfl) rfl rfl rfl ?_
  refine t_getP 38 58 (ab_dd tk_pa_init 20 rfl) rfl F_pa_11 (by decide) (Nat.le_of_ble_eq_true rfl) hK rfl rfl ?_
  refine x_iload_n 39 1 (ab_dd tk_pa_init 21 rfl) rfl rfl rfl ?_
  refine t_newO (ci := 8) 42 (ab_dd tk_pa_init 22 rfl) rfl (Nat.le_of_ble_eq_true rfl) rfl Q_pa_9 N_sd.1 N_sd.2 (x_topR 64 rfl ?_)
  refine x_dup 43 (ab_dd tk_pa_init 23 rfl) rfl rfl ?_
  refine x_callI 46 M_sd_init 1 0 [] (ab_dd tk_pa_init 24 rfl) rfl (by first | decide | omega) K_sd_init rfl rfl V_sd_init L_pa_24 rfl (Nat.le_of_ble_eq_true rfl) (c_X_sd_64 rfl rfl) (fun v1 w1 h1 => ?_)
  obtain ⟨rfl, rfl⟩ := h1
  refine t_aast 47 6 5 (ab_dd tk_pa_init 25 rfl) rfl (by decide) (Nat.le_of_ble_eq_true rfl) rfl rfl (by decide) (Nat.le_of_ble_eq_true rfl) rfl rfl rfl (by omega) (by decide) ?_
  refine xn_iinc 50 1 (fun y => [some (.ref 57), some (.int y)]) 6 (ab_dd tk_pa_init 26 rfl) rfl (by decide) rfl (fun _ => rfl) (by decide) ?_
  refine x_goto 25 (ab_dd tk_pa_init 27 rfl) (by decide) ?_
  refine x_iload_n 26 1 (ab_dd tk_pa_init 14 rfl) rfl rfl rfl ?_
  refine x_aload_n 27 0 (ab_dd tk_pa_init 15 rfl) rfl rfl rfl ?_
  refine t_getP 30 58 (ab_dd tk_pa_init 16 rfl) rfl F_pa_11 (by decide) (Nat.le_of_ble_eq_true rfl) hK rfl rfl ?_
  refine t_alen 31 6 (ab_dd tk_pa_init 17 rfl) rfl (by decide) (Nat.le_of_ble_eq_true rfl) rfl rfl ?_
  refine x_icmp_ge_f 34 (ab_dd tk_pa_init 18 rfl) rfl 53 (by decide) (fun z => absurd ((nI_leI (a := 10) (b := 6) (by omega) (by omega)).mp z) (show ¬ (10 ≤ 6) by omega)) ?_
  refine x_aload_n 35 0 (ab_dd tk_pa_init 19 rfl) rfl rfl rfl ?_
  refine t_getP 38 58 (ab_dd tk_pa_init 20 rfl) rfl F_pa_11 (by decide) (Nat.le_of_ble_eq_true rfl) hK rfl rfl ?_
  refine x_iload_n 39 1 (ab_dd tk_pa_init 21 rfl) rfl rfl rfl ?_
  refine t_newO (ci := 8) 42 (ab_dd tk_pa_init 22 rfl) rfl (Nat.le_of_ble_eq_true rfl) rfl Q_pa_9 N_sd.1 N_sd.2 (x_topR 65 rfl ?_)
  refine x_dup 43 (ab_dd tk_pa_init 23 rfl) rfl rfl ?_
  refine x_callI 46 M_sd_init 1 0 [] (ab_dd tk_pa_init 24 rfl) rfl (by first | decide | omega) K_sd_init rfl rfl V_sd_init L_pa_24 rfl (Nat.le_of_ble_eq_true rfl) (c_X_sd_65 rfl rfl) (fun v1 w1 h1 => ?_)
  obtain ⟨rfl, rfl⟩ := h1
  refine t_aast 47 6 6 (ab_dd tk_pa_init 25 rfl) rfl (by decide) (Nat.le_of_ble_eq_true rfl) rfl rfl (by decide) (Nat.le_of_ble_eq_true rfl) rfl rfl rfl (by omega) (by decide) ?_
  refine xn_iinc 50 1 (fun y => [some (.ref 57), some (.int y)]) 7 (ab_dd tk_pa_init 26 rfl) rfl (by decide) rfl (fun _ => rfl) (by decide) ?_
  refine x_goto 25 (ab_dd tk_pa_init 27 rfl) (by decide) ?_
  refine x_iload_n 26 1 (ab_dd tk_pa_init 14 rfl) rfl rfl rfl ?_
  refine x_aload_n 27 0 (ab_dd tk_pa_init 15 rfl) rfl rfl rfl ?_
  refine t_getP 30 58 (ab_dd tk_pa_init 16 rfl) rfl F_pa_11 (by decide) (Nat.le_of_ble_eq_true rfl) hK rfl rfl ?_
  refine t_alen 31 6 (ab_dd tk_pa_init 17 rfl) rfl (by decide) (Nat.le_of_ble_eq_true rfl) rfl rfl ?_
  refine x_icmp_ge_f 34 (ab_dd tk_pa_init 18 rfl) rfl 53 (by decide) (fun z => absurd ((nI_leI (a := 10) (b := 7) (by omega) (by omega)).mp z) (show ¬ (10 ≤ 7) by omega)) ?_
  refine x_aload_n 35 0 (ab_dd tk_pa_init 19 rfl) rfl rfl rfl ?_
  refine t_getP 38 58 (ab_dd tk_pa_init 20 rfl) rfl F_pa_11 (by decide) (Nat.le_of_ble_eq_true rfl) hK rfl rfl ?_
  refine x_iload_n 39 1 (ab_dd tk_pa_init 21 rfl) rfl rfl rfl ?_
  refine t_newO (ci := 8) 42 (ab_dd tk_pa_init 22 rfl) rfl (Nat.le_of_ble_eq_true rfl) rfl Q_pa_9 N_sd.1 N_sd.2 (x_topR 66 rfl ?_)
  refine x_dup 43 (ab_dd tk_pa_init 23 rfl) rfl rfl ?_
  refine x_callI 46 M_sd_init 1 0 [] (ab_dd tk_pa_init 24 rfl) rfl (by first | decide | omega) K_sd_init rfl rfl V_sd_init L_pa_24 rfl (Nat.le_of_ble_eq_true rfl) (c_X_sd_66 rfl rfl) (fun v1 w1 h1 => ?_)
  obtain ⟨rfl, rfl⟩ := h1
  refine t_aast 47 6 7 (ab_dd tk_pa_init 25 rfl) rfl (by decide) (Nat.le_of_ble_eq_true rfl) rfl rfl (by decide) (Nat.le_of_ble_eq_true rfl) rfl rfl rfl (by omega) (by decide) ?_
  refine xn_iinc 50 1 (fun y => [some (.ref 57), some (.int y)]) 8 (ab_dd tk_pa_init 26 rfl) rfl (by decide) rfl (fun _ => rfl) (by decide) ?_
  refine x_goto 25 (ab_dd tk_pa_init 27 rfl) (by decide) ?_
  refine x_iload_n 26 1 (ab_dd tk_pa_init 14 rfl) rfl rfl rfl ?_
  refine x_aload_n 27 0 (ab_dd tk_pa_init 15 rfl) rfl rfl rfl ?_
  refine t_getP 30 58 (ab_dd tk_pa_init 16 rfl) rfl F_pa_11 (by decide) (Nat.le_of_ble_eq_true rfl) hK rfl rfl ?_
  refine t_alen 31 6 (ab_dd tk_pa_init 17 rfl) rfl (by decide) (Nat.le_of_ble_eq_true rfl) rfl rfl ?_
  refine x_icmp_ge_f 34 (ab_dd tk_pa_init 18 rfl) rfl 53 (by decide) (fun z => absurd ((nI_leI (a := 10) (b := 8) (by omega) (by omega)).mp z) (show ¬ (10 ≤ 8) by omega)) ?_
  refine x_aload_n 35 0 (ab_dd tk_pa_init 19 rfl) rfl rfl rfl ?_
  refine t_getP 38 58 (ab_dd tk_pa_init 20 rfl) rfl F_pa_11 (by decide) (Nat.le_of_ble_eq_true rfl) hK rfl rfl ?_
  refine x_iload_n 39 1 (ab_dd tk_pa_init 21 rfl) rfl rfl rfl ?_
  refine t_newO (ci := 8) 42 (ab_dd tk_pa_init 22 rfl) rfl (Nat.le_of_ble_eq_true rfl) rfl Q_pa_9 N_sd.1 N_sd.2 (x_topR 67 rfl ?_)
  refine x_dup 43 (ab_dd tk_pa_init 23 rfl) rfl rfl ?_
  refine x_callI 46 M_sd_init 1 0 [] (ab_dd tk_pa_init 24 rfl) rfl (by first | decide | omega) K_sd_init rfl rfl V_sd_init L_pa_24 rfl (Nat.le_of_ble_eq_true rfl) (c_X_sd_67 rfl rfl) (fun v1 w1 h1 => ?_)
  obtain ⟨rfl, rfl⟩ := h1
  refine t_aast 47 6 8 (ab_dd tk_pa_init 25 rfl) rfl (by decide) (Nat.le_of_ble_eq_true rfl) rfl rfl (by decide) (Nat.le_of_ble_eq_true rfl) rfl rfl rfl (by omega) (by decide) ?_
  refine xn_iinc 50 1 (fun y => [some (.ref 57), some (.int y)]) 9 (ab_dd tk_pa_init 26 rfl) rfl (by decide) rfl (fun _ => rfl) (by decide) ?_
  refine x_goto 25 (ab_dd tk_pa_init 27 rfl) (by decide) ?_
  refine x_iload_n 26 1 (ab_dd tk_pa_init 14 rfl) rfl rfl rfl ?_
  refine x_aload_n 27 0 (ab_dd tk_pa_init 15 rfl) rfl rfl rfl ?_
  refine t_getP 30 58 (ab_dd tk_pa_init 16 rfl) rfl F_pa_11 (by decide) (Nat.le_of_ble_eq_true rfl) hK rfl rfl ?_
  refine t_alen 31 6 (ab_dd tk_pa_init 17 rfl) rfl (by decide) (Nat.le_of_ble_eq_true rfl) rfl rfl ?_
  refine x_icmp_ge_f 34 (ab_dd tk_pa_init 18 rfl) rfl 53 (by decide) (fun z => absurd ((nI_leI (a := 10) (b := 9) (by omega) (by omega)).mp z) (show ¬ (10 ≤ 9) by omega)) ?_
  refine x_aload_n 35 0 (ab_dd tk_pa_init 19 rfl) rfl rfl rfl ?_
  refine t_getP 38 58 (ab_dd tk_pa_init 20 rfl) rfl F_pa_11 (by decide) (Nat.le_of_ble_eq_true rfl) hK rfl rfl ?_
  refine x_iload_n 39 1 (ab_dd tk_pa_init 21 rfl) rfl rfl rfl ?_
  refine t_newO (ci := 8) 42 (ab_dd tk_pa_init 22 rfl) rfl (Nat.le_of_ble_eq_true rfl) rfl Q_pa_9 N_sd.1 N_sd.2 (x_topR 68 rfl ?_)
  refine x_dup 43 (ab_dd tk_pa_init 23 rfl) rfl rfl ?_
  refine x_callI 46 M_sd_init 1 0 [] (ab_dd tk_pa_init 24 rfl) rfl (by first | decide | omega) K_sd_init rfl rfl V_sd_init L_pa_24 rfl (Nat.le_of_ble_eq_true rfl) (c_X_sd_68 rfl rfl) (fun v1 w1 h1 => ?_)
  obtain ⟨rfl, rfl⟩ := h1
  refine t_aast 47 6 9 (ab_dd tk_pa_init 25 rfl) rfl (by decide) (Nat.le_of_ble_eq_true rfl) rfl rfl (by decide) (Nat.le_of_ble_eq_true rfl) rfl rfl rfl (by omega) (by decide) ?_
  refine xn_iinc 50 1 (fun y => [some (.ref 57), some (.int y)]) 10 (ab_dd tk_pa_init 26 rfl) rfl (by decide) rfl (fun _ => rfl) (by decide) ?_
  refine x_goto 25 (ab_dd tk_pa_init 27 rfl) (by decide) ?_
  refine x_iload_n 26 1 (ab_dd tk_pa_init 14 rfl) rfl rfl rfl ?_
  refine x_aload_n 27 0 (ab_dd tk_pa_init 15 rfl) rfl rfl rfl ?_
  refine t_getP 30 58 (ab_dd tk_pa_init 16 rfl) rfl F_pa_11 (by decide) (Nat.le_of_ble_eq_true rfl) hK rfl rfl ?_
  refine t_alen 31 6 (ab_dd tk_pa_init 17 rfl) rfl (by decide) (Nat.le_of_ble_eq_true rfl) rfl rfl ?_
  refine x_icmp_ge_t 53 (ab_dd tk_pa_init 18 rfl) (by decide) ((nI_leI (a := 10) (b := 10) (by omega) (by omega)).mpr (show 10 ≤ 10 by omega)) ?_
  exact x_vret (ab_dd tk_pa_init 28 rfl) ⟨rfl, rfl⟩
def X_ca_74 (S : ab_S) : ab_S := (pP (pP (pP (pN (pP (pN (pI (pI (pI (pI (pI S 74 0 (nI 0)) 74 1 (nI 0)) 74 2 (nI 0)) 74 3 (nI 0)) 74 4 (nI 0)) (.inl (.int, 4)) 4) 74 5 (some 75)) (.inl (.int, 16)) 16) 74 6 (some 76)) 74 7 none) 74 8 none)
theorem c_X_ca_74 {G : ab_G} {S : ab_S} (hn : sn S = 75) (hK : sK S 74 = .inr 0) : ab_C G 1 M_ca_init [.ref 74] (sw S) (fun v w' => v = none ∧ w' = sw (X_ca_74 S)) := by
  obtain ⟨k, K, I, J, P, n, z⟩ := S
  have hn2 : n = 75 := hn
  subst hn2
  replace hK : K 74 = .inr 0 := hK
  refine x_enter [some (.ref 74)] (by decide) (Nat.le_of_ble_eq_true rfl) rfl (fun v w' h => by obtain ⟨rfl, -⟩ := h; trivial) ?_
  refine x_aload_n 1 0 (ab_dd tk_ca_init 0 rfl) rfl rfl rfl ?_
  refine x_objInit 4 (ab_dd tk_ca_init 1 rfl) rfl (by omega) L_ca_3 O_inst O_code (Nat.le_of_ble_eq_true rfl) ?_
  refine x_aload_n 5 0 (ab_dd tk_ca_init 2 rfl) rfl rfl rfl ?_
  refine x_iconst 6 0 (ab_dd tk_ca_init 3 rfl) rfl (by decide) (x_topn 0 rfl ?_)
  refine t_putI 9 (ab_dd tk_ca_init 4 rfl) rfl F_ca_9 (by decide) (Nat.le_of_ble_eq_true rfl) hK rfl rfl rfl ?_
  refine x_aload_n 10 0 (ab_dd tk_ca_init 5 rfl) rfl rfl rfl ?_
  refine x_iconst 11 0 (ab_dd tk_ca_init 6 rfl) rfl (by decide) (x_topn 0 rfl ?_)
  refine t_putI 14 (ab_dd tk_ca_init 7 rfl) rfl F_ca_15 (by decide) (Nat.le_of_ble_eq_true rfl) hK rfl rfl rfl ?_
  refine x_aload_n 15 0 (ab_dd tk_ca_init 8 rfl) rfl rfl rfl ?_
  refine x_iconst 16 0 (ab_dd tk_ca_init 9 rfl) rfl (by decide) (x_topn 0 rfl ?_)
  refine t_putI 19 (ab_dd tk_ca_init 10 rfl) rfl F_ca_18 (by decide) (Nat.le_of_ble_eq_true rfl) hK rfl rfl rfl ?_
  refine x_aload_n 20 0 (ab_dd tk_ca_init 11 rfl) rfl rfl rfl ?_
  refine x_iconst 21 0 (ab_dd tk_ca_init 12 rfl) rfl (by decide) (x_topn 0 rfl ?_)
  refine t_putI 24 (ab_dd tk_ca_init 13 rfl) rfl F_ca_21 (by decide) (Nat.le_of_ble_eq_true rfl) hK rfl rfl rfl ?_
  refine x_aload_n 25 0 (ab_dd tk_ca_init 14 rfl) rfl rfl rfl ?_
  refine x_iconst 26 0 (ab_dd tk_ca_init 15 rfl) rfl (by decide) (x_topn 0 rfl ?_)
  refine t_putI 29 (ab_dd tk_ca_init 16 rfl) rfl F_ca_24 (by decide) (Nat.le_of_ble_eq_true rfl) hK rfl rfl rfl ?_
  refine x_aload_n 30 0 (ab_dd tk_ca_init 17 rfl) rfl rfl rfl ?_
  refine x_iconst 31 4 (ab_dd tk_ca_init 18 rfl) rfl (by decide) (x_topn 4 rfl ?_)
  refine t_newI 33 4 (ab_dd tk_ca_init 19 rfl) rfl (Nat.le_of_ble_eq_true rfl) A_int rfl (by decide) (x_topR 75 rfl ?_)
  refine t_putPF 36 (ab_dd tk_ca_init 20 rfl) rfl F_ca_27 rfl (no_nest (by decide +kernel)) (by decide) (Nat.le_of_ble_eq_true rfl) hK rfl ?_
  refine x_aload_n 37 0 (ab_dd tk_ca_init 21 rfl) rfl rfl rfl ?_
  refine x_bipush 39 16 (ab_dd tk_ca_init 22 rfl) rfl (by decide) (x_topn 16 rfl ?_)
  refine t_newI 41 16 (ab_dd tk_ca_init 23 rfl) rfl (Nat.le_of_ble_eq_true rfl) A_int rfl (by decide) (x_topR 76 rfl ?_)
  refine t_putPF 44 (ab_dd tk_ca_init 24 rfl) rfl F_ca_31 rfl (no_nest (by decide +kernel)) (by decide) (Nat.le_of_ble_eq_true rfl) hK rfl ?_
  refine x_aload_n 45 0 (ab_dd tk_ca_init 25 rfl) rfl rfl rfl ?_
  refine x_null 46 (ab_dd tk_ca_init 26 rfl) rfl ?_
  refine t_putPN 49 (ab_dd tk_ca_init 27 rfl) rfl F_ca_34 (by decide) (Nat.le_of_ble_eq_true rfl) hK rfl ?_
  refine x_aload_n 50 0 (ab_dd tk_ca_init 28 rfl) rfl rfl rfl ?_
  refine x_null 51 (ab_dd tk_ca_init 29 rfl) rfl ?_
  refine t_putPN 54 (ab_dd tk_ca_init 30 rfl) rfl F_ca_37 (by decide) (Nat.le_of_ble_eq_true rfl) hK rfl ?_
  exact x_vret (ab_dd tk_ca_init 31 rfl) ⟨rfl, rfl⟩
def tb_re_init : List (Nat × Instr × Nat) := [(0, .aload_n 0, 1), (1, .invokespecial 3, 3), (4, .aload_n 0, 1), (5, .iconst 0, 1), (6, .newarray .byte, 2), (8, .putfield 9, 3), (11, .aload_n 0, 1), (12, .iconst 0, 1), (13, .putfield 15, 3), (16, .aload_n 0, 1), (17, .iconst 0, 1), (18, .putfield 19, 3), (21, .aload_n 0, 1), (22, .iconst 0, 1), (23, .putfield 22, 3), (26, .aload_n 0, 1), (27, .iconst 0, 1), (28, .putfield 25, 3), (31, .aload_n 0, 1), (32, .iconst 0, 1), (33, .putfield 28, 3), (36, .aload_n 0, 1), (37, .iconst 0, 1), (38, .putfield 31, 3), (41, .aload_n 0, 1), (42, .iconst (-1), 1), (43, .putfield 34, 3), (46, .aload_n 0, 1), (47, .new 37, 3), (50, .dup, 1), (51, .invokespecial 39, 3), (54, .putfield 40, 3), (57, .aload_n 0, 1), (58, .iconst 0, 1), (59, .putfield 44, 3), (62, .aload_n 0, 1), (63, .iconst 0, 1), (64, .putfield 48, 3), (67, .aload_n 0, 1), (68, .sipush 900, 3), (71, .newarray .int, 2), (73, .putfield 51, 3), (76, .aload_n 0, 1), (77, .iconst 0, 1), (78, .putfield 55, 3), (81, .return_, 1)]
theorem tk_re_init : ∀ q ∈ tb_re_init, decode M_re_init.2.1 q.1 = .ok q.2 := by decide +kernel
def X_re_72 (S : ab_S) : ab_S := (pI (pP (pN (pI (pI (pP (X_ca_74 (pN (pI (pI (pI (pI (pI (pI (pI (pP (pN S (.inl (.byte, 0)) 0) 72 0 (some 73)) 72 1 (nI 0)) 72 2 (nI 0)) 72 3 (nI 0)) 72 4 (nI 0)) 72 5 (nI 0)) 72 6 (nI 0)) 72 7 ((-1))) (.inr 0) 9)) 72 8 (some 74)) 72 9 (nI 0)) 72 10 (nI 0)) (.inl (.int, 900)) 900) 72 11 (some 77)) 72 12 (nI 0))
theorem c_X_re_72 {G : ab_G} {S : ab_S} (hn : sn S = 73) (hK : sK S 72 = .inr 5) : ab_C G 2 M_re_init [.ref 72] (sw S) (fun v w' => v = none ∧ w' = sw (X_re_72 S)) := by
  obtain ⟨k, K, I, J, P, n, z⟩ := S
  have hn2 : n = 73 := hn
  subst hn2
  replace hK : K 72 = .inr 5 := hK
  refine x_enter [some (.ref 72)] (by decide) (Nat.le_of_ble_eq_true rfl) rfl (fun v w' h => by obtain ⟨rfl, -⟩ := h; trivial) ?_
  refine x_aload_n 1 0 (ab_dd tk_re_init 0 rfl) rfl rfl rfl ?_
  refine x_objInit 4 (ab_dd tk_re_init 1 rfl) rfl (by omega) L_re_3 O_inst O_code (Nat.le_of_ble_eq_true rfl) ?_
  refine x_aload_n 5 0 (ab_dd tk_re_init 2 rfl) rfl rfl rfl ?_
  refine x_iconst 6 0 (ab_dd tk_re_init 3 rfl) rfl (by decide) (x_topn 0 rfl ?_)
  refine t_newB 8 0 (ab_dd tk_re_init 4 rfl) rfl (Nat.le_of_ble_eq_true rfl) A_byte rfl (by decide) (x_topR 73 rfl ?_)
  refine t_putP 11 (ab_dd tk_re_init 5 rfl) rfl F_re_9 (by decide) (Nat.le_of_ble_eq_true rfl) hK rfl ?_
  refine x_aload_n 12 0 (ab_dd tk_re_init 6 rfl) rfl rfl rfl ?_
  refine x_iconst 13 0 (ab_dd tk_re_init 7 rfl) rfl (by decide) (x_topn 0 rfl ?_)
  refine t_putI 16 (ab_dd tk_re_init 8 rfl) rfl F_re_15 (by decide) (Nat.le_of_ble_eq_true rfl) hK rfl rfl rfl ?_
  refine x_aload_n 17 0 (ab_dd tk_re_init 9 rfl) rfl rfl rfl ?_
  refine x_iconst 18 0 (ab_dd tk_re_init 10 rfl) rfl (by decide) (x_topn 0 rfl ?_)
  refine t_putI 21 (ab_dd tk_re_init 11 rfl) rfl F_re_19 (by decide) (Nat.le_of_ble_eq_true rfl) hK rfl rfl rfl ?_
  refine x_aload_n 22 0 (ab_dd tk_re_init 12 rfl) rfl rfl rfl ?_
  refine x_iconst 23 0 (ab_dd tk_re_init 13 rfl) rfl (by decide) (x_topn 0 rfl ?_)
  refine t_putI 26 (ab_dd tk_re_init 14 rfl) rfl F_re_22 (by decide) (Nat.le_of_ble_eq_true rfl) hK rfl rfl rfl ?_
  refine x_aload_n 27 0 (ab_dd tk_re_init 15 rfl) rfl rfl rfl ?_
  refine x_iconst 28 0 (ab_dd tk_re_init 16 rfl) rfl (by decide) (x_topn 0 rfl ?_)
  refine t_putI 31 (ab_dd tk_re_init 17 rfl) rfl F_re_25 (by decide) (Nat.le_of_ble_eq_true rfl) hK rfl rfl rfl ?_
  refine x_aload_n 32 0 (ab_dd tk_re_init 18 rfl) rfl rfl rfl ?_
  refine x_iconst 33 0 (ab_dd tk_re_init 19 rfl) rfl (by decide) (x_topn 0 rfl ?_)
  refine t_putI 36 (ab_dd tk_re_init 20 rfl) rfl F_re_28 (by decide) (Nat.le_of_ble_eq_true rfl) hK rfl rfl rfl ?_
  refine x_aload_n 37 0 (ab_dd tk_re_init 21 rfl) rfl rfl rfl ?_
  refine x_iconst 38 0 (ab_dd tk_re_init 22 rfl) rfl (by decide) (x_topn 0 rfl ?_)
  refine t_putI 41 (ab_dd tk_re_init 23 rfl) rfl F_re_31 (by decide) (Nat.le_of_ble_eq_true rfl) hK rfl rfl rfl ?_
  refine x_aload_n 42 0 (ab_dd tk_re_init 24 rfl) rfl rfl rfl ?_
  refine x_iconst 43 (-1) (ab_dd tk_re_init 25 rfl) rfl (by decide) ?_
  refine t_putI 46 (ab_dd tk_re_init 26 rfl) rfl F_re_34 (by decide) (Nat.le_of_ble_eq_true rfl) hK rfl rfl rfl ?_
  refine x_aload_n 47 0 (ab_dd tk_re_init 27 rfl) rfl rfl rfl ?_
  refine t_newO (ci := 0) 50 (ab_dd tk_re_init 28 rfl) rfl (Nat.le_of_ble_eq_true rfl) rfl Q_re_37 N_ca.1 N_ca.2 (x_topR 74 rfl ?_)
  refine x_dup 51 (ab_dd tk_re_init 29 rfl) rfl rfl ?_
  refine x_callI 54 M_ca_init 1 0 [] (ab_dd tk_re_init 30 rfl) rfl (by first | decide | omega) K_ca_init rfl rfl V_ca_init L_re_39 rfl (Nat.le_of_ble_eq_true rfl) (c_X_ca_74 rfl rfl) (fun v1 w1 h1 => ?_)
  obtain ⟨rfl, rfl⟩ := h1
  refine t_putP 57 (ab_dd tk_re_init 31 rfl) rfl F_re_40 (by decide) (Nat.le_of_ble_eq_true rfl) hK rfl ?_
  refine x_aload_n 58 0 (ab_dd tk_re_init 32 rfl) rfl rfl rfl ?_
  refine x_iconst 59 0 (ab_dd tk_re_init 33 rfl) rfl (by decide) (x_topn 0 rfl ?_)
  refine t_putI 62 (ab_dd tk_re_init 34 rfl) rfl F_re_44 (by decide) (Nat.le_of_ble_eq_true rfl) hK rfl rfl rfl ?_
  refine x_aload_n 63 0 (ab_dd tk_re_init 35 rfl) rfl rfl rfl ?_
  refine x_iconst 64 0 (ab_dd tk_re_init 36 rfl) rfl (by decide) (x_topn 0 rfl ?_)
  refine t_putI 67 (ab_dd tk_re_init 37 rfl) rfl F_re_48 (by decide) (Nat.le_of_ble_eq_true rfl) hK rfl rfl rfl ?_
  refine x_aload_n 68 0 (ab_dd tk_re_init 38 rfl) rfl rfl rfl ?_
  refine x_sipush 71 900 (ab_dd tk_re_init 39 rfl) rfl (by decide) (x_topn 900 rfl ?_)
  refine t_newI 73 900 (ab_dd tk_re_init 40 rfl) rfl (Nat.le_of_ble_eq_true rfl) A_int rfl (by decide) (x_topR 77 rfl ?_)
  refine t_putPF 76 (ab_dd tk_re_init 41 rfl) rfl F_re_51 rfl (no_nest (by decide +kernel)) (by decide) (Nat.le_of_ble_eq_true rfl) hK rfl ?_
  refine x_aload_n 77 0 (ab_dd tk_re_init 42 rfl) rfl rfl rfl ?_
  refine x_iconst 78 0 (ab_dd tk_re_init 43 rfl) rfl (by decide) (x_topn 0 rfl ?_)
  refine t_putI 81 (ab_dd tk_re_init 44 rfl) rfl F_re_55 (by decide) (Nat.le_of_ble_eq_true rfl) hK rfl rfl rfl ?_
  exact x_vret (ab_dd tk_re_init 45 rfl) ⟨rfl, rfl⟩
def X_ca_85 (S : ab_S) : ab_S := (pP (pP (pP (pN (pP (pN (pI (pI (pI (pI (pI S 85 0 (nI 0)) 85 1 (nI 0)) 85 2 (nI 0)) 85 3 (nI 0)) 85 4 (nI 0)) (.inl (.int, 4)) 4) 85 5 (some 86)) (.inl (.int, 16)) 16) 85 6 (some 87)) 85 7 none) 85 8 none)
theorem c_X_ca_85 {G : ab_G} {S : ab_S} (hn : sn S = 86) (hK : sK S 85 = .inr 0) : ab_C G 1 M_ca_init [.ref 85] (sw S) (fun v w' => v = none ∧ w' = sw (X_ca_85 S)) := by
  obtain ⟨k, K, I, J, P, n, z⟩ := S
  have hn2 : n = 86 := hn
  subst hn2
  replace hK : K 85 = .inr 0 := hK
  refine x_enter [some (.ref 85)] (by decide) (Nat.le_of_ble_eq_true rfl) rfl (fun v w' h => by obtain ⟨rfl, -⟩ := h; trivial) ?_
  refine x_aload_n 1 0 (ab_dd tk_ca_init 0 rfl) rfl rfl rfl ?_
  refine x_objInit 4 (ab_dd tk_ca_init 1 rfl) rfl (by omega) L_ca_3 O_inst O_code (Nat.le_of_ble_eq_true rfl) ?_
  refine x_aload_n 5 0 (ab_dd tk_ca_init 2 rfl) rfl rfl rfl ?_
  refine x_iconst 6 0 (ab_dd tk_ca_init 3 rfl) rfl (by decide) (x_topn 0 rfl ?_)
  refine t_putI 9 (ab_dd tk_ca_init 4 rfl) rfl F_ca_9 (by decide) (Nat.le_of_ble_eq_true rfl) hK rfl rfl rfl ?_
  refine x_aload_n 10 0 (ab_dd tk_ca_init 5 rfl) rfl rfl rfl ?_
  refine x_iconst 11 0 (ab_dd tk_ca_init 6 rfl) rfl (by decide) (x_topn 0 rfl ?_)
  refine t_putI 14 (ab_dd tk_ca_init 7 rfl) rfl F_ca_15 (by decide) (Nat.le_of_ble_eq_true rfl) hK rfl rfl rfl ?_
  refine x_aload_n 15 0 (ab_dd tk_ca_init 8 rfl) rfl rfl rfl ?_
  refine x_iconst 16 0 (ab_dd tk_ca_init 9 rfl) rfl (by decide) (x_topn 0 rfl ?_)
  refine t_putI 19 (ab_dd tk_ca_init 10 rfl) rfl F_ca_18 (by decide) (Nat.le_of_ble_eq_true rfl) hK rfl rfl rfl ?_
  refine x_aload_n 20 0 (ab_dd tk_ca_init 11 rfl) rfl rfl rfl ?_
  refine x_iconst 21 0 (ab_dd tk_ca_init 12 rfl) rfl (by decide) (x_topn 0 rfl ?_)
  refine t_putI 24 (ab_dd tk_ca_init 13 rfl) rfl F_ca_21 (by decide) (Nat.le_of_ble_eq_true rfl) hK rfl rfl rfl ?_
  refine x_aload_n 25 0 (ab_dd tk_ca_init 14 rfl) rfl rfl rfl ?_
  refine x_iconst 26 0 (ab_dd tk_ca_init 15 rfl) rfl (by decide) (x_topn 0 rfl ?_)
  refine t_putI 29 (ab_dd tk_ca_init 16 rfl) rfl F_ca_24 (by decide) (Nat.le_of_ble_eq_true rfl) hK rfl rfl rfl ?_
  refine x_aload_n 30 0 (ab_dd tk_ca_init 17 rfl) rfl rfl rfl ?_
  refine x_iconst 31 4 (ab_dd tk_ca_init 18 rfl) rfl (by decide) (x_topn 4 rfl ?_)
  refine t_newI 33 4 (ab_dd tk_ca_init 19 rfl) rfl (Nat.le_of_ble_eq_true rfl) A_int rfl (by decide) (x_topR 86 rfl ?_)
  refine t_putPF 36 (ab_dd tk_ca_init 20 rfl) rfl F_ca_27 rfl (no_nest (by decide +kernel)) (by decide) (Nat.le_of_ble_eq_true rfl) hK rfl ?_
  refine x_aload_n 37 0 (ab_dd tk_ca_init 21 rfl) rfl rfl rfl ?_
  refine x_bipush 39 16 (ab_dd tk_ca_init 22 rfl) rfl (by decide) (x_topn 16 rfl ?_)
  refine t_newI 41 16 (ab_dd tk_ca_init 23 rfl) rfl (Nat.le_of_ble_eq_true rfl) A_int rfl (by decide) (x_topR 87 rfl ?_)
  refine t_putPF 44 (ab_dd tk_ca_init 24 rfl) rfl F_ca_31 rfl (no_nest (by decide +kernel)) (by decide) (Nat.le_of_ble_eq_true rfl) hK rfl ?_
  refine x_aload_n 45 0 (ab_dd tk_ca_init 25 rfl) rfl rfl rfl ?_
  refine x_null 46 (ab_dd tk_ca_init 26 rfl) rfl ?_
  refine t_putPN 49 (ab_dd tk_ca_init 27 rfl) rfl F_ca_34 (by decide) (Nat.le_of_ble_eq_true rfl) hK rfl ?_
  refine x_aload_n 50 0 (ab_dd tk_ca_init 28 rfl) rfl rfl rfl ?_
  refine x_null 51 (ab_dd tk_ca_init 29 rfl) rfl ?_
  refine t_putPN 54 (ab_dd tk_ca_init 30 rfl) rfl F_ca_37 (by decide) (Nat.le_of_ble_eq_true rfl) hK rfl ?_
  exact x_vret (ab_dd tk_ca_init 31 rfl) ⟨rfl, rfl⟩
def tb_cl_init : List (Nat × Instr × Nat) := [(0, .aload_n 0, 1), (1, .invokespecial 3, 3), (4, .aload_n 0, 1), (5, .new 9, 3), (8, .dup, 1), (9, .invokespecial 11, 3), (12, .putfield 12, 3), (15, .aload_n 0, 1), (16, .iconst 0, 1), (17, .putfield 18, 3), (20, .aload_n 0, 1), (21, .iconst 0, 1), (22, .putfield 22, 3), (25, .aload_n 0, 1), (26, .iconst 1, 1), (27, .putfield 25, 3), (30, .aload_n 0, 1), (31, .iconst 0, 1), (32, .newarray .int, 2), (34, .putfield 28, 3), (37, .aload_n 0, 1), (38, .sipush 2160, 3), (41, .newarray .int, 2), (43, .putfield 32, 3), (46, .aload_n 0, 1), (47, .bipush 80, 2), (49, .newarray .int, 2), (51, .putfield 35, 3), (54, .aload_n 0, 1), (55, .iconst 4, 1), (56, .newarray .int, 2), (58, .putfield 38, 3), (61, .aload_n 0, 1), (62, .bipush 10, 2), (64, .newarray .int, 2), (66, .putfield 41, 3), (69, .aload_n 0, 1), (70, .bipush 80, 2), (72, .newarray .int, 2), (74, .putfield 44, 3), (77, .aload_n 0, 1), (78, .aload_n 1, 1), (79, .putfield 47, 3), (82, .aload_n 0, 1), (83, .iload_n 2, 1), (84, .putfield 51, 3), (87, .return_, 1)]
theorem tk_cl_init : ∀ q ∈ tb_cl_init, decode M_cl_init.2.1 q.1 = .ok q.2 := by decide +kernel
def X_cl_84 (S : ab_S) : ab_S := (pI (pP (pP (pN (pP (pN (pP (pN (pP (pN (pP (pN (pP (pN (pI (pI (pI (pP (X_ca_85 (pN S (.inr 0) 9)) 84 2 (some 85)) 84 3 (nI 0)) 84 4 (nI 0)) 84 5 (nI 1)) (.inl (.int, 0)) 0) 84 6 (some 88)) (.inl (.int, 2160)) 2160) 84 7 (some 89)) (.inl (.int, 80)) 80) 84 8 (some 90)) (.inl (.int, 4)) 4) 84 9 (some 91)) (.inl (.int, 10)) 10) 84 10 (some 92)) (.inl (.int, 80)) 80) 84 11 (some 93)) 84 0 (some 78)) 84 1 (nI 1))
theorem c_X_cl_84 {G : ab_G} {S : ab_S} (hn : sn S = 85) (hK : sK S 84 = .inr 1) : ab_C G 2 M_cl_init [.ref 84, .ref 78, .int (nI 1)] (sw S) (fun v w' => v = none ∧ w' = sw (X_cl_84 S)) := by
  obtain ⟨k, K, I, J, P, n, z⟩ := S
  have hn2 : n = 85 := hn
  subst hn2
  replace hK : K 84 = .inr 1 := hK
  refine x_enter [some (.ref 84), some (.ref 78), some (.int (nI 1))] (by decide) (Nat.le_of_ble_eq_true rfl) rfl (fun v w' h => by obtain ⟨rfl, -⟩ := h; trivial) ?_
  refine x_aload_n 1 0 (ab_dd tk_cl_init 0 rfl) rfl rfl rfl ?_
  refine x_objInit 4 (ab_dd tk_cl_init 1 rfl) rfl (by omega) L_cl_3 O_inst O_code (Nat.le_of_ble_eq_true rfl) ?_
  refine x_aload_n 5 0 (ab_dd tk_cl_init 2 rfl) rfl rfl rfl ?_
  refine t_newO (ci := 0) 8 (ab_dd tk_cl_init 3 rfl) rfl (Nat.le_of_ble_eq_true rfl) rfl Q_cl_9 N_ca.1 N_ca.2 (x_topR 85 rfl ?_)
  refine x_dup 9 (ab_dd tk_cl_init 4 rfl) rfl rfl ?_
  refine x_callI 12 M_ca_init 1 0 [] (ab_dd tk_cl_init 5 rfl) rfl (by first | decide | omega) K_ca_init rfl rfl V_ca_init L_cl_11 rfl (Nat.le_of_ble_eq_true rfl) (c_X_ca_85 rfl rfl) (fun v1 w1 h1 => ?_)
  obtain ⟨rfl, rfl⟩ := h1
  refine t_putP 15 (ab_dd tk_cl_init 6 rfl) rfl F_cl_12 (by decide) (Nat.le_of_ble_eq_true rfl) hK rfl ?_
  refine x_aload_n 16 0 (ab_dd tk_cl_init 7 rfl) rfl rfl rfl ?_
  refine x_iconst 17 0 (ab_dd tk_cl_init 8 rfl) rfl (by decide) (x_topn 0 rfl ?_)
  refine t_putI 20 (ab_dd tk_cl_init 9 rfl) rfl F_cl_18 (by decide) (Nat.le_of_ble_eq_true rfl) hK rfl rfl rfl ?_
  refine x_aload_n 21 0 (ab_dd tk_cl_init 10 rfl) rfl rfl rfl ?_
  refine x_iconst 22 0 (ab_dd tk_cl_init 11 rfl) rfl (by decide) (x_topn 0 rfl ?_)
  refine t_putI 25 (ab_dd tk_cl_init 12 rfl) rfl F_cl_22 (by decide) (Nat.le_of_ble_eq_true rfl) hK rfl rfl rfl ?_
  refine x_aload_n 26 0 (ab_dd tk_cl_init 13 rfl) rfl rfl rfl ?_
  refine x_iconst 27 1 (ab_dd tk_cl_init 14 rfl) rfl (by decide) (x_topn 1 rfl ?_)
  refine t_putI 30 (ab_dd tk_cl_init 15 rfl) rfl F_cl_25 (by decide) (Nat.le_of_ble_eq_true rfl) hK rfl rfl rfl ?_
  refine x_aload_n 31 0 (ab_dd tk_cl_init 16 rfl) rfl rfl rfl ?_
  refine x_iconst 32 0 (ab_dd tk_cl_init 17 rfl) rfl (by decide) (x_topn 0 rfl ?_)
  refine t_newI 34 0 (ab_dd tk_cl_init 18 rfl) rfl (Nat.le_of_ble_eq_true rfl) A_int rfl (by decide) (x_topR 88 rfl ?_)
  refine t_putP 37 (ab_dd tk_cl_init 19 rfl) rfl F_cl_28 (by decide) (Nat.le_of_ble_eq_true rfl) hK rfl ?_
  refine x_aload_n 38 0 (ab_dd tk_cl_init 20 rfl) rfl rfl rfl ?_
  refine x_sipush 41 2160 (ab_dd tk_cl_init 21 rfl) rfl (by decide) (x_topn 2160 rfl ?_)
  refine t_newI 43 2160 (ab_dd tk_cl_init 22 rfl) rfl (Nat.le_of_ble_eq_true rfl) A_int rfl (by decide) (x_topR 89 rfl ?_)
  refine t_putPF 46 (ab_dd tk_cl_init 23 rfl) rfl F_cl_32 rfl (no_nest (by decide +kernel)) (by decide) (Nat.le_of_ble_eq_true rfl) hK rfl ?_
  refine x_aload_n 47 0 (ab_dd tk_cl_init 24 rfl) rfl rfl rfl ?_
  refine x_bipush 49 80 (ab_dd tk_cl_init 25 rfl) rfl (by decide) (x_topn 80 rfl ?_)
  refine t_newI 51 80 (ab_dd tk_cl_init 26 rfl) rfl (Nat.le_of_ble_eq_true rfl) A_int rfl (by decide) (x_topR 90 rfl ?_)
  refine t_putPF 54 (ab_dd tk_cl_init 27 rfl) rfl F_cl_35 rfl (no_nest (by decide +kernel)) (by decide) (Nat.le_of_ble_eq_true rfl) hK rfl ?_
  refine x_aload_n 55 0 (ab_dd tk_cl_init 28 rfl) rfl rfl rfl ?_
  refine x_iconst 56 4 (ab_dd tk_cl_init 29 rfl) rfl (by decide) (x_topn 4 rfl ?_)
  refine t_newI 58 4 (ab_dd tk_cl_init 30 rfl) rfl (Nat.le_of_ble_eq_true rfl) A_int rfl (by decide) (x_topR 91 rfl ?_)
  refine t_putPF 61 (ab_dd tk_cl_init 31 rfl) rfl F_cl_38 rfl (no_nest (by decide +kernel)) (by decide) (Nat.le_of_ble_eq_true rfl) hK rfl ?_
  refine x_aload_n 62 0 (ab_dd tk_cl_init 32 rfl) rfl rfl rfl ?_
  refine x_bipush 64 10 (ab_dd tk_cl_init 33 rfl) rfl (by decide) (x_topn 10 rfl ?_)
  refine t_newI 66 10 (ab_dd tk_cl_init 34 rfl) rfl (Nat.le_of_ble_eq_true rfl) A_int rfl (by decide) (x_topR 92 rfl ?_)
  refine t_putPF 69 (ab_dd tk_cl_init 35 rfl) rfl F_cl_41 rfl (no_nest (by decide +kernel)) (by decide) (Nat.le_of_ble_eq_true rfl) hK rfl ?_
  refine x_aload_n 70 0 (ab_dd tk_cl_init 36 rfl) rfl rfl rfl ?_
  refine x_bipush 72 80 (ab_dd tk_cl_init 37 rfl) rfl (by decide) (x_topn 80 rfl ?_)
  refine t_newI 74 80 (ab_dd tk_cl_init 38 rfl) rfl (Nat.le_of_ble_eq_true rfl) A_int rfl (by decide) (x_topR 93 rfl ?_)
  refine t_putPF 77 (ab_dd tk_cl_init 39 rfl) rfl F_cl_44 rfl (no_nest (by decide +kernel)) (by decide) (Nat.le_of_ble_eq_true rfl) hK rfl ?_
  refine x_aload_n 78 0 (ab_dd tk_cl_init 40 rfl) rfl rfl rfl ?_
  refine x_aload_n 79 1 (ab_dd tk_cl_init 41 rfl) rfl rfl rfl ?_
  refine t_putPF 82 (ab_dd tk_cl_init 42 rfl) rfl F_cl_47 rfl (no_nest (by decide +kernel)) (by decide) (Nat.le_of_ble_eq_true rfl) hK rfl ?_
  refine x_aload_n 83 0 (ab_dd tk_cl_init 43 rfl) rfl rfl rfl ?_
  refine x_iload_n 84 2 (ab_dd tk_cl_init 44 rfl) rfl rfl rfl ?_
  refine t_putIF 87 (ab_dd tk_cl_init 45 rfl) rfl F_cl_51 rfl (no_nest (by decide +kernel)) (by decide) (Nat.le_of_ble_eq_true rfl) hK rfl rfl rfl ?_
  exact x_vret (ab_dd tk_cl_init 46 rfl) ⟨rfl, rfl⟩
def X_ca_95 (S : ab_S) : ab_S := (pP (pP (pP (pN (pP (pN (pI (pI (pI (pI (pI S 95 0 (nI 0)) 95 1 (nI 0)) 95 2 (nI 0)) 95 3 (nI 0)) 95 4 (nI 0)) (.inl (.int, 4)) 4) 95 5 (some 96)) (.inl (.int, 16)) 16) 95 6 (some 97)) 95 7 none) 95 8 none)
theorem c_X_ca_95 {G : ab_G} {S : ab_S} (hn : sn S = 96) (hK : sK S 95 = .inr 0) : ab_C G 1 M_ca_init [.ref 95] (sw S) (fun v w' => v = none ∧ w' = sw (X_ca_95 S)) := by
  obtain ⟨k, K, I, J, P, n, z⟩ := S
  have hn2 : n = 96 := hn
  subst hn2
  replace hK : K 95 = .inr 0 := hK
  refine x_enter [some (.ref 95)] (by decide) (Nat.le_of_ble_eq_true rfl) rfl (fun v w' h => by obtain ⟨rfl, -⟩ := h; trivial) ?_
  refine x_aload_n 1 0 (ab_dd tk_ca_init 0 rfl) rfl rfl rfl ?_
  refine x_objInit 4 (ab_dd tk_ca_init 1 rfl) rfl (by omega) L_ca_3 O_inst O_code (Nat.le_of_ble_eq_true rfl) ?_
  refine x_aload_n 5 0 (ab_dd tk_ca_init 2 rfl) rfl rfl rfl ?_
  refine x_iconst 6 0 (ab_dd tk_ca_init 3 rfl) rfl (by decide) (x_topn 0 rfl ?_)
  refine t_putI 9 (ab_dd tk_ca_init 4 rfl) rfl F_ca_9 (by decide) (Nat.le_of_ble_eq_true rfl) hK rfl rfl rfl ?_
  refine x_aload_n 10 0 (ab_dd tk_ca_init 5 rfl) rfl rfl rfl ?_
  refine x_iconst 11 0 (ab_dd tk_ca_init 6 rfl) rfl (by decide) (x_topn 0 rfl ?_)
  refine t_putI 14 (ab_dd tk_ca_init 7 rfl) rfl F_ca_15 (by decide) (Nat.le_of_ble_eq_true rfl) hK rfl rfl rfl ?_
  refine x_aload_n 15 0 (ab_dd tk_ca_init 8 rfl) rfl rfl rfl ?_
  refine x_iconst 16 0 (ab_dd tk_ca_init 9 rfl) rfl (by decide) (x_topn 0 rfl ?_)
  refine t_putI 19 (ab_dd tk_ca_init 10 rfl) rfl F_ca_18 (by decide) (Nat.le_of_ble_eq_true rfl) hK rfl rfl rfl ?_
  refine x_aload_n 20 0 (ab_dd tk_ca_init 11 rfl) rfl rfl rfl ?_
  refine x_iconst 21 0 (ab_dd tk_ca_init 12 rfl) rfl (by decide) (x_topn 0 rfl ?_)
  refine t_putI 24 (ab_dd tk_ca_init 13 rfl) rfl F_ca_21 (by decide) (Nat.le_of_ble_eq_true rfl) hK rfl rfl rfl ?_
  refine x_aload_n 25 0 (ab_dd tk_ca_init 14 rfl) rfl rfl rfl ?_
  refine x_iconst 26 0 (ab_dd tk_ca_init 15 rfl) rfl (by decide) (x_topn 0 rfl ?_)
  refine t_putI 29 (ab_dd tk_ca_init 16 rfl) rfl F_ca_24 (by decide) (Nat.le_of_ble_eq_true rfl) hK rfl rfl rfl ?_
  refine x_aload_n 30 0 (ab_dd tk_ca_init 17 rfl) rfl rfl rfl ?_
  refine x_iconst 31 4 (ab_dd tk_ca_init 18 rfl) rfl (by decide) (x_topn 4 rfl ?_)
  refine t_newI 33 4 (ab_dd tk_ca_init 19 rfl) rfl (Nat.le_of_ble_eq_true rfl) A_int rfl (by decide) (x_topR 96 rfl ?_)
  refine t_putPF 36 (ab_dd tk_ca_init 20 rfl) rfl F_ca_27 rfl (no_nest (by decide +kernel)) (by decide) (Nat.le_of_ble_eq_true rfl) hK rfl ?_
  refine x_aload_n 37 0 (ab_dd tk_ca_init 21 rfl) rfl rfl rfl ?_
  refine x_bipush 39 16 (ab_dd tk_ca_init 22 rfl) rfl (by decide) (x_topn 16 rfl ?_)
  refine t_newI 41 16 (ab_dd tk_ca_init 23 rfl) rfl (Nat.le_of_ble_eq_true rfl) A_int rfl (by decide) (x_topR 97 rfl ?_)
  refine t_putPF 44 (ab_dd tk_ca_init 24 rfl) rfl F_ca_31 rfl (no_nest (by decide +kernel)) (by decide) (Nat.le_of_ble_eq_true rfl) hK rfl ?_
  refine x_aload_n 45 0 (ab_dd tk_ca_init 25 rfl) rfl rfl rfl ?_
  refine x_null 46 (ab_dd tk_ca_init 26 rfl) rfl ?_
  refine t_putPN 49 (ab_dd tk_ca_init 27 rfl) rfl F_ca_34 (by decide) (Nat.le_of_ble_eq_true rfl) hK rfl ?_
  refine x_aload_n 50 0 (ab_dd tk_ca_init 28 rfl) rfl rfl rfl ?_
  refine x_null 51 (ab_dd tk_ca_init 29 rfl) rfl ?_
  refine t_putPN 54 (ab_dd tk_ca_init 30 rfl) rfl F_ca_37 (by decide) (Nat.le_of_ble_eq_true rfl) hK rfl ?_
  exact x_vret (ab_dd tk_ca_init 31 rfl) ⟨rfl, rfl⟩
def X_cl_94 (S : ab_S) : ab_S := (pI (pP (pP (pN (pP (pN (pP (pN (pP (pN (pP (pN (pP (pN (pI (pI (pI (pP (X_ca_95 (pN S (.inr 0) 9)) 94 2 (some 95)) 94 3 (nI 0)) 94 4 (nI 0)) 94 5 (nI 1)) (.inl (.int, 0)) 0) 94 6 (some 98)) (.inl (.int, 2160)) 2160) 94 7 (some 99)) (.inl (.int, 80)) 80) 94 8 (some 100)) (.inl (.int, 4)) 4) 94 9 (some 101)) (.inl (.int, 10)) 10) 94 10 (some 102)) (.inl (.int, 80)) 80) 94 11 (some 103)) 94 0 (some 78)) 94 1 (nI 0))
theorem c_X_cl_94 {G : ab_G} {S : ab_S} (hn : sn S = 95) (hK : sK S 94 = .inr 1) : ab_C G 2 M_cl_init [.ref 94, .ref 78, .int (nI 0)] (sw S) (fun v w' => v = none ∧ w' = sw (X_cl_94 S)) := by
  obtain ⟨k, K, I, J, P, n, z⟩ := S
  have hn2 : n = 95 := hn
  subst hn2
  replace hK : K 94 = .inr 1 := hK
  refine x_enter [some (.ref 94), some (.ref 78), some (.int (nI 0))] (by decide) (Nat.le_of_ble_eq_true rfl) rfl (fun v w' h => by obtain ⟨rfl, -⟩ := h; trivial) ?_
  refine x_aload_n 1 0 (ab_dd tk_cl_init 0 rfl) rfl rfl rfl ?_
  refine x_objInit 4 (ab_dd tk_cl_init 1 rfl) rfl (by omega) L_cl_3 O_inst O_code (Nat.le_of_ble_eq_true rfl) ?_
  refine x_aload_n 5 0 (ab_dd tk_cl_init 2 rfl) rfl rfl rfl ?_
  refine t_newO (ci := 0) 8 (ab_dd tk_cl_init 3 rfl) rfl (Nat.le_of_ble_eq_true rfl) rfl Q_cl_9 N_ca.1 N_ca.2 (x_topR 95 rfl ?_)
  refine x_dup 9 (ab_dd tk_cl_init 4 rfl) rfl rfl ?_
  refine x_callI 12 M_ca_init 1 0 [] (ab_dd tk_cl_init 5 rfl) rfl (by first | decide | omega) K_ca_init rfl rfl V_ca_init L_cl_11 rfl (Nat.le_of_ble_eq_true rfl) (c_X_ca_95 rfl rfl) (fun v1 w1 h1 => ?_)
  obtain ⟨rfl, rfl⟩ := h1
  refine t_putP 15 (ab_dd tk_cl_init 6 rfl) rfl F_cl_12 (by decide) (Nat.le_of_ble_eq_true rfl) hK rfl ?_
  refine x_aload_n 16 0 (ab_dd tk_cl_init 7 rfl) rfl rfl rfl ?_
  refine x_iconst 17 0 (ab_dd tk_cl_init 8 rfl) rfl (by decide) (x_topn 0 rfl ?_)
  refine t_putI 20 (ab_dd tk_cl_init 9 rfl) rfl F_cl_18 (by decide) (Nat.le_of_ble_eq_true rfl) hK rfl rfl rfl ?_
  refine x_aload_n 21 0 (ab_dd tk_cl_init 10 rfl) rfl rfl rfl ?_
  refine x_iconst 22 0 (ab_dd tk_cl_init 11 rfl) rfl (by decide) (x_topn 0 rfl ?_)
  refine t_putI 25 (ab_dd tk_cl_init 12 rfl) rfl F_cl_22 (by decide) (Nat.le_of_ble_eq_true rfl) hK rfl rfl rfl ?_
  refine x_aload_n 26 0 (ab_dd tk_cl_init 13 rfl) rfl rfl rfl ?_
  refine x_iconst 27 1 (ab_dd tk_cl_init 14 rfl) rfl (by decide) (x_topn 1 rfl ?_)
  refine t_putI 30 (ab_dd tk_cl_init 15 rfl) rfl F_cl_25 (by decide) (Nat.le_of_ble_eq_true rfl) hK rfl rfl rfl ?_
  refine x_aload_n 31 0 (ab_dd tk_cl_init 16 rfl) rfl rfl rfl ?_
  refine x_iconst 32 0 (ab_dd tk_cl_init 17 rfl) rfl (by decide) (x_topn 0 rfl ?_)
  refine t_newI 34 0 (ab_dd tk_cl_init 18 rfl) rfl (Nat.le_of_ble_eq_true rfl) A_int rfl (by decide) (x_topR 98 rfl ?_)
  refine t_putP 37 (ab_dd tk_cl_init 19 rfl) rfl F_cl_28 (by decide) (Nat.le_of_ble_eq_true rfl) hK rfl ?_
  refine x_aload_n 38 0 (ab_dd tk_cl_init 20 rfl) rfl rfl rfl ?_
  refine x_sipush 41 2160 (ab_dd tk_cl_init 21 rfl) rfl (by decide) (x_topn 2160 rfl ?_)
  refine t_newI 43 2160 (ab_dd tk_cl_init 22 rfl) rfl (Nat.le_of_ble_eq_true rfl) A_int rfl (by decide) (x_topR 99 rfl ?_)
  refine t_putPF 46 (ab_dd tk_cl_init 23 rfl) rfl F_cl_32 rfl (no_nest (by decide +kernel)) (by decide) (Nat.le_of_ble_eq_true rfl) hK rfl ?_
  refine x_aload_n 47 0 (ab_dd tk_cl_init 24 rfl) rfl rfl rfl ?_
  refine x_bipush 49 80 (ab_dd tk_cl_init 25 rfl) rfl (by decide) (x_topn 80 rfl ?_)
  refine t_newI 51 80 (ab_dd tk_cl_init 26 rfl) rfl (Nat.le_of_ble_eq_true rfl) A_int rfl (by decide) (x_topR 100 rfl ?_)
  refine t_putPF 54 (ab_dd tk_cl_init 27 rfl) rfl F_cl_35 rfl (no_nest (by decide +kernel)) (by decide) (Nat.le_of_ble_eq_true rfl) hK rfl ?_
  refine x_aload_n 55 0 (ab_dd tk_cl_init 28 rfl) rfl rfl rfl ?_
  refine x_iconst 56 4 (ab_dd tk_cl_init 29 rfl) rfl (by decide) (x_topn 4 rfl ?_)
  refine t_newI 58 4 (ab_dd tk_cl_init 30 rfl) rfl (Nat.le_of_ble_eq_true rfl) A_int rfl (by decide) (x_topR 101 rfl ?_)
  refine t_putPF 61 (ab_dd tk_cl_init 31 rfl) rfl F_cl_38 rfl (no_nest (by decide +kernel)) (by decide) (Nat.le_of_ble_eq_true rfl) hK rfl ?_
  refine x_aload_n 62 0 (ab_dd tk_cl_init 32 rfl) rfl rfl rfl ?_
  refine x_bipush 64 10 (ab_dd tk_cl_init 33 rfl) rfl (by decide) (x_topn 10 rfl ?_)
  refine t_newI 66 10 (ab_dd tk_cl_init 34 rfl) rfl (Nat.le_of_ble_eq_true rfl) A_int rfl (by decide) (x_topR 102 rfl ?_)
  refine t_putPF 69 (ab_dd tk_cl_init 35 rfl) rfl F_cl_41 rfl (no_nest (by decide +kernel)) (by decide) (Nat.le_of_ble_eq_true rfl) hK rfl ?_
  refine x_aload_n 70 0 (ab_dd tk_cl_init 36 rfl) rfl rfl rfl ?_
  refine x_bipush 72 80 (ab_dd tk_cl_init 37 rfl) rfl (by decide) (x_topn 80 rfl ?_)
  refine t_newI 74 80 (ab_dd tk_cl_init 38 rfl) rfl (Nat.le_of_ble_eq_true rfl) A_int rfl (by decide) (x_topR 103 rfl ?_)
  refine t_putPF 77 (ab_dd tk_cl_init 39 rfl) rfl F_cl_44 rfl (no_nest (by decide +kernel)) (by decide) (Nat.le_of_ble_eq_true rfl) hK rfl ?_
  refine x_aload_n 78 0 (ab_dd tk_cl_init 40 rfl) rfl rfl rfl ?_
  refine x_aload_n 79 1 (ab_dd tk_cl_init 41 rfl) rfl rfl rfl ?_
  refine t_putPF 82 (ab_dd tk_cl_init 42 rfl) rfl F_cl_47 rfl (no_nest (by decide +kernel)) (by decide) (Nat.le_of_ble_eq_true rfl) hK rfl ?_
  refine x_aload_n 83 0 (ab_dd tk_cl_init 43 rfl) rfl rfl rfl ?_
  refine x_iload_n 84 2 (ab_dd tk_cl_init 44 rfl) rfl rfl rfl ?_
  refine t_putIF 87 (ab_dd tk_cl_init 45 rfl) rfl F_cl_51 rfl (no_nest (by decide +kernel)) (by decide) (Nat.le_of_ble_eq_true rfl) hK rfl rfl rfl ?_
  exact x_vret (ab_dd tk_cl_init 46 rfl) ⟨rfl, rfl⟩
def tb_id_init : List (Nat × Instr × Nat) := [(0, .aload_n 0, 1), (1, .invokespecial 3, 3), (4, .aload_n 0, 1), (5, .sipush 626, 3), (8, .newarray .int, 2), (10, .putfield 9, 3), (13, .aload_n 0, 1), (14, .sipush 625, 3), (17, .newarray .int, 2), (19, .putfield 15, 3), (22, .aload_n 0, 1), (23, .iconst 0, 1), (24, .putfield 18, 3), (27, .aload_n 0, 1), (28, .iconst 1, 1), (29, .putfield 22, 3), (32, .aload_n 0, 1), (33, .sipush 625, 3), (36, .newarray .int, 2), (38, .putfield 25, 3), (41, .aload_n 0, 1), (42, .sipush 625, 3), (45, .newarray .int, 2), (47, .putfield 28, 3), (50, .aload_n 0, 1), (51, .iconst 1, 1), (52, .putfield 31, 3), (55, .return_, 1)]
theorem tk_id_init : ∀ q ∈ tb_id_init, decode M_id_init.2.1 q.1 = .ok q.2 := by decide +kernel
def X_id_104 (S : ab_S) : ab_S := (pI (pP (pN (pP (pN (pI (pI (pP (pN (pP (pN S (.inl (.int, 626)) 626) 104 0 (some 105)) (.inl (.int, 625)) 625) 104 1 (some 106)) 104 2 (nI 0)) 104 3 (nI 1)) (.inl (.int, 625)) 625) 104 4 (some 107)) (.inl (.int, 625)) 625) 104 5 (some 108)) 104 6 (nI 1))
theorem c_X_id_104 {G : ab_G} {S : ab_S} (hn : sn S = 105) (hK : sK S 104 = .inr 3) : ab_C G 1 M_id_init [.ref 104] (sw S) (fun v w' => v = none ∧ w' = sw (X_id_104 S)) := by
  obtain ⟨k, K, I, J, P, n, z⟩ := S
  have hn2 : n = 105 := hn
  subst hn2
  replace hK : K 104 = .inr 3 := hK
  refine x_enter [some (.ref 104)] (by decide) (Nat.le_of_ble_eq_true rfl) rfl (fun v w' h => by obtain ⟨rfl, -⟩ := h; trivial) ?_
  refine x_aload_n 1 0 (ab_dd tk_id_init 0 rfl) rfl rfl rfl ?_
  refine x_objInit 4 (ab_dd tk_id_init 1 rfl) rfl (by omega) L_id_3 O_inst O_code (Nat.le_of_ble_eq_true rfl) ?_
  refine x_aload_n 5 0 (ab_dd tk_id_init 2 rfl) rfl rfl rfl ?_
  refine x_sipush 8 626 (ab_dd tk_id_init 3 rfl) rfl (by decide) (x_topn 626 rfl ?_)
  refine t_newI 10 626 (ab_dd tk_id_init 4 rfl) rfl (Nat.le_of_ble_eq_true rfl) A_int rfl (by decide) (x_topR 105 rfl ?_)
  refine t_putPF 13 (ab_dd tk_id_init 5 rfl) rfl F_id_9 rfl (no_nest (by decide +kernel)) (by decide) (Nat.le_of_ble_eq_true rfl) hK rfl ?_
  refine x_aload_n 14 0 (ab_dd tk_id_init 6 rfl) rfl rfl rfl ?_
  refine x_sipush 17 625 (ab_dd tk_id_init 7 rfl) rfl (by decide) (x_topn 625 rfl ?_)
  refine t_newI 19 625 (ab_dd tk_id_init 8 rfl) rfl (Nat.le_of_ble_eq_true rfl) A_int rfl (by decide) (x_topR 106 rfl ?_)
  refine t_putPF 22 (ab_dd tk_id_init 9 rfl) rfl F_id_15 rfl (no_nest (by decide +kernel)) (by decide) (Nat.le_of_ble_eq_true rfl) hK rfl ?_
  refine x_aload_n 23 0 (ab_dd tk_id_init 10 rfl) rfl rfl rfl ?_
  refine x_iconst 24 0 (ab_dd tk_id_init 11 rfl) rfl (by decide) (x_topn 0 rfl ?_)
  refine t_putI 27 (ab_dd tk_id_init 12 rfl) rfl F_id_18 (by decide) (Nat.le_of_ble_eq_true rfl) hK rfl rfl rfl ?_
  refine x_aload_n 28 0 (ab_dd tk_id_init 13 rfl) rfl rfl rfl ?_
  refine x_iconst 29 1 (ab_dd tk_id_init 14 rfl) rfl (by decide) (x_topn 1 rfl ?_)
  refine t_putI 32 (ab_dd tk_id_init 15 rfl) rfl F_id_22 (by decide) (Nat.le_of_ble_eq_true rfl) hK rfl rfl rfl ?_
  refine x_aload_n 33 0 (ab_dd tk_id_init 16 rfl) rfl rfl rfl ?_
  refine x_sipush 36 625 (ab_dd tk_id_init 17 rfl) rfl (by decide) (x_topn 625 rfl ?_)
  refine t_newI 38 625 (ab_dd tk_id_init 18 rfl) rfl (Nat.le_of_ble_eq_true rfl) A_int rfl (by decide) (x_topR 107 rfl ?_)
  refine t_putP 41 (ab_dd tk_id_init 19 rfl) rfl F_id_25 (by decide) (Nat.le_of_ble_eq_true rfl) hK rfl ?_
  refine x_aload_n 42 0 (ab_dd tk_id_init 20 rfl) rfl rfl rfl ?_
  refine x_sipush 45 625 (ab_dd tk_id_init 21 rfl) rfl (by decide) (x_topn 625 rfl ?_)
  refine t_newI 47 625 (ab_dd tk_id_init 22 rfl) rfl (Nat.le_of_ble_eq_true rfl) A_int rfl (by decide) (x_topR 108 rfl ?_)
  refine t_putP 50 (ab_dd tk_id_init 23 rfl) rfl F_id_28 (by decide) (Nat.le_of_ble_eq_true rfl) hK rfl ?_
  refine x_aload_n 51 0 (ab_dd tk_id_init 24 rfl) rfl rfl rfl ?_
  refine x_iconst 52 1 (ab_dd tk_id_init 25 rfl) rfl (by decide) (x_topn 1 rfl ?_)
  refine t_putI 55 (ab_dd tk_id_init 26 rfl) rfl F_id_31 (by decide) (Nat.le_of_ble_eq_true rfl) hK rfl rfl rfl ?_
  exact x_vret (ab_dd tk_id_init 27 rfl) ⟨rfl, rfl⟩
def tb_ty_init : List (Nat × Instr × Nat) := [(0, .aload_n 0, 1), (1, .invokespecial 3, 3), (4, .aload_n 0, 1), (5, .bipush 40, 2), (7, .newarray .long, 2), (9, .putfield 9, 3), (12, .aload_n 0, 1), (13, .iconst 0, 1), (14, .putfield 15, 3), (17, .aload_n 0, 1), (18, .iconst (-1), 1), (19, .putfield 19, 3), (22, .return_, 1)]
theorem tk_ty_init : ∀ q ∈ tb_ty_init, decode M_ty_init.2.1 q.1 = .ok q.2 := by decide +kernel
def X_ty_109 (S : ab_S) : ab_S := (pI (pI (pP (pN S (.inl (.long, 40)) 40) 109 0 (some 110)) 109 1 (nI 0)) 109 2 ((-1)))
theorem c_X_ty_109 {G : ab_G} {S : ab_S} (hn : sn S = 110) (hK : sK S 109 = .inr 10) : ab_C G 1 M_ty_init [.ref 109] (sw S) (fun v w' => v = none ∧ w' = sw (X_ty_109 S)) := by
  obtain ⟨k, K, I, J, P, n, z⟩ := S
  have hn2 : n = 110 := hn
  subst hn2
  replace hK : K 109 = .inr 10 := hK
  refine x_enter [some (.ref 109)] (by decide) (Nat.le_of_ble_eq_true rfl) rfl (fun v w' h => by obtain ⟨rfl, -⟩ := h; trivial) ?_
  refine x_aload_n 1 0 (ab_dd tk_ty_init 0 rfl) rfl rfl rfl ?_
  refine x_objInit 4 (ab_dd tk_ty_init 1 rfl) rfl (by omega) L_ty_3 O_inst O_code (Nat.le_of_ble_eq_true rfl) ?_
  refine x_aload_n 5 0 (ab_dd tk_ty_init 2 rfl) rfl rfl rfl ?_
  refine x_bipush 7 40 (ab_dd tk_ty_init 3 rfl) rfl (by decide) (x_topn 40 rfl ?_)
  refine t_newJ 9 40 (ab_dd tk_ty_init 4 rfl) rfl (Nat.le_of_ble_eq_true rfl) A_long rfl (by decide) (x_topR 110 rfl ?_)
  refine t_putPF 12 (ab_dd tk_ty_init 5 rfl) rfl F_ty_9 rfl (no_nest (by decide +kernel)) (by decide) (Nat.le_of_ble_eq_true rfl) hK rfl ?_
  refine x_aload_n 13 0 (ab_dd tk_ty_init 6 rfl) rfl rfl rfl ?_
  refine x_iconst 14 0 (ab_dd tk_ty_init 7 rfl) rfl (by decide) (x_topn 0 rfl ?_)
  refine t_putI 17 (ab_dd tk_ty_init 8 rfl) rfl F_ty_15 (by decide) (Nat.le_of_ble_eq_true rfl) hK rfl rfl rfl ?_
  refine x_aload_n 18 0 (ab_dd tk_ty_init 9 rfl) rfl rfl rfl ?_
  refine x_iconst 19 (-1) (ab_dd tk_ty_init 10 rfl) rfl (by decide) ?_
  refine t_putI 22 (ab_dd tk_ty_init 11 rfl) rfl F_ty_19 (by decide) (Nat.le_of_ble_eq_true rfl) hK rfl rfl rfl ?_
  exact x_vret (ab_dd tk_ty_init 12 rfl) ⟨rfl, rfl⟩
def X_ty_111 (S : ab_S) : ab_S := (pI (pI (pP (pN S (.inl (.long, 40)) 40) 111 0 (some 112)) 111 1 (nI 0)) 111 2 ((-1)))
theorem c_X_ty_111 {G : ab_G} {S : ab_S} (hn : sn S = 112) (hK : sK S 111 = .inr 10) : ab_C G 1 M_ty_init [.ref 111] (sw S) (fun v w' => v = none ∧ w' = sw (X_ty_111 S)) := by
  obtain ⟨k, K, I, J, P, n, z⟩ := S
  have hn2 : n = 112 := hn
  subst hn2
  replace hK : K 111 = .inr 10 := hK
  refine x_enter [some (.ref 111)] (by decide) (Nat.le_of_ble_eq_true rfl) rfl (fun v w' h => by obtain ⟨rfl, -⟩ := h; trivial) ?_
  refine x_aload_n 1 0 (ab_dd tk_ty_init 0 rfl) rfl rfl rfl ?_
  refine x_objInit 4 (ab_dd tk_ty_init 1 rfl) rfl (by omega) L_ty_3 O_inst O_code (Nat.le_of_ble_eq_true rfl) ?_
  refine x_aload_n 5 0 (ab_dd tk_ty_init 2 rfl) rfl rfl rfl ?_
  refine x_bipush 7 40 (ab_dd tk_ty_init 3 rfl) rfl (by decide) (x_topn 40 rfl ?_)
  refine t_newJ 9 40 (ab_dd tk_ty_init 4 rfl) rfl (Nat.le_of_ble_eq_true rfl) A_long rfl (by decide) (x_topR 112 rfl ?_)
  refine t_putPF 12 (ab_dd tk_ty_init 5 rfl) rfl F_ty_9 rfl (no_nest (by decide +kernel)) (by decide) (Nat.le_of_ble_eq_true rfl) hK rfl ?_
  refine x_aload_n 13 0 (ab_dd tk_ty_init 6 rfl) rfl rfl rfl ?_
  refine x_iconst 14 0 (ab_dd tk_ty_init 7 rfl) rfl (by decide) (x_topn 0 rfl ?_)
  refine t_putI 17 (ab_dd tk_ty_init 8 rfl) rfl F_ty_15 (by decide) (Nat.le_of_ble_eq_true rfl) hK rfl rfl rfl ?_
  refine x_aload_n 18 0 (ab_dd tk_ty_init 9 rfl) rfl rfl rfl ?_
  refine x_iconst 19 (-1) (ab_dd tk_ty_init 10 rfl) rfl (by decide) ?_
  refine t_putI 22 (ab_dd tk_ty_init 11 rfl) rfl F_ty_19 (by decide) (Nat.le_of_ble_eq_true rfl) hK rfl rfl rfl ?_
  exact x_vret (ab_dd tk_ty_init 12 rfl) ⟨rfl, rfl⟩
def X_ty_113 (S : ab_S) : ab_S := (pI (pI (pP (pN S (.inl (.long, 40)) 40) 113 0 (some 114)) 113 1 (nI 0)) 113 2 ((-1)))
theorem c_X_ty_113 {G : ab_G} {S : ab_S} (hn : sn S = 114) (hK : sK S 113 = .inr 10) : ab_C G 1 M_ty_init [.ref 113] (sw S) (fun v w' => v = none ∧ w' = sw (X_ty_113 S)) := by
  obtain ⟨k, K, I, J, P, n, z⟩ := S
  have hn2 : n = 114 := hn
  subst hn2
  replace hK : K 113 = .inr 10 := hK
  refine x_enter [some (.ref 113)] (by decide) (Nat.le_of_ble_eq_true rfl) rfl (fun v w' h => by obtain ⟨rfl, -⟩ := h; trivial) ?_
  refine x_aload_n 1 0 (ab_dd tk_ty_init 0 rfl) rfl rfl rfl ?_
  refine x_objInit 4 (ab_dd tk_ty_init 1 rfl) rfl (by omega) L_ty_3 O_inst O_code (Nat.le_of_ble_eq_true rfl) ?_
  refine x_aload_n 5 0 (ab_dd tk_ty_init 2 rfl) rfl rfl rfl ?_
  refine x_bipush 7 40 (ab_dd tk_ty_init 3 rfl) rfl (by decide) (x_topn 40 rfl ?_)
  refine t_newJ 9 40 (ab_dd tk_ty_init 4 rfl) rfl (Nat.le_of_ble_eq_true rfl) A_long rfl (by decide) (x_topR 114 rfl ?_)
  refine t_putPF 12 (ab_dd tk_ty_init 5 rfl) rfl F_ty_9 rfl (no_nest (by decide +kernel)) (by decide) (Nat.le_of_ble_eq_true rfl) hK rfl ?_
  refine x_aload_n 13 0 (ab_dd tk_ty_init 6 rfl) rfl rfl rfl ?_
  refine x_iconst 14 0 (ab_dd tk_ty_init 7 rfl) rfl (by decide) (x_topn 0 rfl ?_)
  refine t_putI 17 (ab_dd tk_ty_init 8 rfl) rfl F_ty_15 (by decide) (Nat.le_of_ble_eq_true rfl) hK rfl rfl rfl ?_
  refine x_aload_n 18 0 (ab_dd tk_ty_init 9 rfl) rfl rfl rfl ?_
  refine x_iconst 19 (-1) (ab_dd tk_ty_init 10 rfl) rfl (by decide) ?_
  refine t_putI 22 (ab_dd tk_ty_init 11 rfl) rfl F_ty_19 (by decide) (Nat.le_of_ble_eq_true rfl) hK rfl rfl rfl ?_
  exact x_vret (ab_dd tk_ty_init 12 rfl) ⟨rfl, rfl⟩
def X_ty_115 (S : ab_S) : ab_S := (pI (pI (pP (pN S (.inl (.long, 40)) 40) 115 0 (some 116)) 115 1 (nI 0)) 115 2 ((-1)))
theorem c_X_ty_115 {G : ab_G} {S : ab_S} (hn : sn S = 116) (hK : sK S 115 = .inr 10) : ab_C G 1 M_ty_init [.ref 115] (sw S) (fun v w' => v = none ∧ w' = sw (X_ty_115 S)) := by
  obtain ⟨k, K, I, J, P, n, z⟩ := S
  have hn2 : n = 116 := hn
  subst hn2
  replace hK : K 115 = .inr 10 := hK
  refine x_enter [some (.ref 115)] (by decide) (Nat.le_of_ble_eq_true rfl) rfl (fun v w' h => by obtain ⟨rfl, -⟩ := h; trivial) ?_
  refine x_aload_n 1 0 (ab_dd tk_ty_init 0 rfl) rfl rfl rfl ?_
  refine x_objInit 4 (ab_dd tk_ty_init 1 rfl) rfl (by omega) L_ty_3 O_inst O_code (Nat.le_of_ble_eq_true rfl) ?_
  refine x_aload_n 5 0 (ab_dd tk_ty_init 2 rfl) rfl rfl rfl ?_
  refine x_bipush 7 40 (ab_dd tk_ty_init 3 rfl) rfl (by decide) (x_topn 40 rfl ?_)
  refine t_newJ 9 40 (ab_dd tk_ty_init 4 rfl) rfl (Nat.le_of_ble_eq_true rfl) A_long rfl (by decide) (x_topR 116 rfl ?_)
  refine t_putPF 12 (ab_dd tk_ty_init 5 rfl) rfl F_ty_9 rfl (no_nest (by decide +kernel)) (by decide) (Nat.le_of_ble_eq_true rfl) hK rfl ?_
  refine x_aload_n 13 0 (ab_dd tk_ty_init 6 rfl) rfl rfl rfl ?_
  refine x_iconst 14 0 (ab_dd tk_ty_init 7 rfl) rfl (by decide) (x_topn 0 rfl ?_)
  refine t_putI 17 (ab_dd tk_ty_init 8 rfl) rfl F_ty_15 (by decide) (Nat.le_of_ble_eq_true rfl) hK rfl rfl rfl ?_
  refine x_aload_n 18 0 (ab_dd tk_ty_init 9 rfl) rfl rfl rfl ?_
  refine x_iconst 19 (-1) (ab_dd tk_ty_init 10 rfl) rfl (by decide) ?_
  refine t_putI 22 (ab_dd tk_ty_init 11 rfl) rfl F_ty_19 (by decide) (Nat.le_of_ble_eq_true rfl) hK rfl rfl rfl ?_
  exact x_vret (ab_dd tk_ty_init 12 rfl) ⟨rfl, rfl⟩
def X_sd_117 (S : ab_S) : ab_S := (pI (pI (pI (pI (pI S 117 0 (nI 0)) 117 1 (nI 0)) 117 2 (nI 0)) 117 3 (nI 0)) 117 4 (nI 0))
theorem c_X_sd_117 {G : ab_G} {S : ab_S} (hn : sn S = 118) (hK : sK S 117 = .inr 8) : ab_C G 1 M_sd_init [.ref 117] (sw S) (fun v w' => v = none ∧ w' = sw (X_sd_117 S)) := by
  obtain ⟨k, K, I, J, P, n, z⟩ := S
  have hn2 : n = 118 := hn
  subst hn2
  replace hK : K 117 = .inr 8 := hK
  refine x_enter [some (.ref 117)] (by decide) (Nat.le_of_ble_eq_true rfl) rfl (fun v w' h => by obtain ⟨rfl, -⟩ := h; trivial) ?_
  refine x_aload_n 1 0 (ab_dd tk_sd_init 0 rfl) rfl rfl rfl ?_
  refine x_objInit 4 (ab_dd tk_sd_init 1 rfl) rfl (by omega) L_sd_1 O_inst O_code (Nat.le_of_ble_eq_true rfl) ?_
  refine x_aload_n 5 0 (ab_dd tk_sd_init 2 rfl) rfl rfl rfl ?_
  refine x_iconst 6 0 (ab_dd tk_sd_init 3 rfl) rfl (by decide) (x_topn 0 rfl ?_)
  refine t_putI 9 (ab_dd tk_sd_init 4 rfl) rfl F_sd_7 (by decide) (Nat.le_of_ble_eq_true rfl) hK rfl rfl rfl ?_
  refine x_aload_n 10 0 (ab_dd tk_sd_init 5 rfl) rfl rfl rfl ?_
  refine x_iconst 11 0 (ab_dd tk_sd_init 6 rfl) rfl (by decide) (x_topn 0 rfl ?_)
  refine t_putI 14 (ab_dd tk_sd_init 7 rfl) rfl F_sd_13 (by decide) (Nat.le_of_ble_eq_true rfl) hK rfl rfl rfl ?_
  refine x_aload_n 15 0 (ab_dd tk_sd_init 8 rfl) rfl rfl rfl ?_
  refine x_iconst 16 0 (ab_dd tk_sd_init 9 rfl) rfl (by decide) (x_topn 0 rfl ?_)
  refine t_putI 19 (ab_dd tk_sd_init 10 rfl) rfl F_sd_16 (by decide) (Nat.le_of_ble_eq_true rfl) hK rfl rfl rfl ?_
  refine x_aload_n 20 0 (ab_dd tk_sd_init 11 rfl) rfl rfl rfl ?_
  refine x_iconst 21 0 (ab_dd tk_sd_init 12 rfl) rfl (by decide) (x_topn 0 rfl ?_)
  refine t_putI 24 (ab_dd tk_sd_init 13 rfl) rfl F_sd_19 (by decide) (Nat.le_of_ble_eq_true rfl) hK rfl rfl rfl ?_
  refine x_aload_n 25 0 (ab_dd tk_sd_init 14 rfl) rfl rfl rfl ?_
  refine x_iconst 26 0 (ab_dd tk_sd_init 15 rfl) rfl (by decide) (x_topn 0 rfl ?_)
  refine t_putI 29 (ab_dd tk_sd_init 16 rfl) rfl F_sd_22 (by decide) (Nat.le_of_ble_eq_true rfl) hK rfl rfl rfl ?_
  exact x_vret (ab_dd tk_sd_init 17 rfl) ⟨rfl, rfl⟩
def X_sd_118 (S : ab_S) : ab_S := (pI (pI (pI (pI (pI S 118 0 (nI 0)) 118 1 (nI 0)) 118 2 (nI 0)) 118 3 (nI 0)) 118 4 (nI 0))
theorem c_X_sd_118 {G : ab_G} {S : ab_S} (hn : sn S = 119) (hK : sK S 118 = .inr 8) : ab_C G 1 M_sd_init [.ref 118] (sw S) (fun v w' => v = none ∧ w' = sw (X_sd_118 S)) := by
  obtain ⟨k, K, I, J, P, n, z⟩ := S
  have hn2 : n = 119 := hn
  subst hn2
  replace hK : K 118 = .inr 8 := hK
  refine x_enter [some (.ref 118)] (by decide) (Nat.le_of_ble_eq_true rfl) rfl (fun v w' h => by obtain ⟨rfl, -⟩ := h; trivial) ?_
  refine x_aload_n 1 0 (ab_dd tk_sd_init 0 rfl) rfl rfl rfl ?_
  refine x_objInit 4 (ab_dd tk_sd_init 1 rfl) rfl (by omega) L_sd_1 O_inst O_code (Nat.le_of_ble_eq_true rfl) ?_
  refine x_aload_n 5 0 (ab_dd tk_sd_init 2 rfl) rfl rfl rfl ?_
  refine x_iconst 6 0 (ab_dd tk_sd_init 3 rfl) rfl (by decide) (x_topn 0 rfl ?_)
  refine t_putI 9 (ab_dd tk_sd_init 4 rfl) rfl F_sd_7 (by decide) (Nat.le_of_ble_eq_true rfl) hK rfl rfl rfl ?_
  refine x_aload_n 10 0 (ab_dd tk_sd_init 5 rfl) rfl rfl rfl ?_
  refine x_iconst 11 0 (ab_dd tk_sd_init 6 rfl) rfl (by decide) (x_topn 0 rfl ?_)
  refine t_putI 14 (ab_dd tk_sd_init 7 rfl) rfl F_sd_13 (by decide) (Nat.le_of_ble_eq_true rfl) hK rfl rfl rfl ?_
  refine x_aload_n 15 0 (ab_dd tk_sd_init 8 rfl) rfl rfl rfl ?_
  refine x_iconst 16 0 (ab_dd tk_sd_init 9 rfl) rfl (by decide) (x_topn 0 rfl ?_)
  refine t_putI 19 (ab_dd tk_sd_init 10 rfl) rfl F_sd_16 (by decide) (Nat.le_of_ble_eq_true rfl) hK rfl rfl rfl ?_
  refine x_aload_n 20 0 (ab_dd tk_sd_init 11 rfl) rfl rfl rfl ?_
  refine x_iconst 21 0 (ab_dd tk_sd_init 12 rfl) rfl (by decide) (x_topn 0 rfl ?_)
  refine t_putI 24 (ab_dd tk_sd_init 13 rfl) rfl F_sd_19 (by decide) (Nat.le_of_ble_eq_true rfl) hK rfl rfl rfl ?_
  refine x_aload_n 25 0 (ab_dd tk_sd_init 14 rfl) rfl rfl rfl ?_
  refine x_iconst 26 0 (ab_dd tk_sd_init 15 rfl) rfl (by decide) (x_topn 0 rfl ?_)
  refine t_putI 29 (ab_dd tk_sd_init 16 rfl) rfl F_sd_22 (by decide) (Nat.le_of_ble_eq_true rfl) hK rfl rfl rfl ?_
  exact x_vret (ab_dd tk_sd_init 17 rfl) ⟨rfl, rfl⟩
