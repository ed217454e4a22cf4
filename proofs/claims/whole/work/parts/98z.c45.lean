/-! ===== rows begun: as they were, or with one start more ===== -/
def rsQ (S S' : ab_S) (r kn : Nat) (a b : Nat → Int32) : Prop := (sI S' = sI S ∧ sP S' = sP S ∧ 0 < kn ∧ alk b a ∧ aQ a * 5 ^ aR a + aW a = aQ b * 5 ^ aR b + aW b) ∨ sI S' r 14 = sI S r 14 + nI 1
theorem c_ro_beg2 {G : ab_G} {S : ab_S} {im : Nat → Prop} {x c bh nb st : Nat} {a : Nat → Int32} (hX : x = 84 ∨ x = 94) {r N : Nat} (hri : ∀ y, r ≤ y → y ≤ r + 7 → ¬ im y) (hrb : bh < r ∨ r + 7 < bh) (ha : aGood a) (hN : kFc (aR a) * 5 ^ aR a ≤ N) {kn : Nat} {b : Nat → Int32} (S2 : ab_S) (h14 : sI S2 r 14 = sI S r 14) (hE : rEq r [r, r + 1, r + 2, r + 3] S S2) (hK : clK S2 x) (hO : roK S2 r N) (hcl : clI S2 im x c a bh nb st) (hp8 : sP S2 r 8 = some x) (h10 : sI S2 r 10 = nI (5 ^ aR a)) (hso : ∀ v, v < N → ∃ e, sI S2 (r + 2) v = nI e ∧ e < 15000) : ab_Ex G 1 M_ro_begin 60 [some (.ref r), some (.ref x), some (.int (nI (aW a))), some (.int (nI (aQ a))), some (.int (nI (aQ a * 5 ^ aR a + aW a)))] [] (sw S2) (fun v w' => v = none ∧ ∃ S' k, w' = sw S' ∧ rEq r [r, r + 1, r + 2, r + 3] S S' ∧ clI S' im x c a bh nb st ∧ roI S' r N x a k ∧ sI S' r 9 = nI st ∧ rsQ S S' r kn a b) := by
  have hN15 : N ≤ 15000 := hO.2.2.2.2.2.2.2.2.2.2.2.2.2.2.2.2.2.2
  have hr145 := hO.1
  have hcl0 := hcl
  obtain ⟨a1, a2, a3, a4, a5, a6, a7, a8, a9, a10, a11, a12, b1, b2, b3⟩ := hcl0
  have hk := a1.1
  have c1 := a1.2.1
  have hvc : vC a (aQ a * 5 ^ aR a + aW a) := (vC_mk (rowT_in ha.1).1 (rowT_in ha.1).2.1).1
  unfold vC at hvc
  have hcr : c ≠ r := fun z => hri r (Nat.le_refl _) (Nat.le_add_right _ _) (z ▸ hk.2.2.2.2.2.2.2.1)
  refine x_aload_n 61 0 (ab_dd tk_ro_begin 32 rfl) rfl rfl rfl ?_
  refine x_aload_n 62 1 (ab_dd tk_ro_begin 33 rfl) rfl rfl rfl ?_
  refine t_getI 65 (ab_dd tk_ro_begin 34 rfl) rfl F_ro_72 (by rcases hK.1 with z | z <;> omega) (Nat.lt_of_le_of_lt (Nat.le_add_right x 9) hK.2.1) hK.2.2.1 rfl (x_topn st a5 ?_)
  refine t_putI 68 (ab_dd tk_ro_begin 35 rfl) rfl F_ro_15 (by have := hO.1; omega) (Nat.lt_of_le_of_lt (Nat.le_add_right r 7) hO.2.1) hO.2.2.1 rfl rfl rfl ?_
  refine x_aload_n 69 0 (ab_dd tk_ro_begin 36 rfl) rfl rfl rfl ?_
  refine x_aload_n 70 1 (ab_dd tk_ro_begin 37 rfl) rfl rfl rfl ?_
  refine t_getP 73 c (ab_dd tk_ro_begin 38 rfl) rfl F_ro_63 (by rcases hK.1 with z | z <;> omega) (Nat.lt_of_le_of_lt (Nat.le_add_right x 9) hK.2.1) hK.2.2.1 rfl a2 ?_
  refine t_getI 76 (ab_dd tk_ro_begin 39 rfl) rfl F_ro_69 hk.1 (Nat.lt_of_le_of_lt (Nat.le_add_right c 2) hk.2.1) hk.2.2.1 rfl (x_topn (aR a) ((gI_a (by omega)).trans c1) ?_)
  refine t_putI 79 (ab_dd tk_ro_begin 40 rfl) rfl F_ro_22 (by have := hO.1; omega) (Nat.lt_of_le_of_lt (Nat.le_add_right r 7) hO.2.1) hO.2.2.1 rfl rfl rfl ?_
  refine x_aload_n 80 0 (ab_dd tk_ro_begin 41 rfl) rfl rfl rfl ?_
  refine x_iconst 81 0 (ab_dd tk_ro_begin 42 rfl) rfl (by decide) (x_topn 0 rfl ?_)
  refine t_putI 84 (ab_dd tk_ro_begin 43 rfl) rfl F_ro_25 (by have := hO.1; omega) (Nat.lt_of_le_of_lt (Nat.le_add_right r 7) hO.2.1) hO.2.2.1 rfl rfl rfl ?_
  refine x_aload_n 85 0 (ab_dd tk_ro_begin 44 rfl) rfl rfl rfl ?_
  refine x_iconst 86 0 (ab_dd tk_ro_begin 45 rfl) rfl (by decide) (x_topn 0 rfl ?_)
  refine t_putI 89 (ab_dd tk_ro_begin 46 rfl) rfl F_ro_28 (by have := hO.1; omega) (Nat.lt_of_le_of_lt (Nat.le_add_right r 7) hO.2.1) hO.2.2.1 rfl rfl rfl ?_
  refine x_aload_n 90 0 (ab_dd tk_ro_begin 47 rfl) rfl rfl rfl ?_
  refine x_dup 91 (ab_dd tk_ro_begin 48 rfl) rfl rfl ?_
  refine t_getI 94 (ab_dd tk_ro_begin 49 rfl) rfl F_ro_31 (by have := hO.1; omega) (Nat.lt_of_le_of_lt (Nat.le_add_right r 7) hO.2.1) hO.2.2.1 rfl ?_
  refine x_iconst 95 1 (ab_dd tk_ro_begin 50 rfl) rfl (by decide) (x_topn 1 rfl ?_)
  refine x_iadd 96 (ab_dd tk_ro_begin 51 rfl) rfl ?_
  refine t_putI 99 (ab_dd tk_ro_begin 52 rfl) rfl F_ro_31 (by have := hO.1; omega) (Nat.lt_of_le_of_lt (Nat.le_add_right r 7) hO.2.1) hO.2.2.1 rfl rfl rfl ?_
  refine x_aload_n 100 0 (ab_dd tk_ro_begin 53 rfl) rfl rfl rfl ?_
  refine x_iload 102 4 (ab_dd tk_ro_begin 54 rfl) rfl rfl ?_
  refine x_iconst 103 (-1) (ab_dd tk_ro_begin 55 rfl) rfl (by decide) ?_
  refine t_callV 106 M_ro_standWith 0 2 [_, _] (ab_dd tk_ro_begin 56 rfl) rfl (by first | decide | omega) K_ro_standWith V_ro_standWith.1 V_ro_standWith.2 L_ro_73 rfl (Nat.le_of_ble_eq_true rfl) (by have := hO.1; omega) (Nat.lt_of_le_of_lt (Nat.le_add_right r 7) hO.2.1) hO.2.2.1 rfl (c_ro_standWith (L := []) (by exact hO) (by exact ⟨(gI_k (by decide)).trans ((gI_k (by decide)).trans gI_s), fun i hi => absurd hi (Nat.not_lt_zero i), fun i hi => absurd hi (Nat.not_lt_zero i), fun v hv => by obtain ⟨e, e1, e2⟩ := hso v hv; exact ⟨e, by rw [gI_o (by omega), gI_o (by omega), gI_o (by omega), gI_o (by omega), gI_o (by omega)]; exact e1, e2⟩⟩) List.nodup_nil (fun c hc => absurd hc List.not_mem_nil) (aQ a * 5 ^ aR a + aW a) (by omega) (-1)) (fun v1 w1 h1 => ?_)
  obtain ⟨rfl, S4, rfl, hE4, hL4, hj4, hf4, hn4⟩ := h1
  refine x_pop 107 (ab_dd tk_ro_begin 57 rfl) rfl rfl ?_
  have hm : r ∈ [r, r + 1, r + 2, r + 3] := List.Mem.head _
  have hE5 : sEq [r, r + 1, r + 2, r + 3] S2 S4 := (((((sEq.rf.pI hm).pI hm).pI hm).pI hm).pI hm).tr hE4
  have hb : bfA [] (aQ a * 5 ^ aR a + aW a) = cL a 0 := (bfA_new List.not_mem_nil).1
  rw [hb] at hL4
  have q14 : sI S4 r 14 = sI S r 14 + nI 1 := (hj4 14 (by decide)).trans (gI_s.trans (by rw [gI_k (by decide), gI_k (by decide), gI_k (by decide), gI_k (by decide), h14]))
  have q9 : sI S4 r 9 = nI st := (hj4 9 (by decide)).trans ((gI_k (by decide)).trans ((gI_k (by decide)).trans ((gI_k (by decide)).trans ((gI_k (by decide)).trans gI_s))))
  have q11 : sI S4 r 11 = nI (aR a) := (hj4 11 (by decide)).trans ((gI_k (by decide)).trans ((gI_k (by decide)).trans ((gI_k (by decide)).trans gI_s)))
  have q13 : sI S4 r 13 = nI 0 := (hj4 13 (by decide)).trans ((gI_k (by decide)).trans gI_s)
  have q10 : sI S4 r 10 = nI (5 ^ aR a) := (hj4 10 (by decide)).trans ((gI_k (by decide)).trans ((gI_k (by decide)).trans ((gI_k (by decide)).trans ((gI_k (by decide)).trans ((gI_k (by decide)).trans h10)))))
  exact x_vret (ab_dd tk_ro_begin 58 rfl) ⟨rfl, S4, 0, rfl, hE.tr (rEq.of hE5), hcl.eq hE5 (by simp only [List.mem_cons, List.not_mem_nil, or_false, not_or]; omega) (fun u hu => hri u (by simp only [List.mem_cons, List.not_mem_nil, or_false] at hu; omega) (by simp only [List.mem_cons, List.not_mem_nil, or_false] at hu; omega)) (by simp only [List.mem_cons, List.not_mem_nil, or_false, not_or]; omega) (by simp only [List.mem_cons, List.not_mem_nil, or_false, not_or]; omega) (by simp only [List.mem_cons, List.not_mem_nil, or_false, not_or]; omega), ⟨hL4, Nat.zero_le _, q13, q10, q11, by rw [hE5.2.2.2.2.1]; exact hp8, ⟨hn4 List.not_mem_nil, fun i h1 h2 => absurd (show i < 1 from h2) (by omega)⟩, fun i d h1 _ => absurd h1 (Nat.not_lt_zero i), hN⟩, q9, Or.inr q14⟩
theorem c_ro_beg {G : ab_G} {S : ab_S} (hx : xSh S) (kc : kSh S.1) {im : Nat → Prop} {c bh nb st : Nat} {a : Nat → Int32} (hK : clK S 84) (hcl : clI S im 84 c a bh nb st) {r N : Nat} (hri : ∀ y, r ≤ y → y ≤ r + 7 → ¬ im y) (hrb : bh < r ∨ r + 7 < bh) (ha : aGood a) (hN : kFc (aR a) * 5 ^ aR a ≤ N) (hO : roK S r N) (hso : ∀ v, v < N → ∃ e, sI S (r + 2) v = nI e ∧ e < 15000) {kn : Nat} (hkn : sI S r 12 = nI kn) (hk31 : kn < 2 ^ 31) {b : Nat → Int32} (hold : 0 < kn → ∃ k, aOk b ∧ roI S r N 84 b k ∧ (sI S r 9 = nI st → alk b a)) : ab_C G 1 M_ro_begin [.ref r, .ref 84, .int (nI (aW a)), .int (nI (aQ a))] (sw S) (fun v w' => v = none ∧ ∃ S' k, w' = sw S' ∧ rEq r [r, r + 1, r + 2, r + 3] S S' ∧ clI S' im 84 c a bh nb st ∧ roI S' r N 84 a k ∧ sI S' r 9 = nI st ∧ rsQ S S' r kn a b) := by
  refine x_enter [some (.ref r), some (.ref 84), some (.int (nI (aW a))), some (.int (nI (aQ a))), none] (by decide) (Nat.le_of_ble_eq_true rfl) rfl (fun v w' h => by obtain ⟨rfl, -⟩ := h; trivial) ?_
  have hN15 : N ≤ 15000 := hO.2.2.2.2.2.2.2.2.2.2.2.2.2.2.2.2.2.2
  have hr145 := hO.1
  have h50 : 50 ≤ sn S := Nat.le_trans (by decide) hx.1
  have hR := ha.1.R.2
  have hcl0 := hcl
  obtain ⟨a1, a2, a3, a4, a5, a6, a7, a8, a9, a10, a11, a12, b1, b2, b3⟩ := hcl0
  have hk := a1.1
  have c1 := a1.2.1
  have hvc : vC a (aQ a * 5 ^ aR a + aW a) := (vC_mk (rowT_in ha.1).1 (rowT_in ha.1).2.1).1
  unfold vC at hvc
  have hcr : c ≠ r := fun z => hri r (Nat.le_refl _) (Nat.le_add_right _ _) (z ▸ hk.2.2.2.2.2.2.2.1)
  have hm : r ∈ [r, r + 1, r + 2, r + 3] := List.Mem.head _
  have hE1 : sEq [r, r + 1, r + 2, r + 3] S (pI S r 10 (nI (5 ^ aR a))) := sEq.rf.pI hm
  have hcl1 : clI (pI S r 10 (nI (5 ^ aR a))) im 84 c a bh nb st := hcl.eq hE1 (by simp only [List.mem_cons, List.not_mem_nil, or_false, not_or]; omega) (fun u hu => hri u (by simp only [List.mem_cons, List.not_mem_nil, or_false] at hu; omega) (by simp only [List.mem_cons, List.not_mem_nil, or_false] at hu; omega)) (by simp only [List.mem_cons, List.not_mem_nil, or_false, not_or]; omega) (by simp only [List.mem_cons, List.not_mem_nil, or_false, not_or]; omega) (by simp only [List.mem_cons, List.not_mem_nil, or_false, not_or]; omega)
  have anew : ab_Ex G 1 M_ro_begin 55 [some (.ref r), some (.ref 84), some (.int (nI (aW a))), some (.int (nI (aQ a))), some (.int (nI (aQ a * 5 ^ aR a + aW a)))] [] (sw (pI S r 10 (nI (5 ^ aR a)))) (fun v w' => v = none ∧ ∃ S' k, w' = sw S' ∧ rEq r [r, r + 1, r + 2, r + 3] S S' ∧ clI S' im 84 c a bh nb st ∧ roI S' r N 84 a k ∧ sI S' r 9 = nI st ∧ rsQ S S' r kn a b) := by
    refine x_aload_n 56 0 (ab_dd tk_ro_begin 29 rfl) rfl rfl rfl ?_
    refine x_aload_n 57 1 (ab_dd tk_ro_begin 30 rfl) rfl rfl rfl ?_
    refine t_putP 60 (ab_dd tk_ro_begin 31 rfl) rfl F_ro_9 (by have := hO.1; omega) (Nat.lt_of_le_of_lt (Nat.le_add_right r 7) hO.2.1) hO.2.2.1 rfl ?_
    refine c_ro_beg2 (Or.inl rfl) hri hrb ha hN _ (gI_k (by decide)) (rEq.rP (rEq.of hE1)) ?_ (roK.rR (hO.eq hE1)) (hcl1.rR (hri r (Nat.le_refl _) (Nat.le_add_right _ _)) (Or.inl rfl) hr145) gP_s gI_s (fun v hv => ?_)
    · obtain ⟨e1, e2, e3, e4, e5, e6, e7, e8, eP⟩ := hK
      exact ⟨e1, e2, e3, e4, e5, e6, e7, e8, by simp only [gP_o (show 84 ≠ r by omega)]; exact eP⟩
    · obtain ⟨e, e1, e2⟩ := hso v hv
      exact ⟨e, by show sI (pI S r 10 _) (r + 2) v = _; rw [gI_o (by omega)]; exact e1, e2⟩
  refine x_aload_n 1 0 (ab_dd tk_ro_begin 0 rfl) rfl rfl rfl ?_
  refine x_getsN 4 (ab_dd tk_ro_begin 1 rfl) rfl (List.mem_of_getElem? (i := 0) rfl) F_ro_60 ?_
  refine x_aload_n 5 1 (ab_dd tk_ro_begin 2 rfl) rfl rfl rfl ?_
  refine t_getP 8 c (ab_dd tk_ro_begin 3 rfl) rfl F_ro_63 (by decide) (Nat.lt_of_lt_of_le (by decide) hx.1) (hx.2.1 34 (by decide)) rfl a2 ?_
  refine t_getI 11 (ab_dd tk_ro_begin 4 rfl) rfl F_ro_69 hk.1 (Nat.lt_of_le_of_lt (Nat.le_add_right c 2) hk.2.1) hk.2.2.1 rfl (x_topn (aR a) c1 ?_)
  refine t_ialdK 12 (aR a) (ab_dd tk_ro_begin 5 rfl) rfl (by decide) h50 (kc.2.1) rfl (by omega) (by decide) (x_topn (5 ^ aR a) (kPw_N _ (by omega)) ?_)
  refine t_putI 15 (ab_dd tk_ro_begin 6 rfl) rfl F_ro_19 (by have := hO.1; omega) (Nat.lt_of_le_of_lt (Nat.le_add_right r 7) hO.2.1) hO.2.2.1 rfl rfl rfl ?_
  refine x_iload_n 16 3 (ab_dd tk_ro_begin 7 rfl) rfl rfl rfl ?_
  refine x_aload_n 17 0 (ab_dd tk_ro_begin 8 rfl) rfl rfl rfl ?_
  refine t_getI 20 (ab_dd tk_ro_begin 9 rfl) rfl F_ro_19 (by have := hO.1; omega) (Nat.lt_of_le_of_lt (Nat.le_add_right r 7) hO.2.1) hO.2.2.1 rfl (x_topn (5 ^ aR a) gI_s ?_)
  refine x_imul 21 (ab_dd tk_ro_begin 10 rfl) rfl (x_topn ((aQ a) * (5 ^ aR a)) (pk_mul _ _) ?_)
  refine x_iload_n 22 2 (ab_dd tk_ro_begin 11 rfl) rfl rfl rfl ?_
  refine x_iadd 23 (ab_dd tk_ro_begin 12 rfl) rfl (x_topn (((aQ a) * (5 ^ aR a)) + (aW a)) (nI_add _ _) ?_)
  refine x_istore 25 [some (.ref r), some (.ref 84), some (.int (nI (aW a))), some (.int (nI (aQ a))), some (.int (nI (((aQ a) * (5 ^ aR a)) + (aW a))))] 4 (ab_dd tk_ro_begin 13 rfl) rfl (by decide) rfl ?_
  refine x_aload_n 26 1 (ab_dd tk_ro_begin 14 rfl) rfl rfl rfl ?_
  refine t_getI 29 (ab_dd tk_ro_begin 15 rfl) rfl F_ro_72 (by decide) (Nat.lt_of_lt_of_le (by decide) hx.1) (hx.2.1 34 (by decide)) rfl (x_topn st ((gI_a (by omega)).trans a5) ?_)
  refine x_aload_n 30 0 (ab_dd tk_ro_begin 16 rfl) rfl rfl rfl ?_
  refine t_getI 33 (ab_dd tk_ro_begin 17 rfl) rfl F_ro_15 (by have := hO.1; omega) (Nat.lt_of_le_of_lt (Nat.le_add_right r 7) hO.2.1) hO.2.2.1 rfl ?_
  refine x_icmp_ne 36 55 (ab_dd tk_ro_begin 18 rfl) rfl (by decide) (fun h33 => ?_) (fun h33 => ?_)
  · exact anew
  · refine x_aload_n 37 0 (ab_dd tk_ro_begin 19 rfl) rfl rfl rfl ?_
    refine t_getI 40 (ab_dd tk_ro_begin 20 rfl) rfl F_ro_25 (by have := hO.1; omega) (Nat.lt_of_le_of_lt (Nat.le_add_right r 7) hO.2.1) hO.2.2.1 rfl (x_topn kn ((gI_k (by decide)).trans hkn) ?_)
    refine xn_if_le 43 55 (ab_dd tk_ro_begin 21 rfl) rfl (by decide) (by omega) (fun h40 => ?_) (fun h40 => ?_)
    · exact anew
    · obtain ⟨k, hbo, hIb, hal⟩ := hold (by omega)
      have hvb : vC b (aQ b * 5 ^ aR b + aW b) := (vC_mk (rowT_in hbo).1 (rowT_in hbo).2.1).1
      unfold vC at hvb
      have hNb := hIb.2.2.2.2.2.2.2.2
      have hp0 := (bfB_pos (nx := nxC b) (c0 := aQ b * 5 ^ aR b + aW b) k)
      have hc0 : sI S (r + 1) 0 = nI (aQ b * 5 ^ aR b + aW b) := by rw [hIb.1.2.1 0 hp0.1]; exact congrArg nI hp0.2
      refine x_aload_n 44 0 (ab_dd tk_ro_begin 22 rfl) rfl rfl rfl ?_
      refine t_getP 47 (r + 1) (ab_dd tk_ro_begin 23 rfl) rfl F_ro_38 (by have := hO.1; omega) (Nat.lt_of_le_of_lt (Nat.le_add_right r 7) hO.2.1) hO.2.2.1 rfl hO.2.2.2.2.2.2.2.2.2.2.2.1 ?_
      refine x_iconst 48 0 (ab_dd tk_ro_begin 24 rfl) rfl (by decide) (x_topn 0 rfl ?_)
      refine t_iald 49 0 (ab_dd tk_ro_begin 25 rfl) rfl (by have := hO.1; omega) (Nat.lt_of_le_of_lt (Nat.add_le_add_left (by decide) r) hO.2.1) hO.2.2.2.1 rfl (by omega) (by omega) (x_topn (aQ b * 5 ^ aR b + aW b) ((congrFun (gI_o (by omega)) _).trans hc0) ?_)
      refine x_iload 51 4 (ab_dd tk_ro_begin 26 rfl) rfl rfl ?_
      refine xn_icmp_ne 54 55 (ab_dd tk_ro_begin 27 rfl) rfl (by decide) (by omega) (by omega) (fun h51 => ?_) (fun h51 => ?_)
      · exact anew
      · have e9 : sI (pI S r 10 (nI (5 ^ aR a))) r 9 = sI S r 9 := gI_k (by decide)
        have hst : sI S r 9 = nI st := e9.symm.trans (by first | exact h33.symm | exact (Decidable.not_not.mp h33).symm)
        have hab := hal hst
        have hRb : aR b = aR a := hab.1.R.symm
        have hfn : sI (pI S r 10 (nI (5 ^ aR a))) = sI S := by
          funext u j
          by_cases y : u = r
          · by_cases z : j = 10
            · rw [y, z, gI_s, ← hRb]; exact hIb.2.2.2.1.symm
            · rw [gI_k z]
          · rw [gI_o y]
        have hIn : roI (pI S r 10 (nI (5 ^ aR a))) r N 84 b k := by
          unfold roI roL roF roN at hIb ⊢
          rw [hfn]
          exact hIb
        exact x_vret (ab_dd tk_ro_begin 28 rfl) ⟨rfl, _, k, rfl, rEq.of hE1, hcl1, hIn.alk hab (by omega), by rw [hfn]; exact hst, Or.inl ⟨hfn, rfl, by omega, hab, by omega⟩⟩
