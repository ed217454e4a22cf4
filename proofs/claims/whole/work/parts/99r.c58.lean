/-! ===== stops ===== -/
def itr (a : Nat → Int32) : Nat → (Nat → Int32)
  | 0 => a
  | k + 1 => aft (itr a k) 0
theorem itr_ok {a : Nat → Int32} (h : aGood a) : ∀ k, aGood (itr a k) ∧ sta a (itr a k)
  | 0 => ⟨h, sta.rf⟩
  | k + 1 => by
    have i := itr_ok h k
    have j := aft_ok i.1 0
    exact ⟨j.1, i.2.tr j.2⟩
def tb_s_stops : List (Nat × Instr × Nat) := [(0, .iload_n 1, 1), (1, .iconst 1, 1), (2, .if_icmp .lt 9, 3), (5, .iload_n 1, 1), (6, .bipush 99, 2), (8, .if_icmp .le 6, 3), (11, .bipush (-3), 2), (13, .ireturn, 1), (14, .aload_n 0, 1), (15, .getfield 37, 3), (18, .aload_n 0, 1), (19, .getfield 27, 3), (22, .invokevirtual 194, 3), (25, .iconst 0, 1), (26, .istore_n 2, 1), (27, .iload_n 2, 1), (28, .iload_n 1, 1), (29, .if_icmp .ge 23, 3), (32, .aload_n 0, 1), (33, .aload_n 0, 1), (34, .getfield 77, 3), (37, .aload_n 0, 1), (38, .getfield 27, 3), (41, .lconst 0, 1), (42, .invokevirtual 198, 3), (45, .pop, 1), (46, .iinc 2 1, 3), (49, .goto (-22), 3), (52, .aload_n 0, 1), (53, .getfield 27, 3), (56, .getfield 145, 3), (59, .aload_n 0, 1), (60, .getfield 20, 3), (63, .getfield 177, 3), (66, .invokestatic 191, 3), (69, .ireturn, 1)]
theorem tk_s_stops : ∀ q ∈ tb_s_stops, decode M_s_stops.2.1 q.1 = .ok q.2 := by decide +kernel
theorem p_s_stops {G : ab_G} {S : ab_S} {im : Nat → Prop} {a b : Nat → Int32} {c bh nb st st2 u : Nat} (h : kBd S im a c b bh nb st st2 u) (ht : sdE S 55 (rowT a)) (hu : u + 128 < 2 ^ 20) {n s : Nat} {f : Nat → sT} (hp : paI S n s f) (e : Int32) : ab_C G 7 M_s_stops [.ref 50, .int e] (sw S) (fun v w' => (¬ (1 ≤ e ∧ e ≤ 99) ∧ pDe S im a c bh nb st2 u n s f (some (.int (-3))) a False v w') ∨ ((1 ≤ e ∧ e ≤ 99) ∧ v = some (.int (nI (mLe (aW (itr a (cN e))) (aR a)))) ∧ ∃ S' b' st', w' = sw S' ∧ sEq (dL bh) S S' ∧ kBd S' im (itr a (cN e)) c b' bh nb st' st2 (u + 128) ∧ sdE S' 55 (rowT (itr a (cN e))) ∧ paI S' ((n + 1) % 10) (if s + 1 ≤ 10 then s + 1 else 10) (up1 f n (rowT a)))) := by
  refine x_enter [some (.ref 50), some (.int e), none] (by decide) (Nat.le_of_ble_eq_true rfl) rfl (fun v w' h => by rcases h with ⟨-, rfl, -⟩ | ⟨-, rfl, -⟩ <;> rfl) ?_
  have hbh := h.bh.1
  have h0 := h
  obtain ⟨hx, hse, kc, ⟨him, hil, h145⟩, ha, hc, ⟨hb1, hb2, hcl, hnb⟩, hcl9, -, hid, -, hu1, hu2⟩ := h0
  have h40 : sI S 55 3 = a 40 := ht.2.2.2.1.trans ha.1.m40.1.symm
  have hca := hcl.1.sta hb2.sy
  obtain ⟨hk, c1, -⟩ := hca
  have hR := ha.1.R.2
  have h50 : 50 ≤ sn S := by omega
  have hw6 : aW a < 625 := by have := (rowT_in ha.1).2.1; have := p5_6 hR; omega
  have hsl := seaC_lt ha.1
  refine x_iload_n 1 1 (ab_dd tk_s_stops 0 rfl) rfl rfl rfl ?_
  refine x_iconst 2 1 (ab_dd tk_s_stops 1 rfl) rfl (by decide) (x_topn 1 rfl ?_)
  refine x_icmp_lt 5 11 (ab_dd tk_s_stops 2 rfl) rfl (by decide) (fun h2 => ?_) (fun h2 => ?_)
  · refine x_bipush 13 (-3) (ab_dd tk_s_stops 6 rfl) rfl (by decide) ?_
    exact x_iret (ab_dd tk_s_stops 7 rfl) (Or.inl ⟨fun z => absurd h2 (Int32.not_lt.mpr z.1), ⟨rfl, S, b, st, rfl, sEq.rf, h.up (by omega), ht, fun z => z.elim, fun _ => hp⟩⟩)
  · refine x_iload_n 6 1 (ab_dd tk_s_stops 3 rfl) rfl rfl rfl ?_
    refine x_bipush 8 99 (ab_dd tk_s_stops 4 rfl) rfl (by decide) (x_topn 99 rfl ?_)
    refine x_icmp_le 11 14 (ab_dd tk_s_stops 5 rfl) rfl (by decide) (fun h8 => ?_) (fun h8 => ?_)
    · have hdd : 1 ≤ e ∧ e ≤ 99 := ⟨Int32.not_lt.mp h2, h8⟩
      obtain ⟨q, hq, ekq, enq⟩ := in_get (n := 99) (by decide) ⟨Int32.le_trans (by decide) hdd.1, hdd.2⟩
      rw [show some (Value.int e) = some (Value.int (nI q)) by rw [ekq], enq]
      refine x_aload_n 15 0 (ab_dd tk_s_stops 8 rfl) rfl rfl rfl ?_
      refine t_getP 18 57 (ab_dd tk_s_stops 9 rfl) rfl F_s_37 (by decide) (Nat.lt_of_lt_of_le (by decide) hx.1) (hx.2.1 0 (by decide)) rfl (hx.2.2 (50, 5, 57) (by decide)) ?_
      refine x_aload_n 19 0 (ab_dd tk_s_stops 10 rfl) rfl rfl rfl ?_
      refine t_getP 22 55 (ab_dd tk_s_stops 11 rfl) rfl F_s_27 (by decide) (Nat.lt_of_lt_of_le (by decide) hx.1) (hx.2.1 0 (by decide)) rfl (hx.2.2 (50, 3, 55) (by decide)) ?_
      refine t_callV 25 M_pa_keep 1 1 [_] (ab_dd tk_s_stops 12 rfl) rfl (by first | decide | omega) K_pa_keep V_pa_keep.1 V_pa_keep.2 L_s_194 rfl (Nat.le_of_ble_eq_true rfl) (by decide) (Nat.lt_of_lt_of_le (by decide) hx.1) (hx.2.1 7 (by decide)) rfl (c_pa_keep hx hp (show sdK S 55 from x_55 hx (by decide)) (Or.inl (by decide)) ht) (fun v1 w1 h1 => ?_)
      obtain ⟨rfl, S1, rfl, hE1, hp1⟩ := h1
      have hB1 := h.se hE1 (fun y hy => by simp only [List.mem_cons, List.not_mem_nil, or_false] at hy; omega)
      have hx1 : xSh S1 := hB1.1
      have hn1 : sdE S1 55 (rowT a) := ht.eq hE1 (by simp only [List.mem_cons, List.not_mem_nil, or_false, not_or]; omega)
      refine x_iconst 26 0 (ab_dd tk_s_stops 13 rfl) rfl (by decide) (x_topn 0 rfl ?_)
      refine x_istore_n 27 [some (.ref 50), some (.int (nI q)), some (.int (nI 0))] 2 (ab_dd tk_s_stops 14 rfl) rfl rfl (by decide) rfl ?_
      have loop : ∀ (m k : Nat), k + m = q → ∀ (S2 : ab_S) (b2 : Nat → Int32) (s2 : Nat), kBd S2 im (itr a k) c b2 bh nb s2 st2 (u + k) → sEq [84, 89, 90, 91, 92, 93, bh, 55] S1 S2 → sdE S2 55 (rowT (itr a k)) → ab_Ex G 7 M_s_stops 27 [some (.ref 50), some (.int (nI q)), some (.int (nI k))] [] (sw S2) (fun v w' => (¬ (1 ≤ e ∧ e ≤ 99) ∧ pDe S im a c bh nb st2 u n s f (some (.int (-3))) a False v w') ∨ ((1 ≤ e ∧ e ≤ 99) ∧ v = some (.int (nI (mLe (aW (itr a (q))) (aR a)))) ∧ ∃ S' b' st', w' = sw S' ∧ sEq (dL bh) S S' ∧ kBd S' im (itr a (q)) c b' bh nb st' st2 (u + 128) ∧ sdE S' 55 (rowT (itr a (q))) ∧ paI S' ((n + 1) % 10) (if s + 1 ≤ 10 then s + 1 else 10) (up1 f n (rowT a)))) := by
        intro m
        induction m with
        | zero =>
          intro k hk S2 b2 s2 hB2 hE2 hn2
          have hkq : k = q := by omega
          rw [hkq] at hB2 hn2 ⊢
          have hB2c := hB2
          obtain ⟨hx2, -, kc2, ⟨-, -, h1452⟩, ha2, hc2, ⟨-, hsb2, hcl2, -⟩, -⟩ := hB2c
          have hRa : aR (itr a q) = aR a := (itr_ok ha q).2.R
          obtain ⟨hk2, c20, -⟩ := hcl2.1.sta hsb2.sy
          have c21 : sI S2 c 0 = nI (aR a) := by rw [← hRa]; exact c20
          have hw62 : aW (itr a q) < 625 := by have := (rowT_in ha2.1).2.1; have := p5_6 ha2.1.R.2; omega
          refine x_iload_n 28 2 (ab_dd tk_s_stops 15 rfl) rfl rfl rfl ?_
          refine x_iload_n 29 1 (ab_dd tk_s_stops 16 rfl) rfl rfl rfl ?_
          refine x_icmp_ge_t 52 (ab_dd tk_s_stops 17 rfl) (by decide) ((nI_leI (a := q) (b := q) (by omega) (by omega)).mpr (show q ≤ q by omega)) ?_
          refine x_aload_n 53 0 (ab_dd tk_s_stops 28 rfl) rfl rfl rfl ?_
          refine t_getP 56 55 (ab_dd tk_s_stops 29 rfl) rfl F_s_27 (by decide) (Nat.lt_of_lt_of_le (by decide) hx2.1) (hx2.2.1 0 (by decide)) rfl (hx2.2.2 (50, 3, 55) (by decide)) ?_
          refine t_getI 59 (ab_dd tk_s_stops 30 rfl) rfl F_s_145 (by decide) (Nat.lt_of_lt_of_le (by decide) hx2.1) (hx2.2.1 5 (by decide)) rfl (x_topn (aW (itr a q)) hn2.2.1 ?_)
          refine x_aload_n 60 0 (ab_dd tk_s_stops 31 rfl) rfl rfl rfl ?_
          refine t_getP 63 c (ab_dd tk_s_stops 32 rfl) rfl F_s_20 (by decide) (Nat.lt_of_lt_of_le (by decide) hx2.1) (hx2.2.1 0 (by decide)) rfl hc2 ?_
          refine t_getI 66 (ab_dd tk_s_stops 33 rfl) rfl F_s_177 hk2.1 (Nat.lt_of_le_of_lt (Nat.le_add_right c 2) hk2.2.1) hk2.2.2.1 rfl (x_topn (aR a) c21 ?_)
          refine x_callS 69 M_s_leastOf 1 2 [_, _] (ab_dd tk_s_stops 34 rfl) rfl (by first | decide | omega) K_s_leastOf T_s_leastOf L_s_191 rfl (Nat.le_of_ble_eq_true rfl) (c_s_leastOf (aW (itr a q)) (aR a) hw62 hR) (fun v1 w1 h1 => ?_)
          obtain ⟨rfl, rfl⟩ := h1
          exact x_iret (ab_dd tk_s_stops 35 rfl) (Or.inr ⟨by first | exact hdd | (rw [← ekq]; exact hdd), rfl, S2, b2, s2, rfl, (hE1.mono (fun y hy => by simp only [dL, List.mem_cons, List.not_mem_nil, or_false] at hy ⊢; omega)).tr (hE2.mono (fun y hy => by simp only [dL, List.mem_cons, List.not_mem_nil, or_false] at hy ⊢; omega)), hB2.up (by omega), hn2, hp1.eq hE2 (fun y y1 y2 => (by simp only [List.mem_cons, List.not_mem_nil, or_false, not_or]; omega))⟩)
        | succ m ih =>
          intro k hk S2 b2 s2 hB2 hE2 hn2
          have hx2 : xSh S2 := hB2.1
          refine x_iload_n 28 2 (ab_dd tk_s_stops 15 rfl) rfl rfl rfl ?_
          refine x_iload_n 29 1 (ab_dd tk_s_stops 16 rfl) rfl rfl rfl ?_
          refine x_icmp_ge_f 32 (ab_dd tk_s_stops 17 rfl) rfl 52 (by decide) (fun z => absurd ((nI_leI (a := q) (b := k) (by omega) (by omega)).mp z) (show ¬ (q ≤ k) by omega)) ?_
          refine x_aload_n 33 0 (ab_dd tk_s_stops 18 rfl) rfl rfl rfl ?_
          refine x_aload_n 34 0 (ab_dd tk_s_stops 19 rfl) rfl rfl rfl ?_
          refine t_getP 37 84 (ab_dd tk_s_stops 20 rfl) rfl F_s_77 (by decide) (Nat.lt_of_lt_of_le (by decide) hx2.1) (hx2.2.1 0 (by decide)) rfl (hx2.2.2 (50, 12, 84) (by decide)) ?_
          refine x_aload_n 38 0 (ab_dd tk_s_stops 21 rfl) rfl rfl rfl ?_
          refine t_getP 41 55 (ab_dd tk_s_stops 22 rfl) rfl F_s_27 (by decide) (Nat.lt_of_lt_of_le (by decide) hx2.1) (hx2.2.1 0 (by decide)) rfl (hx2.2.2 (50, 3, 55) (by decide)) ?_
          refine x_lconst 42 0 (ab_dd tk_s_stops 23 rfl) rfl (by decide) ?_
          refine t_callV 45 M_s_act 5 3 [_, _, _] (ab_dd tk_s_stops 24 rfl) rfl (by first | decide | omega) K_s_act V_s_act.1 V_s_act.2 L_s_198 rfl (Nat.le_of_ble_eq_true rfl) (by decide) (Nat.lt_of_lt_of_le (by decide) hx2.1) (hx2.2.1 0 (by decide)) rfl (b_s_act hB2 hn2 (by omega) 0) (fun v1 w1 h1 => ?_)
          obtain ⟨rfl, S3, b3, s3, rfl, hE3, hB3, hn3⟩ := h1
          have hx3 : xSh S3 := hB3.1
          refine x_pop 46 (ab_dd tk_s_stops 25 rfl) rfl rfl ?_
          refine xn_iinc 49 2 (fun y => [some (.ref 50), some (.int (nI q)), some (.int y)]) (k + 1) (ab_dd tk_s_stops 26 rfl) rfl (by decide) rfl (fun _ => rfl) (iinc_p 1) ?_
          refine x_goto 27 (ab_dd tk_s_stops 27 rfl) (by decide) ?_
          exact ih (k + 1) (by omega) S3 b3 s3 hB3 (hE2.tr hE3) hn3
      exact loop q 0 (by omega) S1 b st hB1 sEq.rf hn1
    · refine x_bipush 13 (-3) (ab_dd tk_s_stops 6 rfl) rfl (by decide) ?_
      exact x_iret (ab_dd tk_s_stops 7 rfl) (Or.inl ⟨fun z => h8 z.2, ⟨rfl, S, b, st, rfl, sEq.rf, h.up (by omega), ht, fun z => z.elim, fun _ => hp⟩⟩)
