/-- the reference's stand of a code -/
def fiC (a : Nat → Int32) (v : Nat) : Nat := cSt (aR a) (v % 5 ^ aR a) (v / 5 ^ aR a)
def nxC (a : Nat → Int32) (v d : Nat) : Option Nat := if aY a (a 40) (fiC a v) d = 0 then some (qCh (v / 5 ^ aR a) d * 5 ^ aR a + cB a (v % 5 ^ aR a) (qCh (v / 5 ^ aR a) d)) else none
def vC (a : Nat → Int32) (v : Nat) : Prop := v < kFc (aR a) * 5 ^ aR a
def cL (a : Nat → Int32) (k : Nat) : List Nat := bfB (nxC a) (aQ a * 5 ^ aR a + aW a) k
theorem vC_q {a : Nat → Int32} {v : Nat} (h : vC a v) : v / 5 ^ aR a < kFc (aR a) ∧ v % 5 ^ aR a < 5 ^ aR a := ⟨Nat.div_lt_of_lt_mul (by rw [Nat.mul_comm]; exact h), Nat.mod_lt _ (p5_pos _)⟩
theorem vC_mk {a : Nat → Int32} {q w : Nat} (hq : q < kFc (aR a)) (hw : w < 5 ^ aR a) : vC a (q * 5 ^ aR a + w) ∧ (q * 5 ^ aR a + w) / 5 ^ aR a = q ∧ (q * 5 ^ aR a + w) % 5 ^ aR a = w := by
  refine ⟨?_, ?_, ?_⟩
  · have h1 : (q + 1) * 5 ^ aR a ≤ kFc (aR a) * 5 ^ aR a := Nat.mul_le_mul_right _ hq
    rw [Nat.add_mul, Nat.one_mul] at h1
    unfold vC
    omega
  · rw [Nat.mul_comm, Nat.mul_add_div (p5_pos _), Nat.div_eq_of_lt hw]; rfl
  · rw [Nat.mul_comm, Nat.mul_add_mod]; exact Nat.mod_eq_of_lt hw
theorem nxC_v {a : Nat → Int32} (h : aOk a) {v d u : Nat} (hv : vC a v) (e : nxC a v d = some u) : vC a u := by
  unfold nxC at e
  split at e
  · rename_i hy
    have hq := vC_q hv
    have := cB_sw0 h.R.2 hq.1 hq.2 (aY_0 hy)
    rw [← Option.some.inj e]
    exact (vC_mk this.2 (cB_lt h.R.2 this.2 hq.2)).1
  · cases e
theorem aN_fi {a : Nat → Int32} (h : aOk a) {v d : Nat} (hv : vC a v) : aN a (fiC a v) d = (nxC a v d).map (fiC a) := by
  unfold aN nxC
  by_cases z : aY a (a 40) (fiC a v) d = 0
  · rw [if_pos z, if_pos z]
    have hq := vC_q hv
    have g := cB_sw0 h.R.2 hq.1 hq.2 (aY_0 z)
    have m := vC_mk g.2 (cB_lt h.R.2 g.2 hq.2)
    show some (aS a (a 40) (cSt (aR a) (v % 5 ^ aR a) (v / 5 ^ aR a)) d) = some (fiC a _)
    rw [g.1]
    unfold fiC
    rw [m.2.1, m.2.2]
  · rw [if_neg z, if_neg z]; rfl
theorem fi_inj {a : Nat → Int32} (hR : aR a ≤ 4) {v u : Nat} (hv : vC a v) (hu : vC a u) (e : fiC a v = fiC a u) : v = u := by
  have h6 := p5_6 hR
  have q1 := vC_q hv
  have q2 := vC_q hu
  have e1 : v % 5 ^ aR a = u % 5 ^ aR a := by
    have := congrArg (fun z => z % 625) e
    simp only [fiC] at this
    rw [cSt_m (by omega), cSt_m (by omega)] at this
    exact this
  have e2 : v / 5 ^ aR a = u / 5 ^ aR a := by
    have := congrArg (fun z => z / 625) e
    simp only [fiC] at this
    rw [cSt_d (by omega), cSt_d (by omega)] at this
    exact qU_inj hR q1.1 q2.1 this
  rw [← Nat.div_add_mod v (5 ^ aR a), e1, e2]
  exact Nat.div_add_mod u (5 ^ aR a)
theorem bfA_map {f : Nat → Nat} {L : List Nat} {s : Nat} (h : ∀ c ∈ L, f c = f s → c = s) : bfA (L.map f) (f s) = (bfA L s).map f := by
  unfold bfA
  by_cases z : s ∈ L
  · rw [if_pos z, if_pos (List.mem_map.mpr ⟨s, z, rfl⟩)]
  · rw [if_neg z, if_neg (fun y => by
      obtain ⟨c, h1, h2⟩ := List.mem_map.mp y
      exact z (h c h1 h2 ▸ h1)), List.map_append]
    rfl
theorem bfO_map {f : Nat → Nat} {V : Nat → Prop} {nx nx' : Nat → Nat → Option Nat} (hi : ∀ v u, V v → V u → f v = f u → v = u) (hn : ∀ v d, V v → nx' (f v) d = (nx v d).map f) (hc : ∀ v d u, V v → d < 4 → nx v d = some u → V u) {L : List Nat} (hL : ∀ c ∈ L, V c) {c : Nat} (hcv : V c) : ∀ d, d ≤ 4 → bfO nx' (L.map f) (f c) d = (bfO nx L c d).map f
  | 0, _ => rfl
  | d + 1, hd => by
    have ih := bfO_map (nx := nx) (nx' := nx') hi hn hc hL hcv d (by omega)
    have hall := bfO_all (nx := nx) (P := V) hL (fun d s hd e => hc c d s hcv hd e) d (by omega)
    cases e : nx c d with
    | none => rw [bfO_none e, bfO_none (by rw [hn c d hcv, e]; rfl), ih]
    | some s =>
      rw [bfO_some e, bfO_some (s := f s) (by rw [hn c d hcv, e]; rfl), ih]
      exact bfA_map (fun u hu z => hi u s (hall u hu) (hc c d s hcv (by omega) e) z)
theorem getD_map {f : Nat → Nat} {L : List Nat} {i : Nat} (h : i < L.length) : (L.map f).getD i 0 = f (L.getD i 0) := by
  rw [List.getD_eq_getElem?_getD, List.getElem?_map, List.getElem?_eq_getElem h, List.getD_eq_getElem?_getD, List.getElem?_eq_getElem h]
  rfl
theorem cL_all {a : Nat → Int32} (h : aOk a) (k : Nat) : ∀ c ∈ cL a k, vC a c := bfB_all (P := vC a) (vC_mk (rowT_in h).1 (rowT_in h).2.1).1 (fun c d s hc _ e => nxC_v h hc e) k
theorem aL_map {a : Nat → Int32} (h : aOk a) : ∀ k, aL a k = (cL a k).map (fiC a)
  | 0 => by
    have m := vC_mk (rowT_in h).1 (rowT_in h).2.1
    show [aE a] = [fiC a _]
    unfold fiC
    rw [m.2.1, m.2.2, ← (rowT_in h).2.2]
  | k + 1 => by
    have ih := aL_map h k
    have hlen : (aL a k).length = (cL a k).length := by rw [ih, List.length_map]
    by_cases z : k < (cL a k).length
    · have e1 : cL a (k + 1) = bfO (nxC a) (cL a k) ((cL a k).getD k 0) 4 := bfB_s z
      have e2 : aL a (k + 1) = bfO (aN a) (aL a k) ((aL a k).getD k 0) 4 := bfB_s (show k < (aL a k).length by rw [hlen]; exact z)
      rw [e1, e2, ih, getD_map z]
      exact bfO_map (V := vC a) (fun v u hv hu e => fi_inj h.R.2 hv hu e) (fun v d hv => aN_fi h hv) (fun v d u hv _ e => nxC_v h hv e) (cL_all h k) (cL_all h k _ (get_mem z)) 4 (Nat.le_refl _)
    · have e1 : cL a (k + 1) = cL a k := bfB_e z
      have e2 : aL a (k + 1) = aL a k := bfB_e (show ¬ k < (aL a k).length by rw [hlen]; exact z)
      rw [e1, e2, ih]
/-- how each was found, and what each leads to -/
def roF (S : ab_S) (r : Nat) (a : Nat → Int32) (L : List Nat) : Prop := sI S (r + 3) 0 = -1 ∧ ∀ i, 0 < i → i < L.length → ∃ p, sI S (r + 3) i = nI p ∧ p < i ∧ (∃ d, d < 4 ∧ nxC a (L.getD p 0) d = some (L.getD i 0)) ∧ ∀ p' d, p' < p → d < 4 → nxC a (L.getD p' 0) d ≠ some (L.getD i 0)
def roN (S : ab_S) (r : Nat) (a : Nat → Int32) (L : List Nat) (i d : Nat) : Prop := sI S (r + 4) (i * 4 + d) = encN ((nxC a (L.getD i 0) d).map L.idxOf)
def roI (S : ab_S) (r N x : Nat) (a : Nat → Int32) (k : Nat) : Prop := roL S r N (cL a k) ∧ k ≤ (cL a k).length ∧ sI S r 13 = nI k ∧ sI S r 10 = nI (5 ^ aR a) ∧ sI S r 11 = nI (aR a) ∧ sP S r 8 = some x ∧ roF S r a (cL a k) ∧ (∀ i d, i < k → d < 4 → roN S r a (cL a k) i d) ∧ kFc (aR a) * 5 ^ aR a ≤ N
theorem roN.pre {S : ab_S} {r : Nat} {a : Nat → Int32} {L L' : List Nat} {i d : Nat} (h : roN S r a L i d) (hp : pfx L L') (hi : i < L.length) (hm : ∀ s, nxC a (L.getD i 0) d = some s → s ∈ L) : roN S r a L' i d := by
  unfold roN at h ⊢
  rw [hp.get hi, h]
  cases e : nxC a (L.getD i 0) d with
  | none => rfl
  | some s =>
    show nI (L.idxOf s) = nI (L'.idxOf s)
    rw [hp.ix (hm s e)]
def tb_ro_openTo : List (Nat × Instr × Nat) := [(0, .aload_n 0, 1), (1, .getfield 28, 3), (4, .iload_n 1, 1), (5, .if_icmp .gt 152, 3), (8, .aload_n 0, 1), (9, .getfield 28, 3), (12, .aload_n 0, 1), (13, .getfield 25, 3), (16, .if_icmp .ge 141, 3), (19, .aload_n 0, 1), (20, .getfield 9, 3), (23, .ifnull 134, 3), (26, .aload_n 0, 1), (27, .getfield 38, 3), (30, .aload_n 0, 1), (31, .getfield 28, 3), (34, .iaload, 1), (35, .aload_n 0, 1), (36, .getfield 19, 3), (39, .idiv, 1), (40, .istore_n 2, 1), (41, .aload_n 0, 1), (42, .getfield 38, 3), (45, .aload_n 0, 1), (46, .getfield 28, 3), (49, .iaload, 1), (50, .aload_n 0, 1), (51, .getfield 19, 3), (54, .irem, 1), (55, .istore_n 3, 1), (56, .iconst 0, 1), (57, .istore 4, 2), (59, .iload 4, 2), (61, .iconst 4, 1), (62, .if_icmp .ge 82, 3), (65, .iconst (-1), 1), (66, .istore 5, 2), (68, .aload_n 0, 1), (69, .getfield 9, 3), (72, .iload 4, 2), (74, .iload_n 3, 1), (75, .iload_n 2, 1), (76, .invokevirtual 77, 3), (79, .ifCond .ne 43, 3), (82, .aload_n 0, 1), (83, .getfield 34, 3), (86, .iload_n 2, 1), (87, .iload 4, 2), (89, .invokevirtual 81, 3), (92, .istore 6, 2), (94, .aload_n 0, 1), (95, .iload 6, 2), (97, .aload_n 0, 1), (98, .getfield 19, 3), (101, .imul, 1), (102, .aload_n 0, 1), (103, .getfield 9, 3), (106, .iload_n 3, 1), (107, .iload 6, 2), (109, .invokevirtual 86, 3), (112, .iadd, 1), (113, .aload_n 0, 1), (114, .getfield 28, 3), (117, .invokevirtual 73, 3), (120, .istore 5, 2), (122, .aload_n 0, 1), (123, .getfield 48, 3), (126, .aload_n 0, 1), (127, .getfield 28, 3), (130, .iconst 4, 1), (131, .imul, 1), (132, .iload 4, 2), (134, .iadd, 1), (135, .iload 5, 2), (137, .iastore, 1), (138, .iinc 4 1, 3), (141, .goto (-82), 3), (144, .aload_n 0, 1), (145, .dup, 1), (146, .getfield 28, 3), (149, .iconst 1, 1), (150, .iadd, 1), (151, .putfield 28, 3), (154, .goto (-154), 3), (157, .return_, 1)]
theorem tk_ro_openTo : ∀ q ∈ tb_ro_openTo, decode M_ro_openTo.2.1 q.1 = .ok q.2 := by decide +kernel
theorem c_ro_openTo {G : ab_G} {S : ab_S} (hx : xSh S) (hse : seOk S) (kc : kSh S.1) {im : Nat → Prop} (him : imO im) {x c bh nb st : Nat} {a : Nat → Int32} (hX : x = 84 ∨ x = 94) (hcl : clI S im x c a bh nb st) (ha : aGood a) {r N : Nat} (hO : roK S r N) (hri : ∀ y, r ≤ y → y ≤ r + 7 → ¬ im y) (hrb : bh < r ∨ r + 7 < bh) {k : Nat} (hI : roI S r N x a k) (T : Nat) (hT : T < 2 ^ 31) : ab_C G 4 M_ro_openTo [.ref r, .int (nI T)] (sw S) (fun v w' => v = none ∧ ∃ S' k', w' = sw S' ∧ sEq [x + 5, x + 6, x + 7, x + 8, x + 9, bh, r, r + 1, r + 2, r + 3, r + 4] S S' ∧ clI S' im x c a bh nb st ∧ roI S' r N x a k' ∧ sI S' r 9 = sI S r 9 ∧ sI S' r 14 = sI S r 14 ∧ k ≤ k' ∧ (T < k' ∨ k' = (cL a k').length)) := by
  refine x_enter [some (.ref r), some (.int (nI T)), none, none, none, none, none] (by decide) (Nat.le_of_ble_eq_true rfl) rfl (fun v w' h => by obtain ⟨rfl, -⟩ := h; trivial) ?_
  have hR := ha.1.R.2
  have h6 := p5_6 hR
  have hp0 := p5_pos (aR a)
  have hr145 := hO.1
  have hN15 : N ≤ 15000 := hO.2.2.2.2.2.2.2.2.2.2.2.2.2.2.2.2.2.2
  have hcl0 := hcl
  obtain ⟨-, -, -, -, -, -, -, -, -, -, hnb, hbh, -⟩ := hcl0
  have hk24 := kFc_le (aR a)
  have lp : ∀ (m k1 : Nat), k1 + m = N → ∀ (S1 : ab_S) (y2 y3 y4 y5 y6 : Option Value), sEq [x + 5, x + 6, x + 7, x + 8, x + 9, bh, r, r + 1, r + 2, r + 3, r + 4] S S1 → clI S1 im x c a bh nb st → roI S1 r N x a k1 → sI S1 r 9 = sI S r 9 → sI S1 r 14 = sI S r 14 → k ≤ k1 → ab_Ex G 4 M_ro_openTo 0 [some (.ref r), some (.int (nI T)), y2, y3, y4, y5, y6] [] (sw S1) (fun v w' => v = none ∧ ∃ S' k', w' = sw S' ∧ sEq [x + 5, x + 6, x + 7, x + 8, x + 9, bh, r, r + 1, r + 2, r + 3, r + 4] S S' ∧ clI S' im x c a bh nb st ∧ roI S' r N x a k' ∧ sI S' r 9 = sI S r 9 ∧ sI S' r 14 = sI S r 14 ∧ k ≤ k' ∧ (T < k' ∨ k' = (cL a k').length)) := by
    intro m
    induction m with
    | zero =>
      intro k1 hk1 S1 y2 y3 y4 y5 y6 hE1 hcl1 hI1 h9 h14 hkk
      refine x_forget 2 (x_forget 3 (x_forget 4 (x_forget 5 (x_forget 6 ?_))))
      have hO1 : roK S1 r N := hO.eq hE1
      have hI1b := hI1
      obtain ⟨⟨q1, q2, q3, q4⟩, i2, i3, i4, i5, i6, i7, i8, i9⟩ := hI1b
      have hlen : (cL a k1).length ≤ N := nd_len (bfB_nd k1) (fun c hc => Nat.lt_of_lt_of_le (cL_all ha.1 k1 c hc) i9)
      refine x_aload_n 1 0 (ab_dd tk_ro_openTo 0 rfl) rfl rfl rfl ?_
      refine t_getI 4 (ab_dd tk_ro_openTo 1 rfl) rfl F_ro_28 (by have := hO1.1; omega) (Nat.lt_of_le_of_lt (Nat.le_add_right r 7) hO1.2.1) hO1.2.2.1 rfl (x_topn k1 i3 ?_)
      refine x_iload_n 5 1 (ab_dd tk_ro_openTo 2 rfl) rfl rfl rfl ?_
      refine xn_icmp_gt 8 157 (ab_dd tk_ro_openTo 3 rfl) rfl (by decide) (by omega) (by omega) (fun h5 => ?_) (fun h5 => ?_)
      · exact x_vret (ab_dd tk_ro_openTo 84 rfl) ⟨rfl, S1, k1, rfl, hE1, hcl1, hI1, h9, h14, hkk, Or.inl (by omega)⟩
      · refine x_aload_n 9 0 (ab_dd tk_ro_openTo 4 rfl) rfl rfl rfl ?_
        refine t_getI 12 (ab_dd tk_ro_openTo 5 rfl) rfl F_ro_28 (by have := hO1.1; omega) (Nat.lt_of_le_of_lt (Nat.le_add_right r 7) hO1.2.1) hO1.2.2.1 rfl (x_topn k1 i3 ?_)
        refine x_aload_n 13 0 (ab_dd tk_ro_openTo 6 rfl) rfl rfl rfl ?_
        refine t_getI 16 (ab_dd tk_ro_openTo 7 rfl) rfl F_ro_25 (by have := hO1.1; omega) (Nat.lt_of_le_of_lt (Nat.le_add_right r 7) hO1.2.1) hO1.2.2.1 rfl (x_topn ((cL a k1).length) q1 ?_)
        refine x_icmp_ge_t 157 (ab_dd tk_ro_openTo 8 rfl) (by decide) ((nI_leI (a := ((cL a k1).length)) (b := k1) (by omega) (by omega)).mpr (show ((cL a k1).length) ≤ k1 by omega)) ?_
        exact x_vret (ab_dd tk_ro_openTo 84 rfl) ⟨rfl, S1, k1, rfl, hE1, hcl1, hI1, h9, h14, hkk, Or.inr (by omega)⟩
    | succ m ih =>
      intro k1 hk1 S1 y2 y3 y4 y5 y6 hE1 hcl1 hI1 h9 h14 hkk
      refine x_forget 2 (x_forget 3 (x_forget 4 (x_forget 5 (x_forget 6 ?_))))
      have hO1 : roK S1 r N := hO.eq hE1
      have hI1b := hI1
      obtain ⟨⟨q1, q2, q3, q4⟩, i2, i3, i4, i5, i6, i7, i8, i9⟩ := hI1b
      have hlen : (cL a k1).length ≤ N := nd_len (bfB_nd k1) (fun c hc => Nat.lt_of_lt_of_le (cL_all ha.1 k1 c hc) i9)
      have deeds : k1 < (cL a k1).length → ∀ (m2 d : Nat), d + m2 = 4 → ∀ (S2 : ab_S) (z5 z6 : Option Value), sEq [x + 5, x + 6, x + 7, x + 8, x + 9, bh, r, r + 1, r + 2, r + 3, r + 4] S S2 → clI S2 im x c a bh nb st → roL S2 r N (bfO (nxC a) (cL a k1) ((cL a k1).getD k1 0) d) → roF S2 r a (bfO (nxC a) (cL a k1) ((cL a k1).getD k1 0) d) → (∀ i e, i < k1 → e < 4 → roN S2 r a (bfO (nxC a) (cL a k1) ((cL a k1).getD k1 0) d) i e) → (∀ e, e < d → roN S2 r a (bfO (nxC a) (cL a k1) ((cL a k1).getD k1 0) d) k1 e) → sI S2 r 13 = nI k1 → sI S2 r 10 = nI (5 ^ aR a) → sI S2 r 11 = nI (aR a) → sI S2 r 9 = sI S r 9 → sI S2 r 14 = sI S r 14 → ab_Ex G 4 M_ro_openTo 59 [some (.ref r), some (.int (nI T)), some (.int (nI (((cL a k1).getD k1 0) / 5 ^ aR a))), some (.int (nI (((cL a k1).getD k1 0) % 5 ^ aR a))), some (.int (nI d)), z5, z6] [] (sw S2) (fun v w' => v = none ∧ ∃ S' k', w' = sw S' ∧ sEq [x + 5, x + 6, x + 7, x + 8, x + 9, bh, r, r + 1, r + 2, r + 3, r + 4] S S' ∧ clI S' im x c a bh nb st ∧ roI S' r N x a k' ∧ sI S' r 9 = sI S r 9 ∧ sI S' r 14 = sI S r 14 ∧ k ≤ k' ∧ (T < k' ∨ k' = (cL a k').length)) := by
        intro hkl m2
        have hcv := cL_all ha.1 k1 _ (get_mem hkl)
        have hvq := vC_q hcv
        have hall : ∀ d, d ≤ 4 → ∀ c ∈ bfO (nxC a) (cL a k1) ((cL a k1).getD k1 0) d, vC a c := fun d hd => bfO_all (P := vC a) (cL_all ha.1 k1) (fun e s he z => nxC_v ha.1 hcv z) d hd
        induction m2 with
        | zero =>
          intro d hd S2 z5 z6 hE2 hcl2 hL2 hF2 hN2 hD2 j13 j10 j11 j9 j14
          obtain rfl : d = 4 := by omega
          refine x_forget 5 (x_forget 6 ?_)
          have hO2 : roK S2 r N := hO.eq hE2
          have e1 : cL a (k1 + 1) = bfO (nxC a) (cL a k1) ((cL a k1).getD k1 0) 4 := bfB_s hkl
          refine x_iload 61 4 (ab_dd tk_ro_openTo 32 rfl) rfl rfl ?_
          refine x_iconst 62 4 (ab_dd tk_ro_openTo 33 rfl) rfl (by decide) (x_topn 4 rfl ?_)
          refine x_icmp_ge_t 144 (ab_dd tk_ro_openTo 34 rfl) (by decide) ((nI_leI (a := 4) (b := 4) (by omega) (by omega)).mpr (show 4 ≤ 4 by omega)) ?_
          refine x_aload_n 145 0 (ab_dd tk_ro_openTo 77 rfl) rfl rfl rfl ?_
          refine x_dup 146 (ab_dd tk_ro_openTo 78 rfl) rfl rfl ?_
          refine t_getI 149 (ab_dd tk_ro_openTo 79 rfl) rfl F_ro_28 (by have := hO2.1; omega) (Nat.lt_of_le_of_lt (Nat.le_add_right r 7) hO2.2.1) hO2.2.2.1 rfl (x_topn k1 j13 ?_)
          refine x_iconst 150 1 (ab_dd tk_ro_openTo 80 rfl) rfl (by decide) (x_topn 1 rfl ?_)
          refine x_iadd 151 (ab_dd tk_ro_openTo 81 rfl) rfl (x_topn (k1 + 1) (nI_add _ _) ?_)
          refine t_putI 154 (ab_dd tk_ro_openTo 82 rfl) rfl F_ro_28 (by have := hO2.1; omega) (Nat.lt_of_le_of_lt (Nat.le_add_right r 7) hO2.2.1) hO2.2.2.1 rfl rfl rfl ?_
          refine x_goto 0 (ab_dd tk_ro_openTo 83 rfl) (by decide) ?_
          have hEs : sEq [r] S2 (pI S2 r 13 (nI (k1 + 1))) := sEq.rf.pI (List.Mem.head _)
          refine ih (k1 + 1) (by omega) _ _ _ _ _ _ (hE2.tr (hEs.mono (fun y hy => by rw [List.mem_singleton.mp hy]; simp))) (hcl2.eq hEs (by simp only [List.mem_cons, List.not_mem_nil, or_false, not_or]; omega) (fun y hy => by rw [List.mem_singleton.mp hy]; exact hri r (by omega) (by omega)) (by simp only [List.mem_cons, List.not_mem_nil, or_false, not_or]; omega) (by simp only [List.mem_cons, List.not_mem_nil, or_false, not_or]; omega) (by simp only [List.mem_cons, List.not_mem_nil, or_false, not_or]; omega)) ⟨?_, ?_, gI_s, (gI_k (by decide)).trans j10, (gI_k (by decide)).trans j11, ?_, ?_, ?_, i9⟩ ((gI_k (by decide)).trans j9) ((gI_k (by decide)).trans j14) (by omega)
          · rw [e1]
            refine ⟨(gI_k (by decide)).trans hL2.1, fun i hi => (gI_a (by omega)).trans (hL2.2.1 i hi), fun i hi => (gI_a (by omega)).trans (hL2.2.2.1 i hi), fun v hv => ?_⟩
            rw [gI_o (by omega)]
            exact hL2.2.2.2 v hv
          · have := (bfB_step (nx := nxC a) (c0 := aQ a * 5 ^ aR a + aW a) k1).len
            have z : k1 + 1 ≤ (cL a k1).length := hkl
            exact Nat.le_trans z this
          · show sP S2 r 8 = some x
            rw [hE2.2.2.2.2.1, ← hE1.2.2.2.2.1]
            exact i6
          · rw [e1]
            unfold roF
            rw [gI_o (by omega)]
            exact hF2
          · rw [e1]
            intro i e hi he
            unfold roN
            rw [gI_o (by omega)]
            by_cases z : i = k1
            · rw [z]; exact hD2 e he
            · exact hN2 i e (by omega) he
        | succ m2 ih2 =>
          intro d hd S2 z5 z6 hE2 hcl2 hL2 hF2 hN2 hD2 j13 j10 j11 j9 j14
          refine x_forget 5 (x_forget 6 ?_)
          have hO2 : roK S2 r N := hO.eq hE2
          have hx2 : xSh S2 := hx.eq hE2
          have hK2 : clK S2 x := hx2.cl hX
          have hse2 : seOk S2 := hse.eq hE2 (by simp only [List.mem_cons, List.not_mem_nil, or_false, not_or]; omega) (by simp only [List.mem_cons, List.not_mem_nil, or_false, not_or]; omega) (by simp only [List.mem_cons, List.not_mem_nil, or_false, not_or]; omega) (by simp only [List.mem_cons, List.not_mem_nil, or_false, not_or]; omega)
          have kc2 : kSh S2.1 := by rw [hE2.1]; exact kc
          have j8 : sP S2 r 8 = some x := by rw [hE2.2.2.2.2.1, ← hE1.2.2.2.2.1]; exact i6
          have hpre : pfx (bfO (nxC a) (cL a k1) ((cL a k1).getD k1 0) d) (bfO (nxC a) (cL a k1) ((cL a k1).getD k1 0) (d + 1)) := bfO_step _ _ d
          have hpre0 : pfx (cL a k1) (bfO (nxC a) (cL a k1) ((cL a k1).getD k1 0) d) := bfO_pre _ _ d
          have hl0 := hpre0.len
          have hndp : (bfO (nxC a) (cL a k1) ((cL a k1).getD k1 0) d).Nodup := bfO_nd (bfB_nd k1) _ d
          have hallp := hall d (by omega)
          have hqN : ((cL a k1).getD k1 0) ≤ 24 * 625 := by have := hcv; have z : kFc (aR a) * 5 ^ aR a ≤ 24 * 625 := Nat.mul_le_mul hk24 h6; unfold vC at this; omega
          have hmem0 : ∀ i e s, i < k1 → e < 4 → nxC a ((cL a k1).getD i 0) e = some s → s ∈ cL a k1 := fun i e s h1 h2 h3 => bfB_clo k1 i e s h1 (show i < (cL a k1).length by omega) h2 h3
          have hfi : fiC a ((cL a k1).getD k1 0) = cSt (aR a) (((cL a k1).getD k1 0) % 5 ^ aR a) (((cL a k1).getD k1 0) / 5 ^ aR a) := rfl
          refine x_iload 61 4 (ab_dd tk_ro_openTo 32 rfl) rfl rfl ?_
          refine x_iconst 62 4 (ab_dd tk_ro_openTo 33 rfl) rfl (by decide) (x_topn 4 rfl ?_)
          refine x_icmp_ge_f 65 (ab_dd tk_ro_openTo 34 rfl) rfl 144 (by decide) (fun z => absurd ((nI_leI (a := 4) (b := d) (by omega) (by omega)).mp z) (show ¬ (4 ≤ d) by omega)) ?_
          refine x_iconst 66 (-1) (ab_dd tk_ro_openTo 35 rfl) rfl (by decide) ?_
          refine x_topi (fun v1 ev1 => ?_)
          refine x_istore 68 [some (.ref r), some (.int (nI T)), some (.int (nI (((cL a k1).getD k1 0) / 5 ^ aR a))), some (.int (nI (((cL a k1).getD k1 0) % 5 ^ aR a))), some (.int (nI d)), some (.int v1), none] 5 (ab_dd tk_ro_openTo 36 rfl) rfl (by decide) rfl ?_
          refine x_aload_n 69 0 (ab_dd tk_ro_openTo 37 rfl) rfl rfl rfl ?_
          refine t_getP 72 x (ab_dd tk_ro_openTo 38 rfl) rfl F_ro_9 (by have := hO2.1; omega) (Nat.lt_of_le_of_lt (Nat.le_add_right r 7) hO2.2.1) hO2.2.2.1 rfl j8 ?_
          refine x_iload 74 4 (ab_dd tk_ro_openTo 39 rfl) rfl rfl ?_
          refine x_iload_n 75 3 (ab_dd tk_ro_openTo 40 rfl) rfl rfl rfl ?_
          refine x_iload_n 76 2 (ab_dd tk_ro_openTo 41 rfl) rfl rfl rfl ?_
          refine t_callV 79 M_cl_whyNot 3 3 [_, _, _] (ab_dd tk_ro_openTo 42 rfl) rfl (by first | decide | omega) K_cl_whyNot V_cl_whyNot.1 V_cl_whyNot.2 L_ro_77 rfl (Nat.le_of_ble_eq_true rfl) (by rcases hX with z | z <;> omega) (Nat.lt_of_le_of_lt (Nat.le_add_right x 9) hK2.2.1) hK2.2.2.1 rfl (c_cl_whyNot (by exact hK2) him (by exact hcl2) hx2 hse2 kc2 ha d (((cL a k1).getD k1 0) % 5 ^ aR a) (((cL a k1).getD k1 0) / 5 ^ aR a) (by omega) (by omega) hvq.1) (fun v1 w1 h1 => ?_)
          obtain ⟨rfl, S3, rfl, hE3, hcl3⟩ := h1
          have hO3 : roK S3 r N := hO2.eq hE3
          have hx3 : xSh S3 := hx2.eq hE3
          have hK3 : clK S3 x := hx3.cl hX
          have hse3 : seOk S3 := hse2.eq hE3 (by simp only [List.mem_cons, List.not_mem_nil, or_false, not_or]; omega) (by simp only [List.mem_cons, List.not_mem_nil, or_false, not_or]; omega) (by simp only [List.mem_cons, List.not_mem_nil, or_false, not_or]; omega) (by simp only [List.mem_cons, List.not_mem_nil, or_false, not_or]; omega)
          have kc3 : kSh S3.1 := by rw [hE3.1]; exact kc2
          have l8 : sP S3 r 8 = some x := by rw [hE3.2.2.2.2.1]; exact j8
          have er3 : sI S3 r = sI S2 r := hE3.2.2.1 r (by simp only [List.mem_cons, List.not_mem_nil, or_false, not_or]; omega)
          have l13 : sI S3 r 13 = nI k1 := by rw [er3]; exact j13
          have l10 : sI S3 r 10 = nI (5 ^ aR a) := by rw [er3]; exact j10
          have hY3 := aY_lt a (a 40) (cSt (aR a) (((cL a k1).getD k1 0) % 5 ^ aR a) (((cL a k1).getD k1 0) / 5 ^ aR a)) d
          have hro3 : ∀ y, r ≤ y → y ≤ r + 7 → sI S3 y = sI S2 y := fun y h1 h2 => hE3.2.2.1 y (by simp only [List.mem_cons, List.not_mem_nil, or_false, not_or]; omega)
          refine xn_if_ne 82 122 (ab_dd tk_ro_openTo 43 rfl) rfl (by decide) (by omega) (fun h79 => ?_) (fun h79 => ?_)
          · refine x_aload_n 123 0 (ab_dd tk_ro_openTo 65 rfl) rfl rfl rfl ?_
            refine t_getP 126 (r + 4) (ab_dd tk_ro_openTo 66 rfl) rfl F_ro_48 (by have := hO3.1; omega) (Nat.lt_of_le_of_lt (Nat.le_add_right r 7) hO3.2.1) hO3.2.2.1 rfl hO3.2.2.2.2.2.2.2.2.2.2.2.2.2.2.1 ?_
            refine x_aload_n 127 0 (ab_dd tk_ro_openTo 67 rfl) rfl rfl rfl ?_
            refine t_getI 130 (ab_dd tk_ro_openTo 68 rfl) rfl F_ro_28 (by have := hO3.1; omega) (Nat.lt_of_le_of_lt (Nat.le_add_right r 7) hO3.2.1) hO3.2.2.1 rfl (x_topn k1 l13 ?_)
            refine x_iconst 131 4 (ab_dd tk_ro_openTo 69 rfl) rfl (by decide) (x_topn 4 rfl ?_)
            refine x_imul 132 (ab_dd tk_ro_openTo 70 rfl) rfl (x_topn (k1 * 4) (pk_mul _ _) ?_)
            refine x_iload 134 4 (ab_dd tk_ro_openTo 71 rfl) rfl rfl ?_
            refine x_iadd 135 (ab_dd tk_ro_openTo 72 rfl) rfl (x_topn ((k1 * 4) + d) (nI_add _ _) ?_)
            refine x_iload 137 5 (ab_dd tk_ro_openTo 73 rfl) rfl rfl ?_
            refine t_iast 138 ((k1 * 4) + d) (ab_dd tk_ro_openTo 74 rfl) rfl (by have := hO3.1; omega) (Nat.lt_of_le_of_lt (Nat.add_le_add_left (by decide) r) hO3.2.1) hO3.2.2.2.2.2.2.1 rfl (by omega) (by omega) ?_
            refine xn_iinc 141 4 (fun y => [some (.ref r), some (.int (nI T)), some (.int (nI (((cL a k1).getD k1 0) / 5 ^ aR a))), some (.int (nI (((cL a k1).getD k1 0) % 5 ^ aR a))), some (.int y), some (.int v1), none]) (d + 1) (ab_dd tk_ro_openTo 75 rfl) rfl (by decide) rfl (fun _ => rfl) (iinc_p 1) ?_
            refine x_goto 59 (ab_dd tk_ro_openTo 76 rfl) (by decide) ?_
            have hnone : nxC a ((cL a k1).getD k1 0) d = none := if_neg (by rw [hfi]; omega)
            have hlp : bfO (nxC a) (cL a k1) ((cL a k1).getD k1 0) (d + 1) = (bfO (nxC a) (cL a k1) ((cL a k1).getD k1 0) d) := bfO_none hnone
            have hEs : sEq [r + 4] S3 (pI S3 (r + 4) (k1 * 4 + d) v1) := sEq.rf.pI (List.Mem.head _)
            have ho : ∀ y, r ≤ y → y ≤ r + 7 → y ≠ r + 4 → sI (pI S3 (r + 4) (k1 * 4 + d) v1) y = sI S2 y := fun y h1 h2 h3 => (gI_o h3).trans (hro3 y h1 h2)
            have hlr : sI (pI S3 (r + 4) (k1 * 4 + d) v1) r = sI S2 r := ho r (by omega) (by omega) (by omega)
            refine ih2 (d + 1) (by omega) _ _ _ ((hE2.tr (hE3.mono (fun y hy => by simp only [List.mem_cons, List.not_mem_nil, or_false] at hy ⊢; omega))).tr (hEs.mono (fun y hy => by rw [List.mem_singleton.mp hy]; simp))) (hcl3.eq hEs (by simp only [List.mem_cons, List.not_mem_nil, or_false, not_or]; omega) (fun y hy => by rw [List.mem_singleton.mp hy]; exact hri (r + 4) (by omega) (by omega)) (by simp only [List.mem_cons, List.not_mem_nil, or_false, not_or]; omega) (by simp only [List.mem_cons, List.not_mem_nil, or_false, not_or]; omega) (by simp only [List.mem_cons, List.not_mem_nil, or_false, not_or]; omega)) ?_ ?_ ?_ ?_ (by rw [hlr]; exact j13) (by rw [hlr]; exact j10) (by rw [hlr]; exact j11) (by rw [hlr]; exact j9) (by rw [hlr]; exact j14)
            · rw [hlp]; unfold roL; rw [hlr, ho (r + 1) (by omega) (by omega) (by omega), ho (r + 2) (by omega) (by omega) (by omega)]; exact hL2
            · rw [hlp]; unfold roF; rw [ho (r + 3) (by omega) (by omega) (by omega)]; exact hF2
            · rw [hlp]; intro i e hi he; unfold roN; rw [gI_k (by omega), hro3 (r + 4) (by omega) (by omega)]; exact hN2 i e hi he
            · rw [hlp]; intro e he; unfold roN
              by_cases z : e = d
              · rw [z, hpre0.get hkl, hnone]; exact gI_s.trans ev1
              · rw [gI_k (by omega), hro3 (r + 4) (by omega) (by omega)]; exact hD2 e (by omega)
          · refine x_aload_n 83 0 (ab_dd tk_ro_openTo 44 rfl) rfl rfl rfl ?_
            refine t_getP 86 78 (ab_dd tk_ro_openTo 45 rfl) rfl F_ro_34 (by have := hO3.1; omega) (Nat.lt_of_le_of_lt (Nat.le_add_right r 7) hO3.2.1) hO3.2.2.1 rfl hO3.2.2.2.2.2.2.2.2.2.2.1 ?_
            refine x_iload_n 87 2 (ab_dd tk_ro_openTo 46 rfl) rfl rfl rfl ?_
            refine x_iload 89 4 (ab_dd tk_ro_openTo 47 rfl) rfl rfl ?_
            refine t_callV 92 M_se_changed 0 2 [_, _] (ab_dd tk_ro_openTo 48 rfl) rfl (by first | decide | omega) K_se_changed V_se_changed.1 V_se_changed.2 L_ro_81 rfl (Nat.le_of_ble_eq_true rfl) (by decide) (Nat.lt_of_lt_of_le (by decide) hx3.1) (hx3.2.1 28 (by decide)) rfl (c_se_changed (by exact hx3) (by exact hse3) (((cL a k1).getD k1 0) / 5 ^ aR a) d (by omega) (by omega)) (fun v1 w1 h1 => ?_)
            obtain ⟨rfl, rfl⟩ := h1
            refine x_istore 94 [some (.ref r), some (.int (nI T)), some (.int (nI (((cL a k1).getD k1 0) / 5 ^ aR a))), some (.int (nI (((cL a k1).getD k1 0) % 5 ^ aR a))), some (.int (nI d)), some (.int v1), some (.int (nI (qCh (((cL a k1).getD k1 0) / 5 ^ aR a) d)))] 6 (ab_dd tk_ro_openTo 49 rfl) rfl (by decide) rfl ?_
            refine x_aload_n 95 0 (ab_dd tk_ro_openTo 50 rfl) rfl rfl rfl ?_
            refine x_iload 97 6 (ab_dd tk_ro_openTo 51 rfl) rfl rfl ?_
            refine x_aload_n 98 0 (ab_dd tk_ro_openTo 52 rfl) rfl rfl rfl ?_
            refine t_getI 101 (ab_dd tk_ro_openTo 53 rfl) rfl F_ro_19 (by have := hO3.1; omega) (Nat.lt_of_le_of_lt (Nat.le_add_right r 7) hO3.2.1) hO3.2.2.1 rfl (x_topn (5 ^ aR a) l10 ?_)
            refine x_imul 102 (ab_dd tk_ro_openTo 54 rfl) rfl (x_topn ((qCh (((cL a k1).getD k1 0) / 5 ^ aR a) d) * (5 ^ aR a)) (pk_mul _ _) ?_)
            refine x_aload_n 103 0 (ab_dd tk_ro_openTo 55 rfl) rfl rfl rfl ?_
            refine t_getP 106 x (ab_dd tk_ro_openTo 56 rfl) rfl F_ro_9 (by have := hO3.1; omega) (Nat.lt_of_le_of_lt (Nat.le_add_right r 7) hO3.2.1) hO3.2.2.1 rfl l8 ?_
            refine x_iload_n 107 3 (ab_dd tk_ro_openTo 57 rfl) rfl rfl rfl ?_
            refine x_iload 109 6 (ab_dd tk_ro_openTo 58 rfl) rfl rfl ?_
            have hdR : d < aR a ∨ d = 0 := aY_0 h79
            have hcq := (cB_sw0 hR hvq.1 hvq.2 hdR).2
            have hcb := cB_lt hR hcq hvq.2
            have hmk := vC_mk hcq hcb
            have hmul : qCh (((cL a k1).getD k1 0) / 5 ^ aR a) d * 5 ^ aR a ≤ 24 * 625 := Nat.mul_le_mul (by omega) h6
            refine t_callV 112 M_cl_behind 3 2 [_, _] (ab_dd tk_ro_openTo 59 rfl) rfl (by first | decide | omega) K_cl_behind V_cl_behind.1 V_cl_behind.2 L_ro_86 rfl (Nat.le_of_ble_eq_true rfl) (by rcases hX with z | z <;> omega) (Nat.lt_of_le_of_lt (Nat.le_add_right x 9) hK3.2.1) hK3.2.2.1 rfl (c_cl_behind (by exact hK3) him (by exact hcl3) hx3 hse3 kc3 ha (((cL a k1).getD k1 0) % 5 ^ aR a) (qCh (((cL a k1).getD k1 0) / 5 ^ aR a) d) hvq.2 hcq) (fun v1 w1 h1 => ?_)
            obtain ⟨rfl, S4, rfl, hE4, hcl4⟩ := h1
            have hO4 : roK S4 r N := hO3.eq hE4
            have hx4 : xSh S4 := hx3.eq hE4
            have hK4 : clK S4 x := hx4.cl hX
            have m8 : sP S4 r 8 = some x := by rw [hE4.2.2.2.2.1]; exact l8
            have er4 : sI S4 r = sI S2 r := (hE4.2.2.1 r (by simp only [List.mem_cons, List.not_mem_nil, or_false, not_or]; omega)).trans er3
            have m13 : sI S4 r 13 = nI k1 := by rw [er4]; exact j13
            have hro4 : ∀ y, r ≤ y → y ≤ r + 7 → sI S4 y = sI S2 y := fun y h1 h2 => (hE4.2.2.1 y (by simp only [List.mem_cons, List.not_mem_nil, or_false, not_or]; omega)).trans (hro3 y h1 h2)
            have hL4 : roL S4 r N (bfO (nxC a) (cL a k1) ((cL a k1).getD k1 0) d) := by unfold roL; rw [er4, hro4 (r + 1) (by omega) (by omega), hro4 (r + 2) (by omega) (by omega)]; exact hL2
            refine x_iadd 113 (ab_dd tk_ro_openTo 60 rfl) rfl (x_topn (((qCh (((cL a k1).getD k1 0) / 5 ^ aR a) d) * (5 ^ aR a)) + (cB a (((cL a k1).getD k1 0) % 5 ^ aR a) (qCh (((cL a k1).getD k1 0) / 5 ^ aR a) d))) (nI_add _ _) ?_)
            refine x_aload_n 114 0 (ab_dd tk_ro_openTo 61 rfl) rfl rfl rfl ?_
            refine t_getI 117 (ab_dd tk_ro_openTo 62 rfl) rfl F_ro_28 (by have := hO4.1; omega) (Nat.lt_of_le_of_lt (Nat.le_add_right r 7) hO4.2.1) hO4.2.2.1 rfl (x_topn k1 m13 ?_)
            refine t_callV 120 M_ro_standWith 0 2 [_, _] (ab_dd tk_ro_openTo 63 rfl) rfl (by first | decide | omega) K_ro_standWith V_ro_standWith.1 V_ro_standWith.2 L_ro_73 rfl (Nat.le_of_ble_eq_true rfl) (by have := hO4.1; omega) (Nat.lt_of_le_of_lt (Nat.le_add_right r 7) hO4.2.1) hO4.2.2.1 rfl (c_ro_standWith (by exact hO4) hL4 hndp (fun c hc => Nat.lt_of_lt_of_le (hallp c hc) i9) (qCh (((cL a k1).getD k1 0) / 5 ^ aR a) d * 5 ^ aR a + cB a (((cL a k1).getD k1 0) % 5 ^ aR a) (qCh (((cL a k1).getD k1 0) / 5 ^ aR a) d)) (Nat.lt_of_lt_of_le hmk.1 i9) (nI k1)) (fun v1 w1 h1 => ?_)
            obtain ⟨rfl, S5, rfl, hE5, hL5, hk5, hf5, hn5⟩ := h1
            have hO5 : roK S5 r N := hO4.eq hE5
            have hx5 : xSh S5 := hx4.eq hE5
            have hK5 : clK S5 x := hx5.cl hX
            have n13 : sI S5 r 13 = nI k1 := (hk5 13 (by decide)).trans m13
            have hcl5 : clI S5 im x c a bh nb st := hcl4.eq hE5 (by simp only [List.mem_cons, List.not_mem_nil, or_false, not_or]; omega) (fun y hy => hri y (by simp only [List.mem_cons, List.not_mem_nil, or_false] at hy; omega) (by simp only [List.mem_cons, List.not_mem_nil, or_false] at hy; omega)) (by simp only [List.mem_cons, List.not_mem_nil, or_false, not_or]; omega) (by simp only [List.mem_cons, List.not_mem_nil, or_false, not_or]; omega) (by simp only [List.mem_cons, List.not_mem_nil, or_false, not_or]; omega)
            have hsome : nxC a ((cL a k1).getD k1 0) d = some (qCh (((cL a k1).getD k1 0) / 5 ^ aR a) d * 5 ^ aR a + cB a (((cL a k1).getD k1 0) % 5 ^ aR a) (qCh (((cL a k1).getD k1 0) / 5 ^ aR a) d)) := if_pos h79
            generalize (qCh (((cL a k1).getD k1 0) / 5 ^ aR a) d * 5 ^ aR a + cB a (((cL a k1).getD k1 0) % 5 ^ aR a) (qCh (((cL a k1).getD k1 0) / 5 ^ aR a) d)) = u at hL5 hk5 hf5 hn5 hsome ⊢
            refine x_istore 122 [some (.ref r), some (.int (nI T)), some (.int (nI (((cL a k1).getD k1 0) / 5 ^ aR a))), some (.int (nI (((cL a k1).getD k1 0) % 5 ^ aR a))), some (.int (nI d)), some (.int (nI ((bfA (bfO (nxC a) (cL a k1) ((cL a k1).getD k1 0) d) u).idxOf u))), some (.int (nI (qCh (((cL a k1).getD k1 0) / 5 ^ aR a) d)))] 5 (ab_dd tk_ro_openTo 64 rfl) rfl (by decide) rfl ?_
            refine x_aload_n 123 0 (ab_dd tk_ro_openTo 65 rfl) rfl rfl rfl ?_
            refine t_getP 126 (r + 4) (ab_dd tk_ro_openTo 66 rfl) rfl F_ro_48 (by have := hO5.1; omega) (Nat.lt_of_le_of_lt (Nat.le_add_right r 7) hO5.2.1) hO5.2.2.1 rfl hO5.2.2.2.2.2.2.2.2.2.2.2.2.2.2.1 ?_
            refine x_aload_n 127 0 (ab_dd tk_ro_openTo 67 rfl) rfl rfl rfl ?_
            refine t_getI 130 (ab_dd tk_ro_openTo 68 rfl) rfl F_ro_28 (by have := hO5.1; omega) (Nat.lt_of_le_of_lt (Nat.le_add_right r 7) hO5.2.1) hO5.2.2.1 rfl (x_topn k1 n13 ?_)
            refine x_iconst 131 4 (ab_dd tk_ro_openTo 69 rfl) rfl (by decide) (x_topn 4 rfl ?_)
            refine x_imul 132 (ab_dd tk_ro_openTo 70 rfl) rfl (x_topn (k1 * 4) (pk_mul _ _) ?_)
            refine x_iload 134 4 (ab_dd tk_ro_openTo 71 rfl) rfl rfl ?_
            refine x_iadd 135 (ab_dd tk_ro_openTo 72 rfl) rfl (x_topn ((k1 * 4) + d) (nI_add _ _) ?_)
            refine x_iload 137 5 (ab_dd tk_ro_openTo 73 rfl) rfl rfl ?_
            refine t_iast 138 ((k1 * 4) + d) (ab_dd tk_ro_openTo 74 rfl) rfl (by have := hO5.1; omega) (Nat.lt_of_le_of_lt (Nat.add_le_add_left (by decide) r) hO5.2.1) hO5.2.2.2.2.2.2.1 rfl (by omega) (by omega) ?_
            refine xn_iinc 141 4 (fun y => [some (.ref r), some (.int (nI T)), some (.int (nI (((cL a k1).getD k1 0) / 5 ^ aR a))), some (.int (nI (((cL a k1).getD k1 0) % 5 ^ aR a))), some (.int y), some (.int (nI ((bfA (bfO (nxC a) (cL a k1) ((cL a k1).getD k1 0) d) u).idxOf u))), some (.int (nI (qCh (((cL a k1).getD k1 0) / 5 ^ aR a) d)))]) (d + 1) (ab_dd tk_ro_openTo 75 rfl) rfl (by decide) rfl (fun _ => rfl) (iinc_p 1) ?_
            refine x_goto 59 (ab_dd tk_ro_openTo 76 rfl) (by decide) ?_
            have hlp : bfO (nxC a) (cL a k1) ((cL a k1).getD k1 0) (d + 1) = bfA (bfO (nxC a) (cL a k1) ((cL a k1).getD k1 0) d) u := bfO_some hsome
            have hEs : sEq [r + 4] S5 (pI S5 (r + 4) (k1 * 4 + d) (nI ((bfA (bfO (nxC a) (cL a k1) ((cL a k1).getD k1 0) d) u).idxOf u))) := sEq.rf.pI (List.Mem.head _)
            have ho5 : ∀ y, y = r + 4 → sI S5 y = sI S2 y := fun y hy => (hE5.2.2.1 y (by simp only [List.mem_cons, List.not_mem_nil, or_false, not_or]; omega)).trans ((hE4.2.2.1 y (by simp only [List.mem_cons, List.not_mem_nil, or_false, not_or]; omega)).trans (hro3 y (by omega) (by omega)))
            have hr5 : ∀ j, j ≠ 12 → sI S5 r j = sI S2 r j := fun j hj => (hk5 j hj).trans (congrFun ((hE4.2.2.1 r (by simp only [List.mem_cons, List.not_mem_nil, or_false, not_or]; omega)).trans er3) j)
            have hp5 : ∀ i, i < (bfO (nxC a) (cL a k1) ((cL a k1).getD k1 0) d).length → sI S5 (r + 3) i = sI S2 (r + 3) i := fun i hi => (hf5 i hi).trans (congrFun ((hE4.2.2.1 (r + 3) (by simp only [List.mem_cons, List.not_mem_nil, or_false, not_or]; omega)).trans (hro3 _ (by omega) (by omega))) i)
            have hpreA := bfA_pre (bfO (nxC a) (cL a k1) ((cL a k1).getD k1 0) d) u
            refine ih2 (d + 1) (by omega) _ _ _ ((((hE2.tr (hE3.mono (fun y hy => by simp only [List.mem_cons, List.not_mem_nil, or_false] at hy ⊢; omega))).tr (hE4.mono (fun y hy => by simp only [List.mem_cons, List.not_mem_nil, or_false] at hy ⊢; omega))).tr (hE5.mono (fun y hy => by simp only [List.mem_cons, List.not_mem_nil, or_false] at hy ⊢; omega))).tr (hEs.mono (fun y hy => by rw [List.mem_singleton.mp hy]; simp))) (hcl5.eq hEs (by simp only [List.mem_cons, List.not_mem_nil, or_false, not_or]; omega) (fun y hy => by rw [List.mem_singleton.mp hy]; exact hri (r + 4) (by omega) (by omega)) (by simp only [List.mem_cons, List.not_mem_nil, or_false, not_or]; omega) (by simp only [List.mem_cons, List.not_mem_nil, or_false, not_or]; omega) (by simp only [List.mem_cons, List.not_mem_nil, or_false, not_or]; omega)) ?_ ?_ ?_ ?_ ((gI_a (by omega)).trans ((hr5 13 (by decide)).trans j13)) ((gI_a (by omega)).trans ((hr5 10 (by decide)).trans j10)) ((gI_a (by omega)).trans ((hr5 11 (by decide)).trans j11)) ((gI_a (by omega)).trans ((hr5 9 (by decide)).trans j9)) ((gI_a (by omega)).trans ((hr5 14 (by decide)).trans j14))
            · rw [hlp]; unfold roL; rw [gI_o (by omega), gI_o (by omega), gI_o (by omega)]; exact hL5
            · rw [hlp]
              unfold roF
              rw [gI_o (by omega)]
              refine ⟨(hp5 0 (by omega)).trans hF2.1, fun i hi0 hil => ?_⟩
              by_cases z : i < (bfO (nxC a) (cL a k1) ((cL a k1).getD k1 0) d).length
              · obtain ⟨p, p1, p2, p3, p4⟩ := hF2.2 i hi0 z
                refine ⟨p, (hp5 i z).trans p1, p2, ?_, fun p' e h1 h2 => ?_⟩
                · rw [hpreA.get z, hpreA.get (by omega)]; exact p3
                · rw [hpreA.get z, hpreA.get (by omega)]; exact p4 p' e h1 h2
              · have hnew : u ∉ (bfO (nxC a) (cL a k1) ((cL a k1).getD k1 0) d) := fun hin => by
                  have e0 : bfA (bfO (nxC a) (cL a k1) ((cL a k1).getD k1 0) d) u = (bfO (nxC a) (cL a k1) ((cL a k1).getD k1 0) d) := if_pos hin
                  rw [e0] at hil
                  exact z hil
                obtain ⟨n1, n2, n3⟩ := bfA_new hnew
                have hi : i = (bfO (nxC a) (cL a k1) ((cL a k1).getD k1 0) d).length := by omega
                have hu : (bfA (bfO (nxC a) (cL a k1) ((cL a k1).getD k1 0) d) u).getD i 0 = u := by rw [hi, ← n2]; exact ix_get (bfA_mem _ u)
                refine ⟨k1, by rw [hi]; exact hn5 hnew, by omega, ⟨d, by omega, ?_⟩, fun p' e h1 h2 h3 => ?_⟩
                · rw [hu, hpreA.get (by omega), hpre0.get hkl]; exact hsome
                · rw [hu, hpreA.get (by omega), hpre0.get (by omega)] at h3
                  exact hnew (hpre0.mem (hmem0 p' e u h1 h2 h3))
            · rw [hlp]
              intro i e hi he
              have h0 : roN S2 r a (bfA (bfO (nxC a) (cL a k1) ((cL a k1).getD k1 0) d) u) i e := (hN2 i e hi he).pre hpreA (by omega) (fun s hs => by
                rw [hpre0.get (by omega)] at hs
                exact hpre0.mem (hmem0 i e s hi he hs))
              unfold roN at h0 ⊢
              rw [gI_k (by omega), ho5 _ rfl]; exact h0
            · rw [hlp]
              intro e he
              by_cases z : e = d
              · unfold roN
                rw [z, hpreA.get (by omega), hpre0.get hkl, hsome]; exact gI_s
              · have h0 : roN S2 r a (bfA (bfO (nxC a) (cL a k1) ((cL a k1).getD k1 0) d) u) k1 e := (hD2 e (by omega)).pre hpreA (by omega) (fun s hs => by
                  rw [hpre0.get hkl] at hs
                  exact bfO_mem (by omega) hs)
                unfold roN at h0 ⊢
                rw [gI_k (by omega), ho5 _ rfl]; exact h0
      refine x_aload_n 1 0 (ab_dd tk_ro_openTo 0 rfl) rfl rfl rfl ?_
      refine t_getI 4 (ab_dd tk_ro_openTo 1 rfl) rfl F_ro_28 (by have := hO1.1; omega) (Nat.lt_of_le_of_lt (Nat.le_add_right r 7) hO1.2.1) hO1.2.2.1 rfl (x_topn k1 i3 ?_)
      refine x_iload_n 5 1 (ab_dd tk_ro_openTo 2 rfl) rfl rfl rfl ?_
      refine xn_icmp_gt 8 157 (ab_dd tk_ro_openTo 3 rfl) rfl (by decide) (by omega) (by omega) (fun h5 => ?_) (fun h5 => ?_)
      · exact x_vret (ab_dd tk_ro_openTo 84 rfl) ⟨rfl, S1, k1, rfl, hE1, hcl1, hI1, h9, h14, hkk, Or.inl (by omega)⟩
      · refine x_aload_n 9 0 (ab_dd tk_ro_openTo 4 rfl) rfl rfl rfl ?_
        refine t_getI 12 (ab_dd tk_ro_openTo 5 rfl) rfl F_ro_28 (by have := hO1.1; omega) (Nat.lt_of_le_of_lt (Nat.le_add_right r 7) hO1.2.1) hO1.2.2.1 rfl (x_topn k1 i3 ?_)
        refine x_aload_n 13 0 (ab_dd tk_ro_openTo 6 rfl) rfl rfl rfl ?_
        refine t_getI 16 (ab_dd tk_ro_openTo 7 rfl) rfl F_ro_25 (by have := hO1.1; omega) (Nat.lt_of_le_of_lt (Nat.le_add_right r 7) hO1.2.1) hO1.2.2.1 rfl (x_topn ((cL a k1).length) q1 ?_)
        refine xn_icmp_ge 19 157 (ab_dd tk_ro_openTo 8 rfl) rfl (by decide) (by omega) (by omega) (fun h16 => ?_) (fun h16 => ?_)
        · exact x_vret (ab_dd tk_ro_openTo 84 rfl) ⟨rfl, S1, k1, rfl, hE1, hcl1, hI1, h9, h14, hkk, Or.inr (by omega)⟩
        · refine x_aload_n 20 0 (ab_dd tk_ro_openTo 9 rfl) rfl rfl rfl ?_
          refine t_getP 23 x (ab_dd tk_ro_openTo 10 rfl) rfl F_ro_9 (by have := hO1.1; omega) (Nat.lt_of_le_of_lt (Nat.le_add_right r 7) hO1.2.1) hO1.2.2.1 rfl i6 ?_
          refine x_ifnull_f 26 (ab_dd tk_ro_openTo 11 rfl) rfl ?_
          have hcv := cL_all ha.1 k1 _ (get_mem h16)
          have hqN : ((cL a k1).getD k1 0) ≤ 24 * 625 := by have := hcv; have z : kFc (aR a) * 5 ^ aR a ≤ 24 * 625 := Nat.mul_le_mul hk24 h6; unfold vC at this; omega
          refine x_aload_n 27 0 (ab_dd tk_ro_openTo 12 rfl) rfl rfl rfl ?_
          refine t_getP 30 (r + 1) (ab_dd tk_ro_openTo 13 rfl) rfl F_ro_38 (by have := hO1.1; omega) (Nat.lt_of_le_of_lt (Nat.le_add_right r 7) hO1.2.1) hO1.2.2.1 rfl hO1.2.2.2.2.2.2.2.2.2.2.2.1 ?_
          refine x_aload_n 31 0 (ab_dd tk_ro_openTo 14 rfl) rfl rfl rfl ?_
          refine t_getI 34 (ab_dd tk_ro_openTo 15 rfl) rfl F_ro_28 (by have := hO1.1; omega) (Nat.lt_of_le_of_lt (Nat.le_add_right r 7) hO1.2.1) hO1.2.2.1 rfl (x_topn k1 i3 ?_)
          refine t_iald 35 k1 (ab_dd tk_ro_openTo 16 rfl) rfl (by have := hO1.1; omega) (Nat.lt_of_le_of_lt (Nat.add_le_add_left (by decide) r) hO1.2.1) hO1.2.2.2.1 rfl (by omega) (by omega) (x_topn ((cL a k1).getD k1 0) (q2 k1 (by omega)) ?_)
          refine x_aload_n 36 0 (ab_dd tk_ro_openTo 17 rfl) rfl rfl rfl ?_
          refine t_getI 39 (ab_dd tk_ro_openTo 18 rfl) rfl F_ro_19 (by have := hO1.1; omega) (Nat.lt_of_le_of_lt (Nat.le_add_right r 7) hO1.2.1) hO1.2.2.1 rfl (x_topn (5 ^ aR a) i4 ?_)
          refine x_idiv 40 (ab_dd tk_ro_openTo 19 rfl) rfl (by intro z; have := (nI_eq (a := 5 ^ aR a) (b := 0) (by omega) (by decide)).mp z; omega) (x_topn (((cL a k1).getD k1 0) / (5 ^ aR a)) (pk_div (by omega) (by omega) (by omega)) ?_)
          refine x_istore_n 41 [some (.ref r), some (.int (nI T)), some (.int (nI (((cL a k1).getD k1 0) / (5 ^ aR a)))), none, none, none, none] 2 (ab_dd tk_ro_openTo 20 rfl) rfl rfl (by decide) rfl ?_
          refine x_aload_n 42 0 (ab_dd tk_ro_openTo 21 rfl) rfl rfl rfl ?_
          refine t_getP 45 (r + 1) (ab_dd tk_ro_openTo 22 rfl) rfl F_ro_38 (by have := hO1.1; omega) (Nat.lt_of_le_of_lt (Nat.le_add_right r 7) hO1.2.1) hO1.2.2.1 rfl hO1.2.2.2.2.2.2.2.2.2.2.2.1 ?_
          refine x_aload_n 46 0 (ab_dd tk_ro_openTo 23 rfl) rfl rfl rfl ?_
          refine t_getI 49 (ab_dd tk_ro_openTo 24 rfl) rfl F_ro_28 (by have := hO1.1; omega) (Nat.lt_of_le_of_lt (Nat.le_add_right r 7) hO1.2.1) hO1.2.2.1 rfl (x_topn k1 i3 ?_)
          refine t_iald 50 k1 (ab_dd tk_ro_openTo 25 rfl) rfl (by have := hO1.1; omega) (Nat.lt_of_le_of_lt (Nat.add_le_add_left (by decide) r) hO1.2.1) hO1.2.2.2.1 rfl (by omega) (by omega) (x_topn ((cL a k1).getD k1 0) (q2 k1 (by omega)) ?_)
          refine x_aload_n 51 0 (ab_dd tk_ro_openTo 26 rfl) rfl rfl rfl ?_
          refine t_getI 54 (ab_dd tk_ro_openTo 27 rfl) rfl F_ro_19 (by have := hO1.1; omega) (Nat.lt_of_le_of_lt (Nat.le_add_right r 7) hO1.2.1) hO1.2.2.1 rfl (x_topn (5 ^ aR a) i4 ?_)
          refine x_irem 55 (ab_dd tk_ro_openTo 28 rfl) rfl (by intro z; have := (nI_eq (a := 5 ^ aR a) (b := 0) (by omega) (by decide)).mp z; omega) (x_topn (((cL a k1).getD k1 0) % (5 ^ aR a)) (pk_rem (by omega) (by omega) (by omega)) ?_)
          refine x_istore_n 56 [some (.ref r), some (.int (nI T)), some (.int (nI (((cL a k1).getD k1 0) / (5 ^ aR a)))), some (.int (nI (((cL a k1).getD k1 0) % (5 ^ aR a)))), none, none, none] 3 (ab_dd tk_ro_openTo 29 rfl) rfl rfl (by decide) rfl ?_
          refine x_iconst 57 0 (ab_dd tk_ro_openTo 30 rfl) rfl (by decide) (x_topn 0 rfl ?_)
          refine x_istore 59 [some (.ref r), some (.int (nI T)), some (.int (nI (((cL a k1).getD k1 0) / (5 ^ aR a)))), some (.int (nI (((cL a k1).getD k1 0) % (5 ^ aR a)))), some (.int (nI 0)), none, none] 4 (ab_dd tk_ro_openTo 31 rfl) rfl (by decide) rfl ?_
          exact deeds h16 4 0 (by omega) S1 _ _ hE1 hcl1 ⟨q1, q2, q3, q4⟩ i7 i8 (fun e he => absurd he (Nat.not_lt_zero e)) i3 i4 i5 h9 h14
  have hlen0 : k ≤ N := Nat.le_trans hI.2.1 (nd_len (bfB_nd k) (fun c hc => Nat.lt_of_lt_of_le (cL_all ha.1 k c hc) hI.2.2.2.2.2.2.2.2))
  exact lp (N - k) k (by omega) S none none none none none sEq.rf hcl hI rfl rfl (Nat.le_refl _)
