/-! ===== trading ===== -/
theorem bitA : (List.range 16).all (fun t => (List.range 4).all (fun k => decide ((nI t >>> (nI k &&& 31)) &&& nI 1 = nI (t / 2 ^ k % 2)) && (!(t / 2 ^ k % 2 == 1) || decide (nI t &&& ((nI 1 <<< (nI k &&& 31)) ^^^ (-1)) = nI (t - 2 ^ k))))) = true := by decide +kernel
theorem bit_N {t k : Nat} (ht : t < 16) (hk : k < 4) : (nI t >>> (nI k &&& 31)) &&& nI 1 = nI (t / 2 ^ k % 2) ∧ (bt t k → nI t &&& ((nI 1 <<< (nI k &&& 31)) ^^^ (-1)) = nI (t - 2 ^ k)) := by
  have h := List.all_eq_true.mp (List.all_eq_true.mp bitA t (List.mem_range.mpr ht)) k (List.mem_range.mpr hk)
  simp only [Bool.and_eq_true, Bool.or_eq_true, Bool.not_eq_true', beq_eq_false_iff_ne, decide_eq_true_eq] at h
  exact ⟨h.1, fun z => h.2.resolve_left (fun y => y z)⟩
def rgC (f : Nat → Nat) (r : Nat) : Nat → Nat → Bool
  | 0, _ => false
  | k + 1, u => if f u = r then true else rgC f r k (f u)
def rgX (R u r : Nat) : Bool := !(decide (r < R)) || !((List.range R).all (fun i => decide (u / 4 ^ i % 4 < R))) || (rgC (fun i => u / 4 ^ i % 4) r R r == rg (fun i => u / 4 ^ i % 4) r 4 (u / 4 ^ r % 4))
theorem rgX_all : (List.range 5).all (fun R => (List.range 256).all (fun u => (List.range 4).all (fun r => rgX R u r))) = true := by decide +kernel
theorem rg_c2 {f f' : Nat → Nat} {r R : Nat} (h : ∀ i, i < R → f i = f' i ∧ f i < R) : ∀ k u, u < R → rg f r k u = rg f' r k u
  | 0, _, _ => rfl
  | k + 1, u, hu => by
    unfold rg
    rw [rg_c2 h k (f u) (h u hu).2, (h u hu).1]
theorem rgC_c2 {f f' : Nat → Nat} {r R : Nat} (h : ∀ i, i < R → f i = f' i ∧ f i < R) : ∀ k u, u < R → rgC f r k u = rgC f' r k u
  | 0, _, _ => rfl
  | k + 1, u, hu => by
    unfold rgC
    rw [rgC_c2 h k (f u) (h u hu).2, (h u hu).1]
theorem rgC_rg {f : Nat → Nat} {r R : Nat} (hR : R ≤ 4) (hf : ∀ i, i < R → f i < R) (hr : r < R) : rgC f r R r = rg f r 4 (f r) := by
  have hb : ∀ i, i < 4 → (if i < R then f i else 0) < 4 := fun i _ => by
    by_cases z : i < R
    · rw [if_pos z]; have := hf i z; omega
    · rw [if_neg z]; decide
  have hd := c4_d hb
  have hl := c4_lt hb
  have e : ∀ i, i < R → f i = c4 (fun i => if i < R then f i else 0) / 4 ^ i % 4 ∧ f i < R := fun i hi => by
    refine ⟨?_, hf i hi⟩
    have z := hd i (by omega)
    unfold d4 at z
    rw [z, if_pos hi]
  have h := List.all_eq_true.mp (List.all_eq_true.mp (List.all_eq_true.mp rgX_all R (List.mem_range.mpr (by omega))) _ (List.mem_range.mpr hl)) r (List.mem_range.mpr (by omega))
  generalize hu : c4 (fun i => if i < R then f i else 0) = u at h e
  unfold rgX at h
  have hp : (List.range R).all (fun i => decide (u / 4 ^ i % 4 < R)) = true := by
    rw [List.all_eq_true]
    intro i hi
    have hi2 := List.mem_range.mp hi
    rw [decide_eq_true_eq, ← (e i hi2).1]
    exact hf i hi2
  rw [hp, decide_eq_true hr] at h
  simp only [Bool.not_true, Bool.false_or, beq_iff_eq] at h
  rw [rgC_c2 e R r hr, h, rg_c2 e 4 (f r) (hf r hr), (e r hr).1]
theorem caI.nw {S S' : ab_S} {im : Nat → Prop} {c q m z : Nat} {a : Nat → Int32} (h : caI S im c a) (g : nwE q S S' m z) (hi : ∀ b, im b → b < q) : caI S' im c a :=
  h.im ⟨by rw [g.2.1]; exact Nat.le_add_right _ _, fun b hb hbn => ⟨g.2.2.2.1 b hbn, (g.2.2.2.2 b hbn (by have := hi b hb; omega)).1, (g.2.2.2.2 b hbn (by have := hi b hb; omega)).2.2⟩⟩ (fun _ z => z)
def trK (S : ab_S) (q c : Nat) (a : Nat → Int32) : Prop := 145 ≤ q ∧ q + 3 < sn S ∧ sK S q = .inr 9 ∧ sK S (q + 1) = .inl (.int, 4) ∧ sK S (q + 2) = .inl (.int, 4) ∧ sK S (q + 3) = .inl (.int, 4) ∧ sP S q 0 = some c ∧ sP S q 2 = some (q + 1) ∧ sP S q 3 = some (q + 2) ∧ sP S q 4 = some (q + 3) ∧ sI S q 1 = nI (seaC a)
theorem trK.eq {S S' : ab_S} {q c : Nat} {a : Nat → Int32} {l : List Nat} (h : trK S q c a) (hE : sEq l S S') (hq : q ∉ l) : trK S' q c a := by
  unfold trK
  rw [hE.2.1, hE.2.2.2.2.1, hE.2.2.2.2.2.1, hE.2.2.1 q hq]
  exact h
def tb_tr_likingOf : List (Nat × Instr × Nat) := [(0, .aload_n 0, 1), (1, .getfield 21, 3), (4, .iload_n 1, 1), (5, .aload_n 0, 1), (6, .getfield 25, 3), (9, .iload_n 2, 1), (10, .invokestatic 48, 3), (13, .invokevirtual 51, 3), (16, .ireturn, 1)]
theorem tk_tr_likingOf : ∀ q ∈ tb_tr_likingOf, decode M_tr_likingOf.2.1 q.1 = .ok q.2 := by decide +kernel
theorem c_tr_likingOf {G : ab_G} {S : ab_S} {im : Nat → Prop} {q c : Nat} {a : Nat → Int32} (hT : trK S q c a) (hca : caI S im c a) (ha : aOk a) (r u : Nat) (hr : r < 4) (hu : u < 4) : ab_C G 1 M_tr_likingOf [.ref q, .int (nI r), .int (nI u)] (sw S) (fun v w' => v = some (.int (lk a r u)) ∧ w' = sw S) := by
  refine x_enter [some (.ref q), some (.int (nI r)), some (.int (nI u))] (by decide) (Nat.le_of_ble_eq_true rfl) rfl (fun v w' h => by obtain ⟨rfl, rfl⟩ := h; rfl) ?_
  have hs := seaC_lt ha
  have hd := d4_lt (seaC a) u
  have hlk : lk a r u = a (12 + 4 * r + d4 (seaC a) u) := by unfold lk; rw [seaC_d ha hu]
  refine x_aload_n 1 0 (ab_dd tk_tr_likingOf 0 rfl) rfl rfl rfl ?_
  refine t_getP 4 c (ab_dd tk_tr_likingOf 1 rfl) rfl F_tr_21 (by have := hT.1; omega) (Nat.lt_of_le_of_lt (Nat.le_add_right q 3) hT.2.1) hT.2.2.1 rfl hT.2.2.2.2.2.2.1 ?_
  refine x_iload_n 5 1 (ab_dd tk_tr_likingOf 2 rfl) rfl rfl rfl ?_
  refine x_aload_n 6 0 (ab_dd tk_tr_likingOf 3 rfl) rfl rfl rfl ?_
  refine t_getI 9 (ab_dd tk_tr_likingOf 4 rfl) rfl F_tr_25 (by have := hT.1; omega) (Nat.lt_of_le_of_lt (Nat.le_add_right q 3) hT.2.1) hT.2.2.1 rfl (x_topn (seaC a) hT.2.2.2.2.2.2.2.2.2.2 ?_)
  refine x_iload_n 10 2 (ab_dd tk_tr_likingOf 5 rfl) rfl rfl rfl ?_
  refine x_callS 13 M_s_seasonOf 0 2 [_, _] (ab_dd tk_tr_likingOf 6 rfl) rfl (by first | decide | omega) K_s_seasonOf T_s_seasonOf L_tr_48 rfl (Nat.le_of_ble_eq_true rfl) (c_s_seasonOf (seaC a) u hs hu) (fun v1 w1 h1 => ?_)
  obtain ⟨rfl, rfl⟩ := h1
  refine t_callV 16 M_ca_liking 0 2 [_, _] (ab_dd tk_tr_likingOf 7 rfl) rfl (by first | decide | omega) K_ca_liking V_ca_liking.1 V_ca_liking.2 L_tr_51 rfl (Nat.le_of_ble_eq_true rfl) hca.1.1 (Nat.lt_of_le_of_lt (Nat.le_add_right c 2) hca.1.2.1) hca.1.2.2.1 rfl (c_ca_liking hca r (d4 (seaC a) u) hr hd) (fun v1 w1 h1 => ?_)
  obtain ⟨rfl, rfl⟩ := h1
  exact x_iret (ab_dd tk_tr_likingOf 8 rfl) ⟨by rw [hlk], rfl⟩
def tb_tr_favourite : List (Nat × Instr × Nat) := [(0, .iload_n 1, 1), (1, .istore_n 3, 1), (2, .iconst 0, 1), (3, .istore 4, 2), (5, .iload 4, 2), (7, .aload_n 0, 1), (8, .getfield 21, 3), (11, .getfield 29, 3), (14, .if_icmp .ge 37, 3), (17, .iload_n 2, 1), (18, .iload 4, 2), (20, .ishr, 1), (21, .iconst 1, 1), (22, .iand, 1), (23, .ifCond .eq 22, 3), (26, .aload_n 0, 1), (27, .iload_n 1, 1), (28, .iload 4, 2), (30, .invokevirtual 45, 3), (33, .aload_n 0, 1), (34, .iload_n 1, 1), (35, .iload_n 3, 1), (36, .invokevirtual 45, 3), (39, .if_icmp .le 6, 3), (42, .iload 4, 2), (44, .istore_n 3, 1), (45, .iinc 4 1, 3), (48, .goto (-43), 3), (51, .iload_n 3, 1), (52, .ireturn, 1)]
theorem tk_tr_favourite : ∀ q ∈ tb_tr_favourite, decode M_tr_favourite.2.1 q.1 = .ok q.2 := by decide +kernel
theorem c_tr_favourite {G : ab_G} {S : ab_S} {im : Nat → Prop} {q c : Nat} {a : Nat → Int32} (hT : trK S q c a) (hca : caI S im c a) (ha : aOk a) (r t : Nat) (hr : r < aR a) (ht : t < 16) : ab_C G 2 M_tr_favourite [.ref q, .int (nI r), .int (nI t)] (sw S) (fun v w' => v = some (.int (nI (pt a t r (aR a)))) ∧ w' = sw S) := by
  refine x_enter [some (.ref q), some (.int (nI r)), some (.int (nI t)), none, none] (by decide) (Nat.le_of_ble_eq_true rfl) rfl (fun v w' h => by obtain ⟨rfl, rfl⟩ := h; rfl) ?_
  have hR4 := ha.R.2
  have loop : ∀ (m k : Nat), k + m = aR a → ab_Ex G 2 M_tr_favourite 5 [some (.ref q), some (.int (nI r)), some (.int (nI t)), some (.int (nI (pt a t r k))), some (.int (nI k))] [] (sw S) (fun v w' => v = some (.int (nI (pt a t r (aR a)))) ∧ w' = sw S) := by
    intro m
    induction m with
    | zero =>
      intro k hk
      have hkR : k = aR a := by omega
      refine x_iload 7 4 (ab_dd tk_tr_favourite 4 rfl) rfl rfl ?_
      refine x_aload_n 8 0 (ab_dd tk_tr_favourite 5 rfl) rfl rfl rfl ?_
      refine t_getP 11 c (ab_dd tk_tr_favourite 6 rfl) rfl F_tr_21 (by have := hT.1; omega) (Nat.lt_of_le_of_lt (Nat.le_add_right q 3) hT.2.1) hT.2.2.1 rfl hT.2.2.2.2.2.2.1 ?_
      refine t_getI 14 (ab_dd tk_tr_favourite 7 rfl) rfl F_tr_29 hca.1.1 (Nat.lt_of_le_of_lt (Nat.le_add_right c 2) hca.1.2.1) hca.1.2.2.1 rfl (x_topn (aR a) hca.2.1 ?_)
      refine x_icmp_ge_t 51 (ab_dd tk_tr_favourite 8 rfl) (by decide) ((nI_leI (a := (aR a)) (b := k) (by omega) (by omega)).mpr (show (aR a) ≤ k by omega)) ?_
      refine x_iload_n 52 3 (ab_dd tk_tr_favourite 28 rfl) rfl rfl rfl ?_
      exact x_iret (ab_dd tk_tr_favourite 29 rfl) ⟨by rw [hkR], rfl⟩
    | succ m ih =>
      intro k hk
      have hI := ih (k + 1) (by omega)
      have hpl := pt_lt (a := a) (t := t) hr k (by omega)
      have hb2 : t / 2 ^ k % 2 < 2 := Nat.mod_lt _ (by decide)
      refine x_iload 7 4 (ab_dd tk_tr_favourite 4 rfl) rfl rfl ?_
      refine x_aload_n 8 0 (ab_dd tk_tr_favourite 5 rfl) rfl rfl rfl ?_
      refine t_getP 11 c (ab_dd tk_tr_favourite 6 rfl) rfl F_tr_21 (by have := hT.1; omega) (Nat.lt_of_le_of_lt (Nat.le_add_right q 3) hT.2.1) hT.2.2.1 rfl hT.2.2.2.2.2.2.1 ?_
      refine t_getI 14 (ab_dd tk_tr_favourite 7 rfl) rfl F_tr_29 hca.1.1 (Nat.lt_of_le_of_lt (Nat.le_add_right c 2) hca.1.2.1) hca.1.2.2.1 rfl (x_topn (aR a) hca.2.1 ?_)
      refine x_icmp_ge_f 17 (ab_dd tk_tr_favourite 8 rfl) rfl 51 (by decide) (fun z => absurd ((nI_leI (a := (aR a)) (b := k) (by omega) (by omega)).mp z) (show ¬ ((aR a) ≤ k) by omega)) ?_
      refine x_iload_n 18 2 (ab_dd tk_tr_favourite 9 rfl) rfl rfl rfl ?_
      refine x_iload 20 4 (ab_dd tk_tr_favourite 10 rfl) rfl rfl ?_
      refine x_ishr 21 (ab_dd tk_tr_favourite 11 rfl) rfl ?_
      refine x_iconst 22 1 (ab_dd tk_tr_favourite 12 rfl) rfl (by decide) (x_topn 1 rfl ?_)
      refine x_iand 23 (ab_dd tk_tr_favourite 13 rfl) rfl (x_topn (t / 2 ^ k % 2) ((bit_N ht (by omega)).1) ?_)
      refine xn_if_eq 26 45 (ab_dd tk_tr_favourite 14 rfl) rfl (by decide) (by omega) (fun h23 => ?_) (fun h23 => ?_)
      · refine xn_iinc 48 4 (fun y => [some (.ref q), some (.int (nI r)), some (.int (nI t)), some (.int (nI (pt a t r k))), some (.int y)]) (k + 1) (ab_dd tk_tr_favourite 26 rfl) rfl (by decide) rfl (fun _ => rfl) (iinc_p 1) ?_
        refine x_goto 5 (ab_dd tk_tr_favourite 27 rfl) (by decide) ?_
        rw [show pt a t r (k + 1) = _ from if_neg (fun z => by have z1 : t / 2 ^ k % 2 = 1 := z.1; omega)] at hI
        exact hI
      · refine x_aload_n 27 0 (ab_dd tk_tr_favourite 15 rfl) rfl rfl rfl ?_
        refine x_iload_n 28 1 (ab_dd tk_tr_favourite 16 rfl) rfl rfl rfl ?_
        refine x_iload 30 4 (ab_dd tk_tr_favourite 17 rfl) rfl rfl ?_
        refine t_callV 33 M_tr_likingOf 1 2 [_, _] (ab_dd tk_tr_favourite 18 rfl) rfl (by first | decide | omega) K_tr_likingOf V_tr_likingOf.1 V_tr_likingOf.2 L_tr_45 rfl (Nat.le_of_ble_eq_true rfl) (by have := hT.1; omega) (Nat.lt_of_le_of_lt (Nat.le_add_right q 3) hT.2.1) hT.2.2.1 rfl (c_tr_likingOf hT hca ha r k (by omega) (by omega)) (fun v1 w1 h1 => ?_)
        obtain ⟨rfl, rfl⟩ := h1
        refine x_aload_n 34 0 (ab_dd tk_tr_favourite 19 rfl) rfl rfl rfl ?_
        refine x_iload_n 35 1 (ab_dd tk_tr_favourite 20 rfl) rfl rfl rfl ?_
        refine x_iload_n 36 3 (ab_dd tk_tr_favourite 21 rfl) rfl rfl rfl ?_
        refine t_callV 39 M_tr_likingOf 1 2 [_, _] (ab_dd tk_tr_favourite 22 rfl) rfl (by first | decide | omega) K_tr_likingOf V_tr_likingOf.1 V_tr_likingOf.2 L_tr_45 rfl (Nat.le_of_ble_eq_true rfl) (by have := hT.1; omega) (Nat.lt_of_le_of_lt (Nat.le_add_right q 3) hT.2.1) hT.2.2.1 rfl (c_tr_likingOf hT hca ha r (pt a t r k) (by omega) (by omega)) (fun v1 w1 h1 => ?_)
        obtain ⟨rfl, rfl⟩ := h1
        refine x_icmp_le 42 45 (ab_dd tk_tr_favourite 23 rfl) rfl (by decide) (fun h39 => ?_) (fun h39 => ?_)
        · refine xn_iinc 48 4 (fun y => [some (.ref q), some (.int (nI r)), some (.int (nI t)), some (.int (nI (pt a t r k))), some (.int y)]) (k + 1) (ab_dd tk_tr_favourite 26 rfl) rfl (by decide) rfl (fun _ => rfl) (iinc_p 1) ?_
          refine x_goto 5 (ab_dd tk_tr_favourite 27 rfl) (by decide) ?_
          rw [show pt a t r (k + 1) = _ from if_neg (fun z => absurd h39 (Int32.not_le.mpr z.2))] at hI
          exact hI
        · refine x_iload 44 4 (ab_dd tk_tr_favourite 24 rfl) rfl rfl ?_
          refine x_istore_n 45 [some (.ref q), some (.int (nI r)), some (.int (nI t)), some (.int (nI k)), some (.int (nI k))] 3 (ab_dd tk_tr_favourite 25 rfl) rfl rfl (by decide) rfl ?_
          refine xn_iinc 48 4 (fun y => [some (.ref q), some (.int (nI r)), some (.int (nI t)), some (.int (nI k)), some (.int y)]) (k + 1) (ab_dd tk_tr_favourite 26 rfl) rfl (by decide) rfl (fun _ => rfl) (iinc_p 1) ?_
          refine x_goto 5 (ab_dd tk_tr_favourite 27 rfl) (by decide) ?_
          rw [show pt a t r (k + 1) = _ from if_pos ⟨by show t / 2 ^ k % 2 = 1; omega, Int32.not_le.mp h39⟩] at hI
          exact hI
  refine x_iload_n 1 1 (ab_dd tk_tr_favourite 0 rfl) rfl rfl rfl ?_
  refine x_istore_n 2 [some (.ref q), some (.int (nI r)), some (.int (nI t)), some (.int (nI r)), none] 3 (ab_dd tk_tr_favourite 1 rfl) rfl rfl (by decide) rfl ?_
  refine x_iconst 3 0 (ab_dd tk_tr_favourite 2 rfl) rfl (by decide) (x_topn 0 rfl ?_)
  refine x_istore 5 [some (.ref q), some (.int (nI r)), some (.int (nI t)), some (.int (nI r)), some (.int (nI 0))] 4 (ab_dd tk_tr_favourite 3 rfl) rfl (by decide) rfl ?_
  exact loop (aR a) 0 (by omega)
def tb_tr_isOnRing : List (Nat × Instr × Nat) := [(0, .iload_n 1, 1), (1, .istore_n 2, 1), (2, .iconst 0, 1), (3, .istore_n 3, 1), (4, .iload_n 3, 1), (5, .aload_n 0, 1), (6, .getfield 21, 3), (9, .getfield 29, 3), (12, .if_icmp .ge 23, 3), (15, .aload_n 0, 1), (16, .getfield 9, 3), (19, .iload_n 2, 1), (20, .iaload, 1), (21, .istore_n 2, 1), (22, .iload_n 2, 1), (23, .iload_n 1, 1), (24, .if_icmp .ne 5, 3), (27, .iconst 1, 1), (28, .ireturn, 1), (29, .iinc 3 1, 3), (32, .goto (-28), 3), (35, .iconst 0, 1), (36, .ireturn, 1)]
theorem tk_tr_isOnRing : ∀ q ∈ tb_tr_isOnRing, decode M_tr_isOnRing.2.1 q.1 = .ok q.2 := by decide +kernel
theorem c_tr_isOnRing {G : ab_G} {S : ab_S} {im : Nat → Prop} {q c : Nat} {a : Nat → Int32} (hT : trK S q c a) (hca : caI S im c a) (ha : aOk a) {f : Nat → Nat} (hP : ∀ i, i < aR a → sI S (q + 1) i = nI (f i)) (hf : ∀ i, i < aR a → f i < aR a) (r : Nat) (hr : r < aR a) : ab_C G 0 M_tr_isOnRing [.ref q, .int (nI r)] (sw S) (fun v w' => v = some (.int (if rg f r 4 (f r) = true then 1 else 0)) ∧ w' = sw S) := by
  refine x_enter [some (.ref q), some (.int (nI r)), none, none] (by decide) (Nat.le_of_ble_eq_true rfl) rfl (fun v w' h => by obtain ⟨rfl, rfl⟩ := h; split <;> rfl) ?_
  have hR4 := ha.R.2
  have hrg := rgC_rg hR4 hf hr
  have loop : ∀ (m k u : Nat), k + m = aR a → u < aR a → rgC f r m u = rgC f r (aR a) r → ab_Ex G 0 M_tr_isOnRing 4 [some (.ref q), some (.int (nI r)), some (.int (nI u)), some (.int (nI k))] [] (sw S) (fun v w' => v = some (.int (if rg f r 4 (f r) = true then 1 else 0)) ∧ w' = sw S) := by
    intro m
    induction m with
    | zero =>
      intro k u hk hu hz
      refine x_iload_n 5 3 (ab_dd tk_tr_isOnRing 4 rfl) rfl rfl rfl ?_
      refine x_aload_n 6 0 (ab_dd tk_tr_isOnRing 5 rfl) rfl rfl rfl ?_
      refine t_getP 9 c (ab_dd tk_tr_isOnRing 6 rfl) rfl F_tr_21 (by have := hT.1; omega) (Nat.lt_of_le_of_lt (Nat.le_add_right q 3) hT.2.1) hT.2.2.1 rfl hT.2.2.2.2.2.2.1 ?_
      refine t_getI 12 (ab_dd tk_tr_isOnRing 7 rfl) rfl F_tr_29 hca.1.1 (Nat.lt_of_le_of_lt (Nat.le_add_right c 2) hca.1.2.1) hca.1.2.2.1 rfl (x_topn (aR a) hca.2.1 ?_)
      refine x_icmp_ge_t 35 (ab_dd tk_tr_isOnRing 8 rfl) (by decide) ((nI_leI (a := (aR a)) (b := k) (by omega) (by omega)).mpr (show (aR a) ≤ k by omega)) ?_
      refine x_iconst 36 0 (ab_dd tk_tr_isOnRing 21 rfl) rfl (by decide) (x_topn 0 rfl ?_)
      exact x_iret (ab_dd tk_tr_isOnRing 22 rfl) ⟨rI (if_neg (by rw [← hrg, ← hz]; show ¬ false = true; decide)).symm, rfl⟩
    | succ m ih =>
      intro k u hk hu hz
      have hfu := hf u hu
      refine x_iload_n 5 3 (ab_dd tk_tr_isOnRing 4 rfl) rfl rfl rfl ?_
      refine x_aload_n 6 0 (ab_dd tk_tr_isOnRing 5 rfl) rfl rfl rfl ?_
      refine t_getP 9 c (ab_dd tk_tr_isOnRing 6 rfl) rfl F_tr_21 (by have := hT.1; omega) (Nat.lt_of_le_of_lt (Nat.le_add_right q 3) hT.2.1) hT.2.2.1 rfl hT.2.2.2.2.2.2.1 ?_
      refine t_getI 12 (ab_dd tk_tr_isOnRing 7 rfl) rfl F_tr_29 hca.1.1 (Nat.lt_of_le_of_lt (Nat.le_add_right c 2) hca.1.2.1) hca.1.2.2.1 rfl (x_topn (aR a) hca.2.1 ?_)
      refine x_icmp_ge_f 15 (ab_dd tk_tr_isOnRing 8 rfl) rfl 35 (by decide) (fun z => absurd ((nI_leI (a := (aR a)) (b := k) (by omega) (by omega)).mp z) (show ¬ ((aR a) ≤ k) by omega)) ?_
      refine x_aload_n 16 0 (ab_dd tk_tr_isOnRing 9 rfl) rfl rfl rfl ?_
      refine t_getP 19 (q + 1) (ab_dd tk_tr_isOnRing 10 rfl) rfl F_tr_9 (by have := hT.1; omega) (Nat.lt_of_le_of_lt (Nat.le_add_right q 3) hT.2.1) hT.2.2.1 rfl hT.2.2.2.2.2.2.2.1 ?_
      refine x_iload_n 20 2 (ab_dd tk_tr_isOnRing 11 rfl) rfl rfl rfl ?_
      refine t_iald 21 u (ab_dd tk_tr_isOnRing 12 rfl) rfl (by have := hT.1; omega) (Nat.lt_of_le_of_lt (Nat.add_le_add_left (by decide) q) hT.2.1) hT.2.2.2.1 rfl (by omega) (by decide) (x_topn (f u) (hP u hu) ?_)
      refine x_istore_n 22 [some (.ref q), some (.int (nI r)), some (.int (nI (f u))), some (.int (nI k))] 2 (ab_dd tk_tr_isOnRing 13 rfl) rfl rfl (by decide) rfl ?_
      refine x_iload_n 23 2 (ab_dd tk_tr_isOnRing 14 rfl) rfl rfl rfl ?_
      refine x_iload_n 24 1 (ab_dd tk_tr_isOnRing 15 rfl) rfl rfl rfl ?_
      refine xn_icmp_ne 27 29 (ab_dd tk_tr_isOnRing 16 rfl) rfl (by decide) (by omega) (by omega) (fun h24 => ?_) (fun h24 => ?_)
      · refine xn_iinc 32 3 (fun y => [some (.ref q), some (.int (nI r)), some (.int (nI (f u))), some (.int y)]) (k + 1) (ab_dd tk_tr_isOnRing 19 rfl) rfl (by decide) rfl (fun _ => rfl) (iinc_p 1) ?_
        refine x_goto 4 (ab_dd tk_tr_isOnRing 20 rfl) (by decide) ?_
        exact ih (k + 1) (f u) (by omega) hfu (by rw [← hz]; exact (if_neg h24).symm)
      · refine x_iconst 28 1 (ab_dd tk_tr_isOnRing 17 rfl) rfl (by decide) (x_topn 1 rfl ?_)
        exact x_iret (ab_dd tk_tr_isOnRing 18 rfl) ⟨rI (if_pos (by rw [← hrg, ← hz]; exact if_pos h24)).symm, rfl⟩
  refine x_iload_n 1 1 (ab_dd tk_tr_isOnRing 0 rfl) rfl rfl rfl ?_
  refine x_istore_n 2 [some (.ref q), some (.int (nI r)), some (.int (nI r)), none] 2 (ab_dd tk_tr_isOnRing 1 rfl) rfl rfl (by decide) rfl ?_
  refine x_iconst 3 0 (ab_dd tk_tr_isOnRing 2 rfl) rfl (by decide) (x_topn 0 rfl ?_)
  refine x_istore_n 4 [some (.ref q), some (.int (nI r)), some (.int (nI r)), some (.int (nI 0))] 3 (ab_dd tk_tr_isOnRing 3 rfl) rfl rfl (by decide) rfl ?_
  exact loop (aR a) 0 r (by omega) hr rfl
def tb_tr_afterRings : List (Nat × Instr × Nat) := [(0, .iconst 0, 1), (1, .istore_n 3, 1), (2, .iload_n 3, 1), (3, .aload_n 0, 1), (4, .getfield 21, 3), (7, .getfield 29, 3), (10, .if_icmp .ge 21, 3), (13, .aload_n 0, 1), (14, .getfield 9, 3), (17, .iload_n 3, 1), (18, .aload_n 0, 1), (19, .iload_n 3, 1), (20, .iload_n 1, 1), (21, .invokevirtual 38, 3), (24, .iastore, 1), (25, .iinc 3 1, 3), (28, .goto (-26), 3), (31, .iload_n 1, 1), (32, .istore_n 3, 1), (33, .iconst 0, 1), (34, .istore 4, 2), (36, .iload 4, 2), (38, .aload_n 0, 1), (39, .getfield 21, 3), (42, .getfield 29, 3), (45, .if_icmp .ge 58, 3), (48, .iload_n 1, 1), (49, .iload 4, 2), (51, .ishr, 1), (52, .iconst 1, 1), (53, .iand, 1), (54, .ifCond .eq 43, 3), (57, .aload_n 0, 1), (58, .iload 4, 2), (60, .invokevirtual 41, 3), (63, .ifCond .eq 34, 3), (66, .aload_n 0, 1), (67, .getfield 15, 3), (70, .iload 4, 2), (72, .aload_n 0, 1), (73, .getfield 9, 3), (76, .iload 4, 2), (78, .iaload, 1), (79, .iastore, 1), (80, .aload_n 0, 1), (81, .getfield 18, 3), (84, .iload 4, 2), (86, .iload_n 2, 1), (87, .iastore, 1), (88, .iload_n 3, 1), (89, .iconst 1, 1), (90, .iload 4, 2), (92, .ishl, 1), (93, .iconst (-1), 1), (94, .ixor, 1), (95, .iand, 1), (96, .istore_n 3, 1), (97, .iinc 4 1, 3), (100, .goto (-64), 3), (103, .iload_n 3, 1), (104, .ireturn, 1)]
theorem tk_tr_afterRings : ∀ q ∈ tb_tr_afterRings, decode M_tr_afterRings.2.1 q.1 = .ok q.2 := by decide +kernel
theorem c_tr_afterRings {G : ab_G} {S : ab_S} {im : Nat → Prop} {q c : Nat} {a : Nat → Int32} (hT : trK S q c a) (hca : caI S im c a) (ha : aOk a) (hqi : ∀ y, q ≤ y → y ≤ q + 3 → ¬ im y) (t s : Nat) (ht : t < 16) : ab_C G 3 M_tr_afterRings [.ref q, .int (nI t), .int (nI s)] (sw S) (fun v w' => v = some (.int (nI (t - gN t (fun r => aRg a t r) (aR a)))) ∧ ∃ S', w' = sw S' ∧ sEq [q + 1, q + 2, q + 3] S S' ∧ ∀ r, r < aR a → (¬ (bt t r ∧ aRg a t r = true) → sI S' (q + 2) r = sI S (q + 2) r ∧ sI S' (q + 3) r = sI S (q + 3) r) ∧ (bt t r → aRg a t r = true → sI S' (q + 2) r = nI (aPt a t r) ∧ sI S' (q + 3) r = nI s)) := by
  refine x_enter [some (.ref q), some (.int (nI t)), some (.int (nI s)), none, none] (by decide) (Nat.le_of_ble_eq_true rfl) rfl (fun v w' h => by obtain ⟨rfl, -⟩ := h; rfl) ?_
  have hR4 := ha.R.2
  have hq145 := hT.1
  have hpl : ∀ i, i < aR a → aPt a t i < aR a := fun i hi => pt_lt hi _ (Nat.le_refl _)
  have rings : ∀ (m k : Nat), k + m = aR a → ∀ S2 : ab_S, sEq [q + 1, q + 2, q + 3] S S2 → (∀ i, i < aR a → sI S2 (q + 1) i = nI (aPt a t i)) → (∀ r, r < aR a → (¬ (r < k ∧ bt t r ∧ aRg a t r = true) → sI S2 (q + 2) r = sI S (q + 2) r ∧ sI S2 (q + 3) r = sI S (q + 3) r) ∧ (r < k → bt t r → aRg a t r = true → sI S2 (q + 2) r = nI (aPt a t r) ∧ sI S2 (q + 3) r = nI s)) → ab_Ex G 3 M_tr_afterRings 36 [some (.ref q), some (.int (nI t)), some (.int (nI s)), some (.int (nI (t - gN t (fun r => aRg a t r) k))), some (.int (nI k))] [] (sw S2) (fun v w' => v = some (.int (nI (t - gN t (fun r => aRg a t r) (aR a)))) ∧ ∃ S', w' = sw S' ∧ sEq [q + 1, q + 2, q + 3] S S' ∧ ∀ r, r < aR a → (¬ (bt t r ∧ aRg a t r = true) → sI S' (q + 2) r = sI S (q + 2) r ∧ sI S' (q + 3) r = sI S (q + 3) r) ∧ (bt t r → aRg a t r = true → sI S' (q + 2) r = nI (aPt a t r) ∧ sI S' (q + 3) r = nI s)) := by
    intro m
    induction m with
    | zero =>
      intro k hk S2 hE2 hP2 hr2
      have hkR : k = aR a := by omega
      subst hkR
      have hT2 : trK S2 q c a := hT.eq hE2 (by simp)
      have hca2 : caI S2 im c a := hca.eq hE2 (fun y hy => hqi y (by simp only [List.mem_cons, List.not_mem_nil, or_false] at hy; omega) (by simp only [List.mem_cons, List.not_mem_nil, or_false] at hy; omega))
      refine x_iload 38 4 (ab_dd tk_tr_afterRings 21 rfl) rfl rfl ?_
      refine x_aload_n 39 0 (ab_dd tk_tr_afterRings 22 rfl) rfl rfl rfl ?_
      refine t_getP 42 c (ab_dd tk_tr_afterRings 23 rfl) rfl F_tr_21 (by have := hT2.1; omega) (Nat.lt_of_le_of_lt (Nat.le_add_right q 3) hT2.2.1) hT2.2.2.1 rfl hT2.2.2.2.2.2.2.1 ?_
      refine t_getI 45 (ab_dd tk_tr_afterRings 24 rfl) rfl F_tr_29 hca2.1.1 (Nat.lt_of_le_of_lt (Nat.le_add_right c 2) hca2.1.2.1) hca2.1.2.2.1 rfl (x_topn (aR a) hca2.2.1 ?_)
      refine x_icmp_ge_t 103 (ab_dd tk_tr_afterRings 25 rfl) (by decide) ((nI_leI (a := (aR a)) (b := (aR a)) (by omega) (by omega)).mpr (show (aR a) ≤ (aR a) by omega)) ?_
      refine x_iload_n 104 3 (ab_dd tk_tr_afterRings 59 rfl) rfl rfl rfl ?_
      exact x_iret (ab_dd tk_tr_afterRings 60 rfl) ⟨rfl, S2, rfl, hE2, fun r hr => ⟨fun z => (hr2 r hr).1 (fun y => z y.2), fun z1 z2 => (hr2 r hr).2 hr z1 z2⟩⟩
    | succ m ih =>
      intro k hk S2 hE2 hP2 hr2
      have hT2 : trK S2 q c a := hT.eq hE2 (by simp)
      have hca2 : caI S2 im c a := hca.eq hE2 (fun y hy => hqi y (by simp only [List.mem_cons, List.not_mem_nil, or_false] at hy; omega) (by simp only [List.mem_cons, List.not_mem_nil, or_false] at hy; omega))
      have hkR : k < aR a := by omega
      obtain ⟨g1, g3, g2⟩ := gN_ok (t := t) (q := (fun r => aRg a t r)) k (by omega)
      obtain ⟨u1, u2, u3, u4⟩ := su_ok ht g1 (fun r hr hb => ((g2 r hr).mp hb).2.1)
      have hb2 : t / 2 ^ k % 2 < 2 := Nat.mod_lt _ (by decide)
      have hI2 := ih (k + 1) (by omega)
      refine x_iload 38 4 (ab_dd tk_tr_afterRings 21 rfl) rfl rfl ?_
      refine x_aload_n 39 0 (ab_dd tk_tr_afterRings 22 rfl) rfl rfl rfl ?_
      refine t_getP 42 c (ab_dd tk_tr_afterRings 23 rfl) rfl F_tr_21 (by have := hT2.1; omega) (Nat.lt_of_le_of_lt (Nat.le_add_right q 3) hT2.2.1) hT2.2.2.1 rfl hT2.2.2.2.2.2.2.1 ?_
      refine t_getI 45 (ab_dd tk_tr_afterRings 24 rfl) rfl F_tr_29 hca2.1.1 (Nat.lt_of_le_of_lt (Nat.le_add_right c 2) hca2.1.2.1) hca2.1.2.2.1 rfl (x_topn (aR a) hca2.2.1 ?_)
      refine x_icmp_ge_f 48 (ab_dd tk_tr_afterRings 25 rfl) rfl 103 (by decide) (fun z => absurd ((nI_leI (a := (aR a)) (b := k) (by omega) (by omega)).mp z) (show ¬ ((aR a) ≤ k) by omega)) ?_
      refine x_iload_n 49 1 (ab_dd tk_tr_afterRings 26 rfl) rfl rfl rfl ?_
      refine x_iload 51 4 (ab_dd tk_tr_afterRings 27 rfl) rfl rfl ?_
      refine x_ishr 52 (ab_dd tk_tr_afterRings 28 rfl) rfl ?_
      refine x_iconst 53 1 (ab_dd tk_tr_afterRings 29 rfl) rfl (by decide) (x_topn 1 rfl ?_)
      refine x_iand 54 (ab_dd tk_tr_afterRings 30 rfl) rfl (x_topn (t / 2 ^ k % 2) ((bit_N ht (by omega)).1) ?_)
      refine xn_if_eq 57 97 (ab_dd tk_tr_afterRings 31 rfl) rfl (by decide) (by omega) (fun h54 => ?_) (fun h54 => ?_)
      · refine xn_iinc 100 4 (fun y => [some (.ref q), some (.int (nI t)), some (.int (nI s)), some (.int (nI (t - gN t (fun r => aRg a t r) k))), some (.int y)]) (k + 1) (ab_dd tk_tr_afterRings 57 rfl) rfl (by decide) rfl (fun _ => rfl) (iinc_p 1) ?_
        refine x_goto 36 (ab_dd tk_tr_afterRings 58 rfl) (by decide) ?_
        rw [show gN t (fun r => aRg a t r) (k + 1) = gN t (fun r => aRg a t r) k from if_neg (fun z => by have z1 : t / 2 ^ k % 2 = 1 := z.1; omega)] at hI2
        refine hI2 S2 hE2 hP2 (fun r hr => ⟨fun z => (hr2 r hr).1 (fun y => z ⟨by omega, y.2⟩), fun z1 z2 z3 => ?_⟩)
        by_cases e : r = k
        · rw [e] at z2 z3; exact absurd z3 (fun _ => (by have y1 : t / 2 ^ k % 2 = 1 := z2; omega))
        · exact (hr2 r hr).2 (by omega) z2 z3
      · refine x_aload_n 58 0 (ab_dd tk_tr_afterRings 32 rfl) rfl rfl rfl ?_
        refine x_iload 60 4 (ab_dd tk_tr_afterRings 33 rfl) rfl rfl ?_
        refine t_callV 63 M_tr_isOnRing 0 1 [_] (ab_dd tk_tr_afterRings 34 rfl) rfl (by first | decide | omega) K_tr_isOnRing V_tr_isOnRing.1 V_tr_isOnRing.2 L_tr_41 rfl (Nat.le_of_ble_eq_true rfl) (by have := hT2.1; omega) (Nat.lt_of_le_of_lt (Nat.le_add_right q 3) hT2.2.1) hT2.2.2.1 rfl (c_tr_isOnRing hT2 hca2 ha (f := aPt a t) hP2 hpl k hkR) (fun v1 w1 h1 => ?_)
        obtain ⟨rfl, rfl⟩ := h1
        refine xb_if_eq 66 97 (ab_dd tk_tr_afterRings 35 rfl) rfl (by decide) (fun h63 => ?_) (fun h63 => ?_)
        · refine xn_iinc 100 4 (fun y => [some (.ref q), some (.int (nI t)), some (.int (nI s)), some (.int (nI (t - gN t (fun r => aRg a t r) k))), some (.int y)]) (k + 1) (ab_dd tk_tr_afterRings 57 rfl) rfl (by decide) rfl (fun _ => rfl) (iinc_p 1) ?_
          refine x_goto 36 (ab_dd tk_tr_afterRings 58 rfl) (by decide) ?_
          rw [show gN t (fun r => aRg a t r) (k + 1) = gN t (fun r => aRg a t r) k from if_neg (fun z => h63 z.2)] at hI2
          refine hI2 S2 hE2 hP2 (fun r hr => ⟨fun z => (hr2 r hr).1 (fun y => z ⟨by omega, y.2⟩), fun z1 z2 z3 => ?_⟩)
          by_cases e : r = k
          · rw [e] at z2 z3; exact absurd z3 (fun _ => (h63 z3))
          · exact (hr2 r hr).2 (by omega) z2 z3
        · refine x_aload_n 67 0 (ab_dd tk_tr_afterRings 36 rfl) rfl rfl rfl ?_
          refine t_getP 70 (q + 2) (ab_dd tk_tr_afterRings 37 rfl) rfl F_tr_15 (by have := hT2.1; omega) (Nat.lt_of_le_of_lt (Nat.le_add_right q 3) hT2.2.1) hT2.2.2.1 rfl hT2.2.2.2.2.2.2.2.2.1 ?_
          refine x_iload 72 4 (ab_dd tk_tr_afterRings 38 rfl) rfl rfl ?_
          refine x_aload_n 73 0 (ab_dd tk_tr_afterRings 39 rfl) rfl rfl rfl ?_
          refine t_getP 76 (q + 1) (ab_dd tk_tr_afterRings 40 rfl) rfl F_tr_9 (by have := hT2.1; omega) (Nat.lt_of_le_of_lt (Nat.le_add_right q 3) hT2.2.1) hT2.2.2.1 rfl hT2.2.2.2.2.2.2.2.1 ?_
          refine x_iload 78 4 (ab_dd tk_tr_afterRings 41 rfl) rfl rfl ?_
          refine t_iald 79 k (ab_dd tk_tr_afterRings 42 rfl) rfl (by have := hT2.1; omega) (Nat.lt_of_le_of_lt (Nat.add_le_add_left (by decide) q) hT2.2.1) hT2.2.2.2.1 rfl (by omega) (by decide) (x_topn (aPt a t k) (hP2 k hkR) ?_)
          refine t_iast 80 k (ab_dd tk_tr_afterRings 43 rfl) rfl (by have := hT2.1; omega) (Nat.lt_of_le_of_lt (Nat.add_le_add_left (by decide) q) hT2.2.1) hT2.2.2.2.2.1 rfl (by omega) (by decide) ?_
          refine x_aload_n 81 0 (ab_dd tk_tr_afterRings 44 rfl) rfl rfl rfl ?_
          refine t_getP 84 (q + 3) (ab_dd tk_tr_afterRings 45 rfl) rfl F_tr_18 (by have := hT2.1; omega) (Nat.lt_of_le_of_lt (Nat.le_add_right q 3) hT2.2.1) hT2.2.2.1 rfl hT2.2.2.2.2.2.2.2.2.2.1 ?_
          refine x_iload 86 4 (ab_dd tk_tr_afterRings 46 rfl) rfl rfl ?_
          refine x_iload_n 87 2 (ab_dd tk_tr_afterRings 47 rfl) rfl rfl rfl ?_
          refine t_iast 88 k (ab_dd tk_tr_afterRings 48 rfl) rfl (by have := hT2.1; omega) (Nat.lt_of_le_of_lt (Nat.add_le_add_left (by decide) q) hT2.2.1) hT2.2.2.2.2.2.1 rfl (by omega) (by decide) ?_
          refine x_iload_n 89 3 (ab_dd tk_tr_afterRings 49 rfl) rfl rfl rfl ?_
          refine x_iconst 90 1 (ab_dd tk_tr_afterRings 50 rfl) rfl (by decide) (x_topn 1 rfl ?_)
          refine x_iload 92 4 (ab_dd tk_tr_afterRings 51 rfl) rfl rfl ?_
          refine x_ishl 93 (ab_dd tk_tr_afterRings 52 rfl) rfl ?_
          refine x_iconst 94 (-1) (ab_dd tk_tr_afterRings 53 rfl) rfl (by decide) ?_
          refine x_ixor 95 (ab_dd tk_tr_afterRings 54 rfl) rfl ?_
          refine x_iand 96 (ab_dd tk_tr_afterRings 55 rfl) rfl (x_topn (t - gN t (fun r => aRg a t r) k - 2 ^ k) ((bit_N u2 (by omega)).2 ((u4 k (by omega)).mpr ⟨by show t / 2 ^ k % 2 = 1; omega, fun y => absurd ((g2 k (by omega)).mp y).1 (by omega)⟩)) ?_)
          refine x_istore_n 97 [some (.ref q), some (.int (nI t)), some (.int (nI s)), some (.int (nI (t - gN t (fun r => aRg a t r) k - 2 ^ k))), some (.int (nI k))] 3 (ab_dd tk_tr_afterRings 56 rfl) rfl rfl (by decide) rfl ?_
          refine xn_iinc 100 4 (fun y => [some (.ref q), some (.int (nI t)), some (.int (nI s)), some (.int (nI (t - gN t (fun r => aRg a t r) k - 2 ^ k))), some (.int y)]) (k + 1) (ab_dd tk_tr_afterRings 57 rfl) rfl (by decide) rfl (fun _ => rfl) (iinc_p 1) ?_
          refine x_goto 36 (ab_dd tk_tr_afterRings 58 rfl) (by decide) ?_
          have hbk : bt t k := by show t / 2 ^ k % 2 = 1; omega
          rw [show gN t (fun r => aRg a t r) (k + 1) = gN t (fun r => aRg a t r) k + 2 ^ k from if_pos ⟨hbk, h63⟩] at hI2
          have e0 : t - gN t (fun r => aRg a t r) k - 2 ^ k = t - (gN t (fun r => aRg a t r) k + 2 ^ k) := by omega
          rw [e0]
          refine hI2 _ ((hE2.pI (by simp)).pI (by simp)) (fun i hi => by rw [gI_o (by omega), gI_o (by omega)]; exact hP2 i hi) (fun r hr => ?_)
          by_cases e : r = k
          · rw [e, gI_s, gI_o (by omega), gI_s]
            exact ⟨fun z => absurd ⟨by omega, hbk, h63⟩ z, fun _ _ _ => ⟨rfl, rfl⟩⟩
          · simp only [gI_k e]
            exact ⟨fun z => (hr2 r hr).1 (fun y => z ⟨by omega, y.2⟩), fun z1 => (hr2 r hr).2 (by omega)⟩
  have points : ∀ (m k : Nat), k + m = aR a → ∀ (S2 : ab_S) (y4 : Option Value), sEq [q + 1] S S2 → (∀ i, i < k → sI S2 (q + 1) i = nI (aPt a t i)) → ab_Ex G 3 M_tr_afterRings 2 [some (.ref q), some (.int (nI t)), some (.int (nI s)), some (.int (nI k)), y4] [] (sw S2) (fun v w' => v = some (.int (nI (t - gN t (fun r => aRg a t r) (aR a)))) ∧ ∃ S', w' = sw S' ∧ sEq [q + 1, q + 2, q + 3] S S' ∧ ∀ r, r < aR a → (¬ (bt t r ∧ aRg a t r = true) → sI S' (q + 2) r = sI S (q + 2) r ∧ sI S' (q + 3) r = sI S (q + 3) r) ∧ (bt t r → aRg a t r = true → sI S' (q + 2) r = nI (aPt a t r) ∧ sI S' (q + 3) r = nI s)) := by
    intro m
    induction m with
    | zero =>
      intro k hk S2 y4 hE2 hP2
      have hkR : k = aR a := by omega
      subst hkR
      refine x_forget 4 ?_
      have hT2 : trK S2 q c a := hT.eq hE2 (by simp)
      have hca2 : caI S2 im c a := hca.eq hE2 (fun y hy => hqi y (by simp only [List.mem_cons, List.not_mem_nil, or_false] at hy; omega) (by simp only [List.mem_cons, List.not_mem_nil, or_false] at hy; omega))
      refine x_iload_n 3 3 (ab_dd tk_tr_afterRings 2 rfl) rfl rfl rfl ?_
      refine x_aload_n 4 0 (ab_dd tk_tr_afterRings 3 rfl) rfl rfl rfl ?_
      refine t_getP 7 c (ab_dd tk_tr_afterRings 4 rfl) rfl F_tr_21 (by have := hT2.1; omega) (Nat.lt_of_le_of_lt (Nat.le_add_right q 3) hT2.2.1) hT2.2.2.1 rfl hT2.2.2.2.2.2.2.1 ?_
      refine t_getI 10 (ab_dd tk_tr_afterRings 5 rfl) rfl F_tr_29 hca2.1.1 (Nat.lt_of_le_of_lt (Nat.le_add_right c 2) hca2.1.2.1) hca2.1.2.2.1 rfl (x_topn (aR a) hca2.2.1 ?_)
      refine x_icmp_ge_t 31 (ab_dd tk_tr_afterRings 6 rfl) (by decide) ((nI_leI (a := (aR a)) (b := (aR a)) (by omega) (by omega)).mpr (show (aR a) ≤ (aR a) by omega)) ?_
      refine x_iload_n 32 1 (ab_dd tk_tr_afterRings 17 rfl) rfl rfl rfl ?_
      refine x_istore_n 33 [some (.ref q), some (.int (nI t)), some (.int (nI s)), some (.int (nI t)), none] 3 (ab_dd tk_tr_afterRings 18 rfl) rfl rfl (by decide) rfl ?_
      refine x_iconst 34 0 (ab_dd tk_tr_afterRings 19 rfl) rfl (by decide) (x_topn 0 rfl ?_)
      refine x_istore 36 [some (.ref q), some (.int (nI t)), some (.int (nI s)), some (.int (nI t)), some (.int (nI 0))] 4 (ab_dd tk_tr_afterRings 20 rfl) rfl (by decide) rfl ?_
      exact rings (aR a) 0 (by omega) S2 (hE2.mono (by simp)) hP2 (fun r hr => ⟨fun _ => ⟨by rw [hE2.2.2.1 (q + 2) (by simp)], by rw [hE2.2.2.1 (q + 3) (by simp)]⟩, fun z => absurd z (Nat.not_lt_zero r)⟩)
    | succ m ih =>
      intro k hk S2 y4 hE2 hP2
      refine x_forget 4 ?_
      have hT2 : trK S2 q c a := hT.eq hE2 (by simp)
      have hca2 : caI S2 im c a := hca.eq hE2 (fun y hy => hqi y (by simp only [List.mem_cons, List.not_mem_nil, or_false] at hy; omega) (by simp only [List.mem_cons, List.not_mem_nil, or_false] at hy; omega))
      have hkR : k < aR a := by omega
      refine x_iload_n 3 3 (ab_dd tk_tr_afterRings 2 rfl) rfl rfl rfl ?_
      refine x_aload_n 4 0 (ab_dd tk_tr_afterRings 3 rfl) rfl rfl rfl ?_
      refine t_getP 7 c (ab_dd tk_tr_afterRings 4 rfl) rfl F_tr_21 (by have := hT2.1; omega) (Nat.lt_of_le_of_lt (Nat.le_add_right q 3) hT2.2.1) hT2.2.2.1 rfl hT2.2.2.2.2.2.2.1 ?_
      refine t_getI 10 (ab_dd tk_tr_afterRings 5 rfl) rfl F_tr_29 hca2.1.1 (Nat.lt_of_le_of_lt (Nat.le_add_right c 2) hca2.1.2.1) hca2.1.2.2.1 rfl (x_topn (aR a) hca2.2.1 ?_)
      refine x_icmp_ge_f 13 (ab_dd tk_tr_afterRings 6 rfl) rfl 31 (by decide) (fun z => absurd ((nI_leI (a := (aR a)) (b := k) (by omega) (by omega)).mp z) (show ¬ ((aR a) ≤ k) by omega)) ?_
      refine x_aload_n 14 0 (ab_dd tk_tr_afterRings 7 rfl) rfl rfl rfl ?_
      refine t_getP 17 (q + 1) (ab_dd tk_tr_afterRings 8 rfl) rfl F_tr_9 (by have := hT2.1; omega) (Nat.lt_of_le_of_lt (Nat.le_add_right q 3) hT2.2.1) hT2.2.2.1 rfl hT2.2.2.2.2.2.2.2.1 ?_
      refine x_iload_n 18 3 (ab_dd tk_tr_afterRings 9 rfl) rfl rfl rfl ?_
      refine x_aload_n 19 0 (ab_dd tk_tr_afterRings 10 rfl) rfl rfl rfl ?_
      refine x_iload_n 20 3 (ab_dd tk_tr_afterRings 11 rfl) rfl rfl rfl ?_
      refine x_iload_n 21 1 (ab_dd tk_tr_afterRings 12 rfl) rfl rfl rfl ?_
      refine t_callV 24 M_tr_favourite 2 2 [_, _] (ab_dd tk_tr_afterRings 13 rfl) rfl (by first | decide | omega) K_tr_favourite V_tr_favourite.1 V_tr_favourite.2 L_tr_38 rfl (Nat.le_of_ble_eq_true rfl) (by have := hT2.1; omega) (Nat.lt_of_le_of_lt (Nat.le_add_right q 3) hT2.2.1) hT2.2.2.1 rfl (c_tr_favourite hT2 hca2 ha k t hkR ht) (fun v1 w1 h1 => ?_)
      obtain ⟨rfl, rfl⟩ := h1
      refine t_iast 25 k (ab_dd tk_tr_afterRings 14 rfl) rfl (by have := hT2.1; omega) (Nat.lt_of_le_of_lt (Nat.add_le_add_left (by decide) q) hT2.2.1) hT2.2.2.2.1 rfl (by omega) (by decide) ?_
      refine xn_iinc 28 3 (fun y => [some (.ref q), some (.int (nI t)), some (.int (nI s)), some (.int y), none]) (k + 1) (ab_dd tk_tr_afterRings 15 rfl) rfl (by decide) rfl (fun _ => rfl) (iinc_p 1) ?_
      refine x_goto 2 (ab_dd tk_tr_afterRings 16 rfl) (by decide) ?_
      exact ih (k + 1) (by omega) _ _ (hE2.pI (by simp)) (fun i hi => by
        by_cases e : i = k
        · rw [e, gI_s]
        · rw [gI_k e]; exact hP2 i (by omega))
  refine x_iconst 1 0 (ab_dd tk_tr_afterRings 0 rfl) rfl (by decide) (x_topn 0 rfl ?_)
  refine x_istore_n 2 [some (.ref q), some (.int (nI t)), some (.int (nI s)), some (.int (nI 0)), none] 3 (ab_dd tk_tr_afterRings 1 rfl) rfl rfl (by decide) rfl ?_
  exact points (aR a) 0 (by omega) S _ sEq.rf (fun i hi => absurd hi (Nat.not_lt_zero i))
def tb_tr_init : List (Nat × Instr × Nat) := [(0, .aload_n 0, 1), (1, .invokespecial 3, 3), (4, .aload_n 0, 1), (5, .iconst 4, 1), (6, .newarray .int, 2), (8, .putfield 9, 3), (11, .aload_n 0, 1), (12, .iconst 4, 1), (13, .newarray .int, 2), (15, .putfield 15, 3), (18, .aload_n 0, 1), (19, .iconst 4, 1), (20, .newarray .int, 2), (22, .putfield 18, 3), (25, .aload_n 0, 1), (26, .aload_n 1, 1), (27, .putfield 21, 3), (30, .aload_n 0, 1), (31, .iload_n 2, 1), (32, .putfield 25, 3), (35, .iconst 1, 1), (36, .aload_n 1, 1), (37, .getfield 29, 3), (40, .ishl, 1), (41, .iconst 1, 1), (42, .isub, 1), (43, .istore_n 3, 1), (44, .iconst 0, 1), (45, .istore 4, 2), (47, .iload 4, 2), (49, .aload_n 1, 1), (50, .getfield 29, 3), (53, .if_icmp .ge 21, 3), (56, .iload_n 3, 1), (57, .ifCond .eq 17, 3), (60, .aload_n 0, 1), (61, .iload_n 3, 1), (62, .iload 4, 2), (64, .invokevirtual 34, 3), (67, .istore_n 3, 1), (68, .iinc 4 1, 3), (71, .goto (-24), 3), (74, .return_, 1)]
theorem tk_tr_init : ∀ q ∈ tb_tr_init, decode M_tr_init.2.1 q.1 = .ok q.2 := by decide +kernel
theorem c_tr_init {G : ab_G} {S : ab_S} {im : Nat → Prop} {q c : Nat} {a : Nat → Int32} (hq : 145 ≤ q) (hqn : sn S = q + 1) (hqK : sK S q = .inr 9) (hca : caI S im c a) (ha : aOk a) (hcq : c + 2 < q) (him : ∀ y, q ≤ y → ¬ im y) (hilt : ∀ y, im y → y < q) : ab_C G 4 M_tr_init [.ref q, .ref c, .int (nI (seaC a))] (sw S) (fun v w' => v = none ∧ ∃ S', w' = sw S' ∧ nwE q S S' 3 (0 + 4 + 4 + 4) ∧ trK S' q c a ∧ ∀ r, r < aR a → sI S' (q + 2) r = nI (aTd a r).1 ∧ sI S' (q + 3) r = nI (aTd a r).2) := by
  refine x_enter [some (.ref q), some (.ref c), some (.int (nI (seaC a))), none, none] (by decide) (Nat.le_of_ble_eq_true rfl) rfl (fun v w' h => by obtain ⟨rfl, -⟩ := h; trivial) ?_
  have hR4 := ha.R.2
  obtain ⟨f1, f2, f3, f4⟩ := full_N (aR a) (by omega)
  have hn0 : q < sn S := by omega
  have nw_mono : ∀ {S0 S1 S2 : ab_S} {m z : Nat}, nwE q S0 S1 m z → sEq [q + 1, q + 2, q + 3] S1 S2 → sn S0 = q + 1 → nwE q S0 S2 m z := fun {S0 S1 S2 m z} h g e => by
    refine ⟨g.1.trans h.1, g.2.2.2.2.2.1.trans h.2.1, g.2.2.2.2.2.2.trans h.2.2.1, fun b hb => by rw [g.2.1]; exact h.2.2.2.1 b hb, fun b hb hne => ?_⟩
    have hb2 : b ∉ [q + 1, q + 2, q + 3] := (by simp only [List.mem_cons, List.not_mem_nil, or_false, not_or]; omega)
    rw [g.2.2.1 b hb2, g.2.2.2.1 b hb2, g.2.2.2.2.1]
    exact h.2.2.2.2 b hb hne
  have loop : ∀ (m s t : Nat), s + m = aR a → t < 16 → pc4 t ≤ m → (∀ r, r < 4 → bt t r → r < aR a) → ∀ S1 : ab_S, nwE q S S1 3 (0 + 4 + 4 + 4) → trK S1 q c a → caI S1 im c a → (∀ r, r < aR a → (bt t r → aTd a r = trD (aPt a) (aR a) (4 - s) t s r) ∧ (¬ bt t r → sI S1 (q + 2) r = nI (aTd a r).1 ∧ sI S1 (q + 3) r = nI (aTd a r).2)) → ab_Ex G 4 M_tr_init 47 [some (.ref q), some (.ref c), some (.int (nI (seaC a))), some (.int (nI t)), some (.int (nI s))] [] (sw S1) (fun v w' => v = none ∧ ∃ S', w' = sw S' ∧ nwE q S S' 3 (0 + 4 + 4 + 4) ∧ trK S' q c a ∧ ∀ r, r < aR a → sI S' (q + 2) r = nI (aTd a r).1 ∧ sI S' (q + 3) r = nI (aTd a r).2) := by
    intro m
    induction m with
    | zero =>
      intro s t hs ht hpc hbt S1 hE1 hT1 hca1 hI
      have ht0 : t = 0 := (show ∀ t, t < 16 → pc4 t ≤ 0 → t = 0 by decide +kernel) t ht hpc
      subst ht0
      refine x_iload 49 4 (ab_dd tk_tr_init 29 rfl) rfl rfl ?_
      refine x_aload_n 50 1 (ab_dd tk_tr_init 30 rfl) rfl rfl rfl ?_
      refine t_getI 53 (ab_dd tk_tr_init 31 rfl) rfl F_tr_29 hca1.1.1 (Nat.lt_of_le_of_lt (Nat.le_add_right c 2) hca1.1.2.1) hca1.1.2.2.1 rfl (x_topn (aR a) hca1.2.1 ?_)
      refine x_icmp_ge_t 74 (ab_dd tk_tr_init 32 rfl) (by decide) ((nI_leI (a := (aR a)) (b := s) (by omega) (by omega)).mpr (show (aR a) ≤ s by omega)) ?_
      exact x_vret (ab_dd tk_tr_init 42 rfl) ⟨rfl, S1, rfl, hE1, hT1, fun r hr => (hI r hr).2 (fun z => by have z2 : 0 / 2 ^ r % 2 = 1 := z; rw [Nat.zero_div] at z2; cases z2)⟩
    | succ m ih =>
      intro s t hs ht hpc hbt S1 hE1 hT1 hca1 hI
      by_cases ht0 : t = 0
      · subst ht0
        refine x_iload 49 4 (ab_dd tk_tr_init 29 rfl) rfl rfl ?_
        refine x_aload_n 50 1 (ab_dd tk_tr_init 30 rfl) rfl rfl rfl ?_
        refine t_getI 53 (ab_dd tk_tr_init 31 rfl) rfl F_tr_29 hca1.1.1 (Nat.lt_of_le_of_lt (Nat.le_add_right c 2) hca1.1.2.1) hca1.1.2.2.1 rfl (x_topn (aR a) hca1.2.1 ?_)
        refine x_icmp_ge_f 56 (ab_dd tk_tr_init 32 rfl) rfl 74 (by decide) (fun z => absurd ((nI_leI (a := (aR a)) (b := s) (by omega) (by omega)).mp z) (show ¬ ((aR a) ≤ s) by omega)) ?_
        refine x_iload_n 57 3 (ab_dd tk_tr_init 33 rfl) rfl rfl rfl ?_
        refine x_if_eq_t 74 (ab_dd tk_tr_init 34 rfl) (by decide) ((nI_eq (a := 0) (b := 0) (by omega) (by omega)).mpr (show 0 = 0 by rfl)) ?_
        exact x_vret (ab_dd tk_tr_init 42 rfl) ⟨rfl, S1, rfl, hE1, hT1, fun r hr => (hI r hr).2 (fun z => by have z2 : 0 / 2 ^ r % 2 = 1 := z; rw [Nat.zero_div] at z2; cases z2)⟩
      · have hcl : ∀ i, i < 4 → bt t i → aPt a t i < 4 ∧ bt t (aPt a t i) := fun i hi hb => ⟨Nat.lt_of_lt_of_le (pt_lt (a := a) (t := t) (hbt i hi hb) (aR a) (Nat.le_refl _)) hR4, pt_ok hb _⟩
        obtain ⟨g1, g3, g2⟩ := gN_ok (t := t) (q := (fun r => aRg a t r)) (aR a) hR4
        obtain ⟨u1, u2, u3, u4⟩ := su_ok ht g1 (fun r hr hb => ((g2 r hr).mp hb).2.1)
        obtain ⟨r0, hr0, hb0, hg0⟩ := rg_ex (f := fun i => if bt t i then aPt a t i else 0) ht ht0 (fun i hi => by
          show (if bt t i then aPt a t i else 0) < 4
          by_cases z : bt t i
          · rw [if_pos z]; exact (hcl i hi z).1
          · rw [if_neg z]; decide) (fun i hi hb => by show bt t (if bt t i then aPt a t i else 0); rw [if_pos hb]; exact (hcl i hi hb).2)
        have hrgc : ∀ n u, u < 4 → bt t u → rg (fun i => if bt t i then aPt a t i else 0) r0 n u = rg (aPt a t) r0 n u := by
          intro n
          induction n with
          | zero => intro u _ _; rfl
          | succ n ihn =>
            intro u hu hbu
            show (if u = r0 then true else rg _ r0 n (if bt t u then aPt a t u else 0)) = (if u = r0 then true else rg _ r0 n (aPt a t u))
            rw [if_pos hbu, ihn _ (hcl u hu hbu).1 (hcl u hu hbu).2]
        have hg0' : aRg a t r0 = true := by
          rw [if_pos hb0, hrgc 4 _ (hcl r0 hr0 hb0).1 (hcl r0 hr0 hb0).2] at hg0
          exact hg0
        have hgn : gN t (fun r => aRg a t r) (aR a) ≠ 0 := fun e => by
          have := (g2 r0 hr0).mpr ⟨hbt r0 hr0 hb0, hb0, hg0'⟩
          rw [e] at this
          have z2 : 0 / 2 ^ r0 % 2 = 1 := this
          rw [Nat.zero_div] at z2; cases z2
        have hpc2 := u3 hgn
        obtain ⟨w4, hw4⟩ : ∃ w4, 4 - s = w4 + 1 := ⟨3 - s, by omega⟩
        refine x_iload 49 4 (ab_dd tk_tr_init 29 rfl) rfl rfl ?_
        refine x_aload_n 50 1 (ab_dd tk_tr_init 30 rfl) rfl rfl rfl ?_
        refine t_getI 53 (ab_dd tk_tr_init 31 rfl) rfl F_tr_29 hca1.1.1 (Nat.lt_of_le_of_lt (Nat.le_add_right c 2) hca1.1.2.1) hca1.1.2.2.1 rfl (x_topn (aR a) hca1.2.1 ?_)
        refine x_icmp_ge_f 56 (ab_dd tk_tr_init 32 rfl) rfl 74 (by decide) (fun z => absurd ((nI_leI (a := (aR a)) (b := s) (by omega) (by omega)).mp z) (show ¬ ((aR a) ≤ s) by omega)) ?_
        refine x_iload_n 57 3 (ab_dd tk_tr_init 33 rfl) rfl rfl rfl ?_
        refine x_if_eq_f 60 (ab_dd tk_tr_init 34 rfl) rfl 74 (by decide) (fun z => absurd ((nI_eq (a := t) (b := 0) (by omega) (by omega)).mp z) (show ¬ (t = 0) by omega)) ?_
        refine x_aload_n 61 0 (ab_dd tk_tr_init 35 rfl) rfl rfl rfl ?_
        refine x_iload_n 62 3 (ab_dd tk_tr_init 36 rfl) rfl rfl rfl ?_
        refine x_iload 64 4 (ab_dd tk_tr_init 37 rfl) rfl rfl ?_
        refine t_callV 67 M_tr_afterRings 3 2 [_, _] (ab_dd tk_tr_init 38 rfl) rfl (by first | decide | omega) K_tr_afterRings V_tr_afterRings.1 V_tr_afterRings.2 L_tr_34 rfl (Nat.le_of_ble_eq_true rfl) (by have := hT1.1; omega) (Nat.lt_of_le_of_lt (Nat.le_add_right q 3) hT1.2.1) hT1.2.2.1 rfl (c_tr_afterRings hT1 hca1 ha (fun y h1 _ => him y h1) t s ht) (fun v1 w1 h1 => ?_)
        obtain ⟨rfl, S2, rfl, hE2, hr2⟩ := h1
        have hT2 : trK S2 q c a := hT1.eq hE2 (by simp)
        refine x_istore_n 68 [some (.ref q), some (.ref c), some (.int (nI (seaC a))), some (.int (nI (t - gN t (fun r => aRg a t r) (aR a)))), some (.int (nI s))] 3 (ab_dd tk_tr_init 39 rfl) rfl rfl (by decide) rfl ?_
        refine xn_iinc 71 4 (fun y => [some (.ref q), some (.ref c), some (.int (nI (seaC a))), some (.int (nI (t - gN t (fun r => aRg a t r) (aR a)))), some (.int y)]) (s + 1) (ab_dd tk_tr_init 40 rfl) rfl (by decide) rfl (fun _ => rfl) (iinc_p 1) ?_
        refine x_goto 47 (ab_dd tk_tr_init 41 rfl) (by decide) ?_
        refine ih (s + 1) (t - gN t (fun r => aRg a t r) (aR a)) (by omega) u2 (by omega) (fun r hr hb => hbt r hr ((u4 r hr).mp hb).1) S2 (nw_mono hE1 hE2 hqn) (hT1.eq hE2 (by simp)) (hca1.eq hE2 (fun y hy => him y (by simp only [List.mem_cons, List.not_mem_nil, or_false] at hy; omega))) (fun r hr => ?_)
        have hr4 : r < 4 := by omega
        refine ⟨fun hb => ?_, fun hb => ?_⟩
        · obtain ⟨b1, b2⟩ := (u4 r hr4).mp hb
          rw [(hI r hr).1 b1, hw4, show 4 - (s + 1) = w4 by omega]
          exact if_neg (fun z => b2 ((g2 r hr4).mpr ⟨hr, b1, z⟩))
        · by_cases b1 : bt t r
          · have b2 : bt (gN t (fun r => aRg a t r) (aR a)) r := Classical.byContradiction (fun z => hb ((u4 r hr4).mpr ⟨b1, z⟩))
            have hz := ((g2 r hr4).mp b2).2.2
            obtain ⟨c1, c2⟩ := (hr2 r hr).2 b1 hz
            have hD : aTd a r = (aPt a t r, s) := by
              rw [(hI r hr).1 b1, hw4]
              exact if_pos hz
            rw [hD]; exact ⟨c1, c2⟩
          · obtain ⟨c1, c2⟩ := (hr2 r hr).1 (fun z => b1 z.1)
            rw [c1, c2]; exact (hI r hr).2 b1
  refine x_aload_n 1 0 (ab_dd tk_tr_init 0 rfl) rfl rfl rfl ?_
  refine x_objInit 4 (ab_dd tk_tr_init 1 rfl) rfl (by omega) L_tr_3 O_inst O_code (Nat.le_of_ble_eq_true rfl) ?_
  have h50s : 50 ≤ sn S := by omega
  refine x_aload_n 5 0 (ab_dd tk_tr_init 2 rfl) rfl rfl rfl ?_
  refine x_iconst 6 4 (ab_dd tk_tr_init 3 rfl) rfl (by decide) (x_topn 4 rfl ?_)
  refine t_newI 8 4 (ab_dd tk_tr_init 4 rfl) rfl (show 50 ≤ sn S + 0 by omega) A_int rfl (by decide) ?_
  refine t_putPF 11 (ab_dd tk_tr_init 5 rfl) rfl F_tr_9 rfl (no_nest (by decide +kernel)) (by omega) (Nat.lt_succ_of_lt hn0) ((up1_o (Nat.ne_of_lt hn0)).trans hqK) rfl ?_
  refine x_aload_n 12 0 (ab_dd tk_tr_init 6 rfl) rfl rfl rfl ?_
  refine x_iconst 13 4 (ab_dd tk_tr_init 7 rfl) rfl (by decide) (x_topn 4 rfl ?_)
  refine t_newI 15 4 (ab_dd tk_tr_init 8 rfl) rfl (show 50 ≤ sn S + 1 by omega) A_int rfl (by decide) ?_
  refine t_putPF 18 (ab_dd tk_tr_init 9 rfl) rfl F_tr_15 rfl (no_nest (by decide +kernel)) (by omega) (Nat.lt_succ_of_lt (Nat.lt_succ_of_lt hn0)) ((up1_o (Nat.ne_of_lt (Nat.lt_succ_of_lt hn0))).trans ((up1_o (Nat.ne_of_lt hn0)).trans hqK)) rfl ?_
  refine x_aload_n 19 0 (ab_dd tk_tr_init 10 rfl) rfl rfl rfl ?_
  refine x_iconst 20 4 (ab_dd tk_tr_init 11 rfl) rfl (by decide) (x_topn 4 rfl ?_)
  refine t_newI 22 4 (ab_dd tk_tr_init 12 rfl) rfl (show 50 ≤ sn S + 2 by omega) A_int rfl (by decide) ?_
  refine t_putPF 25 (ab_dd tk_tr_init 13 rfl) rfl F_tr_18 rfl (no_nest (by decide +kernel)) (by omega) (Nat.lt_succ_of_lt (Nat.lt_succ_of_lt (Nat.lt_succ_of_lt hn0))) ((up1_o (Nat.ne_of_lt (Nat.lt_succ_of_lt (Nat.lt_succ_of_lt hn0)))).trans ((up1_o (Nat.ne_of_lt (Nat.lt_succ_of_lt hn0))).trans ((up1_o (Nat.ne_of_lt hn0)).trans hqK))) rfl ?_
  refine x_aload_n 26 0 (ab_dd tk_tr_init 14 rfl) rfl rfl rfl ?_
  refine x_aload_n 27 1 (ab_dd tk_tr_init 15 rfl) rfl rfl rfl ?_
  refine t_putPF 30 (ab_dd tk_tr_init 16 rfl) rfl F_tr_21 rfl (no_nest (by decide +kernel)) (by omega) (Nat.lt_succ_of_lt (Nat.lt_succ_of_lt (Nat.lt_succ_of_lt hn0))) ((up1_o (Nat.ne_of_lt (Nat.lt_succ_of_lt (Nat.lt_succ_of_lt hn0)))).trans ((up1_o (Nat.ne_of_lt (Nat.lt_succ_of_lt hn0))).trans ((up1_o (Nat.ne_of_lt hn0)).trans hqK))) rfl ?_
  refine x_aload_n 31 0 (ab_dd tk_tr_init 17 rfl) rfl rfl rfl ?_
  refine x_iload_n 32 2 (ab_dd tk_tr_init 18 rfl) rfl rfl rfl ?_
  refine t_putIF 35 (ab_dd tk_tr_init 19 rfl) rfl F_tr_25 rfl (no_nest (by decide +kernel)) (by omega) (Nat.lt_succ_of_lt (Nat.lt_succ_of_lt (Nat.lt_succ_of_lt hn0))) ((up1_o (Nat.ne_of_lt (Nat.lt_succ_of_lt (Nat.lt_succ_of_lt hn0)))).trans ((up1_o (Nat.ne_of_lt (Nat.lt_succ_of_lt hn0))).trans ((up1_o (Nat.ne_of_lt hn0)).trans hqK))) rfl rfl rfl ?_
  refine x_iconst 36 1 (ab_dd tk_tr_init 20 rfl) rfl (by decide) (x_topn 1 rfl ?_)
  refine x_aload_n 37 1 (ab_dd tk_tr_init 21 rfl) rfl rfl rfl ?_
  refine t_getI 40 (ab_dd tk_tr_init 22 rfl) rfl F_tr_29 hca.1.1 (Nat.lt_succ_of_lt (Nat.lt_succ_of_lt (Nat.lt_succ_of_lt (Nat.lt_of_le_of_lt (Nat.le_add_right c 2) hca.1.2.1)))) ((up1_o (Nat.ne_of_lt (Nat.lt_succ_of_lt (Nat.lt_succ_of_lt (Nat.lt_of_le_of_lt (Nat.le_add_right c 2) hca.1.2.1))))).trans ((up1_o (Nat.ne_of_lt (Nat.lt_succ_of_lt (Nat.lt_of_le_of_lt (Nat.le_add_right c 2) hca.1.2.1)))).trans ((up1_o (Nat.ne_of_lt (Nat.lt_of_le_of_lt (Nat.le_add_right c 2) hca.1.2.1))).trans hca.1.2.2.1))) rfl (x_topn (aR a) ((gI_a (by omega)).trans ((congrFun (up1_o (Nat.ne_of_lt (Nat.lt_succ_of_lt (Nat.lt_succ_of_lt (Nat.lt_of_le_of_lt (Nat.le_add_right c 2) hca.1.2.1))))) _).trans ((congrFun (up1_o (Nat.ne_of_lt (Nat.lt_succ_of_lt (Nat.lt_of_le_of_lt (Nat.le_add_right c 2) hca.1.2.1)))) _).trans ((congrFun (up1_o (Nat.ne_of_lt (Nat.lt_of_le_of_lt (Nat.le_add_right c 2) hca.1.2.1))) _).trans hca.2.1)))) ?_)
  refine x_ishl 41 (ab_dd tk_tr_init 23 rfl) rfl (x_topx (nI 1 <<< (nI (aR a) &&& 31)) rfl ?_)
  refine x_iconst 42 1 (ab_dd tk_tr_init 24 rfl) rfl (by decide) (x_topn 1 rfl ?_)
  refine x_isub 43 (ab_dd tk_tr_init 25 rfl) rfl (x_topn (2 ^ aR a - 1) f1 ?_)
  refine x_istore_n 44 [some (.ref q), some (.ref c), some (.int (nI (seaC a))), some (.int (nI (2 ^ aR a - 1))), none] 3 (ab_dd tk_tr_init 26 rfl) rfl rfl (by decide) rfl ?_
  refine x_iconst 45 0 (ab_dd tk_tr_init 27 rfl) rfl (by decide) (x_topn 0 rfl ?_)
  refine x_istore 47 [some (.ref q), some (.ref c), some (.int (nI (seaC a))), some (.int (nI (2 ^ aR a - 1))), some (.int (nI 0))] 4 (ab_dd tk_tr_init 28 rfl) rfl (by decide) rfl ?_
  refine loop (aR a) 0 (2 ^ aR a - 1) (by omega) f2 (by omega) (fun r hr hb => (f4 r hr).mp hb) _ ((((((((nwE.rf.pN).pP (by first | exact Or.inl rfl | exact Or.inr (Nat.le_add_right _ _))).pN).pP (by first | exact Or.inl rfl | exact Or.inr (Nat.le_add_right _ _))).pN).pP (by first | exact Or.inl rfl | exact Or.inr (Nat.le_add_right _ _))).pP (by first | exact Or.inl rfl | exact Or.inr (Nat.le_add_right _ _))).pI (by first | exact Or.inl rfl | exact Or.inr (Nat.le_add_right _ _))) ?_ ?_ (fun r hr => ⟨fun _ => rfl, fun z => absurd ((f4 r (by omega)).mpr hr) z⟩)
  · refine ⟨hq, (show q + 3 < sn S + 3 by omega), ((up1_o (Nat.ne_of_lt (Nat.lt_succ_of_lt (Nat.lt_succ_of_lt hn0)))).trans ((up1_o (Nat.ne_of_lt (Nat.lt_succ_of_lt hn0))).trans ((up1_o (Nat.ne_of_lt hn0)).trans hqK))), ?_, ?_, ?_, gP_s, ?_, ?_, ?_, gI_s⟩
    · rw [← hqn]; exact ((up1_o (Nat.ne_of_lt (Nat.lt_succ_of_lt (Nat.lt_succ_self _)))).trans ((up1_o (Nat.ne_of_lt (Nat.lt_succ_self _))).trans up1_s))
    · rw [show q + 2 = sn S + 1 by omega]; exact ((up1_o (Nat.ne_of_lt (Nat.lt_succ_self _))).trans up1_s)
    · rw [show q + 3 = sn S + 2 by omega]; exact up1_s
    · rw [← hqn]; exact ((gP_k (by decide)).trans ((gP_k (by decide)).trans ((congrFun (up1_o (Nat.ne_of_lt (Nat.lt_succ_of_lt (Nat.lt_succ_of_lt hn0)))) _).trans ((gP_k (by decide)).trans ((congrFun (up1_o (Nat.ne_of_lt (Nat.lt_succ_of_lt hn0))) _).trans gP_s)))))
    · rw [show q + 2 = sn S + 1 by omega]; exact ((gP_k (by decide)).trans ((gP_k (by decide)).trans ((congrFun (up1_o (Nat.ne_of_lt (Nat.lt_succ_of_lt (Nat.lt_succ_of_lt hn0)))) _).trans gP_s)))
    · rw [show q + 3 = sn S + 2 by omega]; exact ((gP_k (by decide)).trans gP_s)
  · exact hca.nw ((((((((nwE.rf.pN).pP (by first | exact Or.inl rfl | exact Or.inr (Nat.le_add_right _ _))).pN).pP (by first | exact Or.inl rfl | exact Or.inr (Nat.le_add_right _ _))).pN).pP (by first | exact Or.inl rfl | exact Or.inr (Nat.le_add_right _ _))).pP (by first | exact Or.inl rfl | exact Or.inr (Nat.le_add_right _ _))).pI (by first | exact Or.inl rfl | exact Or.inr (Nat.le_add_right _ _))) hilt
