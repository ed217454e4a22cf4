/-! ===== lots ===== -/
/-- as sEq, but the references cases and later may have changed -/
def dEq (l : List Nat) (S S' : ab_S) : Prop := S'.1 = S.1 ∧ sK S' = sK S ∧ (∀ b, b ∉ l → sI S' b = sI S b) ∧ (∀ b, b ∉ l → sJ S' b = sJ S b) ∧ (∀ b, b ≠ 104 → sP S' b = sP S b) ∧ (∀ k, k ≠ 4 → k ≠ 5 → sP S' 104 k = sP S 104 k) ∧ sn S' = sn S ∧ sz S' = sz S
theorem dEq.of {l : List Nat} {S S' : ab_S} (h : sEq l S S') : dEq l S S' := ⟨h.1, h.2.1, h.2.2.1, h.2.2.2.1, fun b _ => by rw [h.2.2.2.2.1], fun k _ _ => by rw [h.2.2.2.2.1], h.2.2.2.2.2⟩
theorem dEq.tr {l : List Nat} {S S1 S2 : ab_S} (h : dEq l S S1) (g : dEq l S1 S2) : dEq l S S2 := ⟨g.1.trans h.1, g.2.1.trans h.2.1, fun b hb => (g.2.2.1 b hb).trans (h.2.2.1 b hb), fun b hb => (g.2.2.2.1 b hb).trans (h.2.2.2.1 b hb), fun b hb => (g.2.2.2.2.1 b hb).trans (h.2.2.2.2.1 b hb), fun k h1 h2 => (g.2.2.2.2.2.1 k h1 h2).trans (h.2.2.2.2.2.1 k h1 h2), g.2.2.2.2.2.2.1.trans h.2.2.2.2.2.2.1, g.2.2.2.2.2.2.2.trans h.2.2.2.2.2.2.2⟩
theorem gP_s {S : ab_S} {a k : Nat} {x : Option Nat} : sP (pP S a k x) a k = x := up2_s
theorem gP_k {S : ab_S} {a k b j : Nat} {x : Option Nat} (h : j ≠ k) : sP (pP S a k x) b j = sP S b j := up2_k h
theorem gP_o {S : ab_S} {a k b : Nat} {x : Option Nat} (h : b ≠ a) : sP (pP S a k x) b = sP S b := up2_o h
theorem dEq.rP {l : List Nat} {S S1 : ab_S} {k : Nat} {v : Option Nat} (h : dEq l S S1) (hk : k = 4 ∨ k = 5) : dEq l S (pP S1 104 k v) := ⟨h.1, h.2.1, h.2.2.1, h.2.2.2.1, fun b hb => (gP_o hb).trans (h.2.2.2.2.1 b hb), fun j h1 h2 => (gP_k (by omega)).trans (h.2.2.2.2.2.1 j h1 h2), h.2.2.2.2.2.2⟩
theorem xPl_104 : ∀ t ∈ xPl, t.1 = 104 → t.2.1 ≠ 4 ∧ t.2.1 ≠ 5 := by decide
theorem xSh.d {l : List Nat} {S S1 : ab_S} (hx : xSh S) (h : dEq l S S1) : xSh S1 := ⟨by rw [h.2.2.2.2.2.2.1]; exact hx.1, fun k hk => by rw [h.2.1]; exact hx.2.1 k hk, fun t ht => by
  by_cases z : t.1 = 104
  · have := xPl_104 t ht z
    have e := hx.2.2 t ht
    rw [z] at e ⊢
    rw [h.2.2.2.2.2.1 _ this.1 this.2]
    exact e
  · rw [h.2.2.2.2.1 _ z]
    exact hx.2.2 t ht⟩
theorem seOk.d {l : List Nat} {S S1 : ab_S} (hs : seOk S) (hE : dEq l S S1) (h1 : 79 ∉ l) (h2 : 80 ∉ l) (h3 : 81 ∉ l) (h4 : 82 ∉ l) : seOk S1 := by
  unfold seOk
  rw [hE.2.2.1 79 h1, hE.2.2.1 80 h2, hE.2.2.1 81 h3, hE.2.2.1 82 h4]
  exact hs
theorem clI.rP {S : ab_S} {im : Nat → Prop} {x c bh nb st k : Nat} {a : Nat → Int32} {v : Option Nat} (him : imO im) (hX : x = 84 ∨ x = 94) (h : clI S im x c a bh nb st) : clI (pP S 104 k v) im x c a bh nb st := by
  obtain ⟨a1, a2, a3, a4, a5, a6, a7, a8, a9, a10, a11, a12, b1, b2, b3⟩ := h
  have hE : imE im S (pP S 104 k v) := ⟨Nat.le_refl _, fun b hb _ => ⟨rfl, rfl, gP_o (by have := him b hb; omega)⟩⟩
  exact ⟨a1.im hE (fun _ z => z), (congrFun (gP_o (by omega)) _).trans a2, a3, a4, a5, a6, (congrFun (gP_o (by omega)) _).trans a7, a8, a9, a10, a11, a12, b1, b2, b3⟩
theorem sumF_add (f g : Nat → Nat) : ∀ n, sumF (fun i => f i + g i) n = sumF f n + sumF g n
  | 0 => rfl
  | n + 1 => by
    show sumF (fun i => f i + g i) n + (f n + g n) = (sumF f n + f n) + (sumF g n + g n)
    rw [sumF_add f g n]
    omega
theorem sumF_mul (c : Nat) (f : Nat → Nat) : ∀ n, sumF (fun i => c * f i) n = c * sumF f n
  | 0 => rfl
  | n + 1 => by
    show sumF (fun i => c * f i) n + c * f n = c * (sumF f n + f n)
    rw [sumF_mul c f n, Nat.mul_add]
/-- one place alone -/
theorem sumF_at (j x : Nat) : ∀ n, sumF (fun i => if i = j then x else 0) n = if j < n then x else 0
  | 0 => (if_neg (Nat.not_lt_zero j)).symm
  | n + 1 => by
    show sumF (fun i => if i = j then x else 0) n + (if n = j then x else 0) = _
    rw [sumF_at j x n]
    by_cases z : n = j
    · rw [if_pos z, if_neg (by omega), if_pos (by omega)]; omega
    · rw [if_neg z]
      by_cases y : j < n
      · rw [if_pos y, if_pos (by omega)]; rfl
      · rw [if_neg y, if_neg (by omega)]
theorem sumF_le1 {f : Nat → Nat} {j : Nat} : ∀ n, j < n → f j ≤ sumF f n
  | 0, h => absurd h (Nat.not_lt_zero j)
  | n + 1, h => by
    show f j ≤ sumF f n + f n
    by_cases z : j = n
    · rw [z]; omega
    · have := sumF_le1 (f := f) n (show j < n by omega); omega
/-- how many of the first m lots lead to v -/
def cnt (g : Nat → Nat) (v : Nat) : Nat → Nat
  | 0 => 0
  | m + 1 => cnt g v m + (if g m = v then 1 else 0)
theorem cnt_le (g : Nat → Nat) (v : Nat) : ∀ m, cnt g v m ≤ m
  | 0 => Nat.le_refl _
  | m + 1 => by
    have := cnt_le g v m
    show cnt g v m + (if g m = v then 1 else 0) ≤ m + 1
    split <;> omega
theorem cnt_sum {g t : Nat → Nat} {P : Nat} : ∀ m, (∀ l, l < m → g l < P) → sumF (fun v => cnt g v m * t v) P = sumF (fun l => t (g l)) m
  | 0, _ => by
    show sumF (fun v => 0 * t v) P = 0
    exact sumF_0 P (fun i _ => Nat.zero_mul _)
  | m + 1, h => by
    have e : sumF (fun v => cnt g v (m + 1) * t v) P = sumF (fun v => cnt g v m * t v + (if v = g m then t (g m) else 0)) P := sumF_cg P (fun v _ => by
      show (cnt g v m + (if g m = v then 1 else 0)) * t v = _
      by_cases z : g m = v
      · rw [if_pos z, if_pos z.symm, Nat.add_mul, Nat.one_mul, z]
      · rw [if_neg z, if_neg (fun y => z y.symm), Nat.add_zero, Nat.add_zero])
    rw [e, sumF_add, cnt_sum m (fun l hl => h l (by omega)), sumF_at, if_pos (h m (by omega))]
    rfl
theorem tot_1 (nx : Nat → Nat) (R : Nat) : ∀ n s, tot nx R (fun _ => 1) n s = 10 ^ n
  | 0, _ => rfl
  | n + 1, s => by
    show sumF (fun l => tot nx R (fun _ => 1) n (ltN R (nx s) l)) 10 = _
    rw [sumF_cg (f' := fun _ => 10 ^ n) 10 (fun l _ => tot_1 nx R n _)]
    show 0 + 10 ^ n + 10 ^ n + 10 ^ n + 10 ^ n + 10 ^ n + 10 ^ n + 10 ^ n + 10 ^ n + 10 ^ n + 10 ^ n = 10 ^ (n + 1)
    rw [Nat.pow_succ]
    omega
theorem ltN_le (R s l : Nat) : ltN R s l ≤ s := by
  unfold ltN
  split
  · exact Nat.sub_le _ _
  · exact Nat.le_refl _
theorem ltN_lt {R s l : Nat} (h : s < 5 ^ R) : ltN R s l < 5 ^ R := Nat.lt_of_le_of_lt (ltN_le R s l) h
theorem ltN_cSt {R w q l : Nat} (hw : w < 625) : ltN R (cSt R w q) l = cSt R (ltN R w l) q := by
  unfold ltN
  rw [cSt_wa hw]
  by_cases z : l < R ∧ 0 < mWa w l
  · rw [if_pos z, if_pos z]
    have := (sub_wi z.2).1
    unfold cSt
    omega
  · rw [if_neg z, if_neg z]
theorem tot_cSt {a : Nat → Int32} {q : Nat} (hR : aR a ≤ 4) (hq : q < kFc (aR a)) {F G : Nat → Nat} (hF : ∀ w, w < 5 ^ aR a → F (cSt (aR a) w q) = G w) : ∀ n w, w < 5 ^ aR a → tot (aNx a) (aR a) F n (cSt (aR a) w q) = tot (fun s => cB a s q) (aR a) G n w
  | 0, w, hw => hF w hw
  | n + 1, w, hw => by
    have h6 := p5_6 hR
    show sumF (fun l => tot (aNx a) (aR a) F n (ltN (aR a) (aS a (a 40) (cSt (aR a) w q) 0) l)) 10 = sumF (fun l => tot (fun s => cB a s q) (aR a) G n (ltN (aR a) (cB a w q) l)) 10
    have hc := cB_lt hR hq hw
    refine sumF_cg 10 (fun l _ => ?_)
    rw [cB_st hR hq hw, ltN_cSt (by omega)]
    exact tot_cSt hR hq hF n _ (ltN_lt hc)
def tb_id_addLots : List (Nat × Instr × Nat) := [(0, .iconst 0, 1), (1, .istore 4, 2), (3, .iload 4, 2), (5, .bipush 10, 2), (7, .if_icmp .ge 63, 3), (10, .iload_n 2, 1), (11, .istore 5, 2), (13, .iload 4, 2), (15, .iload_n 3, 1), (16, .if_icmp .ge 22, 3), (19, .iload_n 2, 1), (20, .iload 4, 2), (22, .invokestatic 65, 3), (25, .ifCond .le 13, 3), (28, .iload_n 2, 1), (29, .getstatic 58, 3), (32, .iload 4, 2), (34, .iaload, 1), (35, .isub, 1), (36, .istore 5, 2), (38, .iload 5, 2), (40, .ifCond .lt 24, 3), (43, .iload 5, 2), (45, .aload_n 0, 1), (46, .getfield 28, 3), (49, .arraylength, 1), (50, .if_icmp .ge 14, 3), (53, .aload_n 0, 1), (54, .getfield 28, 3), (57, .iload 5, 2), (59, .dup2, 1), (60, .iaload, 1), (61, .iload_n 1, 1), (62, .iadd, 1), (63, .iastore, 1), (64, .iinc 4 1, 3), (67, .goto (-64), 3), (70, .return_, 1)]
theorem tk_id_addLots : ∀ q ∈ tb_id_addLots, decode M_id_addLots.2.1 q.1 = .ok q.2 := by decide +kernel
theorem x_la {S : ab_S} (hx : xSh S) {y : Nat} (h : y = 107 ∨ y = 108) : 50 ≤ y ∧ y < sn S ∧ sK S y = .inl (.int, 625) := by
  have h1 := hx.1
  rcases h with rfl | rfl
  · exact ⟨by decide, by omega, hx.2.1 57 (by decide)⟩
  · exact ⟨by decide, by omega, hx.2.1 58 (by decide)⟩
theorem c_id_addLots {G : ab_G} {S : ab_S} (hx : xSh S) (kc : kSh S.1) {ca la : Nat} (hca : sP S 104 4 = some ca) (hla : sP S 104 5 = some la) (hp : (ca = 107 ∧ la = 108) ∨ (ca = 108 ∧ la = 107)) {L : Nat → Nat} (hL : ∀ v, v < 625 → sI S la v = nI (L v)) (t s R : Nat) (hR : R ≤ 4) (hs : s < 625) (hb : ∀ v, v < 625 → L v + t * 10 < 2 ^ 31) : ab_C G 1 M_id_addLots [.ref 104, .int (nI t), .int (nI s), .int (nI R)] (sw S) (fun v w' => v = none ∧ ∃ S', w' = sw S' ∧ sEq [la] S S' ∧ ∀ v, v < 625 → sI S' la v = nI (L v + t * cnt (ltN R s) v 10)) := by
  refine x_enter [some (.ref 104), some (.int (nI t)), some (.int (nI s)), some (.int (nI R)), none, none] (by decide) (Nat.le_of_ble_eq_true rfl) rfl (fun v w' h => by obtain ⟨rfl, -⟩ := h; trivial) ?_
  have lp : ∀ (m k : Nat), k + m = 10 → ∀ (S1 : ab_S) (y : Option Value), sEq [la] S S1 → (∀ v, v < 625 → sI S1 la v = nI (L v + t * cnt (ltN R s) v k)) → ab_Ex G 1 M_id_addLots 3 [some (.ref 104), some (.int (nI t)), some (.int (nI s)), some (.int (nI R)), some (.int (nI k)), y] [] (sw S1) (fun v w' => v = none ∧ ∃ S', w' = sw S' ∧ sEq [la] S S' ∧ ∀ v, v < 625 → sI S' la v = nI (L v + t * cnt (ltN R s) v 10)) := by
    intro m
    induction m with
    | zero =>
      intro k hk S1 y hE hV
      obtain rfl : k = 10 := by omega
      refine x_forget 5 ?_
      have hx1 : xSh S1 := hx.eq hE
      refine x_iload 5 4 (ab_dd tk_id_addLots 2 rfl) rfl rfl ?_
      refine x_bipush 7 10 (ab_dd tk_id_addLots 3 rfl) rfl (by decide) (x_topn 10 rfl ?_)
      refine x_icmp_ge_t 70 (ab_dd tk_id_addLots 4 rfl) (by decide) ((nI_leI (a := 10) (b := 10) (by omega) (by omega)).mpr (show 10 ≤ 10 by omega)) ?_
      exact x_vret (ab_dd tk_id_addLots 37 rfl) ⟨rfl, _, rfl, hE, hV⟩
    | succ m ih =>
      intro k hk S1 y hE hV
      refine x_forget 5 ?_
      have hx1 : xSh S1 := hx.eq hE
      have kc1 : kSh S1.1 := by rw [hE.1]; exact kc
      have h501 : 50 ≤ sn S1 := Nat.le_trans (by decide) hx1.1
      have hy := x_la hx1 (show la = 107 ∨ la = 108 by omega)
      have hla1 : sP S1 104 5 = some la := by rw [hE.2.2.2.2.1]; exact hla
      have tl : ∀ nx, nx = ltN R s k → ab_Ex G 1 M_id_addLots 38 [some (.ref 104), some (.int (nI t)), some (.int (nI s)), some (.int (nI R)), some (.int (nI k)), some (.int (nI nx))] [] (sw S1) (fun v w' => v = none ∧ ∃ S', w' = sw S' ∧ sEq [la] S S' ∧ ∀ v, v < 625 → sI S' la v = nI (L v + t * cnt (ltN R s) v 10)) := by
        intro nx hnx
        have hn6 : nx < 625 := by rw [hnx]; exact Nat.lt_of_le_of_lt (ltN_le R s k) hs
        have hbv := hb nx hn6
        have hcl := cnt_le (ltN R s) nx k
        have hmul : t * cnt (ltN R s) nx k ≤ t * 10 := Nat.mul_le_mul_left t (by omega)
        refine x_iload 40 5 (ab_dd tk_id_addLots 20 rfl) rfl rfl ?_
        refine xn_if_lt 43 64 (ab_dd tk_id_addLots 21 rfl) rfl (by decide) (by omega) ?_
        refine x_iload 45 5 (ab_dd tk_id_addLots 22 rfl) rfl rfl ?_
        refine x_aload_n 46 0 (ab_dd tk_id_addLots 23 rfl) rfl rfl rfl ?_
        refine t_getP 49 la (ab_dd tk_id_addLots 24 rfl) rfl F_id_28 (by decide) (Nat.lt_of_lt_of_le (by decide) hx1.1) (hx1.2.1 54 (by decide)) rfl hla1 ?_
        refine t_alen 50 0 (ab_dd tk_id_addLots 25 rfl) rfl hy.1 hy.2.1 rfl hy.2.2 ?_
        refine x_icmp_ge_f 53 (ab_dd tk_id_addLots 26 rfl) rfl 64 (by decide) (fun z => absurd ((nI_leI (a := 625) (b := nx) (by omega) (by omega)).mp z) (show ¬ (625 ≤ nx) by omega)) ?_
        refine x_aload_n 54 0 (ab_dd tk_id_addLots 27 rfl) rfl rfl rfl ?_
        refine t_getP 57 la (ab_dd tk_id_addLots 28 rfl) rfl F_id_28 (by decide) (Nat.lt_of_lt_of_le (by decide) hx1.1) (hx1.2.1 54 (by decide)) rfl hla1 ?_
        refine x_iload 59 5 (ab_dd tk_id_addLots 29 rfl) rfl rfl ?_
        refine x_dup2 60 (ab_dd tk_id_addLots 30 rfl) rfl rfl rfl ?_
        refine t_iald 61 nx (ab_dd tk_id_addLots 31 rfl) rfl hy.1 hy.2.1 hy.2.2 rfl (by omega) (by decide) (x_topn (L nx + t * cnt (ltN R s) nx k) (hV nx hn6) ?_)
        refine x_iload_n 62 1 (ab_dd tk_id_addLots 32 rfl) rfl rfl rfl ?_
        refine x_iadd 63 (ab_dd tk_id_addLots 33 rfl) rfl (x_topn ((L nx + t * cnt (ltN R s) nx k) + t) (nI_add _ _) ?_)
        refine t_iast 64 nx (ab_dd tk_id_addLots 34 rfl) rfl hy.1 hy.2.1 hy.2.2 rfl (by omega) (by decide) ?_
        refine xn_iinc 67 4 (fun y => [some (.ref 104), some (.int (nI t)), some (.int (nI s)), some (.int (nI R)), some (.int y), some (.int (nI nx))]) (k + 1) (ab_dd tk_id_addLots 35 rfl) rfl (by decide) rfl (fun _ => rfl) (iinc_p 1) ?_
        refine x_goto 3 (ab_dd tk_id_addLots 36 rfl) (by decide) ?_
        refine ih (k + 1) (by omega) _ _ (hE.pI (List.Mem.head _)) (fun v hv => ?_)
        show _ = nI (L v + t * (cnt (ltN R s) v k + (if ltN R s k = v then 1 else 0)))
        by_cases z : v = nx
        · rw [z, if_pos hnx.symm, Nat.mul_add, Nat.mul_one, ← Nat.add_assoc]; exact gI_s
        · rw [gI_k z, if_neg (fun e => z (by rw [hnx, e])), Nat.add_zero]; exact hV v hv
      refine x_iload 5 4 (ab_dd tk_id_addLots 2 rfl) rfl rfl ?_
      refine x_bipush 7 10 (ab_dd tk_id_addLots 3 rfl) rfl (by decide) (x_topn 10 rfl ?_)
      refine x_icmp_ge_f 10 (ab_dd tk_id_addLots 4 rfl) rfl 70 (by decide) (fun z => absurd ((nI_leI (a := 10) (b := k) (by omega) (by omega)).mp z) (show ¬ (10 ≤ k) by omega)) ?_
      refine x_iload_n 11 2 (ab_dd tk_id_addLots 5 rfl) rfl rfl rfl ?_
      refine x_istore 13 [some (.ref 104), some (.int (nI t)), some (.int (nI s)), some (.int (nI R)), some (.int (nI k)), some (.int (nI s))] 5 (ab_dd tk_id_addLots 6 rfl) rfl (by decide) rfl ?_
      refine x_iload 15 4 (ab_dd tk_id_addLots 7 rfl) rfl rfl ?_
      refine x_iload_n 16 3 (ab_dd tk_id_addLots 8 rfl) rfl rfl rfl ?_
      refine xn_icmp_ge 19 38 (ab_dd tk_id_addLots 9 rfl) rfl (by decide) (by omega) (by omega) (fun h16 => ?_) (fun h16 => ?_)
      · exact tl _ (by unfold ltN; rw [if_neg (by omega)])
      · have hw5 := mWa_lt s k
        have hp5 := p5_le k (by omega)
        refine x_iload_n 20 2 (ab_dd tk_id_addLots 10 rfl) rfl rfl rfl ?_
        refine x_iload 22 4 (ab_dd tk_id_addLots 11 rfl) rfl rfl ?_
        refine x_callS 25 M_s_warmthOf 0 2 [_, _] (ab_dd tk_id_addLots 12 rfl) rfl (by first | decide | omega) K_s_warmthOf T_s_warmthOf L_id_65 rfl (Nat.le_of_ble_eq_true rfl) (c_s_warmthOf (by exact kc1) (by exact h501) s k (by omega) (by omega)) (fun v1 w1 h1 => ?_)
        obtain ⟨rfl, rfl⟩ := h1
        refine xn_if_le 28 38 (ab_dd tk_id_addLots 13 rfl) rfl (by decide) (by omega) (fun h25 => ?_) (fun h25 => ?_)
        · exact tl _ (by unfold ltN; rw [if_neg (by omega)])
        · have hsw := (sub_wi h25).1
          refine x_iload_n 29 2 (ab_dd tk_id_addLots 14 rfl) rfl rfl rfl ?_
          refine x_getsN 32 (ab_dd tk_id_addLots 15 rfl) rfl (List.mem_of_getElem? (i := 0) rfl) F_id_58 ?_
          refine x_iload 34 4 (ab_dd tk_id_addLots 16 rfl) rfl rfl ?_
          refine t_ialdK 35 k (ab_dd tk_id_addLots 17 rfl) rfl (by decide) h501 (kc1.2.1) rfl (by omega) (by decide) (x_topn (5 ^ k) (kPw_N k (by omega)) ?_)
          refine x_isub 36 (ab_dd tk_id_addLots 18 rfl) rfl (x_topn (s - (5 ^ k)) (pk_sub (by omega)) ?_)
          refine x_istore 38 [some (.ref 104), some (.int (nI t)), some (.int (nI s)), some (.int (nI R)), some (.int (nI k)), some (.int (nI (s - (5 ^ k))))] 5 (ab_dd tk_id_addLots 19 rfl) rfl (by decide) rfl ?_
          exact tl _ (by unfold ltN; rw [if_pos ⟨h16, h25⟩])
  refine x_iconst 1 0 (ab_dd tk_id_addLots 0 rfl) rfl (by decide) (x_topn 0 rfl ?_)
  refine x_istore 3 [some (.ref 104), some (.int (nI t)), some (.int (nI s)), some (.int (nI R)), some (.int (nI 0)), none] 4 (ab_dd tk_id_addLots 1 rfl) rfl (by decide) rfl ?_
  exact lp 10 0 (by omega) S none sEq.rf (fun v hv => by rw [show cnt (ltN R s) v 0 = 0 from rfl, Nat.mul_zero]; exact hL v hv)
