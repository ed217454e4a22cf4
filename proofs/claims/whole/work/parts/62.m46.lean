theorem pW_la {la k w : Nat} (h : pW la k = some w) : la = 0 ∨ w < 6 := by
  unfold pW at h
  split at h; (· cases h; omega)
  split at h; (· cases h; omega)
  split at h; (· cases h; omega)
  split at h; (· cases h; omega)
  split at h; (· cases h; omega)
  split at h; (· cases h; omega)
  split at h
  · cases h
    omega
  · cases h
/-! ===== what kinds of thing lie on a law's pile: true for a truth ===== -/
def tyS (u x : Nat) (st : List Bool) : Option (List Bool) :=
  if x < 1000 + u then (if st.length < 80 then some (false :: st) else none)
  else if x = 3006 then (match st with
    | true :: t => some (true :: t)
    | _ => none)
  else if x = 3009 then (match st with
    | false :: false :: true :: t => some (false :: t)
    | _ => none)
  else if x = 3000 ∨ x = 3001 ∨ x = 3002 then (match st with
    | false :: false :: t => some (false :: t)
    | _ => none)
  else if x = 3003 ∨ x = 3004 ∨ x = 3005 then (match st with
    | false :: false :: t => some (true :: t)
    | _ => none)
  else if x = 3007 ∨ x = 3008 then (match st with
    | true :: true :: t => some (true :: t)
    | _ => none)
  else none
def tyE (u : Nat) : List Nat → List Bool → Option (List Bool)
  | [], st => some st
  | x :: c, st => match tyS u x st with
    | none => none
    | some st' => tyE u c st'
theorem tyE_app {u : Nat} {c d : List Nat} : ∀ {st st' st2 : List Bool}, tyE u c st = some st' → tyE u d st' = some st2 → tyE u (c ++ d) st = some st2 := by
  induction c with
  | nil =>
    intro st st' st2 h1 h2
    cases h1
    exact h2
  | cons x c ih =>
    intro st st' st2 h1 h2
    show (match tyS u x st with
      | none => none
      | some st' => tyE u (c ++ d) st') = _
    have h3 : (match tyS u x st with
      | none => none
      | some st' => tyE u c st') = some st' := h1
    cases h4 : tyS u x st with
    | none => rw [h4] at h3; cases h3
    | some s1 =>
      rw [h4] at h3
      exact ih h3 h2
theorem tyE_one {u x : Nat} {st st' : List Bool} (h : tyS u x st = some st') : tyE u [x] st = some st' := by
  show (match tyS u x st with
      | none => none
      | some st' => tyE u [] st') = _
  rw [h]
  rfl
def hb (m deep : Nat) : Nat := 1 + 5 * (6 - deep) + (if m < 6 then m else 0)
def kdM (m : Nat) : Bool := decide (3 ≤ m)
def tyG (u m deep : Nat) (c : List Nat) : Prop := ∀ st : List Bool, (if m < 6 then st.length + hb m deep ≤ 80 → tyE u c st = some (kdM m :: st) else if m = 6 then st.length + hb 1 deep ≤ 80 → tyE u c (false :: st) = some (false :: st) else if m = 7 then st.length + hb 2 deep ≤ 80 → tyE u c (false :: st) = some (false :: st) else if m = 8 then st.length + hb 4 deep ≤ 80 → tyE u c (true :: st) = some (true :: st) else st.length + hb 5 deep ≤ 80 → tyE u c (true :: st) = some (true :: st))
theorem ty_num {u x : Nat} {st : List Bool} (hx : x < 1000 + u) (hs : st.length < 80) : tyS u x st = some (false :: st) := by
  unfold tyS
  rw [if_pos hx, if_pos hs]
theorem qSq_ty {u : Nat} {P : Nat → Nat → Nat → pR} {deep p q ma ml m : Nat} {c : List Nat} (hm : m < 6) (ih : ∀ m p q c, P m deep p = .inr (q, c) → tyG u m deep c) (h : qSq P ma ml deep p = .inr (q, c)) (hj : ∀ c1 c2, tyG u ma deep c1 → tyG u ml deep c2 → tyG u m deep (c1 ++ c2)) : tyG u m deep c := by
  obtain ⟨q1, c1, e1, h⟩ := pB_ok h
  obtain ⟨q2, c2, e2, h⟩ := pB_ok h
  obtain ⟨rfl, rfl⟩ := Prod.mk.inj (Sum.inr.inj h)
  exact hj _ _ (ih _ _ _ _ e1) (ih _ _ _ _ e2)
theorem qLp_ty {tp : Nat → Nat} {n u : Nat} {P : Nat → Nat → Nat → pR} {deep p q ma ml lo hi cd m : Nat} {c : List Nat} (ih : ∀ m p q c, P m deep p = .inr (q, c) → tyG u m deep c) (h : qLp tp n P ma ml lo hi cd deep p = .inr (q, c)) (h0 : tyG u m deep []) (hj : ∀ x c1 c2, x ≤ hi - lo → tyG u ma deep c1 → tyG u ml deep c2 → tyG u m deep (c1 ++ (cd + x) :: c2)) : tyG u m deep c := by
  unfold qLp at h
  split at h
  · obtain ⟨q1, c1, e1, h⟩ := pB_ok h
    obtain ⟨q2, c2, e2, h⟩ := pB_ok h
    obtain ⟨rfl, rfl⟩ := Prod.mk.inj (Sum.inr.inj h)
    exact hj _ _ _ (by omega) (ih _ _ _ _ e1) (ih _ _ _ _ e2)
  · obtain ⟨rfl, rfl⟩ := Prod.mk.inj (Sum.inr.inj h)
    exact h0
theorem tyG_lt {u m deep : Nat} {c : List Nat} (hm : m < 6) (h : tyG u m deep c) {st : List Bool} (hs : st.length + hb m deep ≤ 80) : tyE u c st = some (kdM m :: st) := by
  have := h st
  rw [if_pos hm] at this
  exact this hs
/-- a thing, then what goes on behind it -/
theorem ty_sq {u deep ma ml m : Nat} {c1 c2 : List Nat} (hma : ma + 1 = m) (hm : m < 6) (hml : ml = (if m = 1 then 6 else if m = 2 then 7 else if m = 4 then 8 else 9)) (hm3 : m ≠ 3) (hm0 : m ≠ 0) (h1 : tyG u ma deep c1) (h2 : tyG u ml deep c2) : tyG u m deep (c1 ++ c2) := by
  intro st
  rw [if_pos hm]
  intro hs
  have e1 : hb m deep = hb ma deep + 1 := by unfold hb; rw [if_pos hm, if_pos (by omega)]; omega
  refine tyE_app (tyG_lt (by omega) h1 (by omega)) ?_
  have g := h2 st
  have hk : m = 1 ∨ m = 2 ∨ m = 4 ∨ m = 5 := by omega
  rcases hk with rfl | rfl | rfl | rfl
  · obtain rfl : ma = 0 := by omega
    rw [hml] at g
    exact g hs
  · obtain rfl : ma = 1 := by omega
    rw [hml] at g
    exact g hs
  · obtain rfl : ma = 3 := by omega
    rw [hml] at g
    exact g hs
  · obtain rfl : ma = 4 := by omega
    rw [hml] at g
    exact g hs
theorem ty_bin {u x : Nat} {b b' : Bool} {st : List Bool} (hu : u ≤ 9) (h : (b = false ∧ b' = false ∧ (x = 3000 ∨ x = 3001 ∨ x = 3002)) ∨ (b = false ∧ b' = true ∧ (x = 3003 ∨ x = 3004 ∨ x = 3005)) ∨ (b = true ∧ b' = true ∧ (x = 3007 ∨ x = 3008))) : tyS u x (b :: b :: st) = some (b' :: st) := by
  unfold tyS
  rw [if_neg (by omega), if_neg (by omega), if_neg (by omega)]
  rcases h with ⟨rfl, rfl, h⟩ | ⟨rfl, rfl, h⟩ | ⟨rfl, rfl, h⟩
  · rw [if_pos h]
  · rw [if_neg (by omega), if_pos h]
  · rw [if_neg (by omega), if_neg (by omega), if_pos h]
theorem pS_ty {tp : Nat → Nat} {n la u : Nat} (hu : u = if la = 0 then 9 else 6) : ∀ f m deep p q c, p ≤ n → deep ≤ 6 → pS tp n la f m deep p = .inr (q, c) → tyG u m deep c := by
  have hu9 : u ≤ 9 := by rw [hu]; split <;> decide
  intro f
  induction f with
  | zero => intro m deep p q c _ _ h; cases h
  | succ f ih =>
    intro m deep p q c hp hdeep h
    have ln := pS_len (tp := tp) (n := n) (la := la) f
    -- what is read at a place that is reached
    unfold pS at h
    split at h
    · rename_i hm
      subst hm
      intro st
      rw [if_pos (by decide)]
      intro hs
      have e0 : hb 0 deep = 1 + 5 * (6 - deep) := rfl
      unfold qAt at h
      split at h
      · rename_i hk
        obtain ⟨rfl, rfl⟩ := Prod.mk.inj (Sum.inr.inj h)
        have := tN_lt hp hk
        exact tyE_one (ty_num (by omega) (by omega))
      · split at h
        · rename_i w hw
          obtain ⟨rfl, rfl⟩ := Prod.mk.inj (Sum.inr.inj h)
          have h9 := pW_lt hw
          refine tyE_one (ty_num ?_ (by omega))
          rw [hu]
          split
          · omega
          · rename_i hl
            rcases pW_la hw with z | z
            · exact absurd z hl
            · omega
        · split at h
          · have g0 := tE_g (tp := tp) hp (show tK tp n p ≠ 24 by omega)
            split at h
            · cases h
            · obtain ⟨q1, c1, e1, h⟩ := pB_ok h
              obtain ⟨k1, h⟩ := qX_ok h
              obtain ⟨rfl, rfl⟩ := Prod.mk.inj (Sum.inr.inj h)
              have := tyG_lt (by decide) (ih _ _ _ _ _ g0.2 (by omega) e1) (st := st) (by unfold hb; rw [if_pos (by decide)]; omega)
              exact this
          · split at h
            · have g0 := tE_g (tp := tp) hp (show tK tp n p ≠ 24 by omega)
              unfold qIf at h
              split at h
              · cases h
              · obtain ⟨q1, c1, e1, h⟩ := pB_ok h
                obtain ⟨k1, h⟩ := qX_ok h
                obtain ⟨q2, c2, e2, h⟩ := pB_ok h
                obtain ⟨k2, h⟩ := qX_ok h
                obtain ⟨q3, c3, e3, h⟩ := pB_ok h
                obtain ⟨k3, h⟩ := qX_ok h
                obtain ⟨rfl, rfl⟩ := Prod.mk.inj (Sum.inr.inj h)
                have g1 := ln _ _ _ _ _ g0.2 e1
                have f1 := tE_g (tp := tp) g1.2.1 (show tK tp n q1 ≠ 24 by omega)
                have g2 := ln _ _ _ _ _ f1.2 e2
                have f2 := tE_g (tp := tp) g2.2.1 (show tK tp n q2 ≠ 24 by omega)
                have t1 := tyG_lt (by decide) (ih _ _ _ _ _ g0.2 (by omega) e1) (st := st) (by unfold hb; rw [if_pos (by decide)]; omega)
                have t2 := tyG_lt (by decide) (ih _ _ _ _ _ f1.2 (by omega) e2) (st := true :: st) (by unfold hb; rw [if_pos (by decide), List.length_cons]; omega)
                have t3 := tyG_lt (by decide) (ih _ _ _ _ _ f2.2 (by omega) e3) (st := false :: true :: st) (by unfold hb; rw [if_pos (by decide), List.length_cons, List.length_cons]; omega)
                refine tyE_app (tyE_app (tyE_app t1 t2) t3) (tyE_one ?_)
                unfold tyS
                rw [if_neg (by omega), if_neg (by decide), if_pos rfl]
                rfl
            · cases h
    · have ih0 : ∀ m p q c, pS tp n la f m deep p = .inr (q, c) → p ≤ n → tyG u m deep c := fun m p q c h hp => ih m deep p q c hp hdeep h
      split at h
      · rename_i hm
        subst hm
        obtain ⟨q1, c1, e1, h⟩ := pB_ok h
        obtain ⟨q2, c2, e2, h⟩ := pB_ok h
        obtain ⟨rfl, rfl⟩ := Prod.mk.inj (Sum.inr.inj h)
        have g1 := ln _ _ _ _ _ hp e1
        exact ty_sq rfl (by decide) rfl (by decide) (by decide) (ih0 _ _ _ _ e1 hp) (ih0 _ _ _ _ e2 g1.2.1)
      · split at h
        · rename_i hm
          subst hm
          obtain ⟨q1, c1, e1, h⟩ := pB_ok h
          obtain ⟨q2, c2, e2, h⟩ := pB_ok h
          obtain ⟨rfl, rfl⟩ := Prod.mk.inj (Sum.inr.inj h)
          have g1 := ln _ _ _ _ _ hp e1
          exact ty_sq rfl (by decide) rfl (by decide) (by decide) (ih0 _ _ _ _ e1 hp) (ih0 _ _ _ _ e2 g1.2.1)
        · split at h
          · rename_i hm
            subst hm
            intro st
            rw [if_pos (by decide)]
            intro hs
            have e0 : hb 3 deep = 1 + 5 * (6 - deep) + 3 := rfl
            unfold qUn at h
            split at h
            · have g0 := tE_g (tp := tp) hp (show tK tp n p ≠ 24 by omega)
              split at h
              · cases h
              · obtain ⟨q1, c1, e1, h⟩ := pB_ok h
                obtain ⟨rfl, rfl⟩ := Prod.mk.inj (Sum.inr.inj h)
                have t1 := tyG_lt (by decide) (ih _ _ _ _ _ g0.2 (by omega) e1) (st := st) (by unfold hb; rw [if_pos (by decide)]; omega)
                refine tyE_app t1 (tyE_one ?_)
                unfold tyS
                rw [if_neg (by omega), if_pos rfl]
                rfl
            · split at h
              · have g0 := tE_g (tp := tp) hp (show tK tp n p ≠ 24 by omega)
                split at h
                · cases h
                · obtain ⟨q1, c1, e1, h⟩ := pB_ok h
                  obtain ⟨k1, h⟩ := qX_ok h
                  obtain ⟨rfl, rfl⟩ := Prod.mk.inj (Sum.inr.inj h)
                  exact tyG_lt (m := 5) (by decide) (ih _ _ _ _ _ g0.2 (by omega) e1) (st := st) (by unfold hb; rw [if_pos (by decide)]; omega)
              · obtain ⟨q1, c1, e1, h⟩ := pB_ok h
                split at h
                · rename_i hk
                  obtain ⟨q2, c2, e2, h⟩ := pB_ok h
                  obtain ⟨rfl, rfl⟩ := Prod.mk.inj (Sum.inr.inj h)
                  have g1 := ln _ _ _ _ _ hp e1
                  have f1 := tE_g (tp := tp) g1.2.1 (show tK tp n q1 ≠ 24 by omega)
                  have t1 := tyG_lt (m := 2) (by decide) (ih _ _ _ _ _ hp hdeep e1) (st := st) (by unfold hb; rw [if_pos (by decide)]; omega)
                  have t2 := tyG_lt (m := 2) (by decide) (ih _ _ _ _ _ f1.2 hdeep e2) (st := false :: st) (by unfold hb; rw [if_pos (by decide), List.length_cons]; omega)
                  exact tyE_app (tyE_app t1 t2) (tyE_one (ty_bin hu9 (Or.inr (Or.inl ⟨rfl, rfl, by omega⟩))))
                · cases h
          · split at h
            · rename_i hm
              subst hm
              obtain ⟨q1, c1, e1, h⟩ := pB_ok h
              obtain ⟨q2, c2, e2, h⟩ := pB_ok h
              obtain ⟨rfl, rfl⟩ := Prod.mk.inj (Sum.inr.inj h)
              have g1 := ln _ _ _ _ _ hp e1
              exact ty_sq rfl (by decide) rfl (by decide) (by decide) (ih0 _ _ _ _ e1 hp) (ih0 _ _ _ _ e2 g1.2.1)
            · split at h
              · rename_i hm
                subst hm
                obtain ⟨q1, c1, e1, h⟩ := pB_ok h
                obtain ⟨q2, c2, e2, h⟩ := pB_ok h
                obtain ⟨rfl, rfl⟩ := Prod.mk.inj (Sum.inr.inj h)
                have g1 := ln _ _ _ _ _ hp e1
                exact ty_sq rfl (by decide) rfl (by decide) (by decide) (ih0 _ _ _ _ e1 hp) (ih0 _ _ _ _ e2 g1.2.1)
              · rename_i n0 n1 n2 n3 n4 n5
                have lp : ∀ {ma ml lo hi cd : Nat} (b : Bool) (t : Nat), (hi < 24 ∨ 24 < lo) → ma < 6 → kdM ma = b → hb ma deep + 1 ≤ hb t deep → (∀ x, x ≤ hi - lo → ∀ st, tyS u (cd + x) (b :: b :: st) = some (b :: st)) → (∀ c2, tyG u ml deep c2 → ∀ st : List Bool, st.length + hb t deep ≤ 80 → tyE u c2 (b :: st) = some (b :: st)) → qLp tp n (pS tp n la f) ma ml lo hi cd deep p = .inr (q, c) → ∀ st : List Bool, st.length + hb t deep ≤ 80 → tyE u c (b :: st) = some (b :: st) := by
                  intro ma ml lo hi cd b t hlo hma hkb hbt hx hl h st hs
                  unfold qLp at h
                  split at h
                  · obtain ⟨q1, c1, e1, h⟩ := pB_ok h
                    obtain ⟨q2, c2, e2, h⟩ := pB_ok h
                    obtain ⟨rfl, rfl⟩ := Prod.mk.inj (Sum.inr.inj h)
                    have g0 := tE_g (tp := tp) hp (show tK tp n p ≠ 24 by omega)
                    have g1 := ln _ _ _ _ _ g0.2 e1
                    have t1 := tyG_lt hma (ih0 _ _ _ _ e1 g0.2) (st := b :: st) (by rw [List.length_cons]; omega)
                    rw [hkb] at t1
                    refine tyE_app t1 ?_
                    show (match tyS u (cd + (tK tp n p - lo)) (b :: b :: st) with
                      | none => none
                      | some st' => tyE u c2 st') = _
                    rw [hx _ (by omega) st]
                    exact hl c2 (ih0 _ _ _ _ e2 g1.2.1) st hs
                  · obtain ⟨rfl, rfl⟩ := Prod.mk.inj (Sum.inr.inj h)
                    rfl
                split at h
                · rename_i hm
                  subst hm
                  intro st
                  exact lp (ma := 0) (ml := 6) (lo := 34) (hi := 34) (cd := 3002) false 1 (by decide) (by decide) rfl (by unfold hb; simp) (fun x hx st => ty_bin hu9 (Or.inl ⟨rfl, rfl, by omega⟩)) (fun c2 g st => g st) h st
                · split at h
                  · rename_i hm
                    subst hm
                    intro st
                    exact lp (ma := 1) (ml := 7) (lo := 32) (hi := 33) (cd := 3000) false 2 (by decide) (by decide) rfl (by unfold hb; simp) (fun x hx st => ty_bin hu9 (Or.inl ⟨rfl, rfl, by omega⟩)) (fun c2 g st => g st) h st
                  · split at h
                    · rename_i hm
                      subst hm
                      intro st
                      exact lp (ma := 3) (ml := 8) (lo := 18) (hi := 18) (cd := 3007) true 4 (by decide) (by decide) rfl (by unfold hb; simp) (fun x hx st => ty_bin hu9 (Or.inr (Or.inr ⟨rfl, rfl, by omega⟩))) (fun c2 g st => g st) h st
                    · rename_i n6 n7 n8
                      intro st
                      rw [if_neg (by omega), if_neg n6, if_neg n7, if_neg n8]
                      refine lp (ma := 4) (ml := 9) (lo := 19) (hi := 19) (cd := 3008) true 5 (by decide) (by decide) rfl (by unfold hb; simp) (fun x hx st => ty_bin hu9 (Or.inr (Or.inr ⟨rfl, rfl, by omega⟩))) (fun c2 g st => g st) h st
