/-! ===== a law that is read is well made ===== -/
theorem tyS_c {u x : Nat} {st st' : List Bool} (h : tyS u x st = some st') : (x < 1000 + u ∧ st.length < 80 ∧ st' = false :: st) ∨ (¬ x < 1000 + u ∧ ((x = 3006 ∧ ∃ t, st = true :: t ∧ st' = true :: t) ∨ (x = 3009 ∧ ∃ t, st = false :: false :: true :: t ∧ st' = false :: t) ∨ ((x = 3000 ∨ x = 3001 ∨ x = 3002) ∧ ∃ t, st = false :: false :: t ∧ st' = false :: t) ∨ ((x = 3003 ∨ x = 3004 ∨ x = 3005) ∧ ∃ t, st = false :: false :: t ∧ st' = true :: t) ∨ ((x = 3007 ∨ x = 3008) ∧ ∃ t, st = true :: true :: t ∧ st' = true :: t))) := by
  unfold tyS at h
  split at h
  · rename_i hx
    split at h
    · rename_i hl
      exact Or.inl ⟨hx, hl, (Option.some.inj h).symm⟩
    · cases h
  · rename_i hx
    refine Or.inr ⟨hx, ?_⟩
    split at h
    · rename_i h6
      split at h
      · rename_i t
        exact Or.inl ⟨h6, t, rfl, (Option.some.inj h).symm⟩
      · cases h
    · split at h
      · rename_i h9
        split at h
        · rename_i t
          exact Or.inr (Or.inl ⟨h9, t, rfl, (Option.some.inj h).symm⟩)
        · cases h
      · split at h
        · rename_i ha
          split at h
          · rename_i t
            exact Or.inr (Or.inr (Or.inl ⟨ha, t, rfl, (Option.some.inj h).symm⟩))
          · cases h
        · split at h
          · rename_i ha
            split at h
            · rename_i t
              exact Or.inr (Or.inr (Or.inr (Or.inl ⟨ha, t, rfl, (Option.some.inj h).symm⟩)))
            · cases h
          · split at h
            · rename_i ha
              split at h
              · rename_i t
                exact Or.inr (Or.inr (Or.inr (Or.inr ⟨ha, t, rfl, (Option.some.inj h).symm⟩)))
              · cases h
            · cases h
def b01 (x : Int32) : Prop := x = 0 ∨ x = 1
/-- the truths on a pile are 0 or 1 -/
def tyP (f : Nat → Int32) : List Bool → Prop
  | [] => True
  | b :: t => (b = true → b01 (f t.length)) ∧ tyP f t
theorem tyP_up {f : Nat → Int32} {i : Nat} {v : Int32} : ∀ {t : List Bool}, t.length ≤ i → tyP f t → tyP (upd f i v) t
  | [], _, _ => trivial
  | b :: t, h, hp => by
    have hl : t.length + 1 ≤ i := h
    refine ⟨fun z => ?_, tyP_up (by omega) hp.2⟩
    have : upd f i v t.length = f t.length := by unfold upd; exact if_neg (by omega)
    rw [this]
    exact hp.1 z
theorem upd_at {f : Nat → Int32} {i : Nat} {v : Int32} : upd f i v i = v := by unfold upd; exact if_pos rfl
theorem lwB_01 {x : Nat} (hx : x = 3003 ∨ x = 3004 ∨ x = 3005) (a b : Int32) : b01 (lwB (nI x) a b) := by
  rcases hx with z | z | z
  · rw [z]; unfold lwB; rw [if_pos (by decide)]; split; (· exact Or.inr rfl); (· exact Or.inl rfl)
  · rw [z]; unfold lwB; rw [if_neg (by decide), if_pos (by decide)]; split; (· exact Or.inr rfl); (· exact Or.inl rfl)
  · rw [z]; unfold lwB; rw [if_neg (by decide), if_neg (by decide), if_pos (by decide)]; split; (· exact Or.inr rfl); (· exact Or.inl rfl)
theorem lwB_ao {x : Nat} (hx : x = 3007 ∨ x = 3008) {a b : Int32} (ha : b01 a) (hb : b01 b) : b01 (lwB (nI x) a b) := by
  rcases hx with z | z
  · rw [z]; unfold lwB; rw [if_neg (by decide), if_neg (by decide), if_neg (by decide), if_pos (by decide)]
    rcases ha with y | y <;> rcases hb with w | w <;> rw [y, w] <;> first | exact Or.inl rfl | exact Or.inr rfl
  · rw [z]; unfold lwB; rw [if_neg (by decide), if_neg (by decide), if_neg (by decide), if_neg (by decide), if_pos (by decide)]
    rcases ha with y | y <;> rcases hb with w | w <;> rw [y, w] <;> first | exact Or.inl rfl | exact Or.inr rfl
/-- a step keeps the kinds -/
theorem ty_step {u x : Nat} {st st' : List Bool} (hu : u ≤ 9) (h : tyS u x st = some st') (wd f : Nat → Int32) (hp : tyP f st) : (lwS wd (nI x) (st.length, f)).1 = st'.length ∧ tyP (lwS wd (nI x) (st.length, f)).2 st' ∧ lwK (nI x) st.length ∧ (nI x < 3000 → nI x < nI (1000 + u)) ∧ (x < 1009 ∨ (3000 ≤ x ∧ x ≤ 3009)) ∧ st.length ≤ 80 + 3 * (if x < 3000 then 0 else 1) + (if x < 3000 then 0 else st.length) ∧ (nI x < 3000 → st.length < 80) ∧ (nI x = 3009 → b01 (f (st.length - 3))) := by
  rcases tyS_c h with ⟨hx, hl, e⟩ | ⟨hx, hc⟩
  · have hx3 : nI x < (3000 : Int32) := (nI_l3 (by omega)).mpr (by omega)
    have hne : ¬ nI x = (3009 : Int32) := fun z => by have := (nI_e9 (by omega)).mp z; omega
    rw [e]
    refine ⟨?_, ?_, ?_, fun _ => (nI_ltI (by omega) (by omega)).mpr hx, Or.inl (by omega), by rw [if_pos (by omega), if_pos (by omega)]; omega, fun _ => hl, fun z => absurd z hne⟩
    · unfold lwS; rw [if_pos hx3]; rfl
    · unfold lwS; rw [if_pos hx3]
      exact ⟨fun z => (by cases z), tyP_up (Nat.le_refl _) hp⟩
    · unfold lwK; rw [if_pos hx3]; exact (nI_ltI (b := 1009) (by omega) (by decide)).mpr (by omega)
  · have hlo : 3000 ≤ x ∧ x ≤ 3009 := by rcases hc with ⟨z, -⟩ | ⟨z, -⟩ | ⟨z, -⟩ | ⟨z, -⟩ | ⟨z, -⟩ <;> omega
    have h31 : x < 2 ^ 31 := by omega
    have hx3 : ¬ nI x < (3000 : Int32) := fun z => by have := (nI_l3 h31).mp z; omega
    have rest : (nI x < 3000 → nI x < nI (1000 + u)) ∧ (x < 1009 ∨ (3000 ≤ x ∧ x ≤ 3009)) ∧ st.length ≤ 80 + 3 * (if x < 3000 then 0 else 1) + (if x < 3000 then 0 else st.length) ∧ (nI x < 3000 → st.length < 80) := ⟨fun z => absurd z hx3, Or.inr hlo, by rw [if_neg (by omega), if_neg (by omega)]; omega, fun z => absurd z hx3⟩
    rcases hc with ⟨z, t, e1, e2⟩ | ⟨z, t, e1, e2⟩ | ⟨z, t, e1, e2⟩ | ⟨z, t, e1, e2⟩ | ⟨z, t, e1, e2⟩
    · have h6 : nI x = (3006 : Int32) := (nI_e6 h31).mpr z
      have h9 : ¬ nI x = (3009 : Int32) := fun y => by have := (nI_e9 h31).mp y; omega
      rw [e1] at hp rest ⊢
      rw [e2]
      refine ⟨?_, ?_, ?_, rest.1, rest.2.1, rest.2.2.1, rest.2.2.2, fun y => absurd y h9⟩
      · unfold lwS; rw [if_neg hx3, if_pos h6]
      · unfold lwS; rw [if_neg hx3, if_pos h6]
        refine ⟨fun _ => ?_, tyP_up (Nat.le_refl _) hp.2⟩
        show b01 (upd f (t.length + 1 - 1) (1 - f (t.length + 1 - 1)) t.length)
        rw [show t.length + 1 - 1 = t.length from rfl, upd_at]
        rcases hp.1 rfl with y | y
        · rw [y]; exact Or.inr rfl
        · rw [y]; exact Or.inl rfl
      · unfold lwK; rw [if_neg hx3, if_pos h6]; exact Nat.le_add_left 1 _
    · have h9 : nI x = (3009 : Int32) := (nI_e9 h31).mpr z
      have h6 : ¬ nI x = (3006 : Int32) := fun y => by have := (nI_e6 h31).mp y; omega
      rw [e1] at hp rest ⊢
      rw [e2]
      refine ⟨?_, ?_, ?_, rest.1, rest.2.1, rest.2.2.1, rest.2.2.2, fun _ => hp.2.2.1 rfl⟩
      · unfold lwS; rw [if_neg hx3, if_neg h6, if_pos h9]; rfl
      · unfold lwS; rw [if_neg hx3, if_neg h6, if_pos h9]
        exact ⟨fun y => (by cases y), tyP_up (Nat.le_refl _) hp.2.2.2⟩
      · unfold lwK; rw [if_neg hx3, if_neg h6, if_pos h9]; exact Nat.le_add_left 3 _
    · have h9 : ¬ nI x = (3009 : Int32) := fun y => by have := (nI_e9 h31).mp y; omega
      have h6 : ¬ nI x = (3006 : Int32) := fun y => by have := (nI_e6 h31).mp y; omega
      rw [e1] at hp rest ⊢
      rw [e2]
      refine ⟨?_, ?_, ?_, rest.1, rest.2.1, rest.2.2.1, rest.2.2.2, fun y => absurd y h9⟩
      · unfold lwS; rw [if_neg hx3, if_neg h6, if_neg h9]; rfl
      · unfold lwS; rw [if_neg hx3, if_neg h6, if_neg h9]
        exact ⟨fun y => (by cases y), tyP_up (Nat.le_refl _) hp.2.2⟩
      · unfold lwK; rw [if_neg hx3, if_neg h6, if_neg h9]; exact Nat.le_add_left 2 _
    · have h9 : ¬ nI x = (3009 : Int32) := fun y => by have := (nI_e9 h31).mp y; omega
      have h6 : ¬ nI x = (3006 : Int32) := fun y => by have := (nI_e6 h31).mp y; omega
      rw [e1] at hp rest ⊢
      rw [e2]
      refine ⟨?_, ?_, ?_, rest.1, rest.2.1, rest.2.2.1, rest.2.2.2, fun y => absurd y h9⟩
      · unfold lwS; rw [if_neg hx3, if_neg h6, if_neg h9]; rfl
      · unfold lwS; rw [if_neg hx3, if_neg h6, if_neg h9]
        refine ⟨fun _ => ?_, tyP_up (Nat.le_refl _) hp.2.2⟩
        show b01 (upd f (t.length + 1 + 1 - 2) _ t.length)
        rw [show t.length + 1 + 1 - 2 = t.length from rfl, upd_at]
        exact lwB_01 z _ _
      · unfold lwK; rw [if_neg hx3, if_neg h6, if_neg h9]; exact Nat.le_add_left 2 _
    · have h9 : ¬ nI x = (3009 : Int32) := fun y => by have := (nI_e9 h31).mp y; omega
      have h6 : ¬ nI x = (3006 : Int32) := fun y => by have := (nI_e6 h31).mp y; omega
      rw [e1] at hp rest ⊢
      rw [e2]
      refine ⟨?_, ?_, ?_, rest.1, rest.2.1, rest.2.2.1, rest.2.2.2, fun y => absurd y h9⟩
      · unfold lwS; rw [if_neg hx3, if_neg h6, if_neg h9]; rfl
      · unfold lwS; rw [if_neg hx3, if_neg h6, if_neg h9]
        refine ⟨fun _ => ?_, tyP_up (Nat.le_refl _) hp.2.2⟩
        show b01 (upd f (t.length + 1 + 1 - 2) (lwB (nI x) (f (t.length + 1 + 1 - 2)) (f (t.length + 1 + 1 - 1))) t.length)
        rw [show t.length + 1 + 1 - 2 = t.length from rfl, upd_at]
        exact lwB_ao z (hp.2.1 rfl) (hp.1 rfl)
      · unfold lwK; rw [if_neg hx3, if_neg h6, if_neg h9]; exact Nat.le_add_left 2 _
theorem tyS_80 {u x : Nat} {st st' : List Bool} (h : tyS u x st = some st') (hs : st.length ≤ 80) : st'.length ≤ 80 := by
  rcases tyS_c h with ⟨hx, hl, e⟩ | ⟨hx, hc⟩
  · rw [e]; exact hl
  · rcases hc with ⟨z, t, e1, e2⟩ | ⟨z, t, e1, e2⟩ | ⟨z, t, e1, e2⟩ | ⟨z, t, e1, e2⟩ | ⟨z, t, e1, e2⟩ <;> (rw [e1] at hs; rw [e2]; simp only [List.length_cons] at hs ⊢; omega)
theorem tyE_cut {u : Nat} : ∀ {cs : List Nat} {st st2 : List Bool}, tyE u cs st = some st2 → ∀ j, j ≤ cs.length → ∃ s1, tyE u (cs.take j) st = some s1 ∧ (j < cs.length → ∃ s2, tyS u (cs.getD j 0) s1 = some s2 ∧ tyE u (cs.take (j + 1)) st = some s2)
  | [], st, st2, h, j, hj => ⟨st, by rw [List.take_nil]; rfl, fun z => absurd z (Nat.not_lt_zero j)⟩
  | x :: cs, st, st2, h, j, hj => by
    unfold tyE at h
    rcases hx : tyS u x st with _ | s
    · rw [hx] at h; cases h
    · rw [hx] at h
      cases j with
      | zero => exact ⟨st, rfl, fun _ => ⟨s, hx, by show (match tyS u x st with | none => none | some st' => tyE u (cs.take 0) st') = _; rw [hx]; rfl⟩⟩
      | succ j =>
        obtain ⟨s1, a1, a2⟩ := tyE_cut (cs := cs) (st := s) (st2 := st2) h j (by simp only [List.length_cons] at hj; omega)
        refine ⟨s1, ?_, fun z => ?_⟩
        · show (match tyS u x st with | none => none | some st' => tyE u (cs.take j) st') = _
          rw [hx]; exact a1
        · obtain ⟨s2, b1, b2⟩ := a2 (by simp only [List.length_cons] at z; omega)
          refine ⟨s2, b1, ?_⟩
          show (match tyS u x st with | none => none | some st' => tyE u (cs.take (j + 1)) st') = _
          rw [hx]; exact b2
/-- at each place of a law that is read -/
theorem ty_run {u : Nat} (hu : u ≤ 9) {cs : List Nat} {st2 : List Bool} (h : tyE u cs [] = some st2) {cd : Nat → Int32} (hcd : ∀ j, j < cs.length → cd j = nI (cs.getD j 0)) : ∀ j, j ≤ cs.length → ∃ s1, tyE u (cs.take j) [] = some s1 ∧ s1.length ≤ 80 ∧ ∀ wd f : Nat → Int32, (lwE wd cd j (0, f)).1 = s1.length ∧ tyP (lwE wd cd j (0, f)).2 s1
  | 0, _ => ⟨[], rfl, by decide, fun _ _ => ⟨rfl, trivial⟩⟩
  | j + 1, hj => by
    obtain ⟨s1, a1, a3, a2⟩ := ty_run hu h hcd j (by omega)
    obtain ⟨s1', b1, b2⟩ := tyE_cut h j (by omega)
    rw [a1] at b1
    have e := Option.some.inj b1
    subst e
    obtain ⟨s2, c1, c2⟩ := b2 (by omega)
    refine ⟨s2, c2, tyS_80 c1 a3, fun wd f => ?_⟩
    obtain ⟨d1, d2⟩ := a2 wd f
    have hs := ty_step hu c1 wd (lwE wd cd j (0, f)).2 d2
    have e2 : lwE wd cd (j + 1) (0, f) = lwS wd (nI (cs.getD j 0)) (s1.length, (lwE wd cd j (0, f)).2) := by
      show lwS wd (cd j) (lwE wd cd j (0, f)) = _
      rw [hcd j (by omega), ← d1]
    rw [e2]
    exact ⟨hs.1, hs.2.1⟩
theorem ty_law {u : Nat} (hu : u ≤ 9) {cs : List Nat} {b : Bool} (h : tyE u cs [] = some [b]) (hl : cs.length ≤ 900) {cd : Nat → Int32} (hcd : ∀ j, j < cs.length → cd j = nI (cs.getD j 0)) : lawOk (nI (1000 + u)) cd cs.length ∧ (b = true → ∀ wd, lvV wd cd cs.length = 0 ∨ lvV wd cd cs.length = 1) := by
  have hrun := ty_run hu h hcd
  have hstep : ∀ j, j < cs.length → ∃ s1 : List Bool, s1.length ≤ 80 ∧ lvH cd j = s1.length ∧ ∀ wd f : Nat → Int32, (lwE wd cd j (0, f)).1 = s1.length ∧ lwK (cd j) s1.length ∧ (cd j < 3000 → cd j < nI (1000 + u)) ∧ (cs.getD j 0 < 1009 ∨ (3000 ≤ cs.getD j 0 ∧ cs.getD j 0 ≤ 3009)) ∧ (cd j < 3000 → s1.length < 80) ∧ (cd j = 3009 → b01 ((lwE wd cd j (0, f)).2 (s1.length - 3))) := fun j hj => by
    obtain ⟨s1, a1, a3, a2⟩ := hrun j (by omega)
    obtain ⟨s1', b1, b2⟩ := tyE_cut h j (by omega)
    rw [a1] at b1
    have e := Option.some.inj b1
    subst e
    obtain ⟨s2, c1, c2⟩ := b2 hj
    refine ⟨s1, a3, ?_, fun wd f => ?_⟩
    · rw [← lwE_ht (fun _ => 0) cd (fun _ => 0) j]; exact (a2 _ _).1
    · obtain ⟨d1, d2⟩ := a2 wd f
      have hs := ty_step hu c1 wd (lwE wd cd j (0, f)).2 d2
      rw [← hcd j hj] at hs
      exact ⟨d1, hs.2.2.1, hs.2.2.2.1, hs.2.2.2.2.1, hs.2.2.2.2.2.2.1, hs.2.2.2.2.2.2.2⟩
  obtain ⟨se, e1, e3, e2⟩ := hrun cs.length (Nat.le_refl _)
  rw [List.take_length, h] at e1
  have ee := Option.some.inj e1
  subst ee
  have hH : lvH cd cs.length = 1 := by rw [← lwE_ht (fun _ => 0) cd (fun _ => 0) cs.length]; exact (e2 _ _).1
  have hW : lwW (nI (1000 + u)) cd cs.length := by
    refine ⟨fun j hj => ?_, by rw [hH]; decide⟩
    obtain ⟨s1, a1, a2, a3⟩ := hstep j hj
    have z := a3 (fun _ => 0) (fun _ => 0)
    rw [a2]
    exact ⟨z.2.1, z.2.2.1⟩
  refine ⟨⟨hW, fun j hj => ?_, fun j hj wd f => ?_, hl⟩, fun hb wd => ?_⟩
  · obtain ⟨s1, a1, a2, a3⟩ := hstep j hj
    exact ⟨cs.getD j 0, hcd j hj, (a3 (fun _ => 0) (fun _ => 0)).2.2.2.1⟩
  · obtain ⟨s1, a1, a2, a3⟩ := hstep j hj
    obtain ⟨z1, z2, z3, z4, z5, z6⟩ := a3 wd f
    rw [z1]
    exact ⟨a1, z5, z6⟩
  · have z := (e2 wd (fun _ => 0)).2.1 hb
    rw [← lvV_ok hW (fun _ => 0)]
    exact z
