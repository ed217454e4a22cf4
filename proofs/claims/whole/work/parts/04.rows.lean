/-! ===== entry and end of a method; rows of the instructions that leave the heap as it is ===== -/
theorem ab_mem_lv {G : ab_G} {ls : ab_L} {j : Nat} {u : Value} : (j, u) ∈ ab_lv G ls ↔ ∃ v, ls[j]? = some (some v) ∧ u = ab_re G v := by
  unfold ab_lv
  rw [List.mem_filterMap]
  constructor
  · rintro ⟨⟨ov, i⟩, hm, he⟩
    cases ov with
    | none => simp at he
    | some v =>
      simp only [Option.map_some, Option.some.injEq, Prod.mk.injEq] at he
      obtain ⟨rfl, rfl⟩ := he
      exact ⟨v, List.mk_mem_zipIdx_iff_getElem?.mp hm, rfl⟩
  · rintro ⟨v, hv, rfl⟩
    exact ⟨(some v, j), List.mk_mem_zipIdx_iff_getElem?.mpr hv, rfl⟩
theorem lv_weak {lc : Array Slot} {n : Nat} {l l' : List (Nat × Value)} (h : lv_has lc n l) (hs : ∀ q ∈ l', q ∈ l) : lv_has lc n l' := ⟨h.1, h.2.1, fun q hq => h.2.2 q (hs q hq)⟩
theorem ab_lget {G : ab_G} {lc : Array Slot} {n : Nat} {ls : ab_L} (h : lv_has lc n (ab_lv G ls)) {i : Nat} {v : Value} (hv : ls[i]? = some (some v)) : lc[i]? = some (.val (ab_re G v)) := h.2.2 (i, ab_re G v) (ab_mem_lv.mpr ⟨v, hv, rfl⟩)
def ab_kl (ls : ab_L) (i : Nat) : ab_L := match i with
  | 0 => ls
  | j + 1 => match ls[j]? with
    | some (some u) => if u.category = 2 then ls.set j none else ls
    | _ => ls
def ab_s1 (ls : ab_L) (i : Nat) (v : Value) : ab_L := (ab_kl ls i).set i (some v)
def ab_s2 (ls : ab_L) (i : Nat) (v : Value) : ab_L := ((ab_kl ls i).set i (some v)).set (i + 1) none
theorem ab_cat (G : ab_G) (v : Value) : (ab_re G v).category = v.category := by cases v <;> rfl
theorem ab_kl_get {ls : ab_L} {i j : Nat} {u : Value} (h : (ab_kl ls i)[j]? = some (some u)) : ls[j]? = some (some u) ∧ ¬ (j + 1 = i ∧ u.category = 2) := by
  unfold ab_kl at h
  split at h
  · exact ⟨h, fun q => by omega⟩
  · rename_i k
    split at h
    · rename_i u' hu
      split at h
      · by_cases hj : j = k
        · subst hj
          rw [List.getElem?_set_self (List.getElem?_eq_some_iff.mp hu).1] at h
          cases h
        · rw [List.getElem?_set_ne (Ne.symm hj)] at h
          exact ⟨h, fun q => hj (by omega)⟩
      · rename_i hc
        refine ⟨h, fun q => ?_⟩
        have hjk : j = k := by omega
        subst hjk
        rw [hu] at h
        cases h
        exact hc q.2
    · rename_i hno
      refine ⟨h, fun q => ?_⟩
      have hjk : j = k := by omega
      subst hjk
      exact hno u h
theorem ab_set1 {G : ab_G} {ls : ab_L} {i : Nat} {v : Value} : ∀ q ∈ ab_lv G (ab_s1 ls i v), q ∈ (i, ab_re G v) :: (ab_lv G ls).filter (fun q => !(q.1 == i) && !(q.1 + 1 == i && q.2.category == 2)) := by
  rintro ⟨j, u⟩ hq
  obtain ⟨x, hx, rfl⟩ := ab_mem_lv.mp hq
  unfold ab_s1 at hx
  by_cases hj : j = i
  · subst hj
    have hl : j < ((ab_kl ls j).set j (some v)).length := (List.getElem?_eq_some_iff.mp hx).1
    rw [List.length_set] at hl
    rw [List.getElem?_set_self hl] at hx
    cases hx
    exact List.mem_cons_self
  · rw [List.getElem?_set_ne (Ne.symm hj)] at hx
    obtain ⟨h1, h2⟩ := ab_kl_get hx
    refine List.mem_cons_of_mem _ (List.mem_filter.mpr ⟨ab_mem_lv.mpr ⟨x, h1, rfl⟩, ?_⟩)
    simp only [Bool.and_eq_true, Bool.not_eq_true', beq_eq_false_iff_ne, ne_eq, Bool.and_eq_false_iff, ab_cat]
    refine ⟨hj, ?_⟩
    by_cases hi : j + 1 = i
    · exact Or.inr (fun z => h2 ⟨hi, z⟩)
    · exact Or.inl hi
theorem ab_set2 {G : ab_G} {ls : ab_L} {i : Nat} {v : Value} : ∀ q ∈ ab_lv G (ab_s2 ls i v), q ∈ (i, ab_re G v) :: (ab_lv G ls).filter (fun q => !(q.1 == i) && (!(q.1 == i + 1) && !(q.1 + 1 == i && q.2.category == 2))) := by
  rintro ⟨j, u⟩ hq
  obtain ⟨x, hx, rfl⟩ := ab_mem_lv.mp hq
  unfold ab_s2 at hx
  by_cases hj1 : j = i + 1
  · subst hj1
    have hl : i + 1 < (((ab_kl ls i).set i (some v)).set (i + 1) none).length := (List.getElem?_eq_some_iff.mp hx).1
    rw [List.length_set] at hl
    rw [List.getElem?_set_self hl] at hx
    cases hx
  · rw [List.getElem?_set_ne (Ne.symm hj1)] at hx
    by_cases hj : j = i
    · subst hj
      have hl : j < ((ab_kl ls j).set j (some v)).length := (List.getElem?_eq_some_iff.mp hx).1
      rw [List.length_set] at hl
      rw [List.getElem?_set_self hl] at hx
      cases hx
      exact List.mem_cons_self
    · rw [List.getElem?_set_ne (Ne.symm hj)] at hx
      obtain ⟨h1, h2⟩ := ab_kl_get hx
      refine List.mem_cons_of_mem _ (List.mem_filter.mpr ⟨ab_mem_lv.mpr ⟨x, h1, rfl⟩, ?_⟩)
      simp only [Bool.and_eq_true, Bool.not_eq_true', beq_eq_false_iff_ne, ne_eq, Bool.and_eq_false_iff, ab_cat]
      refine ⟨hj, hj1, ?_⟩
      by_cases hi : j + 1 = i
      · exact Or.inr (fun z => h2 ⟨hi, z⟩)
      · exact Or.inl hi
def ab_Ex (G : ab_G) (d : Nat) (M : ab_M) (pc : Nat) (ls : ab_L) (st : List Value) (w : ab_H) (Q : Option Value → ab_H → Prop) : Prop := ∃ (v : Option Value) (w' : ab_H), ab_Go G d M pc ls st w v w' ∧ Q v w'
def ab_C (G : ab_G) (d : Nat) (M : ab_M) (as : List Value) (w : ab_H) (Q : Option Value → ab_H → Prop) : Prop := ∃ (v : Option Value) (w' : ab_H), ab_Runs G d M as w v w' ∧ Q v w'
theorem ab_fin {G : ab_G} {M : ab_M} {v : Option Value} {w' : ab_H} (hret : ab_rok M.2.2.2 v) {p : Program} {e : Env} {R : Room} {s : State} {m : MethodId} {args : Array Value} {below : List Frame} {meth : Method} {c : Code} {mc ms : Nat} (hx : p.tables.exec = Jvm.exec) (hb : c.code = M.2.1) (hr : meth.sig.returnType = M.2.2.2) (hlocks : meth.locks = false)
    {H' : Heap} {locs' : List Loc} {pc' : Nat} {ls' : Array Slot} (hR' : ab_R G w' H') (hS' : va_S (ab_A G) s.heap H' locs') (hends : ab_ends M pc' v) :
    W p G.1 e R s m args below meth c H' locs' mc ms (MQ below (fun _ st oc t => oc = .returned (v.map (ab_re G)) ∧ ab_R G w' t.heap ∧ va_F (ab_A G) st t) args s mc ms (ab_A G)) (F0 m pc' ls' (v.map (ab_re G)).toList) := by
  have hq : ∀ t : State, t.heap = H' → s.WarmedH t.vm → (fun (_ : Array Value) st oc t => oc = Outcome.returned (v.map (ab_re G)) ∧ ab_R G w' t.heap ∧ va_F (ab_A G) st t) args s (.returned (v.map (ab_re G))) t := fun t ht _ => ⟨rfl, by rw [ht]; exact hR', hS'.F ht⟩
  cases v with
  | none =>
    have hr2 : M.2.2.2 = none := by
      generalize M.2.2.2 = z at hret
      cases z with
      | none => rfl
      | some t => cases t <;> exact hret.elim
    exact W.vret hx hb (hr.trans hr2) hq hS'.2.2 hends
  | some u =>
    obtain ⟨ty, hty⟩ : ∃ ty, M.2.2.2 = some ty := by
      generalize M.2.2.2 = z at hret
      cases z with
      | none => cases u <;> exact hret.elim
      | some t => exact ⟨t, rfl⟩
    rw [hty] at hret
    cases u with
    | int x => exact W.zret (ty := ty) (v := x) hx hb (hr.trans hty) (by cases ty <;> exact hret) hq hS'.2.2 hends
    | long x =>
      have : ty = .long := by cases ty <;> first | rfl | exact hret.elim
      subst this
      exact W.lret (v := x) hx hb (hr.trans hty) hq hS'.2.2 hends
    | ref a => exact W.aret (rt := ty) (v := .ref (ab_al G a)) hx hb (hr.trans hty) (by cases ty <;> first | exact Or.inl ⟨_, rfl⟩ | exact Or.inr ⟨_, rfl⟩ | exact hret.elim) (Or.inr ⟨_, rfl⟩) hq hS'.2.2 hends
    | null => exact W.aret (rt := ty) (v := .null) hx hb (hr.trans hty) (by cases ty <;> first | exact Or.inl ⟨_, rfl⟩ | exact Or.inr ⟨_, rfl⟩ | exact hret.elim) (Or.inl rfl) hq hS'.2.2 hends
    | _ => exact hends.elim
theorem ab_enter {G : ab_G} {d : Nat} {M : ab_M} {as : List Value} {w : ab_H} {v : Option Value} {w' : ab_H} (hpl : plainName M.1.cls = true) (hlen : (lg_sl (ab_rs G as)).length ≤ M.2.2.1) (hret : ab_rok M.2.2.2 v) (ls : ab_L) (hls : ab_lv G ls = lv_args 0 (ab_rs G as)) (h : ab_Go G d M 0 ls [] w v w') : ab_Runs G d M as w v w' := by
  obtain ⟨g1, g2, g3, g⟩ := h
  refine ⟨g1, g2, g3, Met.ofW (cc := M.2.1) (maxL := M.2.2.1) (ret := M.2.2.2) hpl rfl ?_⟩
  intro p e s m args below meth c s₁ B hml hv
  obtain ⟨rfl, hAt, hR⟩ := hv
  have hts := atoms_spec (ws := ab_ws M) B.pre
  rw [lg_entry_eq]
  have hl := lv_entry (ab_rs G as) (n := M.2.2.1) hlen
  rw [← hls] at hl
  have hlocks : meth.locks = false := B.notSynchronized
  have key := g (headSpec (ab_ws M) (ab_rm d (w'.1.length - w.1.length) (w'.2 - w.2))).room p e s m (ab_rs G as).toArray below meth c w (MQ below (fun _ st oc t => oc = .returned (v.map (ab_re G)) ∧ ab_R G w' t.heap ∧ va_F (ab_A G) st t) (ab_rs G as).toArray s (w'.1.length - w.1.length) (w'.2 - w.2) (ab_A G))
    ⟨B.exec, B.bytes, B.returns, hlocks, hml, findClass_of_methodNamed B.named, fun hi => (name_of_methodNamed B.named B.method).1.trans hi, fun w hw => hts w (List.mem_cons_of_mem _ hw), hAt⟩ (Nat.le_refl d) (Nat.le_refl _) (Nat.le_refl _) (Nat.le_refl _) (Nat.le_refl _) (Nat.le_refl _)
    (fun H' locs' pc' ls' hR' hS' hends => ab_fin hret B.exec B.bytes B.returns hlocks hR' hS' hends) s.heap [] _ hR va_S.rf hl
  rw [Nat.sub_self, Nat.sub_self] at key
  exact key
theorem x_enter {G : ab_G} {d : Nat} {M : ab_M} {as : List Value} {w : ab_H} {Q : Option Value → ab_H → Prop} (ls : ab_L) (hpl : plainName M.1.cls = true) (hlen : (lg_sl (ab_rs G as)).length ≤ M.2.2.1) (hls : ab_lv G ls = lv_args 0 (ab_rs G as)) (hret : ∀ v w', Q v w' → ab_rok M.2.2.2 v) (h : ab_Ex G d M 0 ls [] w Q) : ab_C G d M as w Q := by
  obtain ⟨v, w', h, q⟩ := h
  exact ⟨v, w', ab_enter hpl hlen (hret v w' q) ls hls h, q⟩
theorem ab_C.mono {G : ab_G} {d : Nat} {M : ab_M} {as : List Value} {w : ab_H} {Q Q' : Option Value → ab_H → Prop} (h : ab_C G d M as w Q) (hq : ∀ v w', Q v w' → Q' v w') : ab_C G d M as w Q' := by
  obtain ⟨v, w', h, q⟩ := h
  exact ⟨v, w', h, hq v w' q⟩
/-- a step that leaves the heap as it is -/
theorem ab_sm {G : ab_G} {d : Nat} {M : ab_M} {pc pc' : Nat} {ls ls' : ab_L} {st st' : List Value} {w : ab_H} {Q : Option Value → ab_H → Prop}
    (hk : ∀ (R : Room) (p : Program) (e : Env) (s : State) (m : MethodId) (args : Array Value) (below : List Frame) (meth : Method) (c : Code) (Q : State → Prop) (H : Heap) (locs : List Loc) (cells slots : Nat) (lc : Array Slot), p.tables.exec = Jvm.exec → c.code = M.2.1 → s.vm.findClass M.1.cls = some m.cls → (∀ w ∈ ab_good, w.before args s = true) → ab_At G (w.1.take 50) s → ab_R G w H → va_S (ab_A G) s.heap H locs → lv_has lc M.2.2.1 (ab_lv G ls) →
      (∀ lc' : Array Slot, lv_has lc' M.2.2.1 (ab_lv G ls') → W p G.1 e R s m args below meth c H locs cells slots Q (F0 m pc' lc' (ab_rs G st'))) → W p G.1 e R s m args below meth c H locs cells slots Q (F0 m pc lc (ab_rs G st)))
    (h : ab_Ex G d M pc' ls' st' w Q) : ab_Ex G d M pc ls st w Q := by
  obtain ⟨v, w', ⟨g1, g2, g3, g⟩, q⟩ := h
  exact ⟨v, w', ⟨g1, g2, g3, fun R p e s m args below meth c w0 Q C hd hl hc hs h1 h2 hend H locs lc hR hS hlv =>
    hk R p e s m args below meth c Q H locs _ _ lc C.1 C.2.1 C.2.2.2.2.2.1 C.2.2.2.2.2.2.2.1 C.2.2.2.2.2.2.2.2 hR hS hlv (fun lc' hlv' => g R p e s m args below meth c w0 Q C hd hl hc hs h1 h2 hend H locs lc' hR hS hlv')⟩, q⟩
section ROWS
variable {G : ab_G} {d : Nat} {M : ab_M} {pc : Nat} {ls : ab_L} {st : List Value} {w : ab_H} {Q : Option Value → ab_H → Prop}
theorem x_iconst (pc' : Nat) {n : Int} (x : Int32) (hd : decode M.2.1 pc = .ok (.iconst n, 1)) (hp : pc + 1 = pc') (hv : Int32.ofInt n = x) (h : ab_Ex G d M pc' ls (.int x :: st) w Q) : ab_Ex G d M pc ls (st) w Q := by
  subst hp
  exact ab_sm (fun R p e s m args below meth c Q H locs cells slots lc hx hb ho ht hAt hR hS hlv k => lv_iconst hx hb hd hv (k lc hlv)) h
theorem x_bipush (pc' : Nat) {n : Int} (x : Int32) (hd : decode M.2.1 pc = .ok (.bipush n, 2)) (hp : pc + 2 = pc') (hv : (Int8.ofInt n).toInt32 = x) (h : ab_Ex G d M pc' ls (.int x :: st) w Q) : ab_Ex G d M pc ls (st) w Q := by
  subst hp
  exact ab_sm (fun R p e s m args below meth c Q H locs cells slots lc hx hb ho ht hAt hR hS hlv k => lv_bipush hx hb hd hv (k lc hlv)) h
theorem x_sipush (pc' : Nat) {n : Int} (x : Int32) (hd : decode M.2.1 pc = .ok (.sipush n, 3)) (hp : pc + 3 = pc') (hv : (Int16.ofInt n).toInt32 = x) (h : ab_Ex G d M pc' ls (.int x :: st) w Q) : ab_Ex G d M pc ls (st) w Q := by
  subst hp
  exact ab_sm (fun R p e s m args below meth c Q H locs cells slots lc hx hb ho ht hAt hR hS hlv k => lv_sipush hx hb hd hv (k lc hlv)) h
theorem x_lconst (pc' : Nat) {n : Fin 2} (x : Int64) (hd : decode M.2.1 pc = .ok (.lconst n, 1)) (hp : pc + 1 = pc') (hv : Int64.ofNat (n : Nat) = x) (h : ab_Ex G d M pc' ls (.long x :: st) w Q) : ab_Ex G d M pc ls (st) w Q := by
  subst hp
  exact ab_sm (fun R p e s m args below meth c Q H locs cells slots lc hx hb ho ht hAt hR hS hlv k => lv_lconst hx hb hd hv (k lc hlv)) h
theorem x_null (pc' : Nat) (hd : decode M.2.1 pc = .ok (.aconst_null, 1)) (hp : pc + 1 = pc') (h : ab_Ex G d M pc' ls (.null :: st) w Q) : ab_Ex G d M pc ls (st) w Q := by
  subst hp
  exact ab_sm (fun R p e s m args below meth c Q H locs cells slots lc hx hb ho ht hAt hR hS hlv k => lv_null hx hb hd (k lc hlv)) h
theorem x_iload_n (pc' : Nat) {j : Fin 4} (i : Nat) {x : Int32} (hd : decode M.2.1 pc = .ok (.iload_n j, 1)) (hp : pc + 1 = pc') (hi : (j : Nat) = i) (hl : ls[i]? = some (some (.int x))) (h : ab_Ex G d M pc' ls (.int x :: st) w Q) : ab_Ex G d M pc ls (st) w Q := by
  subst hp
  exact ab_sm (fun R p e s m args below meth c Q H locs cells slots lc hx hb ho ht hAt hR hS hlv k => lv_iload_n hx hb hd hi (ab_lget hlv hl) (k lc hlv)) h
theorem x_iload (pc' : Nat) (i : Nat) {x : Int32} (hd : decode M.2.1 pc = .ok (.iload i, 2)) (hp : pc + 2 = pc') (hl : ls[i]? = some (some (.int x))) (h : ab_Ex G d M pc' ls (.int x :: st) w Q) : ab_Ex G d M pc ls (st) w Q := by
  subst hp
  exact ab_sm (fun R p e s m args below meth c Q H locs cells slots lc hx hb ho ht hAt hR hS hlv k => lv_iload hx hb hd (ab_lget hlv hl) (k lc hlv)) h
theorem x_lload_n (pc' : Nat) {j : Fin 4} (i : Nat) {x : Int64} (hd : decode M.2.1 pc = .ok (.lload_n j, 1)) (hp : pc + 1 = pc') (hi : (j : Nat) = i) (hl : ls[i]? = some (some (.long x))) (h : ab_Ex G d M pc' ls (.long x :: st) w Q) : ab_Ex G d M pc ls (st) w Q := by
  subst hp
  exact ab_sm (fun R p e s m args below meth c Q H locs cells slots lc hx hb ho ht hAt hR hS hlv k => lv_lload_n hx hb hd hi (ab_lget hlv hl) (k lc hlv)) h
theorem x_lload (pc' : Nat) (i : Nat) {x : Int64} (hd : decode M.2.1 pc = .ok (.lload i, 2)) (hp : pc + 2 = pc') (hl : ls[i]? = some (some (.long x))) (h : ab_Ex G d M pc' ls (.long x :: st) w Q) : ab_Ex G d M pc ls (st) w Q := by
  subst hp
  exact ab_sm (fun R p e s m args below meth c Q H locs cells slots lc hx hb ho ht hAt hR hS hlv k => lv_lload hx hb hd (ab_lget hlv hl) (k lc hlv)) h
theorem x_aload_n (pc' : Nat) {j : Fin 4} (i : Nat) {x : Nat} (hd : decode M.2.1 pc = .ok (.aload_n j, 1)) (hp : pc + 1 = pc') (hi : (j : Nat) = i) (hl : ls[i]? = some (some (.ref x))) (h : ab_Ex G d M pc' ls (.ref x :: st) w Q) : ab_Ex G d M pc ls (st) w Q := by
  subst hp
  exact ab_sm (fun R p e s m args below meth c Q H locs cells slots lc hx hb ho ht hAt hR hS hlv k => lv_aload_n hx hb hd hi (ab_lget hlv hl) (k lc hlv)) h
theorem x_aload (pc' : Nat) (i : Nat) {x : Nat} (hd : decode M.2.1 pc = .ok (.aload i, 2)) (hp : pc + 2 = pc') (hl : ls[i]? = some (some (.ref x))) (h : ab_Ex G d M pc' ls (.ref x :: st) w Q) : ab_Ex G d M pc ls (st) w Q := by
  subst hp
  exact ab_sm (fun R p e s m args below meth c Q H locs cells slots lc hx hb ho ht hAt hR hS hlv k => lv_aload hx hb hd (ab_lget hlv hl) (k lc hlv)) h
theorem x_aload_nN (pc' : Nat) {j : Fin 4} (i : Nat) (hd : decode M.2.1 pc = .ok (.aload_n j, 1)) (hp : pc + 1 = pc') (hi : (j : Nat) = i) (hl : ls[i]? = some (some .null)) (h : ab_Ex G d M pc' ls (.null :: st) w Q) : ab_Ex G d M pc ls (st) w Q := by
  subst hp
  exact ab_sm (fun R p e s m args below meth c Q H locs cells slots lc hx hb ho ht hAt hR hS hlv k => lv_aload_nN hx hb hd hi (ab_lget hlv hl) (k lc hlv)) h
theorem x_aloadN (pc' : Nat) (i : Nat) (hd : decode M.2.1 pc = .ok (.aload i, 2)) (hp : pc + 2 = pc') (hl : ls[i]? = some (some .null)) (h : ab_Ex G d M pc' ls (.null :: st) w Q) : ab_Ex G d M pc ls (st) w Q := by
  subst hp
  exact ab_sm (fun R p e s m args below meth c Q H locs cells slots lc hx hb ho ht hAt hR hS hlv k => lv_aloadN hx hb hd (ab_lget hlv hl) (k lc hlv)) h
theorem x_istore_n (pc' : Nat) (ls' : ab_L) {j : Fin 4} (i : Nat) {x : Int32} (hd : decode M.2.1 pc = .ok (.istore_n j, 1)) (hp : pc + 1 = pc') (hi : (j : Nat) = i) (hn : i < M.2.2.1) (hl : ab_s1 ls i (.int x) = ls') (h : ab_Ex G d M pc' ls' st w Q) : ab_Ex G d M pc ls (.int x :: st) w Q := by
  subst hp; subst hl
  exact ab_sm (fun R p e s m args below meth c Q H locs cells slots lc hx hb ho ht hAt hR hS hlv k => lv_istore_n hx hb hd hi hlv hn rfl (fun lc' h' => k lc' (lv_weak h' ab_set1))) h
theorem x_istore (pc' : Nat) (ls' : ab_L) (i : Nat) {x : Int32} (hd : decode M.2.1 pc = .ok (.istore i, 2)) (hp : pc + 2 = pc') (hn : i < M.2.2.1) (hl : ab_s1 ls i (.int x) = ls') (h : ab_Ex G d M pc' ls' st w Q) : ab_Ex G d M pc ls (.int x :: st) w Q := by
  subst hp; subst hl
  exact ab_sm (fun R p e s m args below meth c Q H locs cells slots lc hx hb ho ht hAt hR hS hlv k => lv_istore hx hb hd hlv hn rfl (fun lc' h' => k lc' (lv_weak h' ab_set1))) h
theorem x_lstore_n (pc' : Nat) (ls' : ab_L) {j : Fin 4} (i : Nat) {x : Int64} (hd : decode M.2.1 pc = .ok (.lstore_n j, 1)) (hp : pc + 1 = pc') (hi : (j : Nat) = i) (hn : i + 1 < M.2.2.1) (hl : ab_s2 ls i (.long x) = ls') (h : ab_Ex G d M pc' ls' st w Q) : ab_Ex G d M pc ls (.long x :: st) w Q := by
  subst hp; subst hl
  exact ab_sm (fun R p e s m args below meth c Q H locs cells slots lc hx hb ho ht hAt hR hS hlv k => lv_lstore_n hx hb hd hi hlv hn rfl (fun lc' h' => k lc' (lv_weak h' ab_set2))) h
theorem x_lstore (pc' : Nat) (ls' : ab_L) (i : Nat) {x : Int64} (hd : decode M.2.1 pc = .ok (.lstore i, 2)) (hp : pc + 2 = pc') (hn : i + 1 < M.2.2.1) (hl : ab_s2 ls i (.long x) = ls') (h : ab_Ex G d M pc' ls' st w Q) : ab_Ex G d M pc ls (.long x :: st) w Q := by
  subst hp; subst hl
  exact ab_sm (fun R p e s m args below meth c Q H locs cells slots lc hx hb ho ht hAt hR hS hlv k => lv_lstore hx hb hd hlv hn rfl (fun lc' h' => k lc' (lv_weak h' ab_set2))) h
theorem x_astore_n (pc' : Nat) (ls' : ab_L) {j : Fin 4} (i : Nat) {x : Nat} (hd : decode M.2.1 pc = .ok (.astore_n j, 1)) (hp : pc + 1 = pc') (hi : (j : Nat) = i) (hn : i < M.2.2.1) (hl : ab_s1 ls i (.ref x) = ls') (h : ab_Ex G d M pc' ls' st w Q) : ab_Ex G d M pc ls (.ref x :: st) w Q := by
  subst hp; subst hl
  exact ab_sm (fun R p e s m args below meth c Q H locs cells slots lc hx hb ho ht hAt hR hS hlv k => lv_astore_n hx hb hd hi hlv hn rfl (fun lc' h' => k lc' (lv_weak h' ab_set1))) h
theorem x_astore (pc' : Nat) (ls' : ab_L) (i : Nat) {x : Nat} (hd : decode M.2.1 pc = .ok (.astore i, 2)) (hp : pc + 2 = pc') (hn : i < M.2.2.1) (hl : ab_s1 ls i (.ref x) = ls') (h : ab_Ex G d M pc' ls' st w Q) : ab_Ex G d M pc ls (.ref x :: st) w Q := by
  subst hp; subst hl
  exact ab_sm (fun R p e s m args below meth c Q H locs cells slots lc hx hb ho ht hAt hR hS hlv k => lv_astore hx hb hd hlv hn rfl (fun lc' h' => k lc' (lv_weak h' ab_set1))) h
theorem x_astore_nN (pc' : Nat) (ls' : ab_L) {j : Fin 4} (i : Nat) (hd : decode M.2.1 pc = .ok (.astore_n j, 1)) (hp : pc + 1 = pc') (hi : (j : Nat) = i) (hn : i < M.2.2.1) (hl : ab_s1 ls i (.null) = ls') (h : ab_Ex G d M pc' ls' st w Q) : ab_Ex G d M pc ls (.null :: st) w Q := by
  subst hp; subst hl
  exact ab_sm (fun R p e s m args below meth c Q H locs cells slots lc hx hb ho ht hAt hR hS hlv k => lv_astore_nN hx hb hd hi hlv hn rfl (fun lc' h' => k lc' (lv_weak h' ab_set1))) h
theorem x_astoreN (pc' : Nat) (ls' : ab_L) (i : Nat) (hd : decode M.2.1 pc = .ok (.astore i, 2)) (hp : pc + 2 = pc') (hn : i < M.2.2.1) (hl : ab_s1 ls i (.null) = ls') (h : ab_Ex G d M pc' ls' st w Q) : ab_Ex G d M pc ls (.null :: st) w Q := by
  subst hp; subst hl
  exact ab_sm (fun R p e s m args below meth c Q H locs cells slots lc hx hb ho ht hAt hR hS hlv k => lv_astoreN hx hb hd hlv hn rfl (fun lc' h' => k lc' (lv_weak h' ab_set1))) h
theorem x_iinc (pc' : Nat) (ls' : ab_L) (i : Nat) {n : Int} {x : Int32} (y : Int32) (hd : decode M.2.1 pc = .ok (.iinc i n, 3)) (hp : pc + 3 = pc') (hn : i < M.2.2.1) (hx0 : ls[i]? = some (some (.int x))) (hy : x + Int32.ofInt n = y) (hl : ab_s1 ls i (.int y) = ls') (h : ab_Ex G d M pc' ls' st w Q) : ab_Ex G d M pc ls st w Q := by
  subst hp; subst hl
  refine ab_sm (fun R p e s m args below meth c Q H locs cells slots lc hx hb ho ht hAt hR hS hlv k => ?_) h
  obtain ⟨j, hj⟩ := List.getElem?_of_mem (ab_mem_lv.mpr ⟨_, hx0, rfl⟩ : (i, ab_re G (.int x)) ∈ ab_lv G ls)
  exact lv_iinc hx hb hd hlv hj hy hn rfl (fun lc' h' => k lc' (lv_weak h' ab_set1))
theorem x_iadd (pc' : Nat) {x y : Int32} (hd : decode M.2.1 pc = .ok (.iadd, 1)) (hp : pc + 1 = pc') (h : ab_Ex G d M pc' ls (.int (x + y) :: st) w Q) : ab_Ex G d M pc ls (.int y :: .int x :: st) w Q := by
  subst hp
  exact ab_sm (fun R p e s m args below meth c Q H locs cells slots lc hx hb ho ht hAt hR hS hlv k => lv_iadd hx hb hd (k lc hlv)) h
theorem x_isub (pc' : Nat) {x y : Int32} (hd : decode M.2.1 pc = .ok (.isub, 1)) (hp : pc + 1 = pc') (h : ab_Ex G d M pc' ls (.int (x - y) :: st) w Q) : ab_Ex G d M pc ls (.int y :: .int x :: st) w Q := by
  subst hp
  exact ab_sm (fun R p e s m args below meth c Q H locs cells slots lc hx hb ho ht hAt hR hS hlv k => lv_isub hx hb hd (k lc hlv)) h
theorem x_imul (pc' : Nat) {x y : Int32} (hd : decode M.2.1 pc = .ok (.imul, 1)) (hp : pc + 1 = pc') (h : ab_Ex G d M pc' ls (.int (x * y) :: st) w Q) : ab_Ex G d M pc ls (.int y :: .int x :: st) w Q := by
  subst hp
  exact ab_sm (fun R p e s m args below meth c Q H locs cells slots lc hx hb ho ht hAt hR hS hlv k => lv_imul hx hb hd (k lc hlv)) h
theorem x_iand (pc' : Nat) {x y : Int32} (hd : decode M.2.1 pc = .ok (.iand, 1)) (hp : pc + 1 = pc') (h : ab_Ex G d M pc' ls (.int (x &&& y) :: st) w Q) : ab_Ex G d M pc ls (.int y :: .int x :: st) w Q := by
  subst hp
  exact ab_sm (fun R p e s m args below meth c Q H locs cells slots lc hx hb ho ht hAt hR hS hlv k => lv_iand hx hb hd (k lc hlv)) h
theorem x_ior (pc' : Nat) {x y : Int32} (hd : decode M.2.1 pc = .ok (.ior, 1)) (hp : pc + 1 = pc') (h : ab_Ex G d M pc' ls (.int (x ||| y) :: st) w Q) : ab_Ex G d M pc ls (.int y :: .int x :: st) w Q := by
  subst hp
  exact ab_sm (fun R p e s m args below meth c Q H locs cells slots lc hx hb ho ht hAt hR hS hlv k => lv_ior hx hb hd (k lc hlv)) h
theorem x_ixor (pc' : Nat) {x y : Int32} (hd : decode M.2.1 pc = .ok (.ixor, 1)) (hp : pc + 1 = pc') (h : ab_Ex G d M pc' ls (.int (x ^^^ y) :: st) w Q) : ab_Ex G d M pc ls (.int y :: .int x :: st) w Q := by
  subst hp
  exact ab_sm (fun R p e s m args below meth c Q H locs cells slots lc hx hb ho ht hAt hR hS hlv k => lv_ixor hx hb hd (k lc hlv)) h
theorem x_ishl (pc' : Nat) {x y : Int32} (hd : decode M.2.1 pc = .ok (.ishl, 1)) (hp : pc + 1 = pc') (h : ab_Ex G d M pc' ls (.int (x <<< (y &&& 31)) :: st) w Q) : ab_Ex G d M pc ls (.int y :: .int x :: st) w Q := by
  subst hp
  exact ab_sm (fun R p e s m args below meth c Q H locs cells slots lc hx hb ho ht hAt hR hS hlv k => lv_ishl hx hb hd (k lc hlv)) h
theorem x_ishr (pc' : Nat) {x y : Int32} (hd : decode M.2.1 pc = .ok (.ishr, 1)) (hp : pc + 1 = pc') (h : ab_Ex G d M pc' ls (.int (x >>> (y &&& 31)) :: st) w Q) : ab_Ex G d M pc ls (.int y :: .int x :: st) w Q := by
  subst hp
  exact ab_sm (fun R p e s m args below meth c Q H locs cells slots lc hx hb ho ht hAt hR hS hlv k => lv_ishr hx hb hd (k lc hlv)) h
theorem x_ladd (pc' : Nat) {x y : Int64} (hd : decode M.2.1 pc = .ok (.ladd, 1)) (hp : pc + 1 = pc') (h : ab_Ex G d M pc' ls (.long (x + y) :: st) w Q) : ab_Ex G d M pc ls (.long y :: .long x :: st) w Q := by
  subst hp
  exact ab_sm (fun R p e s m args below meth c Q H locs cells slots lc hx hb ho ht hAt hR hS hlv k => lv_ladd hx hb hd (k lc hlv)) h
theorem x_lsub (pc' : Nat) {x y : Int64} (hd : decode M.2.1 pc = .ok (.lsub, 1)) (hp : pc + 1 = pc') (h : ab_Ex G d M pc' ls (.long (x - y) :: st) w Q) : ab_Ex G d M pc ls (.long y :: .long x :: st) w Q := by
  subst hp
  exact ab_sm (fun R p e s m args below meth c Q H locs cells slots lc hx hb ho ht hAt hR hS hlv k => lv_lsub hx hb hd (k lc hlv)) h
theorem x_lmul (pc' : Nat) {x y : Int64} (hd : decode M.2.1 pc = .ok (.lmul, 1)) (hp : pc + 1 = pc') (h : ab_Ex G d M pc' ls (.long (x * y) :: st) w Q) : ab_Ex G d M pc ls (.long y :: .long x :: st) w Q := by
  subst hp
  exact ab_sm (fun R p e s m args below meth c Q H locs cells slots lc hx hb ho ht hAt hR hS hlv k => lv_lmul hx hb hd (k lc hlv)) h
theorem x_land (pc' : Nat) {x y : Int64} (hd : decode M.2.1 pc = .ok (.land, 1)) (hp : pc + 1 = pc') (h : ab_Ex G d M pc' ls (.long (x &&& y) :: st) w Q) : ab_Ex G d M pc ls (.long y :: .long x :: st) w Q := by
  subst hp
  exact ab_sm (fun R p e s m args below meth c Q H locs cells slots lc hx hb ho ht hAt hR hS hlv k => lv_land hx hb hd (k lc hlv)) h
theorem x_lor (pc' : Nat) {x y : Int64} (hd : decode M.2.1 pc = .ok (.lor, 1)) (hp : pc + 1 = pc') (h : ab_Ex G d M pc' ls (.long (x ||| y) :: st) w Q) : ab_Ex G d M pc ls (.long y :: .long x :: st) w Q := by
  subst hp
  exact ab_sm (fun R p e s m args below meth c Q H locs cells slots lc hx hb ho ht hAt hR hS hlv k => lv_lor hx hb hd (k lc hlv)) h
theorem x_idiv (pc' : Nat) {x y : Int32} (hd : decode M.2.1 pc = .ok (.idiv, 1)) (hp : pc + 1 = pc') (hne : ¬ y = 0) (h : ab_Ex G d M pc' ls (.int (x / y) :: st) w Q) : ab_Ex G d M pc ls (.int y :: .int x :: st) w Q := by
  subst hp
  exact ab_sm (fun R p e s m args below meth c Q H locs cells slots lc hx hb ho ht hAt hR hS hlv k => lv_idiv hx hb hd hne (k lc hlv)) h
theorem x_irem (pc' : Nat) {x y : Int32} (hd : decode M.2.1 pc = .ok (.irem, 1)) (hp : pc + 1 = pc') (hne : ¬ y = 0) (h : ab_Ex G d M pc' ls (.int (x - x / y * y) :: st) w Q) : ab_Ex G d M pc ls (.int y :: .int x :: st) w Q := by
  subst hp
  exact ab_sm (fun R p e s m args below meth c Q H locs cells slots lc hx hb ho ht hAt hR hS hlv k => lv_irem hx hb hd hne (k lc hlv)) h
theorem x_ldiv (pc' : Nat) {x y : Int64} (hd : decode M.2.1 pc = .ok (.ldiv, 1)) (hp : pc + 1 = pc') (hne : ¬ y = 0) (h : ab_Ex G d M pc' ls (.long (x / y) :: st) w Q) : ab_Ex G d M pc ls (.long y :: .long x :: st) w Q := by
  subst hp
  exact ab_sm (fun R p e s m args below meth c Q H locs cells slots lc hx hb ho ht hAt hR hS hlv k => lv_ldiv hx hb hd hne (k lc hlv)) h
theorem x_lrem (pc' : Nat) {x y : Int64} (hd : decode M.2.1 pc = .ok (.lrem, 1)) (hp : pc + 1 = pc') (hne : ¬ y = 0) (h : ab_Ex G d M pc' ls (.long (x - x / y * y) :: st) w Q) : ab_Ex G d M pc ls (.long y :: .long x :: st) w Q := by
  subst hp
  exact ab_sm (fun R p e s m args below meth c Q H locs cells slots lc hx hb ho ht hAt hR hS hlv k => lv_lrem hx hb hd hne (k lc hlv)) h
theorem x_ineg (pc' : Nat) {x : Int32} (hd : decode M.2.1 pc = .ok (.ineg, 1)) (hp : pc + 1 = pc') (h : ab_Ex G d M pc' ls (.int (-x) :: st) w Q) : ab_Ex G d M pc ls (.int x :: st) w Q := by
  subst hp
  exact ab_sm (fun R p e s m args below meth c Q H locs cells slots lc hx hb ho ht hAt hR hS hlv k => lv_ineg hx hb hd (k lc hlv)) h
theorem x_i2l (pc' : Nat) {x : Int32} (hd : decode M.2.1 pc = .ok (.i2l, 1)) (hp : pc + 1 = pc') (h : ab_Ex G d M pc' ls (.long (x.toInt64) :: st) w Q) : ab_Ex G d M pc ls (.int x :: st) w Q := by
  subst hp
  exact ab_sm (fun R p e s m args below meth c Q H locs cells slots lc hx hb ho ht hAt hR hS hlv k => lv_i2l hx hb hd rfl (k lc hlv)) h
theorem x_l2i (pc' : Nat) {x : Int64} (hd : decode M.2.1 pc = .ok (.l2i, 1)) (hp : pc + 1 = pc') (h : ab_Ex G d M pc' ls (.int (x.toInt32) :: st) w Q) : ab_Ex G d M pc ls (.long x :: st) w Q := by
  subst hp
  exact ab_sm (fun R p e s m args below meth c Q H locs cells slots lc hx hb ho ht hAt hR hS hlv k => lv_l2i hx hb hd rfl (k lc hlv)) h
theorem x_i2b (pc' : Nat) {x : Int32} (hd : decode M.2.1 pc = .ok (.i2b, 1)) (hp : pc + 1 = pc') (h : ab_Ex G d M pc' ls (.int (x.toInt8.toInt32) :: st) w Q) : ab_Ex G d M pc ls (.int x :: st) w Q := by
  subst hp
  exact ab_sm (fun R p e s m args below meth c Q H locs cells slots lc hx hb ho ht hAt hR hS hlv k => lv_i2b hx hb hd rfl (k lc hlv)) h
theorem x_i2s (pc' : Nat) {x : Int32} (hd : decode M.2.1 pc = .ok (.i2s, 1)) (hp : pc + 1 = pc') (h : ab_Ex G d M pc' ls (.int (x.toInt16.toInt32) :: st) w Q) : ab_Ex G d M pc ls (.int x :: st) w Q := by
  subst hp
  exact ab_sm (fun R p e s m args below meth c Q H locs cells slots lc hx hb ho ht hAt hR hS hlv k => lv_i2s hx hb hd rfl (k lc hlv)) h
theorem x_i2c (pc' : Nat) {x : Int32} (hd : decode M.2.1 pc = .ok (.i2c, 1)) (hp : pc + 1 = pc') (h : ab_Ex G d M pc' ls (.int ((x.toUInt32 % 65536).toInt32) :: st) w Q) : ab_Ex G d M pc ls (.int x :: st) w Q := by
  subst hp
  exact ab_sm (fun R p e s m args below meth c Q H locs cells slots lc hx hb ho ht hAt hR hS hlv k => lv_i2c hx hb hd rfl (k lc hlv)) h
theorem x_iushr (pc' : Nat) {x y : Int32} (hd : decode M.2.1 pc = .ok (.iushr, 1)) (hp : pc + 1 = pc') (h : ab_Ex G d M pc' ls (.int ((x.toUInt32 >>> (y.toUInt32 &&& Int32.toUInt32 31)).toInt32) :: st) w Q) : ab_Ex G d M pc ls (.int y :: .int x :: st) w Q := by
  subst hp
  exact ab_sm (fun R p e s m args below meth c Q H locs cells slots lc hx hb ho ht hAt hR hS hlv k => lv_iushr hx hb hd rfl (k lc hlv)) h
theorem x_lshl (pc' : Nat) {x : Int64} {y : Int32} (hd : decode M.2.1 pc = .ok (.lshl, 1)) (hp : pc + 1 = pc') (h : ab_Ex G d M pc' ls (.long (x <<< (y.toInt64 &&& 63)) :: st) w Q) : ab_Ex G d M pc ls (.int y :: .long x :: st) w Q := by
  subst hp
  exact ab_sm (fun R p e s m args below meth c Q H locs cells slots lc hx hb ho ht hAt hR hS hlv k => lv_lshl hx hb hd rfl (k lc hlv)) h
theorem x_lshr (pc' : Nat) {x : Int64} {y : Int32} (hd : decode M.2.1 pc = .ok (.lshr, 1)) (hp : pc + 1 = pc') (h : ab_Ex G d M pc' ls (.long (x >>> (y.toInt64 &&& 63)) :: st) w Q) : ab_Ex G d M pc ls (.int y :: .long x :: st) w Q := by
  subst hp
  exact ab_sm (fun R p e s m args below meth c Q H locs cells slots lc hx hb ho ht hAt hR hS hlv k => lv_lshr hx hb hd rfl (k lc hlv)) h
theorem x_lcmp (pc' : Nat) {x y : Int64} (hd : decode M.2.1 pc = .ok (.lcmp, 1)) (hp : pc + 1 = pc') (h : ab_Ex G d M pc' ls (.int (lg_cmp x y) :: st) w Q) : ab_Ex G d M pc ls (.long y :: .long x :: st) w Q := by
  subst hp
  exact ab_sm (fun R p e s m args below meth c Q H locs cells slots lc hx hb ho ht hAt hR hS hlv k => W.lcmp hx hb hd (k lc hlv)) h
theorem x_dup (pc' : Nat) {a : Value} (hd : decode M.2.1 pc = .ok (.dup, 1)) (hp : pc + 1 = pc') (ha : a.category = 1) (h : ab_Ex G d M pc' ls (a :: a :: st) w Q) : ab_Ex G d M pc ls (a :: st) w Q := by
  subst hp
  exact ab_sm (fun R p e s m args below meth c Q H locs cells slots lc hx hb ho ht hAt hR hS hlv k => lv_dup hx hb hd ((ab_cat G a).trans ha) (k lc hlv)) h
theorem x_pop (pc' : Nat) {a : Value} (hd : decode M.2.1 pc = .ok (.pop, 1)) (hp : pc + 1 = pc') (ha : a.category = 1) (h : ab_Ex G d M pc' ls (st) w Q) : ab_Ex G d M pc ls (a :: st) w Q := by
  subst hp
  exact ab_sm (fun R p e s m args below meth c Q H locs cells slots lc hx hb ho ht hAt hR hS hlv k => lv_pop hx hb hd ((ab_cat G a).trans ha) (k lc hlv)) h
theorem x_dup2 (pc' : Nat) {a b : Value} (hd : decode M.2.1 pc = .ok (.dup2, 1)) (hp : pc + 1 = pc') (ha : a.category = 1) (hb2 : b.category = 1) (h : ab_Ex G d M pc' ls (a :: b :: a :: b :: st) w Q) : ab_Ex G d M pc ls (a :: b :: st) w Q := by
  subst hp
  exact ab_sm (fun R p e s m args below meth c Q H locs cells slots lc hx hb ho ht hAt hR hS hlv k => lv_dup2_11 hx hb hd ((ab_cat G a).trans ha) ((ab_cat G b).trans hb2) (k lc hlv)) h
theorem x_dup2L (pc' : Nat) {a : Value} (hd : decode M.2.1 pc = .ok (.dup2, 1)) (hp : pc + 1 = pc') (ha : a.category = 2) (h : ab_Ex G d M pc' ls (a :: a :: st) w Q) : ab_Ex G d M pc ls (a :: st) w Q := by
  subst hp
  exact ab_sm (fun R p e s m args below meth c Q H locs cells slots lc hx hb ho ht hAt hR hS hlv k => lv_dup2_2 hx hb hd ((ab_cat G a).trans ha) (k lc hlv)) h
theorem x_goto (tgt : Nat) {off : Int} (hd : decode M.2.1 pc = .ok (.goto off, 3)) (ht0 : (pc : Int) + off = (tgt : Int)) (h : ab_Ex G d M tgt ls st w Q) : ab_Ex G d M pc ls st w Q :=
  ab_sm (fun R p e s m args below meth c Q H locs cells slots lc hx hb ho ht hAt hR hS hlv k => lv_goto hx hb hd ht0 (k lc hlv)) h
theorem x_if_eq_t (tgt : Nat) {x : Int32} {off : Int} (hd : decode M.2.1 pc = .ok (.ifCond .eq off, 3)) (ht0 : (pc : Int) + off = (tgt : Int)) (hc : x = 0) (h : ab_Ex G d M tgt ls st w Q) : ab_Ex G d M pc ls (.int x :: st) w Q :=
  ab_sm (fun R p e s m args below meth c Q H locs cells slots lc hx hb ho ht hAt hR hS hlv k => lv_if_eq hx hb hd ht0 (fun _ => k lc hlv) (fun hn => absurd hc hn)) h
theorem x_if_eq_f (pc' : Nat) {x : Int32} {off : Int} (hd : decode M.2.1 pc = .ok (.ifCond .eq off, 3)) (hp : pc + 3 = pc') (tgt : Nat) (ht0 : (pc : Int) + off = (tgt : Int)) (hc : ¬ x = 0) (h : ab_Ex G d M pc' ls st w Q) : ab_Ex G d M pc ls (.int x :: st) w Q := by
  subst hp
  exact ab_sm (fun R p e s m args below meth c Q H locs cells slots lc hx hb ho ht hAt hR hS hlv k => lv_if_eq hx hb hd ht0 (fun hn => absurd hn hc) (fun _ => k lc hlv)) h
theorem x_if_eq (pc' tgt : Nat) {x : Int32} {off : Int} (hd : decode M.2.1 pc = .ok (.ifCond .eq off, 3)) (hp : pc + 3 = pc') (ht0 : (pc : Int) + off = (tgt : Int)) (kt : x = 0 → ab_Ex G d M tgt ls st w Q) (kf : ¬ x = 0 → ab_Ex G d M pc' ls st w Q) : ab_Ex G d M pc ls (.int x :: st) w Q := by
  by_cases hc : x = 0
  · exact x_if_eq_t tgt hd ht0 hc (kt hc)
  · exact x_if_eq_f pc' hd hp tgt ht0 hc (kf hc)
theorem x_icmp_eq_t (tgt : Nat) {x y : Int32} {off : Int} (hd : decode M.2.1 pc = .ok (.if_icmp .eq off, 3)) (ht0 : (pc : Int) + off = (tgt : Int)) (hc : x = y) (h : ab_Ex G d M tgt ls st w Q) : ab_Ex G d M pc ls (.int y :: .int x :: st) w Q :=
  ab_sm (fun R p e s m args below meth c Q H locs cells slots lc hx hb ho ht hAt hR hS hlv k => lv_icmp_eq hx hb hd ht0 (fun _ => k lc hlv) (fun hn => absurd hc hn)) h
theorem x_icmp_eq_f (pc' : Nat) {x y : Int32} {off : Int} (hd : decode M.2.1 pc = .ok (.if_icmp .eq off, 3)) (hp : pc + 3 = pc') (tgt : Nat) (ht0 : (pc : Int) + off = (tgt : Int)) (hc : ¬ x = y) (h : ab_Ex G d M pc' ls st w Q) : ab_Ex G d M pc ls (.int y :: .int x :: st) w Q := by
  subst hp
  exact ab_sm (fun R p e s m args below meth c Q H locs cells slots lc hx hb ho ht hAt hR hS hlv k => lv_icmp_eq hx hb hd ht0 (fun hn => absurd hn hc) (fun _ => k lc hlv)) h
theorem x_icmp_eq (pc' tgt : Nat) {x y : Int32} {off : Int} (hd : decode M.2.1 pc = .ok (.if_icmp .eq off, 3)) (hp : pc + 3 = pc') (ht0 : (pc : Int) + off = (tgt : Int)) (kt : x = y → ab_Ex G d M tgt ls st w Q) (kf : ¬ x = y → ab_Ex G d M pc' ls st w Q) : ab_Ex G d M pc ls (.int y :: .int x :: st) w Q := by
  by_cases hc : x = y
  · exact x_icmp_eq_t tgt hd ht0 hc (kt hc)
  · exact x_icmp_eq_f pc' hd hp tgt ht0 hc (kf hc)
theorem x_if_ne_t (tgt : Nat) {x : Int32} {off : Int} (hd : decode M.2.1 pc = .ok (.ifCond .ne off, 3)) (ht0 : (pc : Int) + off = (tgt : Int)) (hc : ¬ x = 0) (h : ab_Ex G d M tgt ls st w Q) : ab_Ex G d M pc ls (.int x :: st) w Q :=
  ab_sm (fun R p e s m args below meth c Q H locs cells slots lc hx hb ho ht hAt hR hS hlv k => lv_if_ne hx hb hd ht0 (fun _ => k lc hlv) (fun hn => absurd hc (fun z => z hn))) h
theorem x_if_ne_f (pc' : Nat) {x : Int32} {off : Int} (hd : decode M.2.1 pc = .ok (.ifCond .ne off, 3)) (hp : pc + 3 = pc') (tgt : Nat) (ht0 : (pc : Int) + off = (tgt : Int)) (hc : x = 0) (h : ab_Ex G d M pc' ls st w Q) : ab_Ex G d M pc ls (.int x :: st) w Q := by
  subst hp
  exact ab_sm (fun R p e s m args below meth c Q H locs cells slots lc hx hb ho ht hAt hR hS hlv k => lv_if_ne hx hb hd ht0 (fun hn => absurd hc hn) (fun _ => k lc hlv)) h
theorem x_if_ne (pc' tgt : Nat) {x : Int32} {off : Int} (hd : decode M.2.1 pc = .ok (.ifCond .ne off, 3)) (hp : pc + 3 = pc') (ht0 : (pc : Int) + off = (tgt : Int)) (kt : ¬ x = 0 → ab_Ex G d M tgt ls st w Q) (kf : x = 0 → ab_Ex G d M pc' ls st w Q) : ab_Ex G d M pc ls (.int x :: st) w Q := by
  by_cases hc : x = 0
  · exact x_if_ne_f pc' hd hp tgt ht0 hc (kf hc)
  · exact x_if_ne_t tgt hd ht0 hc (kt hc)
theorem x_icmp_ne_t (tgt : Nat) {x y : Int32} {off : Int} (hd : decode M.2.1 pc = .ok (.if_icmp .ne off, 3)) (ht0 : (pc : Int) + off = (tgt : Int)) (hc : ¬ x = y) (h : ab_Ex G d M tgt ls st w Q) : ab_Ex G d M pc ls (.int y :: .int x :: st) w Q :=
  ab_sm (fun R p e s m args below meth c Q H locs cells slots lc hx hb ho ht hAt hR hS hlv k => lv_icmp_ne hx hb hd ht0 (fun _ => k lc hlv) (fun hn => absurd hc (fun z => z hn))) h
theorem x_icmp_ne_f (pc' : Nat) {x y : Int32} {off : Int} (hd : decode M.2.1 pc = .ok (.if_icmp .ne off, 3)) (hp : pc + 3 = pc') (tgt : Nat) (ht0 : (pc : Int) + off = (tgt : Int)) (hc : x = y) (h : ab_Ex G d M pc' ls st w Q) : ab_Ex G d M pc ls (.int y :: .int x :: st) w Q := by
  subst hp
  exact ab_sm (fun R p e s m args below meth c Q H locs cells slots lc hx hb ho ht hAt hR hS hlv k => lv_icmp_ne hx hb hd ht0 (fun hn => absurd hc hn) (fun _ => k lc hlv)) h
theorem x_icmp_ne (pc' tgt : Nat) {x y : Int32} {off : Int} (hd : decode M.2.1 pc = .ok (.if_icmp .ne off, 3)) (hp : pc + 3 = pc') (ht0 : (pc : Int) + off = (tgt : Int)) (kt : ¬ x = y → ab_Ex G d M tgt ls st w Q) (kf : x = y → ab_Ex G d M pc' ls st w Q) : ab_Ex G d M pc ls (.int y :: .int x :: st) w Q := by
  by_cases hc : x = y
  · exact x_icmp_ne_f pc' hd hp tgt ht0 hc (kf hc)
  · exact x_icmp_ne_t tgt hd ht0 hc (kt hc)
theorem x_if_lt_t (tgt : Nat) {x : Int32} {off : Int} (hd : decode M.2.1 pc = .ok (.ifCond .lt off, 3)) (ht0 : (pc : Int) + off = (tgt : Int)) (hc : x < 0) (h : ab_Ex G d M tgt ls st w Q) : ab_Ex G d M pc ls (.int x :: st) w Q :=
  ab_sm (fun R p e s m args below meth c Q H locs cells slots lc hx hb ho ht hAt hR hS hlv k => lv_if_lt hx hb hd ht0 (fun _ => k lc hlv) (fun hn => absurd hc hn)) h
theorem x_if_lt_f (pc' : Nat) {x : Int32} {off : Int} (hd : decode M.2.1 pc = .ok (.ifCond .lt off, 3)) (hp : pc + 3 = pc') (tgt : Nat) (ht0 : (pc : Int) + off = (tgt : Int)) (hc : ¬ x < 0) (h : ab_Ex G d M pc' ls st w Q) : ab_Ex G d M pc ls (.int x :: st) w Q := by
  subst hp
  exact ab_sm (fun R p e s m args below meth c Q H locs cells slots lc hx hb ho ht hAt hR hS hlv k => lv_if_lt hx hb hd ht0 (fun hn => absurd hn hc) (fun _ => k lc hlv)) h
theorem x_if_lt (pc' tgt : Nat) {x : Int32} {off : Int} (hd : decode M.2.1 pc = .ok (.ifCond .lt off, 3)) (hp : pc + 3 = pc') (ht0 : (pc : Int) + off = (tgt : Int)) (kt : x < 0 → ab_Ex G d M tgt ls st w Q) (kf : ¬ x < 0 → ab_Ex G d M pc' ls st w Q) : ab_Ex G d M pc ls (.int x :: st) w Q := by
  by_cases hc : x < 0
  · exact x_if_lt_t tgt hd ht0 hc (kt hc)
  · exact x_if_lt_f pc' hd hp tgt ht0 hc (kf hc)
theorem x_icmp_lt_t (tgt : Nat) {x y : Int32} {off : Int} (hd : decode M.2.1 pc = .ok (.if_icmp .lt off, 3)) (ht0 : (pc : Int) + off = (tgt : Int)) (hc : x < y) (h : ab_Ex G d M tgt ls st w Q) : ab_Ex G d M pc ls (.int y :: .int x :: st) w Q :=
  ab_sm (fun R p e s m args below meth c Q H locs cells slots lc hx hb ho ht hAt hR hS hlv k => lv_icmp_lt hx hb hd ht0 (fun _ => k lc hlv) (fun hn => absurd hc hn)) h
theorem x_icmp_lt_f (pc' : Nat) {x y : Int32} {off : Int} (hd : decode M.2.1 pc = .ok (.if_icmp .lt off, 3)) (hp : pc + 3 = pc') (tgt : Nat) (ht0 : (pc : Int) + off = (tgt : Int)) (hc : ¬ x < y) (h : ab_Ex G d M pc' ls st w Q) : ab_Ex G d M pc ls (.int y :: .int x :: st) w Q := by
  subst hp
  exact ab_sm (fun R p e s m args below meth c Q H locs cells slots lc hx hb ho ht hAt hR hS hlv k => lv_icmp_lt hx hb hd ht0 (fun hn => absurd hn hc) (fun _ => k lc hlv)) h
theorem x_icmp_lt (pc' tgt : Nat) {x y : Int32} {off : Int} (hd : decode M.2.1 pc = .ok (.if_icmp .lt off, 3)) (hp : pc + 3 = pc') (ht0 : (pc : Int) + off = (tgt : Int)) (kt : x < y → ab_Ex G d M tgt ls st w Q) (kf : ¬ x < y → ab_Ex G d M pc' ls st w Q) : ab_Ex G d M pc ls (.int y :: .int x :: st) w Q := by
  by_cases hc : x < y
  · exact x_icmp_lt_t tgt hd ht0 hc (kt hc)
  · exact x_icmp_lt_f pc' hd hp tgt ht0 hc (kf hc)
theorem x_if_ge_t (tgt : Nat) {x : Int32} {off : Int} (hd : decode M.2.1 pc = .ok (.ifCond .ge off, 3)) (ht0 : (pc : Int) + off = (tgt : Int)) (hc : 0 ≤ x) (h : ab_Ex G d M tgt ls st w Q) : ab_Ex G d M pc ls (.int x :: st) w Q :=
  ab_sm (fun R p e s m args below meth c Q H locs cells slots lc hx hb ho ht hAt hR hS hlv k => lv_if_ge hx hb hd ht0 (fun _ => k lc hlv) (fun hn => absurd hc hn)) h
theorem x_if_ge_f (pc' : Nat) {x : Int32} {off : Int} (hd : decode M.2.1 pc = .ok (.ifCond .ge off, 3)) (hp : pc + 3 = pc') (tgt : Nat) (ht0 : (pc : Int) + off = (tgt : Int)) (hc : ¬ 0 ≤ x) (h : ab_Ex G d M pc' ls st w Q) : ab_Ex G d M pc ls (.int x :: st) w Q := by
  subst hp
  exact ab_sm (fun R p e s m args below meth c Q H locs cells slots lc hx hb ho ht hAt hR hS hlv k => lv_if_ge hx hb hd ht0 (fun hn => absurd hn hc) (fun _ => k lc hlv)) h
theorem x_if_ge (pc' tgt : Nat) {x : Int32} {off : Int} (hd : decode M.2.1 pc = .ok (.ifCond .ge off, 3)) (hp : pc + 3 = pc') (ht0 : (pc : Int) + off = (tgt : Int)) (kt : 0 ≤ x → ab_Ex G d M tgt ls st w Q) (kf : ¬ 0 ≤ x → ab_Ex G d M pc' ls st w Q) : ab_Ex G d M pc ls (.int x :: st) w Q := by
  by_cases hc : 0 ≤ x
  · exact x_if_ge_t tgt hd ht0 hc (kt hc)
  · exact x_if_ge_f pc' hd hp tgt ht0 hc (kf hc)
theorem x_icmp_ge_t (tgt : Nat) {x y : Int32} {off : Int} (hd : decode M.2.1 pc = .ok (.if_icmp .ge off, 3)) (ht0 : (pc : Int) + off = (tgt : Int)) (hc : y ≤ x) (h : ab_Ex G d M tgt ls st w Q) : ab_Ex G d M pc ls (.int y :: .int x :: st) w Q :=
  ab_sm (fun R p e s m args below meth c Q H locs cells slots lc hx hb ho ht hAt hR hS hlv k => lv_icmp_ge hx hb hd ht0 (fun _ => k lc hlv) (fun hn => absurd hc hn)) h
theorem x_icmp_ge_f (pc' : Nat) {x y : Int32} {off : Int} (hd : decode M.2.1 pc = .ok (.if_icmp .ge off, 3)) (hp : pc + 3 = pc') (tgt : Nat) (ht0 : (pc : Int) + off = (tgt : Int)) (hc : ¬ y ≤ x) (h : ab_Ex G d M pc' ls st w Q) : ab_Ex G d M pc ls (.int y :: .int x :: st) w Q := by
  subst hp
  exact ab_sm (fun R p e s m args below meth c Q H locs cells slots lc hx hb ho ht hAt hR hS hlv k => lv_icmp_ge hx hb hd ht0 (fun hn => absurd hn hc) (fun _ => k lc hlv)) h
theorem x_icmp_ge (pc' tgt : Nat) {x y : Int32} {off : Int} (hd : decode M.2.1 pc = .ok (.if_icmp .ge off, 3)) (hp : pc + 3 = pc') (ht0 : (pc : Int) + off = (tgt : Int)) (kt : y ≤ x → ab_Ex G d M tgt ls st w Q) (kf : ¬ y ≤ x → ab_Ex G d M pc' ls st w Q) : ab_Ex G d M pc ls (.int y :: .int x :: st) w Q := by
  by_cases hc : y ≤ x
  · exact x_icmp_ge_t tgt hd ht0 hc (kt hc)
  · exact x_icmp_ge_f pc' hd hp tgt ht0 hc (kf hc)
theorem x_if_gt_t (tgt : Nat) {x : Int32} {off : Int} (hd : decode M.2.1 pc = .ok (.ifCond .gt off, 3)) (ht0 : (pc : Int) + off = (tgt : Int)) (hc : 0 < x) (h : ab_Ex G d M tgt ls st w Q) : ab_Ex G d M pc ls (.int x :: st) w Q :=
  ab_sm (fun R p e s m args below meth c Q H locs cells slots lc hx hb ho ht hAt hR hS hlv k => lv_if_gt hx hb hd ht0 (fun _ => k lc hlv) (fun hn => absurd hc hn)) h
theorem x_if_gt_f (pc' : Nat) {x : Int32} {off : Int} (hd : decode M.2.1 pc = .ok (.ifCond .gt off, 3)) (hp : pc + 3 = pc') (tgt : Nat) (ht0 : (pc : Int) + off = (tgt : Int)) (hc : ¬ 0 < x) (h : ab_Ex G d M pc' ls st w Q) : ab_Ex G d M pc ls (.int x :: st) w Q := by
  subst hp
  exact ab_sm (fun R p e s m args below meth c Q H locs cells slots lc hx hb ho ht hAt hR hS hlv k => lv_if_gt hx hb hd ht0 (fun hn => absurd hn hc) (fun _ => k lc hlv)) h
theorem x_if_gt (pc' tgt : Nat) {x : Int32} {off : Int} (hd : decode M.2.1 pc = .ok (.ifCond .gt off, 3)) (hp : pc + 3 = pc') (ht0 : (pc : Int) + off = (tgt : Int)) (kt : 0 < x → ab_Ex G d M tgt ls st w Q) (kf : ¬ 0 < x → ab_Ex G d M pc' ls st w Q) : ab_Ex G d M pc ls (.int x :: st) w Q := by
  by_cases hc : 0 < x
  · exact x_if_gt_t tgt hd ht0 hc (kt hc)
  · exact x_if_gt_f pc' hd hp tgt ht0 hc (kf hc)
theorem x_icmp_gt_t (tgt : Nat) {x y : Int32} {off : Int} (hd : decode M.2.1 pc = .ok (.if_icmp .gt off, 3)) (ht0 : (pc : Int) + off = (tgt : Int)) (hc : y < x) (h : ab_Ex G d M tgt ls st w Q) : ab_Ex G d M pc ls (.int y :: .int x :: st) w Q :=
  ab_sm (fun R p e s m args below meth c Q H locs cells slots lc hx hb ho ht hAt hR hS hlv k => lv_icmp_gt hx hb hd ht0 (fun _ => k lc hlv) (fun hn => absurd hc hn)) h
theorem x_icmp_gt_f (pc' : Nat) {x y : Int32} {off : Int} (hd : decode M.2.1 pc = .ok (.if_icmp .gt off, 3)) (hp : pc + 3 = pc') (tgt : Nat) (ht0 : (pc : Int) + off = (tgt : Int)) (hc : ¬ y < x) (h : ab_Ex G d M pc' ls st w Q) : ab_Ex G d M pc ls (.int y :: .int x :: st) w Q := by
  subst hp
  exact ab_sm (fun R p e s m args below meth c Q H locs cells slots lc hx hb ho ht hAt hR hS hlv k => lv_icmp_gt hx hb hd ht0 (fun hn => absurd hn hc) (fun _ => k lc hlv)) h
theorem x_icmp_gt (pc' tgt : Nat) {x y : Int32} {off : Int} (hd : decode M.2.1 pc = .ok (.if_icmp .gt off, 3)) (hp : pc + 3 = pc') (ht0 : (pc : Int) + off = (tgt : Int)) (kt : y < x → ab_Ex G d M tgt ls st w Q) (kf : ¬ y < x → ab_Ex G d M pc' ls st w Q) : ab_Ex G d M pc ls (.int y :: .int x :: st) w Q := by
  by_cases hc : y < x
  · exact x_icmp_gt_t tgt hd ht0 hc (kt hc)
  · exact x_icmp_gt_f pc' hd hp tgt ht0 hc (kf hc)
theorem x_if_le_t (tgt : Nat) {x : Int32} {off : Int} (hd : decode M.2.1 pc = .ok (.ifCond .le off, 3)) (ht0 : (pc : Int) + off = (tgt : Int)) (hc : x ≤ 0) (h : ab_Ex G d M tgt ls st w Q) : ab_Ex G d M pc ls (.int x :: st) w Q :=
  ab_sm (fun R p e s m args below meth c Q H locs cells slots lc hx hb ho ht hAt hR hS hlv k => lv_if_le hx hb hd ht0 (fun _ => k lc hlv) (fun hn => absurd hc hn)) h
theorem x_if_le_f (pc' : Nat) {x : Int32} {off : Int} (hd : decode M.2.1 pc = .ok (.ifCond .le off, 3)) (hp : pc + 3 = pc') (tgt : Nat) (ht0 : (pc : Int) + off = (tgt : Int)) (hc : ¬ x ≤ 0) (h : ab_Ex G d M pc' ls st w Q) : ab_Ex G d M pc ls (.int x :: st) w Q := by
  subst hp
  exact ab_sm (fun R p e s m args below meth c Q H locs cells slots lc hx hb ho ht hAt hR hS hlv k => lv_if_le hx hb hd ht0 (fun hn => absurd hn hc) (fun _ => k lc hlv)) h
theorem x_if_le (pc' tgt : Nat) {x : Int32} {off : Int} (hd : decode M.2.1 pc = .ok (.ifCond .le off, 3)) (hp : pc + 3 = pc') (ht0 : (pc : Int) + off = (tgt : Int)) (kt : x ≤ 0 → ab_Ex G d M tgt ls st w Q) (kf : ¬ x ≤ 0 → ab_Ex G d M pc' ls st w Q) : ab_Ex G d M pc ls (.int x :: st) w Q := by
  by_cases hc : x ≤ 0
  · exact x_if_le_t tgt hd ht0 hc (kt hc)
  · exact x_if_le_f pc' hd hp tgt ht0 hc (kf hc)
theorem x_icmp_le_t (tgt : Nat) {x y : Int32} {off : Int} (hd : decode M.2.1 pc = .ok (.if_icmp .le off, 3)) (ht0 : (pc : Int) + off = (tgt : Int)) (hc : x ≤ y) (h : ab_Ex G d M tgt ls st w Q) : ab_Ex G d M pc ls (.int y :: .int x :: st) w Q :=
  ab_sm (fun R p e s m args below meth c Q H locs cells slots lc hx hb ho ht hAt hR hS hlv k => lv_icmp_le hx hb hd ht0 (fun _ => k lc hlv) (fun hn => absurd hc hn)) h
theorem x_icmp_le_f (pc' : Nat) {x y : Int32} {off : Int} (hd : decode M.2.1 pc = .ok (.if_icmp .le off, 3)) (hp : pc + 3 = pc') (tgt : Nat) (ht0 : (pc : Int) + off = (tgt : Int)) (hc : ¬ x ≤ y) (h : ab_Ex G d M pc' ls st w Q) : ab_Ex G d M pc ls (.int y :: .int x :: st) w Q := by
  subst hp
  exact ab_sm (fun R p e s m args below meth c Q H locs cells slots lc hx hb ho ht hAt hR hS hlv k => lv_icmp_le hx hb hd ht0 (fun hn => absurd hn hc) (fun _ => k lc hlv)) h
theorem x_icmp_le (pc' tgt : Nat) {x y : Int32} {off : Int} (hd : decode M.2.1 pc = .ok (.if_icmp .le off, 3)) (hp : pc + 3 = pc') (ht0 : (pc : Int) + off = (tgt : Int)) (kt : x ≤ y → ab_Ex G d M tgt ls st w Q) (kf : ¬ x ≤ y → ab_Ex G d M pc' ls st w Q) : ab_Ex G d M pc ls (.int y :: .int x :: st) w Q := by
  by_cases hc : x ≤ y
  · exact x_icmp_le_t tgt hd ht0 hc (kt hc)
  · exact x_icmp_le_f pc' hd hp tgt ht0 hc (kf hc)
theorem x_tableOut (tgt : Nat) {dflt lo hi : Int} {offs : Array Int} {len : Nat} {x : Int32} (hd : decode M.2.1 pc = .ok (.tableswitch dflt lo hi offs, len)) (h0 : x.toInt < lo ∨ hi < x.toInt) (ht0 : (pc : Int) + dflt = (tgt : Int)) (h : ab_Ex G d M tgt ls st w Q) : ab_Ex G d M pc ls (.int x :: st) w Q :=
  ab_sm (fun R p e s m args below meth c Q H locs cells slots lc hx hb ho ht hAt hR hS hlv k => lv_tableOut hx hb hd h0 ht0 (k lc hlv)) h
theorem x_tableIn (tgt : Nat) {dflt lo hi : Int} {offs : Array Int} {len : Nat} {x : Int32} {off : Int} (hd : decode M.2.1 pc = .ok (.tableswitch dflt lo hi offs, len)) (h1 : ¬ x.toInt < lo) (h2 : ¬ hi < x.toInt) (ho0 : offs[(x.toInt - lo).toNat]? = some off) (ht0 : (pc : Int) + off = (tgt : Int)) (h : ab_Ex G d M tgt ls st w Q) : ab_Ex G d M pc ls (.int x :: st) w Q :=
  ab_sm (fun R p e s m args below meth c Q H locs cells slots lc hx hb ho ht hAt hR hS hlv k => lv_tableIn hx hb hd h1 h2 ho0 ht0 (k lc hlv)) h
theorem x_ifnull_f (pc' : Nat) {a : Nat} {off : Int} (hd : decode M.2.1 pc = .ok (.ifnull off, 3)) (hp : pc + 3 = pc') (h : ab_Ex G d M pc' ls st w Q) : ab_Ex G d M pc ls (.ref a :: st) w Q := by
  subst hp
  exact ab_sm (fun R p e s m args below meth c Q H locs cells slots lc hx hb ho ht hAt hR hS hlv k => lv_ifnull hx hb hd (k lc hlv)) h
theorem x_ifnull_t (tgt : Nat) {off : Int} (hd : decode M.2.1 pc = .ok (.ifnull off, 3)) (ht0 : (pc : Int) + off = (tgt : Int)) (h : ab_Ex G d M tgt ls st w Q) : ab_Ex G d M pc ls (.null :: st) w Q :=
  ab_sm (fun R p e s m args below meth c Q H locs cells slots lc hx hb ho ht hAt hR hS hlv k => lv_ifnullN hx hb hd ht0 (k lc hlv)) h
theorem x_ifnonnull_t (tgt : Nat) {a : Nat} {off : Int} (hd : decode M.2.1 pc = .ok (.ifnonnull off, 3)) (ht0 : (pc : Int) + off = (tgt : Int)) (h : ab_Ex G d M tgt ls st w Q) : ab_Ex G d M pc ls (.ref a :: st) w Q :=
  ab_sm (fun R p e s m args below meth c Q H locs cells slots lc hx hb ho ht hAt hR hS hlv k => lv_ifnonnull hx hb hd ht0 (k lc hlv)) h
theorem x_ifnonnull_f (pc' : Nat) {off : Int} (hd : decode M.2.1 pc = .ok (.ifnonnull off, 3)) (hp : pc + 3 = pc') (h : ab_Ex G d M pc' ls st w Q) : ab_Ex G d M pc ls (.null :: st) w Q := by
  subst hp
  exact ab_sm (fun R p e s m args below meth c Q H locs cells slots lc hx hb ho ht hAt hR hS hlv k => lv_ifnonnullN hx hb hd (k lc hlv)) h
theorem x_ldc (pc' : Nat) {i : Nat} {x : Int32} (hd : decode M.2.1 pc = .ok (.ldc i, 2)) (hp : pc + 2 = pc') (hc : Cond.constant M.1.cls i x ∈ ab_good) (h : ab_Ex G d M pc' ls (.int x :: st) w Q) : ab_Ex G d M pc ls st w Q := by
  subst hp
  exact ab_sm (fun R p e s m args below meth c Q H locs cells slots lc hx hb ho ht hAt hR hS hlv k => lv_ldc hx hb ho (ht _ hc) hd (k lc hlv)) h
theorem x_ldcw (pc' : Nat) {i : Nat} {x : Int32} (hd : decode M.2.1 pc = .ok (.ldc_w i, 3)) (hp : pc + 3 = pc') (hc : Cond.constant M.1.cls i x ∈ ab_good) (h : ab_Ex G d M pc' ls (.int x :: st) w Q) : ab_Ex G d M pc ls st w Q := by
  subst hp
  exact ab_sm (fun R p e s m args below meth c Q H locs cells slots lc hx hb ho ht hAt hR hS hlv k => lv_ldcw hx hb ho (ht _ hc) hd (k lc hlv)) h
theorem x_ldc2 (pc' : Nat) {i : Nat} {x : Int64} (hd : decode M.2.1 pc = .ok (.ldc2_w i, 3)) (hp : pc + 3 = pc') (hc : Cond.constantLong M.1.cls i x ∈ ab_good) (h : ab_Ex G d M pc' ls (.long x :: st) w Q) : ab_Ex G d M pc ls st w Q := by
  subst hp
  exact ab_sm (fun R p e s m args below meth c Q H locs cells slots lc hx hb ho ht hAt hR hS hlv k => lv_ldc2 hx hb ho (ht _ hc) hd (k lc hlv)) h
theorem x_ldcS (pc' : Nat) {i : Nat} {tx : String} (a : Nat) (hd : decode M.2.1 pc = .ok (.ldc i, 2)) (hp : pc + 2 = pc') (ha : a < 50) (hc : (M.1.cls, i, tx, a) ∈ ab_str) (h : ab_Ex G d M pc' ls (.ref a :: st) w Q) : ab_Ex G d M pc ls st w Q := by
  subst hp
  refine ab_sm (fun R p e s m args below meth c Q H locs cells slots lc hx hb ho ht hAt hR hS hlv k => ?_) h
  have := k lc hlv
  simp only [ab_rs, List.map_cons, ab_re, ab_al, if_pos ha] at this
  exact va_ldcS hx hb ho (hAt.2.2.2.2.1 _ hc) hd this
theorem x_gets (pc' : Nat) {i : Nat} {C n dd : String} {u : Value} (hd : decode M.2.1 pc = .ok (.getstatic i, 3)) (hp : pc + 3 = pc') (hc : (C, n, dd, u) ∈ ab_sts) (hl : Cond.fieldLink M.1.cls i C n dd ∈ ab_good) (h : ab_Ex G d M pc' ls (u :: st) w Q) : ab_Ex G d M pc ls st w Q := by
  subst hp
  exact ab_sm (fun R p e s m args below meth c Q H locs cells slots lc hx hb ho ht hAt hR hS hlv k => va_gets hx hb (hAt.2.2.2.1 _ hc) hS ho (ht _ hl) (fun _ z => z) hd (k lc hlv)) h
theorem x_getsN (pc' : Nat) {i : Nat} {C n dd host : String} {u : Value} (hd : decode M.2.1 pc = .ok (.getstatic i, 3)) (hp : pc + 3 = pc') (hc : (C, n, dd, u) ∈ ab_sts) (hl : Cond.fieldLinkNest M.1.cls i C n dd host ∈ ab_nest) (h : ab_Ex G d M pc' ls (u :: st) w Q) : ab_Ex G d M pc ls st w Q := by
  subst hp
  exact ab_sm (fun R p e s m args below meth c Q H locs cells slots lc hx hb ho ht hAt hR hS hlv k => va_getsN hx hb (hAt.2.2.2.1 _ hc) hS ho (va_Nw.use rfl (hAt.2.2.1 _ hl)) (fun _ z => z) hd (k lc hlv)) h
theorem x_vret (hd : decode M.2.1 pc = .ok (.return_, 1)) (hq : Q (none) w) : ab_Ex G d M pc ls [] w Q :=
  ⟨none, w, ⟨Nat.le_refl _, Nat.le_refl _, rfl, fun R p e s m args below meth c w0 Q C hd0 hl hc hs h1 h2 hend H locs lc hR hS hlv => hend H locs pc lc hR hS hd⟩, hq⟩
theorem x_iret {x : Int32} (hd : decode M.2.1 pc = .ok (.ireturn, 1)) (hq : Q (some (.int x)) w) : ab_Ex G d M pc ls [.int x] w Q :=
  ⟨some (.int x), w, ⟨Nat.le_refl _, Nat.le_refl _, rfl, fun R p e s m args below meth c w0 Q C hd0 hl hc hs h1 h2 hend H locs lc hR hS hlv => hend H locs pc lc hR hS hd⟩, hq⟩
theorem x_lret {x : Int64} (hd : decode M.2.1 pc = .ok (.lreturn, 1)) (hq : Q (some (.long x)) w) : ab_Ex G d M pc ls [.long x] w Q :=
  ⟨some (.long x), w, ⟨Nat.le_refl _, Nat.le_refl _, rfl, fun R p e s m args below meth c w0 Q C hd0 hl hc hs h1 h2 hend H locs lc hR hS hlv => hend H locs pc lc hR hS hd⟩, hq⟩
theorem x_aret {x : Nat} (hd : decode M.2.1 pc = .ok (.areturn, 1)) (hq : Q (some (.ref x)) w) : ab_Ex G d M pc ls [.ref x] w Q :=
  ⟨some (.ref x), w, ⟨Nat.le_refl _, Nat.le_refl _, rfl, fun R p e s m args below meth c w0 Q C hd0 hl hc hs h1 h2 hend H locs lc hR hS hlv => hend H locs pc lc hR hS hd⟩, hq⟩
theorem x_aretN (hd : decode M.2.1 pc = .ok (.areturn, 1)) (hq : Q (some .null) w) : ab_Ex G d M pc ls [.null] w Q :=
  ⟨some .null, w, ⟨Nat.le_refl _, Nat.le_refl _, rfl, fun R p e s m args below meth c w0 Q C hd0 hl hc hs h1 h2 hend H locs lc hR hS hlv => hend H locs pc lc hR hS hd⟩, hq⟩
end ROWS
