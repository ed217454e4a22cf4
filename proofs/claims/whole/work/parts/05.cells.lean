/-! ===== rows of the instructions that read, write and make cells ===== -/
theorem ab_ck {ci : Nat} {C : String} {T : u_T} {N : Nat} (h : ab_cl[ci]? = some (C, T, N)) : (∀ k, k < N → parseFieldDescriptor (T k).2.2.1 = some (ab_ty ci k)) ∧ (∀ a, a < N → ∀ b, b < N → a ≠ b → (T a).2.1 ≠ (T b).2.1) ∧ ∀ w ∈ u_ws C T N, w ∈ ab_good := by
  have hlt : ci < 13 := (List.getElem?_eq_some_iff.mp h).1
  match ci, hlt with
  | 0, _ => cases h; exact ⟨ab_k0, ab_n0, ab_i0⟩
  | 1, _ => cases h; exact ⟨ab_k1, ab_n1, ab_i1⟩
  | 2, _ => cases h; exact ⟨ab_k2, ab_n2, ab_i2⟩
  | 3, _ => cases h; exact ⟨ab_k3, ab_n3, ab_i3⟩
  | 4, _ => cases h; exact ⟨ab_k4, ab_n4, ab_i4⟩
  | 5, _ => cases h; exact ⟨ab_k5, ab_n5, ab_i5⟩
  | 6, _ => cases h; exact ⟨ab_k6, ab_n6, ab_i6⟩
  | 7, _ => cases h; exact ⟨ab_k7, ab_n7, ab_i7⟩
  | 8, _ => cases h; exact ⟨ab_k8, ab_n8, ab_i8⟩
  | 9, _ => cases h; exact ⟨ab_k9, ab_n9, ab_i9⟩
  | 10, _ => cases h; exact ⟨ab_k10, ab_n10, ab_i10⟩
  | 11, _ => cases h; exact ⟨ab_k11, ab_n11, ab_i11⟩
  | 12, _ => cases h; exact ⟨ab_k12, ab_n12, ab_i12⟩
theorem ab_al_new (G : ab_G) {a : Nat} (ha : 50 ≤ a) : ab_al G a = G.2.1 + (a - 50) := if_neg (by omega)
theorem ab_al_old (G : ab_G) {a : Nat} (ha : a < 50) : ab_al G a = G.2.2.2.2 a := if_pos ha
theorem ab_cwget {G : ab_G} {l : List ab_E} {a : Nat} {e : ab_E} (ha : 50 ≤ a) (h : l[a]? = some e) : (ab_cw G (l.drop 50))[a - 50]? = some (ab_al G a, ab_ce G e) := by
  unfold ab_cw
  rw [List.getElem?_mapIdx, List.getElem?_drop, show 50 + (a - 50) = a by omega, h, ab_al_new G ha]
  rfl
theorem ab_cwset {G : ab_G} {l : List ab_E} {a : Nat} {e : ab_E} (ha : 50 ≤ a) : (ab_cw G (l.drop 50)).set (a - 50) (ab_al G a, ab_ce G e) = ab_cw G ((l.set a e).drop 50) := by
  apply List.ext_getElem?
  intro j
  unfold ab_cw
  rw [List.getElem?_mapIdx, List.getElem?_drop]
  by_cases hj : j = a - 50
  · subst hj
    rw [show 50 + (a - 50) = a by omega, List.getElem?_set, if_pos rfl, List.getElem?_set, if_pos rfl, List.length_mapIdx, List.length_drop, ab_al_new G ha]
    by_cases hl : a < l.length
    · rw [if_pos (by omega), if_pos hl]; rfl
    · rw [if_neg (by omega), if_neg hl]; rfl
  · rw [List.getElem?_set_ne (Ne.symm hj), List.getElem?_mapIdx, List.getElem?_drop, List.getElem?_set_ne (by omega)]
theorem ab_D {G : ab_G} (l : List ab_E) : va_D (ab_A G) (ab_cw G l) := by
  have key : ∀ (k : Nat) (q : Nat × va_E), (ab_cw G l)[k]? = some q → q.1 = G.2.1 + k := by
    intro k q h
    unfold ab_cw at h
    rw [List.getElem?_mapIdx] at h
    cases hl : l[k]? with
    | none => rw [hl] at h; cases h
    | some e => rw [hl] at h; cases h; rfl
  refine ⟨fun i j p q hi hj hpq => ?_, fun k q h => ?_⟩
  · rw [key i p hi, key j q hj] at hpq
    omega
  · show G.2.1 ≤ q.1
    rw [key k q h]; omega
def ab_st (w : ab_H) (a : Nat) (e : ab_E) : ab_H := (w.1.set a e, w.2)
def ab_pu (w : ab_H) (e : ab_E) (n : Nat) : ab_H := (w.1 ++ [e], w.2 + n)
theorem ab_take_set {l : List ab_E} {a : Nat} {e : ab_E} (ha : 50 ≤ a) : (l.set a e).take 50 = l.take 50 := by
  apply List.ext_getElem?
  intro j
  by_cases hj : j < 50
  · rw [List.getElem?_take_of_lt hj, List.getElem?_take_of_lt hj, List.getElem?_set_ne (by omega)]
  · rw [List.getElem?_take_eq_none (by omega), List.getElem?_take_eq_none (by omega)]
theorem ab_R_set {G : ab_G} {w : ab_H} {a : Nat} {e : ab_E} {H H1 : Heap} (ha : 50 ≤ a) (hR : ab_R G w H) (hz : H1.size = H.size) (hP : va_P G.2.2.1 ab_cl ((ab_cw G (w.1.drop 50)).set (a - 50) (ab_al G a, ab_ce G e)) H1) : ab_R G (ab_st w a e) H1 := by
  refine ⟨?_, ?_, ?_⟩
  · show H1.size + 50 = G.2.1 + (w.1.set a e).length
    rw [List.length_set, hz]; exact hR.1
  · show 50 ≤ (w.1.set a e).length
    rw [List.length_set]; exact hR.2.1
  · rw [ab_cwset ha] at hP; exact hP
theorem ab_heapsz {A : Nat → Prop} {H0 H H1 : Heap} {locs locs1 : List Loc} (_ : va_S A H0 H locs) (h : va_S A H0 H1 locs1) : H0.size ≤ H1.size := h.1
/-- a step that writes a cell -/
theorem ab_hs {G : ab_G} {d : Nat} {M : ab_M} {pc pc' : Nat} {ls : ab_L} {st st' : List Value} {w : ab_H} {Q : Option Value → ab_H → Prop} (a : Nat) (e : ab_E) (ha : 50 ≤ a)
    (hk : ∀ (R : Room) (p : Program) (ev : Env) (s : State) (m : MethodId) (args : Array Value) (below : List Frame) (meth : Method) (c : Code) (Q : State → Prop) (H : Heap) (locs : List Loc) (cells slots : Nat) (lc : Array Slot), p.tables.exec = Jvm.exec → c.code = M.2.1 → s.vm.findClass M.1.cls = some m.cls → (M.1.name = "<init>" → meth.name = "<init>") → (∀ w ∈ ab_good, w.before args s = true) → ab_At G (w.1.take 50) s → ab_R G w H → va_S (ab_A G) s.heap H locs → lv_has lc M.2.2.1 (ab_lv G ls) →
      (∀ (H1 : Heap) (locs1 : List Loc), ab_R G (ab_st w a e) H1 → va_S (ab_A G) s.heap H1 locs1 → W p G.1 ev R s m args below meth c H1 locs1 cells slots Q (F0 m pc' lc (ab_rs G st'))) → W p G.1 ev R s m args below meth c H locs cells slots Q (F0 m pc lc (ab_rs G st)))
    (h : ab_Ex G d M pc' ls st' (ab_st w a e) Q) : ab_Ex G d M pc ls st w Q := by
  obtain ⟨v, w', ⟨g1, g2, g3, g⟩, q⟩ := h
  have hl1 : (ab_st w a e).1.length = w.1.length := List.length_set
  have ht1 : (ab_st w a e).1.take 50 = w.1.take 50 := ab_take_set ha
  refine ⟨v, w', ⟨by rw [← hl1]; exact g1, g2, by rw [← ht1]; exact g3, fun R p ev s m args below meth c w0 Q C hd hl hc hs h1 h2 hend H locs lc hR hS hlv => ?_⟩, q⟩
  have kk := g R p ev s m args below meth c w0 Q (by rw [ht1]; exact C) hd hl hc hs (by rw [hl1]; exact h1) h2 hend
  rw [hl1] at kk
  exact hk R p ev s m args below meth c Q H locs _ _ lc C.1 C.2.1 C.2.2.2.2.2.1 C.2.2.2.2.2.2.1 C.2.2.2.2.2.2.2.1 C.2.2.2.2.2.2.2.2 hR hS hlv (fun H1 locs1 hR1 hS1 => kk H1 locs1 lc hR1 hS1 hlv)
/-- a step that makes a cell -/
theorem ab_hn {G : ab_G} {d : Nat} {M : ab_M} {pc pc' : Nat} {ls : ab_L} {st st' : List Value} {w : ab_H} {Q : Option Value → ab_H → Prop} (e : ab_E) (n : Nat) (h50 : 50 ≤ w.1.length)
    (hk : ∀ (R : Room) (p : Program) (ev : Env) (s : State) (m : MethodId) (args : Array Value) (below : List Frame) (meth : Method) (c : Code) (Q : State → Prop) (H : Heap) (locs : List Loc) (cells slots : Nat) (lc : Array Slot), p.tables.exec = Jvm.exec → c.code = M.2.1 → s.vm.findClass M.1.cls = some m.cls → (∀ w ∈ ab_good, w.before args s = true) → ab_At G (w.1.take 50) s → ab_R G w H → va_S (ab_A G) s.heap H locs → lv_has lc M.2.2.1 (ab_lv G ls) → cells + 1 ≤ R.cells → slots + n ≤ R.slots →
      (∀ (H1 : Heap), va_S (ab_A G) s.heap H1 locs → ab_R G (ab_pu w e n) H1 → W p G.1 ev R s m args below meth c H1 locs (cells + 1) (slots + n) Q (F0 m pc' lc (ab_rs G st'))) → W p G.1 ev R s m args below meth c H locs cells slots Q (F0 m pc lc (ab_rs G st)))
    (h : ab_Ex G d M pc' ls st' (ab_pu w e n) Q) : ab_Ex G d M pc ls st w Q := by
  obtain ⟨v, w', ⟨g1, g2, g3, g⟩, q⟩ := h
  have hl1 : (ab_pu w e n).1.length = w.1.length + 1 := by simp [ab_pu]
  have hz1 : (ab_pu w e n).2 = w.2 + n := rfl
  have ht1 : (ab_pu w e n).1.take 50 = w.1.take 50 := List.take_append_of_le_length h50
  rw [hl1] at g1
  rw [hz1] at g2
  refine ⟨v, w', ⟨by omega, by omega, by rw [← ht1]; exact g3, fun R p ev s m args below meth c w0 Q C hd hl hc hs h1 h2 hend H locs lc hR hS hlv => ?_⟩, q⟩
  have kk := g R p ev s m args below meth c w0 Q (by rw [ht1]; exact C) hd hl hc hs (by rw [hl1]; omega) (by rw [hz1]; omega) hend
  rw [hl1, hz1, show w.1.length + 1 - w0.1.length = (w.1.length - w0.1.length) + 1 by omega, show w.2 + n - w0.2 = (w.2 - w0.2) + n by omega] at kk
  exact hk R p ev s m args below meth c Q H locs _ _ lc C.1 C.2.1 C.2.2.2.2.2.1 C.2.2.2.2.2.2.2.1 C.2.2.2.2.2.2.2.2 hR hS hlv (by omega) (by omega) (fun H1 hS1 hR1 => kk H1 locs lc hR1 hS1 hlv)
/-- what the tables say of a field that an instruction names -/
def ab_FL (own : String) (i ci k : Nat) (fin : Bool) : Prop := ∃ (C : String) (T : u_T) (N : Nat), ab_cl[ci]? = some (C, T, N) ∧ k < N ∧ (T k).2.2.2 = fin ∧ ((Cond.fieldLink own i (T k).1 (T k).2.1 (T k).2.2.1 ∈ ab_good ∧ (fin = true → (T k).1 = own)) ∨ ∃ host : String, fin = fin ∧ Cond.fieldLinkNest own i (T k).1 (T k).2.1 (T k).2.2.1 host ∈ ab_nest)
theorem ab_narrow {G : ab_G} {ty : FieldType} {v : Value} (h : narrow ty v = v) : narrow ty (ab_re G v) = ab_re G v := by
  cases v <;> first | exact h | (cases ty <;> rfl)
theorem ab_fits {G : ab_G} {ty : FieldType} {v : Value} (h : fits ty v = true) : fits ty (ab_re G v) = true := by
  cases v <;> first | exact h | (cases ty <;> first | rfl | exact h)
theorem ab_mapset {G : ab_G} {fs : List Value} {k : Nat} {v : Value} : (fs.map (ab_re G)).set k (ab_re G v) = (fs.set k v).map (ab_re G) := by rw [List.map_set]
section CELLS
variable {G : ab_G} {d : Nat} {M : ab_M} {pc : Nat} {ls : ab_L} {st : List Value} {w : ab_H} {Q : Option Value → ab_H → Prop}
theorem x_getf (pc' : Nat) {i ci k a : Nat} {fin : Bool} {fs : List Value} {u : Value} (hd : decode M.2.1 pc = .ok (.getfield i, 3)) (hp : pc + 3 = pc') (hf : ab_FL M.1.cls i ci k fin) (ha : 50 ≤ a) (hw : w.1[a]? = some (.inr (ci, fs))) (hv : fs[k]? = some u) (h : ab_Ex G d M pc' ls (u :: st) w Q) : ab_Ex G d M pc ls (.ref a :: st) w Q := by
  subst hp
  refine ab_sm (fun R p e s m args below meth c Q H locs cells slots lc hx hb ho ht hAt hR hS hlv k0 => ?_) h
  obtain ⟨C, T, N, hc, hk, -, hl⟩ := hf
  have hv' : (fs.map (ab_re G))[k]? = some (ab_re G u) := by rw [List.getElem?_map, hv]; rfl
  rcases hl with ⟨hl, -⟩ | ⟨host, -, hl⟩
  · exact va_get hx hb ht (ab_ck hc).2.2 ho hAt.2.1 hR.2.2 (a - 50) (ab_cwget ha hw) hc k hk (ht _ hl) (fun _ z => z) hv' hd (k0 lc hlv)
  · exact va_getN hx hb ht (ab_ck hc).2.2 ho hAt.2.1 hR.2.2 (a - 50) (ab_cwget ha hw) hc k hk (va_Nw.use rfl (hAt.2.2.1 _ hl)) (fun _ z => z) hv' hd (k0 lc hlv)
theorem x_putf (pc' : Nat) {i ci k a : Nat} {fs : List Value} {u : Value} (hd : decode M.2.1 pc = .ok (.putfield i, 3)) (hp : pc + 3 = pc') (hf : ab_FL M.1.cls i ci k false) (ha : 50 ≤ a) (hw : w.1[a]? = some (.inr (ci, fs))) (hn : narrow (ab_ty ci k) u = u) (hfit : fits (ab_ty ci k) u = true) (hkl : k < fs.length) (h : ab_Ex G d M pc' ls st (ab_st w a (.inr (ci, fs.set k u))) Q) : ab_Ex G d M pc ls (u :: .ref a :: st) w Q := by
  subst hp
  refine ab_hs a _ ha (fun R p e s m args below meth c Q H locs cells slots lc hx hb ho _ ht hAt hR hS hlv k0 => ?_) h
  obtain ⟨C, T, N, hc, hk, hfin, hl⟩ := hf
  have hkl' : k < (fs.map (ab_re G)).length := by rw [List.length_map]; exact hkl
  have fin : ∀ (H1 : Heap) (locs1 : List Loc), va_P G.2.2.1 ab_cl ((ab_cw G (w.1.drop 50)).set (a - 50) (ab_al G a, .inr (ci, (fs.map (ab_re G)).set k (ab_re G u)))) H1 → H1.size = H.size → va_S (ab_A G) s.heap H1 locs1 → W p G.1 e R s m args below meth c H1 locs1 cells slots Q (F0 m (pc + 3) lc (ab_rs G st)) := fun H1 locs1 hP1 hz hS1 =>
    k0 H1 locs1 (ab_R_set ha hR hz (by rw [ab_mapset] at hP1; exact hP1)) hS1
  have hty := (ab_ck hc).1
  have hnm := (ab_ck hc).2.1
  have hin := (ab_ck hc).2.2
  have hP := hR.2.2
  have he := ab_cwget (G := G) ha hw
  have hD := ab_D (G := G) (w.1.drop 50)
  have hap := va_apart (own := M.1.cls) ht hin (ab_ty ci) hty hnm hAt.2.1 hc
  obtain ⟨r, h1, cell, q1, q2, q3, q4⟩ := hP (a - 50) _ he
  have hr : r = (C, T, N) := Option.some.inj (h1.symm.trans hc)
  subst hr
  obtain ⟨hSl, hfc, kC, hkC, hkind⟩ := hAt.2.1.1 ci _ hc
  obtain ⟨cf, kf, fi, f, hi, hsl⟩ := hSl k hk
  have hlay := ht _ (hin _ (u_in_lay hk))
  unfold u_lay at hlay
  rw [if_neg (by rw [hfin]; decide)] at hlay
  have hst := (u_facts hfc hkC (u_lays ht hin hk) hi).1
  have h6 := u_store hfc hkC hkind hlay hi (hty k hk) (ab_narrow (G := G) hn) (ab_fits (G := G) hfit)
  rcases hl with ⟨hl, -⟩ | ⟨host, -, hl⟩
  · refine W.putK hx hb (f := f) ⟨ho, ht _ hl, ⟨_, _, _, hi⟩, hst⟩ (by rw [q2]; exact h6) q1 q3 (by rw [hsl]; exact k2_hasslot (q4 k hk)) rfl rfl hd fun H' e1 e2 e3 => ?_
    rw [hsl] at e1 ⊢
    exact fin H' _ (hP.set hD he ⟨_, hc, t_OB.to (V := updV (vp_V (fs.map (ab_re G))) k (ab_re G u)) ⟨_, e1, q2, q3, t_set q4 hap hk _⟩ (fun j _ => vp_updV_set hkl' _ j)⟩ e3) e2 (hS.put e2 e3 (hD.2 (a - 50) _ he))
  · refine va_WputK hx hb (f := f) ho (va_Nw.use rfl (hAt.2.2.1 _ hl)) hi hst (by rw [q2]; exact h6) q1 q3 (by rw [hsl]; exact k2_hasslot (q4 k hk)) rfl rfl hd fun H' e1 e2 e3 => ?_
    rw [hsl] at e1 ⊢
    exact fin H' _ (hP.set hD he ⟨_, hc, t_OB.to (V := updV (vp_V (fs.map (ab_re G))) k (ab_re G u)) ⟨_, e1, q2, q3, t_set q4 hap hk _⟩ (fun j _ => vp_updV_set hkl' _ j)⟩ e3) e2 (hS.put e2 e3 (hD.2 (a - 50) _ he))
end CELLS
