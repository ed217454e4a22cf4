/-! ===== final fields; arrays; new cells ===== -/
section ARR
variable {G : ab_G} {d : Nat} {M : ab_M} {pc : Nat} {ls : ab_L} {st : List Value} {w : ab_H} {Q : Option Value → ab_H → Prop}
theorem x_putfF (pc' : Nat) {i ci k a : Nat} {fs : List Value} {u : Value} (hd : decode M.2.1 pc = .ok (.putfield i, 3)) (hp : pc + 3 = pc') (hf : ab_FL M.1.cls i ci k true) (hini : M.1.name = "<init>") (ha : 50 ≤ a) (hw : w.1[a]? = some (.inr (ci, fs))) (hn : narrow (ab_ty ci k) u = u) (hfit : fits (ab_ty ci k) u = true) (hkl : k < fs.length) (hpl : ∀ host : String, ∀ O n dd, Cond.fieldLinkNest M.1.cls i O n dd host ∉ ab_nest) (h : ab_Ex G d M pc' ls st (ab_st w a (.inr (ci, fs.set k u))) Q) : ab_Ex G d M pc ls (u :: .ref a :: st) w Q := by
  subst hp
  refine ab_hs a _ ha (fun R p e s m args below meth c Q H locs cells slots lc hx hb ho hname ht hAt hR hS hlv k0 => ?_) h
  obtain ⟨C, T, N, hc, hk, hfin, hl⟩ := hf
  have hkl' : k < (fs.map (ab_re G)).length := by rw [List.length_map]; exact hkl
  have hty := (ab_ck hc).1
  have hnm := (ab_ck hc).2.1
  have hin := (ab_ck hc).2.2
  have hP := hR.2.2
  have he := ab_cwget (G := G) ha hw
  have hD := ab_D (G := G) (w.1.drop 50)
  have hap := va_apart (own := M.1.cls) ht hin (ab_ty ci) hty hnm hAt.2.1 hc
  obtain ⟨r, h1, cell, q1, q2, q3, q4⟩ := hP (a - 50) _ he
  have hr : r = (C, T, N) := Option.some.inj (h1.symm.trans hc)
  subst hr
  obtain ⟨hSl, hfc, kC, hkC, hkind⟩ := hAt.2.1.1 ci _ hc
  obtain ⟨cf, kf, fi, f, hi, hsl⟩ := hSl k hk
  have hlay := ht _ (hin _ (u_in_lay hk))
  unfold u_lay at hlay
  rw [if_pos hfin] at hlay
  have hst := (u_facts hfc hkC (u_lays ht hin hk) hi).1
  have h6 := u_fits hfc hkC hkind (Or.inr hlay) hi (hty k hk) (ab_narrow (G := G) hn) (ab_fits (G := G) hfit)
  rcases hl with ⟨hl, hown2⟩ | ⟨host, -, hl⟩
  · have hdecl : (T k).1 = M.1.cls := hown2 rfl
    have hcf : m.cls = cf := by
      obtain ⟨_, _, c', _, _, _, -, -, hf', -, -, -, hown3, -⟩ := Cond.laysFinal_spec hlay
      have e1 : c' = cf := by have := hi.symm.trans hf'; simp at this; exact this.1.symm
      rw [hdecl] at hown3
      rw [← e1]; exact Option.some.inj (ho.symm.trans hown3)
    refine W.putFinK hx hb ho (ht _ hl) hi hst hcf (hname hini) (by rw [q2]; exact h6) q1 q3 (by rw [hsl]; exact k2_hasslot (q4 k hk)) rfl rfl hd fun H' e1 e2 e3 => ?_
    rw [hsl] at e1 ⊢
    exact k0 H' _ (ab_R_set ha hR e2 (by
      have := hP.set hD he (e := .inr (ci, (fs.map (ab_re G)).set k (ab_re G u))) ⟨_, hc, t_OB.to (V := updV (vp_V (fs.map (ab_re G))) k (ab_re G u)) ⟨_, e1, q2, q3, t_set q4 hap hk _⟩ (fun j _ => vp_updV_set hkl' _ j)⟩ e3
      rw [ab_mapset] at this
      exact this)) (hS.put e2 e3 (hD.2 (a - 50) _ he))
  · exact absurd hl (hpl _ _ _ _)
theorem ab_arr {t0 : Nat} {ty : FieldType} (ht : ab_tl[t0]? = some ty) : (ab_tys G)[t0]? = some (G.2.2.2.1 ty, ty) := by
  unfold ab_tys
  rw [List.getElem?_map, ht]; rfl
/-- the world behind a row that set one cell: its size is the same -/
theorem ab_sz {A : Nat → Prop} {a i : Nat} {H0 H H1 : Heap} {locs : List Loc} (z : H1.size = H.size) (o : ∀ q : Nat, q ≠ a → H1[q]? = H[q]?) (h : va_S A H0 H locs) (ha : A a) : va_S A H0 H1 (locs ++ [⟨a, i⟩]) := h.put z o ha
theorem x_iald (pc' : Nat) {a n : Nat} {f : Nat → Int32} {i : Int32} (hd : decode M.2.1 pc = .ok (.iaload, 1)) (hp : pc + 1 = pc') (ha : 50 ≤ a) (hw : w.1[a]? = some (.inl (.int, n, .inl f))) (hin : vp_in i n) (h : ab_Ex G d M pc' ls (.int (f i.toNatClampNeg) :: st) w Q) : ab_Ex G d M pc ls (.int i :: .ref a :: st) w Q := by
  subst hp
  exact ab_sm (fun R p e s m args below meth c Q H locs cells slots lc hx hb ho ht hAt hR hS hlv k => va_iald hx hb hAt.2.1 hR.2.2 (a - 50) 0 (ab_cwget ha hw) rfl hin hd (k lc hlv)) h
theorem x_bald (pc' : Nat) {a n : Nat} {f : Nat → Int32} {i : Int32} (hd : decode M.2.1 pc = .ok (.baload, 1)) (hp : pc + 1 = pc') (ha : 50 ≤ a) (hw : w.1[a]? = some (.inl (.byte, n, .inl f))) (hin : vp_in i n) (h : ab_Ex G d M pc' ls (.int (f i.toNatClampNeg) :: st) w Q) : ab_Ex G d M pc ls (.int i :: .ref a :: st) w Q := by
  subst hp
  exact ab_sm (fun R p e s m args below meth c Q H locs cells slots lc hx hb ho ht hAt hR hS hlv k => va_bald hx hb hAt.2.1 hR.2.2 (a - 50) 1 (ab_cwget ha hw) rfl hin hd (k lc hlv)) h
theorem x_zald (pc' : Nat) {a n : Nat} {f : Nat → Int32} {i : Int32} (hd : decode M.2.1 pc = .ok (.baload, 1)) (hp : pc + 1 = pc') (ha : 50 ≤ a) (hw : w.1[a]? = some (.inl (.boolean, n, .inl f))) (hin : vp_in i n) (h : ab_Ex G d M pc' ls (.int (f i.toNatClampNeg) :: st) w Q) : ab_Ex G d M pc ls (.int i :: .ref a :: st) w Q := by
  subst hp
  exact ab_sm (fun R p e s m args below meth c Q H locs cells slots lc hx hb ho ht hAt hR hS hlv k => va_zald hx hb hAt.2.1 hR.2.2 (a - 50) 3 (ab_cwget ha hw) rfl hin hd (k lc hlv)) h
theorem x_lald (pc' : Nat) {a n : Nat} {f : Nat → Int64} {i : Int32} (hd : decode M.2.1 pc = .ok (.laload, 1)) (hp : pc + 1 = pc') (ha : 50 ≤ a) (hw : w.1[a]? = some (.inl (.long, n, .inr (.inl f)))) (hin : vp_in i n) (h : ab_Ex G d M pc' ls (.long (f i.toNatClampNeg) :: st) w Q) : ab_Ex G d M pc ls (.int i :: .ref a :: st) w Q := by
  subst hp
  exact ab_sm (fun R p e s m args below meth c Q H locs cells slots lc hx hb ho ht hAt hR hS hlv k => va_lald hx hb hAt.2.1 hR.2.2 (a - 50) 2 (ab_cwget ha hw) rfl hin hd (k lc hlv)) h
theorem ab_re_rf (r : Option Nat) : ab_re G (va_rf r) = va_rf (r.map (ab_al G)) := by cases r <;> rfl
theorem x_aald (pc' t0 : Nat) {a n : Nat} {C : String} {f : Nat → Option Nat} {i : Int32} (hd : decode M.2.1 pc = .ok (.aaload, 1)) (hp : pc + 1 = pc') (ha : 50 ≤ a) (ht0 : ab_tl[t0]? = some (.object C)) (hw : w.1[a]? = some (.inl (.object C, n, .inr (.inr (.inr (.inr f)))))) (hin : vp_in i n) (h : ab_Ex G d M pc' ls (va_rf (f i.toNatClampNeg) :: st) w Q) : ab_Ex G d M pc ls (.int i :: .ref a :: st) w Q := by
  subst hp
  refine ab_sm (fun R p e s m args below meth c Q H locs cells slots lc hx hb ho ht hAt hR hS hlv k => ?_) h
  have kk := k lc hlv
  unfold ab_rs at kk
  rw [List.map_cons, ab_re_rf] at kk
  exact va_aldq hx hb hAt.2.1 hR.2.2 (a - 50) t0 (f := fun j => (f j).map (ab_al G)) (ab_cwget ha hw) (ab_arr ht0) hin hd kk
theorem x_iast (pc' : Nat) {a n : Nat} {f : Nat → Int32} {i x : Int32} (hd : decode M.2.1 pc = .ok (.iastore, 1)) (hp : pc + 1 = pc') (ha : 50 ≤ a) (hw : w.1[a]? = some (.inl (.int, n, .inl f))) (hin : vp_in i n) (h : ab_Ex G d M pc' ls st (ab_st w a (.inl (.int, n, .inl (upd f i.toNatClampNeg x)))) Q) : ab_Ex G d M pc ls (.int x :: .int i :: .ref a :: st) w Q := by
  subst hp
  refine ab_hs a _ ha (fun R p e s m args below meth c Q H locs cells slots lc hx hb ho _ ht hAt hR hS hlv k => ?_) h
  have he := ab_cwget (G := G) ha hw
  have hD := ab_D (G := G) (w.1.drop 50)
  refine W.iast hx hb (hR.2.2 (a - 50) _ he) ((hAt.2.1.2 0 _ rfl).1 n (fun j => .int (f j))) (fun q => by cases q) (by show ¬ (i < 0 ∨ (arrV _ _ _).slots.size ≤ _); rw [arrV_size]; exact hin) rfl rfl hd fun H1 e z oq => ?_
  refine k H1 _ (ab_R_set ha hR z (hR.2.2.set hD he ?_ oq)) (hS.put z oq (hD.2 (a - 50) _ he))
  show H1[ab_al G a]? = some (vp_cell _ (n, .inl _))
  rw [e, vp_cell_i]
  rw [show (ab_ra G (n, .inl f)) = (n, .inl f) from rfl, vp_cell_i, arrV_store]
  congr 2
  funext q
  by_cases hq : q = i.toNatClampNeg
  · subst hq
    simp [updV, upd]
  · simp [updV, upd, hq]
theorem ab_nestno {own : String} {i : Nat} (h : (ab_nest.all (fun w => match w with | .fieldLinkNest o j _ _ _ _ => !(o == own && j == i) | _ => true)) = true) : ∀ host : String, ∀ O n dd, Cond.fieldLinkNest own i O n dd host ∉ ab_nest := by
  intro host O n dd hm
  have := List.all_eq_true.mp h _ hm
  simp at this
end ARR
