/-! ===== more arrays, constants, new cells ===== -/
section MORE
variable {G : ab_G} {d : Nat} {M : ab_M} {pc : Nat} {ls : ab_L} {st : List Value} {w : ab_H} {Q : Option Value → ab_H → Prop}
theorem x_bast (pc' : Nat) {a n : Nat} {f : Nat → Int32} {i x : Int32} (hd : decode M.2.1 pc = .ok (.bastore, 1)) (hp : pc + 1 = pc') (ha : 50 ≤ a) (hw : w.1[a]? = some (.inl (.byte, n, .inl f))) (hin : vp_in i n) (h : ab_Ex G d M pc' ls st (ab_st w a (.inl (.byte, n, .inl (upd f i.toNatClampNeg (vp_nar .byte x))))) Q) : ab_Ex G d M pc ls (.int x :: .int i :: .ref a :: st) w Q := by
  subst hp
  refine ab_hs a _ ha (fun R p e s m args below meth c Q H locs cells slots lc hx hb ho _ ht hAt hR hS hlv k => ?_) h
  have he := ab_cwget (G := G) ha hw
  have hD := ab_D (G := G) (w.1.drop 50)
  refine W.bast hx hb (hR.2.2 (a - 50) _ he) ((hAt.2.1.2 1 _ rfl).1 n (fun j => .int (f j))) (fun q => by cases q) (by show ¬ (i < 0 ∨ (arrV _ _ _).slots.size ≤ _); rw [arrV_size]; exact hin) rfl rfl hd fun H1 e z oq => ?_
  refine k H1 _ (ab_R_set ha hR z (hR.2.2.set hD he ?_ oq)) (hS.put z oq (hD.2 (a - 50) _ he))
  show H1[ab_al G a]? = some (vp_cell _ (n, .inl _))
  rw [e, vp_cell_i]
  rw [show (ab_ra G (n, .inl f)) = (n, .inl f) from rfl, vp_cell_i, arrV_store]
  congr 2
  funext q
  by_cases hq : q = i.toNatClampNeg
  · subst hq
    simp [updV, upd, vp_nar]
    try rfl
  · simp [updV, upd, hq]
theorem x_zast (pc' : Nat) {a n : Nat} {f : Nat → Int32} {i x : Int32} (hd : decode M.2.1 pc = .ok (.bastore, 1)) (hp : pc + 1 = pc') (ha : 50 ≤ a) (hw : w.1[a]? = some (.inl (.boolean, n, .inl f))) (hin : vp_in i n) (h : ab_Ex G d M pc' ls st (ab_st w a (.inl (.boolean, n, .inl (upd f i.toNatClampNeg (vp_nar .boolean x))))) Q) : ab_Ex G d M pc ls (.int x :: .int i :: .ref a :: st) w Q := by
  subst hp
  refine ab_hs a _ ha (fun R p e s m args below meth c Q H locs cells slots lc hx hb ho _ ht hAt hR hS hlv k => ?_) h
  have he := ab_cwget (G := G) ha hw
  have hD := ab_D (G := G) (w.1.drop 50)
  refine W.zast hx hb (hR.2.2 (a - 50) _ he) ((hAt.2.1.2 3 _ rfl).1 n (fun j => .int (f j))) (fun q => by cases q) (by show ¬ (i < 0 ∨ (arrV _ _ _).slots.size ≤ _); rw [arrV_size]; exact hin) rfl rfl hd fun H1 e z oq => ?_
  refine k H1 _ (ab_R_set ha hR z (hR.2.2.set hD he ?_ oq)) (hS.put z oq (hD.2 (a - 50) _ he))
  show H1[ab_al G a]? = some (vp_cell _ (n, .inl _))
  rw [e, vp_cell_i]
  rw [show (ab_ra G (n, .inl f)) = (n, .inl f) from rfl, vp_cell_i, arrV_store]
  congr 2
  funext q
  by_cases hq : q = i.toNatClampNeg
  · subst hq
    simp [updV, upd, vp_nar]
    try rfl
  · simp [updV, upd, hq]
theorem x_last (pc' : Nat) {a n : Nat} {f : Nat → Int64} {i : Int32} {x : Int64} (hd : decode M.2.1 pc = .ok (.lastore, 1)) (hp : pc + 1 = pc') (ha : 50 ≤ a) (hw : w.1[a]? = some (.inl (.long, n, .inr (.inl f)))) (hin : vp_in i n) (h : ab_Ex G d M pc' ls st (ab_st w a (.inl (.long, n, .inr (.inl (vp_updL f i.toNatClampNeg x))))) Q) : ab_Ex G d M pc ls (.long x :: .int i :: .ref a :: st) w Q := by
  subst hp
  refine ab_hs a _ ha (fun R p e s m args below meth c Q H locs cells slots lc hx hb ho _ ht hAt hR hS hlv k => ?_) h
  have he := ab_cwget (G := G) ha hw
  have hD := ab_D (G := G) (w.1.drop 50)
  refine W.last hx hb (hR.2.2 (a - 50) _ he) ((hAt.2.1.2 2 _ rfl).1 n (fun j => .long (f j))) (fun q => by cases q) (by show ¬ (i < 0 ∨ (arrV _ _ _).slots.size ≤ _); rw [arrV_size]; exact hin) rfl rfl hd fun H1 e z oq => ?_
  refine k H1 _ (ab_R_set ha hR z (hR.2.2.set hD he ?_ oq)) (hS.put z oq (hD.2 (a - 50) _ he))
  show H1[ab_al G a]? = some (vp_cell _ (n, .inr (.inl _)))
  rw [e, vp_cell_l]
  rw [show (ab_ra G (n, .inr (.inl f))) = (n, .inr (.inl f)) from rfl, vp_cell_l, arrV_store]
  congr 2
  funext q
  by_cases hq : q = i.toNatClampNeg
  · subst hq
    simp [updV, vp_updL]
  · simp [updV, vp_updL, hq]
theorem x_aast (pc' t0 : Nat) {a n b ci : Nat} {C : String} {T : u_T} {N : Nat} {vs : List Value} {f : Nat → Option Nat} {i : Int32} (hd : decode M.2.1 pc = .ok (.aastore, 1)) (hp : pc + 1 = pc') (ha : 50 ≤ a) (ht0 : ab_tl[t0]? = some (.object C)) (hw : w.1[a]? = some (.inl (.object C, n, .inr (.inr (.inr (.inr f)))))) (hb0 : 50 ≤ b) (hw2 : w.1[b]? = some (.inr (ci, vs))) (hc : ab_cl[ci]? = some (C, T, N)) (hin : vp_in i n) (h : ab_Ex G d M pc' ls st (ab_st w a (.inl (.object C, n, .inr (.inr (.inr (.inr (va_up f i.toNatClampNeg (some b)))))))) Q) : ab_Ex G d M pc ls (.ref b :: .int i :: .ref a :: st) w Q := by
  subst hp
  refine ab_hs a _ ha (fun R p e s m args below meth c Q H locs cells slots lc hx hb ho _ ht hAt hR hS hlv k => ?_) h
  have he := ab_cwget (G := G) ha hw
  have hD := ab_D (G := G) (w.1.drop 50)
  have hlt : i.toNatClampNeg < n := Nat.not_le.mp fun q => hin (Or.inr q)
  have h0 : ¬ i < 0 := fun q => hin (Or.inl q)
  obtain ⟨r', hr', cellV, g1, g2, g3, -⟩ := hR.2.2 (b - 50) _ (ab_cwget (G := G) hb0 hw2)
  have hcls := (hAt.2.1.1 ci _ hc).2
  obtain ⟨kA, comp, k1, k2, k3, -⟩ := (hAt.2.1.2 t0 _ (ab_arr ht0)).2
  have hcomp : comp = G.2.2.1.1 ci := Option.some.inj (k3.symm.trans hcls.1)
  subst hcomp
  obtain ⟨kC, hkC, -⟩ := hcls.2
  refine W.aast hx hb (hR.2.2 (a - 50) _ he) (fun q h => by cases h) (fun h => by cases h) k1 k2 rfl hkC ⟨h0, by show _ < (arrV _ _ _).slots.size; rw [arrV_size]; exact hlt⟩ g1 (fun q h => by rw [g3] at h; cases h) (by rw [g2]; exact hkC) (by rw [g2]; exact va_assign hcls) rfl rfl hd fun H1 e z oq => ?_
  refine k H1 _ (ab_R_set ha hR z (hR.2.2.set hD he ?_ oq)) (hS.put z oq (hD.2 (a - 50) _ he))
  show H1[ab_al G a]? = some (vp_cell _ (n, .inr (.inr (.inr (.inr _)))))
  rw [e, vp_cell_q]
  rw [show (ab_ra G (n, .inr (.inr (.inr (.inr f))))) = (n, .inr (.inr (.inr (.inr (fun j => (f j).map (ab_al G)))))) from rfl, vp_cell_q, arrV_store]
  congr 2
  funext q
  by_cases hq : q = i.toNatClampNeg
  · subst hq
    simp [updV, va_up, va_rf]
  · simp [updV, va_up, hq]
theorem x_alen (pc' t0 : Nat) {a : Nat} {ty : FieldType} {x : vp_A} (z : Int32) (hd : decode M.2.1 pc = .ok (.arraylength, 1)) (hp : pc + 1 = pc') (ha : 50 ≤ a) (ht0 : ab_tl[t0]? = some ty) (hw : w.1[a]? = some (.inl (ty, x))) (hz : Int32.ofNat x.1 = z) (h : ab_Ex G d M pc' ls (.int z :: st) w Q) : ab_Ex G d M pc ls (.ref a :: st) w Q := by
  subst hp
  exact ab_sm (fun R p e s m args below meth c Q H locs cells slots lc hx hb ho ht hAt hR hS hlv k => va_alen hx hb hAt.2.1 hR.2.2 (a - 50) t0 (x := ab_ra G x) (ab_cwget ha hw) (ab_arr ht0) hz hd (k lc hlv)) h
theorem ab_kget {wc : List ab_E} {l : List ab_E} {s : State} {a : Nat} {e : ab_E} (hAt : ab_At G (l.take 50) s) (ha : a < 50) (hw : l[a]? = some e) : ab_kc G s s.heap a e := hAt.2.2.2.2.2.1 a e ha (by rw [List.getElem?_take_of_lt ha]; exact hw)
theorem ab_rs_old {a : Nat} (ha : a < 50) : ab_re G (.ref a) = .ref (G.2.2.2.2 a) := by
  show Value.ref (ab_al G a) = _
  rw [ab_al_old G ha]
theorem x_ialdK (pc' : Nat) {a n : Nat} {f : Nat → Int32} {i : Int32} (hd : decode M.2.1 pc = .ok (.iaload, 1)) (hp : pc + 1 = pc') (ha : a < 50) (hw : w.1[a]? = some (.inl (.int, n, .inl f))) (hin : vp_in i n) (h : ab_Ex G d M pc' ls (.int (f i.toNatClampNeg) :: st) w Q) : ab_Ex G d M pc ls (.int i :: .ref a :: st) w Q := by
  subst hp
  refine ab_sm (fun R p e s m args below meth c Q H locs cells slots lc hx hb ho ht hAt hR hS hlv k => ?_) h
  show W _ _ _ _ _ _ _ _ _ _ _ _ _ _ _ (F0 m pc lc (.int i :: ab_re G (.ref a) :: ab_rs G st))
  rw [ab_rs_old ha]
  exact va_ti hx hb (ab_kget (wc := []) hAt ha hw) hS hin rfl hd (k lc hlv)
theorem x_baldK (pc' : Nat) {a n : Nat} {f : Nat → Int32} {i : Int32} (hd : decode M.2.1 pc = .ok (.baload, 1)) (hp : pc + 1 = pc') (ha : a < 50) (hw : w.1[a]? = some (.inl (.byte, n, .inl f))) (hin : vp_in i n) (h : ab_Ex G d M pc' ls (.int (f i.toNatClampNeg) :: st) w Q) : ab_Ex G d M pc ls (.int i :: .ref a :: st) w Q := by
  subst hp
  refine ab_sm (fun R p e s m args below meth c Q H locs cells slots lc hx hb ho ht hAt hR hS hlv k => ?_) h
  show W _ _ _ _ _ _ _ _ _ _ _ _ _ _ _ (F0 m pc lc (.int i :: ab_re G (.ref a) :: ab_rs G st))
  rw [ab_rs_old ha]
  exact va_tb hx hb (ab_kget (wc := []) hAt ha hw) hS hin rfl hd (k lc hlv)
theorem x_alenK (pc' : Nat) {a n : Nat} {ty : FieldType} {f : Nat → Int32} (z : Int32) (hd : decode M.2.1 pc = .ok (.arraylength, 1)) (hp : pc + 1 = pc') (ha : a < 50) (hw : w.1[a]? = some (.inl (ty, n, .inl f))) (hz : Int32.ofNat n = z) (h : ab_Ex G d M pc' ls (.int z :: st) w Q) : ab_Ex G d M pc ls (.ref a :: st) w Q := by
  subst hp
  refine ab_sm (fun R p e s m args below meth c Q H locs cells slots lc hx hb ho ht hAt hR hS hlv k => ?_) h
  show W _ _ _ _ _ _ _ _ _ _ _ _ _ _ _ (F0 m pc lc (ab_re G (.ref a) :: ab_rs G st))
  rw [ab_rs_old ha]
  obtain ⟨cell, h1, h2, h3, h4, h5, h6, h7⟩ := ab_kget (wc := []) hAt ha hw
  exact W.alen (n := z) hx hb (by rw [hS.2.1 _ (Array.getElem?_eq_some_iff.mp h1).1 h7]; exact h1) h2 (h5.trans hz) rfl rfl hd (k lc hlv)
theorem x_strV (pc' : Nat) {i a : Nat} {v1 v2 : Value} (hd : decode M.2.1 pc = .ok (.getfield i, 3)) (hp : pc + 3 = pc') (hl : Cond.fieldLink M.1.cls i "java/lang/String" "value" "[B" ∈ ab_good) (ha : a < 50) (hw : w.1[a]? = some (.inr (14, [v1, v2]))) (h : ab_Ex G d M pc' ls (v1 :: st) w Q) : ab_Ex G d M pc ls (.ref a :: st) w Q := by
  subst hp
  refine ab_sm (fun R p e s m args below meth c Q H locs cells slots lc hx hb ho ht hAt hR hS hlv k => ?_) h
  show W _ _ _ _ _ _ _ _ _ _ _ _ _ _ _ (F0 m pc lc (ab_re G (.ref a) :: ab_rs G st))
  rw [ab_rs_old ha]
  exact vk_getf hx hb (ab_kget (wc := []) hAt ha hw).2.1 hS ho (ht _ hl) (fun _ z => z) hd (k lc hlv)
theorem x_strC (pc' : Nat) {i a : Nat} {v1 v2 : Value} (hd : decode M.2.1 pc = .ok (.getfield i, 3)) (hp : pc + 3 = pc') (hl : Cond.fieldLink M.1.cls i "java/lang/String" "coder" "B" ∈ ab_good) (ha : a < 50) (hw : w.1[a]? = some (.inr (14, [v1, v2]))) (h : ab_Ex G d M pc' ls (v2 :: st) w Q) : ab_Ex G d M pc ls (.ref a :: st) w Q := by
  subst hp
  refine ab_sm (fun R p e s m args below meth c Q H locs cells slots lc hx hb ho ht hAt hR hS hlv k => ?_) h
  show W _ _ _ _ _ _ _ _ _ _ _ _ _ _ _ (F0 m pc lc (ab_re G (.ref a) :: ab_rs G st))
  rw [ab_rs_old ha]
  exact vk_getf hx hb (ab_kget (wc := []) hAt ha hw).2.2 hS ho (ht _ hl) (fun _ z => z) hd (k lc hlv)
theorem ab_R_push {e : ab_E} {n : Nat} {H H1 : Heap} (hR : ab_R G w H) (hz : H1.size = H.size + 1) (ho : ∀ q : Nat, q < H.size → H1[q]? = H[q]?) (he : va_at G.2.2.1 ab_cl (H.size, ab_ce G e) H1) : ab_R G (ab_pu w e n) H1 := by
  have hl : (ab_pu w e n).1.length = w.1.length + 1 := by simp [ab_pu]
  refine ⟨by rw [hl, hz]; have := hR.1; omega, by rw [hl]; have := hR.2.1; omega, ?_⟩
  have hdrop : (ab_pu w e n).1.drop 50 = w.1.drop 50 ++ [e] := List.drop_append_of_le_length hR.2.1
  have hcw : ab_cw G ((ab_pu w e n).1.drop 50) = ab_cw G (w.1.drop 50) ++ [(H.size, ab_ce G e)] := by
    rw [hdrop]
    unfold ab_cw
    rw [List.mapIdx_concat]
    congr 3
    rw [List.length_drop]
    have h1 := hR.1
    have h2 := hR.2.1
    omega
  rw [hcw]
  refine (hR.2.2.kept (fun k x hx => ho x.1 ((hR.2.2 k x hx).lt))).app (fun k x hx => ?_)
  have hz : k < 1 := (List.getElem?_eq_some_iff.mp hx).1
  rw [show k = 0 by omega] at hx
  cases hx
  exact he
theorem ab_S_push {s : State} {H H1 : Heap} {locs : List Loc} (hS : va_S (ab_A G) s.heap H locs) (hz : H1.size = H.size + 1) (ho : ∀ q : Nat, q < H.size → H1[q]? = H[q]?) : va_S (ab_A G) s.heap H1 locs := ⟨Nat.le_trans hS.1 (by omega), fun x h1 h2 => (ho x (Nat.lt_of_lt_of_le h1 hS.1)).trans (hS.2.1 x h1 h2), hS.2.2⟩
theorem ab_newref {H : Heap} (hR : ab_R G w H) : ab_re G (.ref w.1.length) = .ref H.size := by
  show Value.ref (ab_al G w.1.length) = _
  rw [ab_al_new G hR.2.1]
  have h1 := hR.1
  have h2 := hR.2.1
  have h3 : G.2.1 + (w.1.length - 50) = H.size := by omega
  rw [h3]
theorem x_new (pc' : Nat) {i ci N : Nat} {C : String} {T : u_T} (fs : List Value) (hd : decode M.2.1 pc = .ok (.new i, 3)) (hp : pc + 3 = pc') (h50 : 50 ≤ w.1.length) (hc : ab_cl[ci]? = some (C, T, N)) (hcl : Cond.classLink M.1.cls i C ∈ ab_good) (hinst : Cond.instantiable C N ∈ ab_good) (hini : Cond.initialized C ∈ ab_good) (hfs : ∀ j, j < N → defaultValue (ab_ty ci j) = vp_V fs j) (hre : fs.map (ab_re G) = fs) (h : ab_Ex G d M pc' ls (.ref w.1.length :: st) (ab_pu w (.inr (ci, fs)) N) Q) : ab_Ex G d M pc ls st w Q := by
  subst hp
  refine ab_hn (.inr (ci, fs)) N h50 (fun R p e s m args below meth c Q H locs cells slots lc hx hb ho ht hAt hR hS hlv hcells hslots k => ?_) h
  have hKn := hAt.2.1.1 ci _ hc
  refine W.newcK hx hb ho (ht _ hcl) (ht _ hinst) (ht _ hini) rfl hd hcells hslots hKn.2.1 rfl fun H1 kC hkC e1 z1 o1 => ?_
  have kk := k H1 (ab_S_push hS z1 o1) (ab_R_push hR z1 o1 ⟨_, hc, by
    rw [hre]
    exact (u_born (ab_ty ci) ht (ab_ck hc).2.2 hKn hkC e1 (ab_ck hc).1).to hfs⟩)
  unfold ab_rs at kk
  rw [List.map_cons, ab_newref hR] at kk
  exact kk
theorem ab_newa {n : Int32} {N' : Nat} {ty : FieldType} {atype : ArrayType} {a0 : vp_A} (pc' t0 : Nat) (hd : decode M.2.1 pc = .ok (.newarray atype, 2)) (hp : pc + 2 = pc') (h50 : 50 ≤ w.1.length) (hty : newarray.typeOf atype = ty) (ht0 : ab_tl[t0]? = some ty) (hcl : Cond.arrayClass ty ∈ ab_good) (ha : ∀ cA : ClassId, vp_cell cA a0 = arrV cA N' (fun _ => defaultValue ty)) (har : ab_ra G a0 = a0) (hnr : ∀ C, ty ≠ .object C) (hn : ¬ n < 0) (hN : n.toNatClampNeg = N') (hbytes : N' * componentBytes ty ≤ 536870912) (h : ab_Ex G d M pc' ls (.ref w.1.length :: st) (ab_pu w (.inl (ty, a0)) N') Q) : ab_Ex G d M pc ls (.int n :: st) w Q := by
  subst hp
  subst hty
  refine ab_hn _ N' h50 (fun R p e s m args below meth c Q H locs cells slots lc hx hb ho ht hAt hR hS hlv hcells hslots k => ?_) h
  refine va_newaK hx hb (ht _ hcl) rfl hd rfl hn hN hbytes hcells hslots rfl fun H1 cA e1 z1 o1 hAr hNm => ?_
  have hcA : G.2.2.2.1 (newarray.typeOf atype) = cA := by
    have h9 := (hAt.2.1.2 t0 _ (ab_arr ht0)).2
    cases atype <;> exact Option.some.inj (h9.symm.trans hNm)
  have kk := k H1 (ab_S_push hS z1 o1) (ab_R_push hR z1 o1 (by
    show H1[H.size]? = some (vp_cell (G.2.2.2.1 _) (ab_ra G a0))
    rw [har, ha, hcA]
    exact e1))
  unfold ab_rs at kk
  rw [List.map_cons, ab_newref hR] at kk
  exact kk
theorem x_newaI (pc' : Nat) {n : Int32} (N' : Nat) (hd : decode M.2.1 pc = .ok (.newarray .int, 2)) (hp : pc + 2 = pc') (h50 : 50 ≤ w.1.length) (hcl : Cond.arrayClass .int ∈ ab_good) (hn : ¬ n < 0) (hN : n.toNatClampNeg = N') (hbytes : N' * 4 ≤ 536870912) (h : ab_Ex G d M pc' ls (.ref w.1.length :: st) (ab_pu w (.inl (.int, N', .inl (fun _ => 0))) N') Q) : ab_Ex G d M pc ls (.int n :: st) w Q :=
  ab_newa (a0 := (N', .inl (fun _ => 0))) pc' 0 hd hp h50 rfl rfl hcl (fun _ => rfl) rfl (fun C => by intro hh; cases hh) hn hN hbytes h
theorem x_newaB (pc' : Nat) {n : Int32} (N' : Nat) (hd : decode M.2.1 pc = .ok (.newarray .byte, 2)) (hp : pc + 2 = pc') (h50 : 50 ≤ w.1.length) (hcl : Cond.arrayClass .byte ∈ ab_good) (hn : ¬ n < 0) (hN : n.toNatClampNeg = N') (hbytes : N' * 1 ≤ 536870912) (h : ab_Ex G d M pc' ls (.ref w.1.length :: st) (ab_pu w (.inl (.byte, N', .inl (fun _ => 0))) N') Q) : ab_Ex G d M pc ls (.int n :: st) w Q :=
  ab_newa (a0 := (N', .inl (fun _ => 0))) pc' 1 hd hp h50 rfl rfl hcl (fun _ => rfl) rfl (fun C => by intro hh; cases hh) hn hN hbytes h
theorem x_newaJ (pc' : Nat) {n : Int32} (N' : Nat) (hd : decode M.2.1 pc = .ok (.newarray .long, 2)) (hp : pc + 2 = pc') (h50 : 50 ≤ w.1.length) (hcl : Cond.arrayClass .long ∈ ab_good) (hn : ¬ n < 0) (hN : n.toNatClampNeg = N') (hbytes : N' * 8 ≤ 536870912) (h : ab_Ex G d M pc' ls (.ref w.1.length :: st) (ab_pu w (.inl (.long, N', .inr (.inl (fun _ => 0)))) N') Q) : ab_Ex G d M pc ls (.int n :: st) w Q :=
  ab_newa (a0 := (N', .inr (.inl (fun _ => 0)))) pc' 2 hd hp h50 rfl rfl hcl (fun _ => rfl) rfl (fun C => by intro hh; cases hh) hn hN hbytes h
theorem x_newaZ (pc' : Nat) {n : Int32} (N' : Nat) (hd : decode M.2.1 pc = .ok (.newarray .boolean, 2)) (hp : pc + 2 = pc') (h50 : 50 ≤ w.1.length) (hcl : Cond.arrayClass .boolean ∈ ab_good) (hn : ¬ n < 0) (hN : n.toNatClampNeg = N') (hbytes : N' * 1 ≤ 536870912) (h : ab_Ex G d M pc' ls (.ref w.1.length :: st) (ab_pu w (.inl (.boolean, N', .inl (fun _ => 0))) N') Q) : ab_Ex G d M pc ls (.int n :: st) w Q :=
  ab_newa (a0 := (N', .inl (fun _ => 0))) pc' 3 hd hp h50 rfl rfl hcl (fun _ => rfl) rfl (fun C => by intro hh; cases hh) hn hN hbytes h
end MORE
