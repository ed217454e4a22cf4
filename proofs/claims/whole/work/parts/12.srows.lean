/-! ===== rows over the typed state: arrays, constants, new cells, calls ===== -/
section SROWS
variable {G : ab_G} {d : Nat} {M : ab_M} {pc : Nat} {ls : ab_L} {st : List Value} {S : ab_S} {Q : Option Value → ab_H → Prop}
theorem s_cellI {a n : Nat} (h : sK S a = .inl (.int, n)) : ab_cell S a = .inl (.int, n, .inl (sI S a)) := by unfold ab_cell; rw [h]
theorem s_cellB {a n : Nat} (h : sK S a = .inl (.byte, n)) : ab_cell S a = .inl (.byte, n, .inl (sI S a)) := by unfold ab_cell; rw [h]
theorem s_cellZ {a n : Nat} (h : sK S a = .inl (.boolean, n)) : ab_cell S a = .inl (.boolean, n, .inl (sI S a)) := by unfold ab_cell; rw [h]
theorem s_cellJ {a n : Nat} (h : sK S a = .inl (.long, n)) : ab_cell S a = .inl (.long, n, .inr (.inl (sJ S a))) := by unfold ab_cell; rw [h]
theorem s_cellP {a n : Nat} {C : String} (h : sK S a = .inl (.object C, n)) : ab_cell S a = .inl (.object C, n, .inr (.inr (.inr (.inr (sP S a))))) := by unfold ab_cell; rw [h]
theorem t_iald (pc' j : Nat) {a n : Nat} {i : Int32} (hd : decode M.2.1 pc = .ok (.iaload, 1)) (hp : pc + 1 = pc') (ha : 50 ≤ a) (hn : a < sn S) (hK : sK S a = .inl (.int, n)) (hi : i = nI j) (hj : j < n) (h31 : n < 2 ^ 31) (h : ab_Ex G d M pc' ls (.int (sI S a j) :: st) (sw S) Q) : ab_Ex G d M pc ls (.int i :: .ref a :: st) (sw S) Q := by
  subst hi
  exact x_iald pc' hd hp ha (by rw [sw_get ha hn, s_cellI hK]) (vp_in_nI hj h31) (by rw [nI_clamp (by omega)]; exact h)
theorem t_bald (pc' j : Nat) {a n : Nat} {i : Int32} (hd : decode M.2.1 pc = .ok (.baload, 1)) (hp : pc + 1 = pc') (ha : 50 ≤ a) (hn : a < sn S) (hK : sK S a = .inl (.byte, n)) (hi : i = nI j) (hj : j < n) (h31 : n < 2 ^ 31) (h : ab_Ex G d M pc' ls (.int (sI S a j) :: st) (sw S) Q) : ab_Ex G d M pc ls (.int i :: .ref a :: st) (sw S) Q := by
  subst hi
  exact x_bald pc' hd hp ha (by rw [sw_get ha hn, s_cellB hK]) (vp_in_nI hj h31) (by rw [nI_clamp (by omega)]; exact h)
theorem t_zald (pc' j : Nat) {a n : Nat} {i : Int32} (hd : decode M.2.1 pc = .ok (.baload, 1)) (hp : pc + 1 = pc') (ha : 50 ≤ a) (hn : a < sn S) (hK : sK S a = .inl (.boolean, n)) (hi : i = nI j) (hj : j < n) (h31 : n < 2 ^ 31) (h : ab_Ex G d M pc' ls (.int (sI S a j) :: st) (sw S) Q) : ab_Ex G d M pc ls (.int i :: .ref a :: st) (sw S) Q := by
  subst hi
  exact x_zald pc' hd hp ha (by rw [sw_get ha hn, s_cellZ hK]) (vp_in_nI hj h31) (by rw [nI_clamp (by omega)]; exact h)
theorem t_lald (pc' j : Nat) {a n : Nat} {i : Int32} (hd : decode M.2.1 pc = .ok (.laload, 1)) (hp : pc + 1 = pc') (ha : 50 ≤ a) (hn : a < sn S) (hK : sK S a = .inl (.long, n)) (hi : i = nI j) (hj : j < n) (h31 : n < 2 ^ 31) (h : ab_Ex G d M pc' ls (.long (sJ S a j) :: st) (sw S) Q) : ab_Ex G d M pc ls (.int i :: .ref a :: st) (sw S) Q := by
  subst hi
  exact x_lald pc' hd hp ha (by rw [sw_get ha hn, s_cellJ hK]) (vp_in_nI hj h31) (by rw [nI_clamp (by omega)]; exact h)
theorem t_aald (pc' t0 j : Nat) {a n : Nat} {C : String} {i : Int32} (hd : decode M.2.1 pc = .ok (.aaload, 1)) (hp : pc + 1 = pc') (ha : 50 ≤ a) (hn : a < sn S) (ht0 : ab_tl[t0]? = some (.object C)) (hK : sK S a = .inl (.object C, n)) (hi : i = nI j) (hj : j < n) (h31 : n < 2 ^ 31) (h : ab_Ex G d M pc' ls (va_rf (sP S a j) :: st) (sw S) Q) : ab_Ex G d M pc ls (.int i :: .ref a :: st) (sw S) Q := by
  subst hi
  exact x_aald pc' t0 hd hp ha ht0 (by rw [sw_get ha hn, s_cellP hK]) (vp_in_nI hj h31) (by rw [nI_clamp (by omega)]; exact h)
theorem t_iast (pc' j : Nat) {a n : Nat} {i x : Int32} (hd : decode M.2.1 pc = .ok (.iastore, 1)) (hp : pc + 1 = pc') (ha : 50 ≤ a) (hn : a < sn S) (hK : sK S a = .inl (.int, n)) (hi : i = nI j) (hj : j < n) (h31 : n < 2 ^ 31) (h : ab_Ex G d M pc' ls st (sw (pI S a j x)) Q) : ab_Ex G d M pc ls (.int x :: .int i :: .ref a :: st) (sw S) Q := by
  subst hi
  refine x_iast pc' hd hp ha (by rw [sw_get ha hn, s_cellI hK]) (vp_in_nI hj h31) ?_
  rw [nI_clamp (by omega), sw_set (S := S) (S' := pI S a j x) ha rfl rfl rfl ?_ (fun b hb => ab_cell_o rfl (up2_o hb) rfl rfl)]
  · exact h
  · rw [s_cellI (S := pI S a j x) hK]
    congr 4
    funext q
    show up2 (sI S) a j x a q = _
    simp [up2, upd]
theorem t_bast (pc' j : Nat) {a n : Nat} {i x : Int32} (hd : decode M.2.1 pc = .ok (.bastore, 1)) (hp : pc + 1 = pc') (ha : 50 ≤ a) (hn : a < sn S) (hK : sK S a = .inl (.byte, n)) (hi : i = nI j) (hj : j < n) (h31 : n < 2 ^ 31) (h : ab_Ex G d M pc' ls st (sw (pI S a j (vp_nar .byte x))) Q) : ab_Ex G d M pc ls (.int x :: .int i :: .ref a :: st) (sw S) Q := by
  subst hi
  refine x_bast pc' hd hp ha (by rw [sw_get ha hn, s_cellB hK]) (vp_in_nI hj h31) ?_
  rw [nI_clamp (by omega), sw_set (S := S) (S' := pI S a j (vp_nar .byte x)) ha rfl rfl rfl ?_ (fun b hb => ab_cell_o rfl (up2_o hb) rfl rfl)]
  · exact h
  · rw [s_cellB (S := pI S a j (vp_nar .byte x)) hK]
    congr 4
    funext q
    show up2 (sI S) a j (vp_nar .byte x) a q = _
    simp [up2, upd]
theorem t_zast (pc' j : Nat) {a n : Nat} {i x : Int32} (hd : decode M.2.1 pc = .ok (.bastore, 1)) (hp : pc + 1 = pc') (ha : 50 ≤ a) (hn : a < sn S) (hK : sK S a = .inl (.boolean, n)) (hi : i = nI j) (hj : j < n) (h31 : n < 2 ^ 31) (h : ab_Ex G d M pc' ls st (sw (pI S a j (vp_nar .boolean x))) Q) : ab_Ex G d M pc ls (.int x :: .int i :: .ref a :: st) (sw S) Q := by
  subst hi
  refine x_zast pc' hd hp ha (by rw [sw_get ha hn, s_cellZ hK]) (vp_in_nI hj h31) ?_
  rw [nI_clamp (by omega), sw_set (S := S) (S' := pI S a j (vp_nar .boolean x)) ha rfl rfl rfl ?_ (fun b hb => ab_cell_o rfl (up2_o hb) rfl rfl)]
  · exact h
  · rw [s_cellZ (S := pI S a j (vp_nar .boolean x)) hK]
    congr 4
    funext q
    show up2 (sI S) a j (vp_nar .boolean x) a q = _
    simp [up2, upd]
theorem t_last (pc' j : Nat) {a n : Nat} {i : Int32} {x : Int64} (hd : decode M.2.1 pc = .ok (.lastore, 1)) (hp : pc + 1 = pc') (ha : 50 ≤ a) (hn : a < sn S) (hK : sK S a = .inl (.long, n)) (hi : i = nI j) (hj : j < n) (h31 : n < 2 ^ 31) (h : ab_Ex G d M pc' ls st (sw (pJ S a j x)) Q) : ab_Ex G d M pc ls (.long x :: .int i :: .ref a :: st) (sw S) Q := by
  subst hi
  refine x_last pc' hd hp ha (by rw [sw_get ha hn, s_cellJ hK]) (vp_in_nI hj h31) ?_
  rw [nI_clamp (by omega), sw_set (S := S) (S' := pJ S a j x) ha rfl rfl rfl ?_ (fun b hb => ab_cell_o rfl rfl (up2_o hb) rfl)]
  · exact h
  · rw [s_cellJ (S := pJ S a j x) hK]
    congr 5
    funext q
    show up2 (sJ S) a j x a q = _
    simp [up2, vp_updL]
theorem t_aast (pc' t0 j : Nat) {a n b ci : Nat} {C : String} {T : u_T} {N : Nat} {i : Int32} (hd : decode M.2.1 pc = .ok (.aastore, 1)) (hp : pc + 1 = pc') (ha : 50 ≤ a) (hn : a < sn S) (ht0 : ab_tl[t0]? = some (.object C)) (hK : sK S a = .inl (.object C, n)) (hb : 50 ≤ b) (hbn : b < sn S) (hKb : sK S b = .inr ci) (hc : ab_cl[ci]? = some (C, T, N)) (hi : i = nI j) (hj : j < n) (h31 : n < 2 ^ 31) (h : ab_Ex G d M pc' ls st (sw (pP S a j (some b))) Q) : ab_Ex G d M pc ls (.ref b :: .int i :: .ref a :: st) (sw S) Q := by
  subst hi
  refine x_aast pc' t0 hd hp ha ht0 (by rw [sw_get ha hn, s_cellP hK]) hb (by rw [sw_get hb hbn, ab_cellO hKb]) hc (vp_in_nI hj h31) ?_
  rw [nI_clamp (by omega), sw_set (S := S) (S' := pP S a j (some b)) ha rfl rfl rfl ?_ (fun b hb => ab_cell_o rfl rfl rfl (up2_o hb))]
  · exact h
  · rw [s_cellP (S := pP S a j (some b)) hK]
    congr 7
    funext q
    show up2 (sP S) a j (some b) a q = _
    simp [up2, va_up]
theorem t_alen (pc' t0 : Nat) {a n : Nat} {ty : FieldType} (hd : decode M.2.1 pc = .ok (.arraylength, 1)) (hp : pc + 1 = pc') (ha : 50 ≤ a) (hn : a < sn S) (ht0 : ab_tl[t0]? = some ty) (hK : sK S a = .inl (ty, n)) (h : ab_Ex G d M pc' ls (.int (nI n) :: st) (sw S) Q) : ab_Ex G d M pc ls (.ref a :: st) (sw S) Q := by
  have hc : ∃ x, ab_cell S a = .inl (ty, n, x) := by unfold ab_cell; rw [hK]; exact ⟨_, rfl⟩
  obtain ⟨x, hx⟩ := hc
  exact x_alen pc' t0 (nI n) hd hp ha ht0 (by rw [sw_get ha hn, hx]) rfl h
theorem t_ialdK (pc' j : Nat) {a n : Nat} {f : Nat → Int32} {i : Int32} (hd : decode M.2.1 pc = .ok (.iaload, 1)) (hp : pc + 1 = pc') (ha : a < 50) (hn : 50 ≤ sn S) (hK : S.1 a = .inl (.int, n, .inl f)) (hi : i = nI j) (hj : j < n) (h31 : n < 2 ^ 31) (h : ab_Ex G d M pc' ls (.int (f j) :: st) (sw S) Q) : ab_Ex G d M pc ls (.int i :: .ref a :: st) (sw S) Q := by
  subst hi
  exact x_ialdK pc' hd hp ha (by rw [sw_old ha hn, hK]) (vp_in_nI hj h31) (by rw [nI_clamp (by omega)]; exact h)
theorem t_baldK (pc' j : Nat) {a n : Nat} {f : Nat → Int32} {i : Int32} (hd : decode M.2.1 pc = .ok (.baload, 1)) (hp : pc + 1 = pc') (ha : a < 50) (hn : 50 ≤ sn S) (hK : S.1 a = .inl (.byte, n, .inl f)) (hi : i = nI j) (hj : j < n) (h31 : n < 2 ^ 31) (h : ab_Ex G d M pc' ls (.int (f j) :: st) (sw S) Q) : ab_Ex G d M pc ls (.int i :: .ref a :: st) (sw S) Q := by
  subst hi
  exact x_baldK pc' hd hp ha (by rw [sw_old ha hn, hK]) (vp_in_nI hj h31) (by rw [nI_clamp (by omega)]; exact h)
theorem t_alenK (pc' : Nat) {a n : Nat} {ty : FieldType} {f : Nat → Int32} (hd : decode M.2.1 pc = .ok (.arraylength, 1)) (hp : pc + 1 = pc') (ha : a < 50) (hn : 50 ≤ sn S) (hK : S.1 a = .inl (ty, n, .inl f)) (h : ab_Ex G d M pc' ls (.int (nI n) :: st) (sw S) Q) : ab_Ex G d M pc ls (.ref a :: st) (sw S) Q :=
  x_alenK pc' (nI n) hd hp ha (by rw [sw_old ha hn, hK]) rfl h
theorem t_newO (pc' : Nat) {i ci N : Nat} {C : String} {T : u_T} (hd : decode M.2.1 pc = .ok (.new i, 3)) (hp : pc + 3 = pc') (h50 : 50 ≤ sn S) (hc : ab_cl[ci]? = some (C, T, N)) (hcl : Cond.classLink M.1.cls i C ∈ ab_good) (hinst : Cond.instantiable C N ∈ ab_good) (hini : Cond.initialized C ∈ ab_good) (h : ab_Ex G d M pc' ls (.ref (sn S) :: st) (sw (pN S (.inr ci) N)) Q) : ab_Ex G d M pc ls st (sw S) Q := by
  have hdef : ∀ j : Nat, ab_vl (ab_ty ci j) 0 0 none = defaultValue (ab_ty ci j) ∨ ab_ty ci j = .float ∨ ab_ty ci j = .double := by
    intro j
    cases ab_ty ci j <;> first | exact Or.inl rfl | exact Or.inr (Or.inl rfl) | exact Or.inr (Or.inr rfl)
  have hnf : ∀ j, j < N → ab_ty ci j ≠ .float ∧ ab_ty ci j ≠ .double := by
    have hlt : ci < 13 := (List.getElem?_eq_some_iff.mp hc).1
    match ci, hlt with
    | 0, _ => cases hc; decide +kernel
    | 1, _ => cases hc; decide +kernel
    | 2, _ => cases hc; decide +kernel
    | 3, _ => cases hc; decide +kernel
    | 4, _ => cases hc; decide +kernel
    | 5, _ => cases hc; decide +kernel
    | 6, _ => cases hc; decide +kernel
    | 7, _ => cases hc; decide +kernel
    | 8, _ => cases hc; decide +kernel
    | 9, _ => cases hc; decide +kernel
    | 10, _ => cases hc; decide +kernel
    | 11, _ => cases hc; decide +kernel
    | 12, _ => cases hc; decide +kernel
  have hval : ∀ j, j < N → ab_vl (ab_ty ci j) 0 0 none = defaultValue (ab_ty ci j) := fun j hj => (hdef j).elim id (fun z => z.elim (fun z => absurd z (hnf j hj).1) (fun z => absurd z (hnf j hj).2))
  have hlen : (sw S).1.length = sn S := sw_len S
  refine x_new pc' ((List.range N).map (fun j => ab_vl (ab_ty ci j) 0 0 none)) hd hp (by rw [hlen]; exact h50) hc hcl hinst hini (fun j hj => ?_) ?_ ?_
  · rw [← hval j hj]
    unfold vp_V
    rw [List.getD_eq_getElem?_getD, List.getElem?_map, List.getElem?_range hj]
    rfl
  · rw [List.map_map]
    apply List.map_congr_left
    intro j hj
    show ab_re G (ab_vl (ab_ty ci j) 0 0 none) = _
    cases ab_ty ci j <;> rfl
  · rw [hlen, pN_push (kd := .inr ci) h50 ?_]
    · exact h
    · have hk : sK (pN S (.inr ci) N) (sn S) = .inr ci := up1_s
      rw [ab_cellO hk]
      unfold ab_fs
      rw [ab_Nof hc]
      congr 2
      apply List.map_congr_left
      intro k _
      show ab_vl _ (up1 (sI S) (sn S) (fun _ => 0) (sn S) k) (up1 (sJ S) (sn S) (fun _ => 0) (sn S) k) (up1 (sP S) (sn S) (fun _ => none) (sn S) k) = _
      rw [up1_s, up1_s, up1_s]
theorem t_newI (pc' N' : Nat) {n : Int32} (hd : decode M.2.1 pc = .ok (.newarray .int, 2)) (hp : pc + 2 = pc') (h50 : 50 ≤ sn S) (hcl : Cond.arrayClass .int ∈ ab_good) (hi : n = nI N') (h24 : N' < 2 ^ 26) (h : ab_Ex G d M pc' ls (.ref (sn S) :: st) (sw (pN S (.inl (.int, N')) N')) Q) : ab_Ex G d M pc ls (.int n :: st) (sw S) Q := by
  subst hi
  have hlen : (sw S).1.length = sn S := sw_len S
  refine x_newaI pc' N' hd hp (by rw [hlen]; exact h50) hcl (nI_pos (by omega)) (nI_clamp (by omega)) (by omega) ?_
  rw [hlen, pN_push (kd := .inl (.int, N')) h50 ?_]
  · exact h
  · have hk : sK (pN S (.inl (.int, N')) N') (sn S) = .inl (.int, N') := up1_s
    rw [s_cellI hk]
    congr 4
    show up1 (sI S) (sn S) (fun _ => 0) (sn S) = _
    rw [up1_s]
theorem t_newB (pc' N' : Nat) {n : Int32} (hd : decode M.2.1 pc = .ok (.newarray .byte, 2)) (hp : pc + 2 = pc') (h50 : 50 ≤ sn S) (hcl : Cond.arrayClass .byte ∈ ab_good) (hi : n = nI N') (h24 : N' < 2 ^ 26) (h : ab_Ex G d M pc' ls (.ref (sn S) :: st) (sw (pN S (.inl (.byte, N')) N')) Q) : ab_Ex G d M pc ls (.int n :: st) (sw S) Q := by
  subst hi
  have hlen : (sw S).1.length = sn S := sw_len S
  refine x_newaB pc' N' hd hp (by rw [hlen]; exact h50) hcl (nI_pos (by omega)) (nI_clamp (by omega)) (by omega) ?_
  rw [hlen, pN_push (kd := .inl (.byte, N')) h50 ?_]
  · exact h
  · have hk : sK (pN S (.inl (.byte, N')) N') (sn S) = .inl (.byte, N') := up1_s
    rw [s_cellB hk]
    congr 4
    show up1 (sI S) (sn S) (fun _ => 0) (sn S) = _
    rw [up1_s]
theorem t_newJ (pc' N' : Nat) {n : Int32} (hd : decode M.2.1 pc = .ok (.newarray .long, 2)) (hp : pc + 2 = pc') (h50 : 50 ≤ sn S) (hcl : Cond.arrayClass .long ∈ ab_good) (hi : n = nI N') (h24 : N' < 2 ^ 26) (h : ab_Ex G d M pc' ls (.ref (sn S) :: st) (sw (pN S (.inl (.long, N')) N')) Q) : ab_Ex G d M pc ls (.int n :: st) (sw S) Q := by
  subst hi
  have hlen : (sw S).1.length = sn S := sw_len S
  refine x_newaJ pc' N' hd hp (by rw [hlen]; exact h50) hcl (nI_pos (by omega)) (nI_clamp (by omega)) (by omega) ?_
  rw [hlen, pN_push (kd := .inl (.long, N')) h50 ?_]
  · exact h
  · have hk : sK (pN S (.inl (.long, N')) N') (sn S) = .inl (.long, N') := up1_s
    rw [s_cellJ hk]
    congr 5
    show up1 (sJ S) (sn S) (fun _ => 0) (sn S) = _
    rw [up1_s]
theorem t_newZ (pc' N' : Nat) {n : Int32} (hd : decode M.2.1 pc = .ok (.newarray .boolean, 2)) (hp : pc + 2 = pc') (h50 : 50 ≤ sn S) (hcl : Cond.arrayClass .boolean ∈ ab_good) (hi : n = nI N') (h24 : N' < 2 ^ 26) (h : ab_Ex G d M pc' ls (.ref (sn S) :: st) (sw (pN S (.inl (.boolean, N')) N')) Q) : ab_Ex G d M pc ls (.int n :: st) (sw S) Q := by
  subst hi
  have hlen : (sw S).1.length = sn S := sw_len S
  refine x_newaZ pc' N' hd hp (by rw [hlen]; exact h50) hcl (nI_pos (by omega)) (nI_clamp (by omega)) (by omega) ?_
  rw [hlen, pN_push (kd := .inl (.boolean, N')) h50 ?_]
  · exact h
  · have hk : sK (pN S (.inl (.boolean, N')) N') (sn S) = .inl (.boolean, N') := up1_s
    rw [s_cellZ hk]
    congr 4
    show up1 (sI S) (sn S) (fun _ => 0) (sn S) = _
    rw [up1_s]
theorem t_anew (pc' t0 N' : Nat) {i : Nat} {C : String} {n : Int32} (hd : decode M.2.1 pc = .ok (.anewarray i, 3)) (hp : pc + 3 = pc') (h50 : 50 ≤ sn S) (ht0 : ab_tl[t0]? = some (.object C)) (hov : C ∈ ab_ov) (hcl : Cond.classLink M.1.cls i C ∈ ab_good) (hi : n = nI N') (h24 : N' < 2 ^ 26) (h : ab_Ex G d M pc' ls (.ref (sn S) :: st) (sw (pN S (.inl (.object C, N')) N')) Q) : ab_Ex G d M pc ls (.int n :: st) (sw S) Q := by
  subst hi
  have hlen : (sw S).1.length = sn S := sw_len S
  refine x_anew pc' t0 N' hd hp (by rw [hlen]; exact h50) ht0 hov hcl (nI_pos (by omega)) (nI_clamp (by omega)) (by omega) ?_
  rw [hlen, pN_push (kd := .inl (.object C, N')) h50 ?_]
  · exact h
  · have hk : sK (pN S (.inl (.object C, N')) N') (sn S) = .inl (.object C, N') := up1_s
    rw [s_cellP hk]
    congr 7
    show up1 (sP S) (sn S) (fun _ => none) (sn S) = _
    rw [up1_s]
theorem t_callV (pc' : Nat) (M' : ab_M) (d' n : Nat) {i a ci : Nat} {T : u_T} {N : Nat} (as : List Value) {Q1 : Option Value → ab_H → Prop} (hd : decode M.2.1 pc = .ok (.invokevirtual i, 3)) (hp : pc + 3 = pc') (hdd : d' + 1 ≤ d) (hm : ab_MK M' n) (hi : Cond.instanceMethod M'.1 ∈ ab_good) (hsel : Cond.selects M'.1.cls M'.1 M'.1 ∈ ab_good) (hl : ab_ML M.1.cls i M'.1) (hn : as.length = n) (hW : (st.map (fun v => v.category)).sum ≤ 8) (ha : 50 ≤ a) (han : a < sn S) (hK : sK S a = .inr ci) (hcl : ab_cl[ci]? = some (M'.1.cls, T, N)) (hc : ab_C G d' M' (.ref a :: as) (sw S) Q1) (k : ∀ (v1 : Option Value) (w1 : ab_H), Q1 v1 w1 → ab_Ex G d M pc' ls (v1.toList ++ st) w1 Q) : ab_Ex G d M pc ls (as.reverse ++ .ref a :: st) (sw S) Q :=
  x_callV pc' M' d' n as hd hp hdd hm hi hsel hl hn hW ha (by rw [sw_get ha han, ab_cellO hK]) hcl hc k
theorem x_topi {x : Int32} {w : ab_H} (k : ∀ y : Int32, y = x → ab_Ex G d M pc ls (.int y :: st) w Q) : ab_Ex G d M pc ls (.int x :: st) w Q := k x rfl
theorem x_topl {x : Int64} {w : ab_H} (k : ∀ y : Int64, y = x → ab_Ex G d M pc ls (.long y :: st) w Q) : ab_Ex G d M pc ls (.long x :: st) w Q := k x rfl
end SROWS
