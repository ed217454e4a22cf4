/-! ===== the typed state: constants, kind of each cell, its ints, longs and references, how many cells, how many fields and elements ===== -/
abbrev ab_S : Type := (Nat → ab_E) × (Nat → (FieldType × Nat) ⊕ Nat) × (Nat → Nat → Int32) × (Nat → Nat → Int64) × (Nat → Nat → Option Nat) × Nat × Nat
abbrev sK (S : ab_S) : Nat → (FieldType × Nat) ⊕ Nat := S.2.1
abbrev sI (S : ab_S) : Nat → Nat → Int32 := S.2.2.1
abbrev sJ (S : ab_S) : Nat → Nat → Int64 := S.2.2.2.1
abbrev sP (S : ab_S) : Nat → Nat → Option Nat := S.2.2.2.2.1
abbrev sn (S : ab_S) : Nat := S.2.2.2.2.2.1
abbrev sz (S : ab_S) : Nat := S.2.2.2.2.2.2
def up2 {α : Type} (f : Nat → Nat → α) (a k : Nat) (x : α) : Nat → Nat → α := fun b j => if b = a then (if j = k then x else f b j) else f b j
def up1 {α : Type} (f : Nat → α) (a : Nat) (x : α) : Nat → α := fun b => if b = a then x else f b
theorem up2_s {α : Type} {f : Nat → Nat → α} {a k : Nat} {x : α} : up2 f a k x a k = x := by simp [up2]
theorem up2_k {α : Type} {f : Nat → Nat → α} {a k b j : Nat} {x : α} (h : j ≠ k) : up2 f a k x b j = f b j := by
  unfold up2
  rw [if_neg h]
  split <;> rfl
theorem up2_a {α : Type} {f : Nat → Nat → α} {a k b j : Nat} {x : α} (h : b ≠ a) : up2 f a k x b j = f b j := by
  unfold up2
  rw [if_neg h]
theorem up2_o {α : Type} {f : Nat → Nat → α} {a k b : Nat} {x : α} (h : b ≠ a) : up2 f a k x b = f b := by
  funext j
  exact up2_a h
theorem up1_s {α : Type} {f : Nat → α} {a : Nat} {x : α} : up1 f a x a = x := by simp [up1]
theorem up1_o {α : Type} {f : Nat → α} {a b : Nat} {x : α} (h : b ≠ a) : up1 f a x b = f b := by simp [up1, h]
def ab_N (ci : Nat) : Nat := ((ab_cl[ci]?).map (fun q => q.2.2)).getD 0
def ab_vl (ty : FieldType) (i : Int32) (j : Int64) (p : Option Nat) : Value := match ty with
  | .long => .long j
  | .object _ => va_rf p
  | .array _ => va_rf p
  | _ => .int i
def ab_cell (S : ab_S) (a : Nat) : ab_E := match sK S a with
  | .inr ci => .inr (ci, (List.range (ab_N ci)).map (fun k => ab_vl (ab_ty ci k) (sI S a k) (sJ S a k) (sP S a k)))
  | .inl (ty, n) => .inl (ty, n, match ty with
    | .long => .inr (.inl (sJ S a))
    | .object _ => .inr (.inr (.inr (.inr (sP S a))))
    | .array _ => .inr (.inr (.inr (.inr (sP S a))))
    | _ => .inl (sI S a))
def sw (S : ab_S) : ab_H := ((List.range (sn S)).map (fun i => if i < 50 then S.1 i else ab_cell S i), sz S)
theorem sw_get {S : ab_S} {a : Nat} (ha : 50 ≤ a) (hn : a < sn S) : (sw S).1[a]? = some (ab_cell S a) := by
  unfold sw
  rw [List.getElem?_map, List.getElem?_range hn]
  show some (if a < 50 then S.1 a else ab_cell S a) = _
  rw [if_neg (by omega)]
theorem sw_old {S : ab_S} {a : Nat} (ha : a < 50) (hn : 50 ≤ sn S) : (sw S).1[a]? = some (S.1 a) := by
  unfold sw
  rw [List.getElem?_map, List.getElem?_range (by omega)]
  show some (if a < 50 then S.1 a else ab_cell S a) = _
  rw [if_pos ha]
theorem sw_len (S : ab_S) : (sw S).1.length = sn S := by
  unfold sw
  rw [List.length_map, List.length_range]
theorem sw_set {S S' : ab_S} {a : Nat} {e : ab_E} (ha : 50 ≤ a) (h1 : S'.1 = S.1) (hn : sn S' = sn S) (hz : sz S' = sz S) (hc : ab_cell S' a = e) (ho : ∀ b, b ≠ a → ab_cell S' b = ab_cell S b) : ab_st (sw S) a e = sw S' := by
  refine Prod.ext ?_ hz.symm
  show (sw S).1.set a e = (sw S').1
  apply List.ext_getElem?
  intro j
  by_cases hj : j = a
  · subst hj
    rw [List.getElem?_set, if_pos rfl, sw_len]
    by_cases hl : j < sn S
    · rw [if_pos hl, sw_get ha (by rw [hn]; exact hl), hc]
    · rw [if_neg hl]
      exact (List.getElem?_eq_none (by rw [sw_len, hn]; omega)).symm
  · rw [List.getElem?_set_ne (Ne.symm hj)]
    by_cases hl : j < sn S
    · by_cases h50 : j < 50
      · unfold sw
        rw [List.getElem?_map, List.getElem?_range hl, List.getElem?_map, List.getElem?_range (by rw [hn]; exact hl)]
        show some (if j < 50 then S.1 j else _) = some (if j < 50 then S'.1 j else _)
        rw [if_pos h50, if_pos h50, h1]
      · rw [sw_get (by omega) hl, sw_get (by omega) (by rw [hn]; exact hl), ho j hj]
    · rw [List.getElem?_eq_none (by rw [sw_len]; omega), List.getElem?_eq_none (by rw [sw_len, hn]; omega)]
theorem sw_push {S S' : ab_S} {e : ab_E} {n : Nat} (h50 : 50 ≤ sn S) (h1 : S'.1 = S.1) (hn : sn S' = sn S + 1) (hz : sz S' = sz S + n) (hc : ab_cell S' (sn S) = e) (ho : ∀ b, b ≠ sn S → ab_cell S' b = ab_cell S b) : ab_pu (sw S) e n = sw S' := by
  refine Prod.ext ?_ hz.symm
  show (sw S).1 ++ [e] = (sw S').1
  unfold sw
  show (List.range (sn S)).map _ ++ [e] = (List.range (sn S')).map _
  rw [hn, List.range_succ, List.map_append]
  congr 1
  · apply List.map_congr_left
    intro i hi
    have hlt : i < sn S := List.mem_range.mp hi
    show (if i < 50 then S.1 i else ab_cell S i) = (if i < 50 then S'.1 i else ab_cell S' i)
    rw [h1, ho i (by omega)]
  · show [e] = [if sn S < 50 then S'.1 (sn S) else ab_cell S' (sn S)]
    rw [if_neg (by omega), hc]
def pI (S : ab_S) (a k : Nat) (x : Int32) : ab_S := (S.1, sK S, up2 (sI S) a k x, sJ S, sP S, sn S, sz S)
def pJ (S : ab_S) (a k : Nat) (x : Int64) : ab_S := (S.1, sK S, sI S, up2 (sJ S) a k x, sP S, sn S, sz S)
def pP (S : ab_S) (a k : Nat) (x : Option Nat) : ab_S := (S.1, sK S, sI S, sJ S, up2 (sP S) a k x, sn S, sz S)
/-- a new cell of this kind, all 0 -/
def pN (S : ab_S) (kd : (FieldType × Nat) ⊕ Nat) (n : Nat) : ab_S := (S.1, up1 (sK S) (sn S) kd, up1 (sI S) (sn S) (fun _ => 0), up1 (sJ S) (sn S) (fun _ => 0), up1 (sP S) (sn S) (fun _ => none), sn S + 1, sz S + n)
theorem ab_cell_o {S S' : ab_S} {b : Nat} (h1 : sK S' b = sK S b) (h2 : sI S' b = sI S b) (h3 : sJ S' b = sJ S b) (h4 : sP S' b = sP S b) : ab_cell S' b = ab_cell S b := by
  unfold ab_cell
  rw [h1, h2, h3, h4]
theorem pN_push {S : ab_S} {kd : (FieldType × Nat) ⊕ Nat} {n : Nat} {e : ab_E} (h50 : 50 ≤ sn S) (hc : ab_cell (pN S kd n) (sn S) = e) : ab_pu (sw S) e n = sw (pN S kd n) := by
  refine sw_push h50 rfl rfl rfl hc (fun b hb => ?_)
  exact ab_cell_o (up1_o hb) (up1_o hb) (up1_o hb) (up1_o hb)
/-- kinds of field: an int of any width, a long, a reference -/
def ab_kI (ty : FieldType) : Bool := match ty with
  | .long => false
  | .object _ => false
  | .array _ => false
  | .float => false
  | .double => false
  | _ => true
def ab_kP (ty : FieldType) : Bool := match ty with
  | .object _ => true
  | .array _ => true
  | _ => false
theorem ab_vlI {ty : FieldType} {i : Int32} {j : Int64} {p : Option Nat} (h : ab_kI ty = true) : ab_vl ty i j p = .int i := by cases ty <;> first | rfl | cases h
theorem ab_vlP {ty : FieldType} {i : Int32} {j : Int64} {p : Option Nat} (h : ab_kP ty = true) : ab_vl ty i j p = va_rf p := by cases ty <;> first | rfl | cases h
theorem ab_Nof {ci : Nat} {C : String} {T : u_T} {N : Nat} (h : ab_cl[ci]? = some (C, T, N)) : ab_N ci = N := by unfold ab_N; rw [h]; rfl
def ab_fs (S : ab_S) (a ci : Nat) : List Value := (List.range (ab_N ci)).map (fun k => ab_vl (ab_ty ci k) (sI S a k) (sJ S a k) (sP S a k))
theorem ab_cellO {S : ab_S} {a ci : Nat} (h : sK S a = .inr ci) : ab_cell S a = .inr (ci, ab_fs S a ci) := by unfold ab_cell; rw [h]; rfl
theorem ab_fsget {S : ab_S} {a ci k : Nat} (hk : k < ab_N ci) : (ab_fs S a ci)[k]? = some (ab_vl (ab_ty ci k) (sI S a k) (sJ S a k) (sP S a k)) := by
  unfold ab_fs
  rw [List.getElem?_map, List.getElem?_range hk]; rfl
theorem ab_fslen {S : ab_S} {a ci : Nat} : (ab_fs S a ci).length = ab_N ci := by unfold ab_fs; rw [List.length_map, List.length_range]
theorem ab_fsset {S S' : ab_S} {a ci k : Nat} {v : Value} (h : ab_vl (ab_ty ci k) (sI S' a k) (sJ S' a k) (sP S' a k) = v) (ho : ∀ j, j ≠ k → ab_vl (ab_ty ci j) (sI S' a j) (sJ S' a j) (sP S' a j) = ab_vl (ab_ty ci j) (sI S a j) (sJ S a j) (sP S a j)) : ab_fs S' a ci = (ab_fs S a ci).set k v := by
  apply List.ext_getElem?
  intro j
  rw [List.getElem?_set]
  by_cases hl : j < ab_N ci
  · rw [ab_fsget hl]
    by_cases hj : j = k
    · subst hj
      rw [if_pos rfl, if_pos (by rw [ab_fslen]; exact hl), h]
    · rw [if_neg (Ne.symm hj), ab_fsget hl, ho j hj]
  · rw [List.getElem?_eq_none (by rw [ab_fslen]; omega)]
    split
    · rw [if_neg (by rw [ab_fslen]; omega)]
    · exact (List.getElem?_eq_none (by rw [ab_fslen]; omega)).symm
section TROWS
variable {G : ab_G} {d : Nat} {M : ab_M} {pc : Nat} {ls : ab_L} {st : List Value} {S : ab_S} {Q : Option Value → ab_H → Prop}
theorem t_getI (pc' : Nat) {i ci k a : Nat} {fin : Bool} (hd : decode M.2.1 pc = .ok (.getfield i, 3)) (hp : pc + 3 = pc') (hf : ab_FL M.1.cls i ci k fin) (ha : 50 ≤ a) (hn : a < sn S) (hK : sK S a = .inr ci) (hty : ab_kI (ab_ty ci k) = true) (h : ab_Ex G d M pc' ls (.int (sI S a k) :: st) (sw S) Q) : ab_Ex G d M pc ls (.ref a :: st) (sw S) Q := by
  have hk : k < ab_N ci := by obtain ⟨C, T, N, hc, hk, -⟩ := hf; rw [ab_Nof hc]; exact hk
  exact x_getf pc' hd hp hf ha (by rw [sw_get ha hn, ab_cellO hK]) (by rw [ab_fsget hk, ab_vlI hty]) h
theorem t_getJ (pc' : Nat) {i ci k a : Nat} {fin : Bool} (hd : decode M.2.1 pc = .ok (.getfield i, 3)) (hp : pc + 3 = pc') (hf : ab_FL M.1.cls i ci k fin) (ha : 50 ≤ a) (hn : a < sn S) (hK : sK S a = .inr ci) (hty : ab_ty ci k = .long) (h : ab_Ex G d M pc' ls (.long (sJ S a k) :: st) (sw S) Q) : ab_Ex G d M pc ls (.ref a :: st) (sw S) Q := by
  have hk : k < ab_N ci := by obtain ⟨C, T, N, hc, hk, -⟩ := hf; rw [ab_Nof hc]; exact hk
  exact x_getf pc' hd hp hf ha (by rw [sw_get ha hn, ab_cellO hK]) (by rw [ab_fsget hk, hty]; rfl) h
theorem t_getR (pc' : Nat) {i ci k a : Nat} {fin : Bool} (hd : decode M.2.1 pc = .ok (.getfield i, 3)) (hp : pc + 3 = pc') (hf : ab_FL M.1.cls i ci k fin) (ha : 50 ≤ a) (hn : a < sn S) (hK : sK S a = .inr ci) (hty : ab_kP (ab_ty ci k) = true) (h : ab_Ex G d M pc' ls (va_rf (sP S a k) :: st) (sw S) Q) : ab_Ex G d M pc ls (.ref a :: st) (sw S) Q := by
  have hk : k < ab_N ci := by obtain ⟨C, T, N, hc, hk, -⟩ := hf; rw [ab_Nof hc]; exact hk
  exact x_getf pc' hd hp hf ha (by rw [sw_get ha hn, ab_cellO hK]) (by rw [ab_fsget hk, ab_vlP hty]) h
theorem t_getP (pc' : Nat) {i ci k a : Nat} (b : Nat) {fin : Bool} (hd : decode M.2.1 pc = .ok (.getfield i, 3)) (hp : pc + 3 = pc') (hf : ab_FL M.1.cls i ci k fin) (ha : 50 ≤ a) (hn : a < sn S) (hK : sK S a = .inr ci) (hty : ab_kP (ab_ty ci k) = true) (hv : sP S a k = some b) (h : ab_Ex G d M pc' ls (.ref b :: st) (sw S) Q) : ab_Ex G d M pc ls (.ref a :: st) (sw S) Q :=
  t_getR pc' hd hp hf ha hn hK hty (by rw [hv]; exact h)
theorem t_getN (pc' : Nat) {i ci k a : Nat} {fin : Bool} (hd : decode M.2.1 pc = .ok (.getfield i, 3)) (hp : pc + 3 = pc') (hf : ab_FL M.1.cls i ci k fin) (ha : 50 ≤ a) (hn : a < sn S) (hK : sK S a = .inr ci) (hty : ab_kP (ab_ty ci k) = true) (hv : sP S a k = none) (h : ab_Ex G d M pc' ls (.null :: st) (sw S) Q) : ab_Ex G d M pc ls (.ref a :: st) (sw S) Q :=
  t_getR pc' hd hp hf ha hn hK hty (by rw [hv]; exact h)
theorem t_setI {a ci k : Nat} {x : Int32} (ha : 50 ≤ a) (hK : sK S a = .inr ci) (hty : ab_kI (ab_ty ci k) = true) : ab_st (sw S) a (.inr (ci, (ab_fs S a ci).set k (.int x))) = sw (pI S a k x) := by
  refine sw_set ha rfl rfl rfl ?_ (fun b hb => ab_cell_o rfl (up2_o hb) rfl rfl)
  rw [ab_cellO (S := pI S a k x) hK]
  rw [ab_fsset (S := S) (S' := pI S a k x) (k := k) (v := .int x) ?_ (fun j hj => ?_)]
  · rw [ab_vlI hty]
    show Value.int (up2 (sI S) a k x a k) = _
    rw [up2_s]
  · show ab_vl _ (up2 (sI S) a k x a j) (sJ S a j) (sP S a j) = _
    rw [up2_k hj]
theorem t_setJ {a ci k : Nat} {x : Int64} (ha : 50 ≤ a) (hK : sK S a = .inr ci) (hty : ab_ty ci k = .long) : ab_st (sw S) a (.inr (ci, (ab_fs S a ci).set k (.long x))) = sw (pJ S a k x) := by
  refine sw_set ha rfl rfl rfl ?_ (fun b hb => ab_cell_o rfl rfl (up2_o hb) rfl)
  rw [ab_cellO (S := pJ S a k x) hK]
  rw [ab_fsset (S := S) (S' := pJ S a k x) (k := k) (v := .long x) ?_ (fun j hj => ?_)]
  · rw [hty]
    show Value.long (up2 (sJ S) a k x a k) = _
    rw [up2_s]
  · show ab_vl _ (sI S a j) (up2 (sJ S) a k x a j) (sP S a j) = _
    rw [up2_k hj]
theorem t_setP {a ci k : Nat} {x : Option Nat} (ha : 50 ≤ a) (hK : sK S a = .inr ci) (hty : ab_kP (ab_ty ci k) = true) : ab_st (sw S) a (.inr (ci, (ab_fs S a ci).set k (va_rf x))) = sw (pP S a k x) := by
  refine sw_set ha rfl rfl rfl ?_ (fun b hb => ab_cell_o rfl rfl rfl (up2_o hb))
  rw [ab_cellO (S := pP S a k x) hK]
  rw [ab_fsset (S := S) (S' := pP S a k x) (k := k) (v := va_rf x) ?_ (fun j hj => ?_)]
  · rw [ab_vlP hty]
    show va_rf (up2 (sP S) a k x a k) = _
    rw [up2_s]
  · show ab_vl _ (sI S a j) (sJ S a j) (up2 (sP S) a k x a j) = _
    rw [up2_k hj]
theorem t_putI (pc' : Nat) {i ci k a : Nat} {x : Int32} (hd : decode M.2.1 pc = .ok (.putfield i, 3)) (hp : pc + 3 = pc') (hf : ab_FL M.1.cls i ci k false) (ha : 50 ≤ a) (hn : a < sn S) (hK : sK S a = .inr ci) (hty : ab_kI (ab_ty ci k) = true) (hnr : narrow (ab_ty ci k) (.int x) = .int x) (hfit : fits (ab_ty ci k) (.int x) = true) (h : ab_Ex G d M pc' ls st (sw (pI S a k x)) Q) : ab_Ex G d M pc ls (.int x :: .ref a :: st) (sw S) Q := by
  have hk : k < ab_N ci := by obtain ⟨C, T, N, hc, hk, -⟩ := hf; rw [ab_Nof hc]; exact hk
  exact x_putf pc' hd hp hf ha (by rw [sw_get ha hn, ab_cellO hK]) hnr hfit (by rw [ab_fslen]; exact hk) (by rw [t_setI ha hK hty]; exact h)
theorem t_putJ (pc' : Nat) {i ci k a : Nat} {x : Int64} (hd : decode M.2.1 pc = .ok (.putfield i, 3)) (hp : pc + 3 = pc') (hf : ab_FL M.1.cls i ci k false) (ha : 50 ≤ a) (hn : a < sn S) (hK : sK S a = .inr ci) (hty : ab_ty ci k = .long) (h : ab_Ex G d M pc' ls st (sw (pJ S a k x)) Q) : ab_Ex G d M pc ls (.long x :: .ref a :: st) (sw S) Q := by
  have hk : k < ab_N ci := by obtain ⟨C, T, N, hc, hk, -⟩ := hf; rw [ab_Nof hc]; exact hk
  exact x_putf pc' hd hp hf ha (by rw [sw_get ha hn, ab_cellO hK]) (by rw [hty]; rfl) (by rw [hty]; rfl) (by rw [ab_fslen]; exact hk) (by rw [t_setJ ha hK hty]; exact h)
theorem ab_fitP {ty : FieldType} (b : Option Nat) (h : ab_kP ty = true) : narrow ty (va_rf b) = va_rf b ∧ fits ty (va_rf b) = true := by
  cases ty <;> cases h <;> cases b <;> exact ⟨rfl, rfl⟩
theorem t_putP (pc' : Nat) {i ci k a b : Nat} (hd : decode M.2.1 pc = .ok (.putfield i, 3)) (hp : pc + 3 = pc') (hf : ab_FL M.1.cls i ci k false) (ha : 50 ≤ a) (hn : a < sn S) (hK : sK S a = .inr ci) (hty : ab_kP (ab_ty ci k) = true) (h : ab_Ex G d M pc' ls st (sw (pP S a k (some b))) Q) : ab_Ex G d M pc ls (.ref b :: .ref a :: st) (sw S) Q := by
  have hk : k < ab_N ci := by obtain ⟨C, T, N, hc, hk, -⟩ := hf; rw [ab_Nof hc]; exact hk
  exact x_putf pc' hd hp hf ha (by rw [sw_get ha hn, ab_cellO hK]) (ab_fitP (some b) hty).1 (ab_fitP (some b) hty).2 (by rw [ab_fslen]; exact hk) (by rw [show (Value.ref b) = va_rf (some b) from rfl, t_setP ha hK hty]; exact h)
theorem t_putPN (pc' : Nat) {i ci k a : Nat} (hd : decode M.2.1 pc = .ok (.putfield i, 3)) (hp : pc + 3 = pc') (hf : ab_FL M.1.cls i ci k false) (ha : 50 ≤ a) (hn : a < sn S) (hK : sK S a = .inr ci) (hty : ab_kP (ab_ty ci k) = true) (h : ab_Ex G d M pc' ls st (sw (pP S a k none)) Q) : ab_Ex G d M pc ls (.null :: .ref a :: st) (sw S) Q := by
  have hk : k < ab_N ci := by obtain ⟨C, T, N, hc, hk, -⟩ := hf; rw [ab_Nof hc]; exact hk
  exact x_putf pc' hd hp hf ha (by rw [sw_get ha hn, ab_cellO hK]) (ab_fitP none hty).1 (ab_fitP none hty).2 (by rw [ab_fslen]; exact hk) (by rw [show Value.null = va_rf none from rfl, t_setP ha hK hty]; exact h)
theorem t_putIF (pc' : Nat) {i ci k a : Nat} {x : Int32} (hd : decode M.2.1 pc = .ok (.putfield i, 3)) (hp : pc + 3 = pc') (hf : ab_FL M.1.cls i ci k true) (hini : M.1.name = "<init>") (hpl : ∀ host : String, ∀ O n dd, Cond.fieldLinkNest M.1.cls i O n dd host ∉ ab_nest) (ha : 50 ≤ a) (hn : a < sn S) (hK : sK S a = .inr ci) (hty : ab_kI (ab_ty ci k) = true) (hnr : narrow (ab_ty ci k) (.int x) = .int x) (hfit : fits (ab_ty ci k) (.int x) = true) (h : ab_Ex G d M pc' ls st (sw (pI S a k x)) Q) : ab_Ex G d M pc ls (.int x :: .ref a :: st) (sw S) Q := by
  have hk : k < ab_N ci := by obtain ⟨C, T, N, hc, hk, -⟩ := hf; rw [ab_Nof hc]; exact hk
  exact x_putfF pc' hd hp hf hini ha (by rw [sw_get ha hn, ab_cellO hK]) hnr hfit (by rw [ab_fslen]; exact hk) hpl (by rw [t_setI ha hK hty]; exact h)
theorem t_putPF (pc' : Nat) {i ci k a b : Nat} (hd : decode M.2.1 pc = .ok (.putfield i, 3)) (hp : pc + 3 = pc') (hf : ab_FL M.1.cls i ci k true) (hini : M.1.name = "<init>") (hpl : ∀ host : String, ∀ O n dd, Cond.fieldLinkNest M.1.cls i O n dd host ∉ ab_nest) (ha : 50 ≤ a) (hn : a < sn S) (hK : sK S a = .inr ci) (hty : ab_kP (ab_ty ci k) = true) (h : ab_Ex G d M pc' ls st (sw (pP S a k (some b))) Q) : ab_Ex G d M pc ls (.ref b :: .ref a :: st) (sw S) Q := by
  have hk : k < ab_N ci := by obtain ⟨C, T, N, hc, hk, -⟩ := hf; rw [ab_Nof hc]; exact hk
  exact x_putfF pc' hd hp hf hini ha (by rw [sw_get ha hn, ab_cellO hK]) (ab_fitP (some b) hty).1 (ab_fitP (some b) hty).2 (by rw [ab_fslen]; exact hk) hpl (by rw [show (Value.ref b) = va_rf (some b) from rfl, t_setP ha hK hty]; exact h)
end TROWS
