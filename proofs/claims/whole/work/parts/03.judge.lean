/-! ===== the abstract heap and the judgement over it =====
 An abstract address a below 50 is a constant (a text, its bytes, a static row, the script); from 50 on it is the (a - 50)-th cell that was made since the law began. -/
abbrev ab_E : Type := (FieldType × vp_A) ⊕ (Nat × List Value)
abbrev ab_H : Type := List ab_E × Nat
abbrev ab_L : Type := List (Option Value)
abbrev ab_M : Type := MethodName × ByteArray × Nat × Option FieldType
/-- launch, first new address, layout of the fields, array numbers, addresses of the constants -/
abbrev ab_G : Type := Launch × Nat × va_G × (FieldType → ClassId) × (Nat → Nat)
def ab_al (G : ab_G) (a : Nat) : Nat := if a < 50 then G.2.2.2.2 a else G.2.1 + (a - 50)
def ab_re (G : ab_G) (v : Value) : Value := match v with
  | .ref a => .ref (ab_al G a)
  | v => v
def ab_rs (G : ab_G) (l : List Value) : List Value := l.map (ab_re G)
def ab_ra (G : ab_G) (x : vp_A) : vp_A := (x.1, match x.2 with
  | .inr (.inr (.inr (.inr f))) => .inr (.inr (.inr (.inr (fun j => (f j).map (ab_al G)))))
  | y => y)
def ab_ce (G : ab_G) (e : ab_E) : va_E := match e with
  | .inl (ty, x) => .inl (G.2.2.2.1 ty, ab_ra G x)
  | .inr (ci, fs) => .inr (ci, fs.map (ab_re G))
def ab_cw (G : ab_G) (ws : List ab_E) : va_W := ws.mapIdx (fun i e => (G.2.1 + i, ab_ce G e))
def ab_A (G : ab_G) : Nat → Prop := fun q => G.2.1 ≤ q
def ab_R (G : ab_G) (w : ab_H) (H : Heap) : Prop := H.size + 50 = G.2.1 + w.1.length ∧ 50 ≤ w.1.length ∧ va_P G.2.2.1 ab_cl (ab_cw G (w.1.drop 50)) H
def ab_kc (G : ab_G) (U : State) (H : Heap) (i : Nat) (e : ab_E) : Prop := match e with
  | .inl (ty, n, .inl f) => va_T ty (G.2.2.2.2 i) n (fun j => .int (f j)) (ab_A G) U H
  | .inr (14, [v1, v2]) => va_O "java/lang/String" (G.2.2.2.2 i) (ab_A G) U H ∧ va_OF "java/lang/String" "value" "[B" (ab_re G v1) (G.2.2.2.2 i) (ab_A G) U H ∧ va_OF "java/lang/String" "coder" "B" (ab_re G v2) (G.2.2.2.2 i) (ab_A G) U H
  | .inr (15, _) => True
  | _ => False
def ab_tl : List FieldType := [.int, .byte, .long, .boolean, .object "SeasonSeat$Tray", .object "SeasonSeat$Carriage", .object "SeasonSeat$Stand"]
def ab_tys (G : ab_G) : List (ClassId × FieldType) := ab_tl.map (fun t => (G.2.2.2.1 t, t))
def ab_isNest (w : Cond) : Bool := match w with
  | .fieldLinkNest .. => true
  | .methodLinkNest .. => true
  | _ => false
def ab_nest : List Cond := tables_1.filter ab_isNest
def ab_sts : List (String × String × String × Value) := [("SeasonSeat", "POWERS", "[I", .ref 46), ("SeasonSeat", "FACTORIALS", "[I", .ref 47), ("java/lang/String", "COMPACT_STRINGS", "Z", .int 1)]
def ab_str : List (String × Nat × String × Nat) := [("SeasonSeat$Reader", 226, ";:+-*()[]=<>", 0), ("SeasonSeat$Reader", 67, "train", 1), ("SeasonSeat$Reader", 73, "month", 2), ("SeasonSeat$Reader", 91, "rider", 3), ("SeasonSeat$Reader", 121, "season", 4), ("SeasonSeat$Reader", 130, "class", 5), ("SeasonSeat$Reader", 141, "warm", 6), ("SeasonSeat$Reader", 142, "likes", 7), ("SeasonSeat$Reader", 100, "warms", 8), ("SeasonSeat$Reader", 200, "not", 9), ("SeasonSeat$Reader", 175, "if", 10), ("SeasonSeat$Reader", 184, "then", 11), ("SeasonSeat$Reader", 186, "else", 12), ("SeasonSeat$Reader", 188, "end", 13), ("SeasonSeat$Reader", 205, "warmth", 14), ("SeasonSeat$Reader", 207, "seat", 15), ("SeasonSeat$Reader", 209, "beside", 16), ("SeasonSeat$Reader", 211, "heat", 17), ("SeasonSeat$Reader", 213, "same", 18), ("SeasonSeat$Reader", 198, "and", 19), ("SeasonSeat$Reader", 193, "or", 20), ("SeasonSeat$Reader", 109, "may", 21), ("SeasonSeatModel", 103, " train month rider season class warm likes warms may if then else end warmth seat beside heat same and or not ", 22), ("SeasonSeatModel", 141, ";:+-*()[]=<>", 0)]
def ab_ov : List String := ["SeasonSeat$Tray", "SeasonSeat$Carriage", "SeasonSeat$Stand"]
/-- the static of the JDK of which only is said that it is a reference or null -/
def ab_fm (G : ab_G) (U : State) : Prop := va_Z "jdk/internal/util/Preconditions" "SIOOBE_FORMATTER" "Ljava/util/function/BiFunction;" .null (ab_A G) U U.heap ∨ va_Z "jdk/internal/util/Preconditions" "SIOOBE_FORMATTER" "Ljava/util/function/BiFunction;" (.ref (G.2.2.2.2 49)) (ab_A G) U U.heap
/-- what holds of the tables and of the cells that were there before -/
def ab_At (G : ab_G) (wc : List ab_E) (U : State) : Prop :=
  G.2.1 ≤ U.heap.size ∧ va_K G.2.2.1 ab_cl (ab_tys G) U ∧ (∀ w ∈ ab_nest, va_Nw w U) ∧ (∀ q ∈ ab_sts, va_Z q.1 q.2.1 q.2.2.1 (ab_re G q.2.2.2) (ab_A G) U U.heap) ∧ (∀ q ∈ ab_str, vk_R q.1 q.2.1 q.2.2.1 (G.2.2.2.2 q.2.2.2) U) ∧ (∀ (i : Nat) (e : ab_E), i < 50 → wc[i]? = some e → ab_kc G U U.heap i e) ∧ (∀ C ∈ ab_ov, va_AO C U) ∧ ab_fm G U
theorem ab_kc.moved {G : ab_G} {u U : State} {H : Heap} {i : Nat} {e : ab_E} (hvm : u.vm.Alike U.vm) (h : ab_kc G u H i e) : ab_kc G U H i e := by
  unfold ab_kc at h ⊢
  split at h
  · exact va_T.moved hvm h
  · exact ⟨va_O.moved hvm h.1, va_OF.moved hvm h.2.1, va_OF.moved hvm h.2.2⟩
  · trivial
  · exact h.elim
theorem ab_kc.kept {G : ab_G} {U : State} {H H1 : Heap} {i : Nat} {e : ab_E} (hq : ∀ a : Nat, a < H.size → ¬ ab_A G a → H1[a]? = H[a]?) (h : ab_kc G U H i e) : ab_kc G U H1 i e := by
  unfold ab_kc at h ⊢
  split at h
  · exact va_T.kept h hq
  · exact ⟨va_O.kept h.1 hq, va_OF.kept h.2.1 hq, va_OF.kept h.2.2 hq⟩
  · trivial
  · exact h.elim
theorem ab_nest_warm {s U : State} (hW : s.WarmedH U.vm) {w : Cond} (hn : ab_isNest w = true) (h : va_Nw w s) : va_Nw w U := by
  unfold ab_isNest at hn
  split at hn
  · exact va_Nw.warmF hW h
  · exact va_Nw.warmM hW h
  · cases hn
theorem ab_nest_same {s U : State} (hv : s.vm = U.vm) {w : Cond} (hn : ab_isNest w = true) (h : va_Nw w s) : va_Nw w U := by
  unfold ab_isNest at hn
  split at hn
  · exact va_Nw.same rfl hv h
  · exact va_Nw.same rfl hv h
  · cases hn
theorem ab_nest_is {w : Cond} (h : w ∈ ab_nest) : ab_isNest w = true := (List.mem_filter.mp h).2
theorem ab_At.warm {G : ab_G} {wc : List ab_E} {s U : State} {locs : List Loc} (h : ab_At G wc s) (hW : s.WarmedH U.vm) (hS : va_S (ab_A G) s.heap U.heap locs) : ab_At G wc U := by
  obtain ⟨h1, h2, h3, h4, h5, h6, h7, h8⟩ := h
  refine ⟨Nat.le_trans h1 hS.1, va_K.moved hW.alike h2, fun w hw => ab_nest_warm hW (ab_nest_is hw) (h3 w hw), fun q hq => ?_, fun q hq => (h5 q hq).warm hW, fun i e hi he => ?_, fun C hC => va_AO.moved hW.alike (h7 C hC), ?_⟩
  · exact (va_Z.moved hW.alike (h4 q hq)).kept hS.2.1
  · exact ab_kc.kept hS.2.1 (ab_kc.moved hW.alike (h6 i e hi he))
  · exact h8.elim (fun h => Or.inl ((va_Z.moved hW.alike h).kept hS.2.1)) (fun h => Or.inr ((va_Z.moved hW.alike h).kept hS.2.1))
theorem ab_At.same {G : ab_G} {wc : List ab_E} {s U : State} (h : ab_At G wc s) (hv : s.vm = U.vm) (hh : U.heap = s.heap) : ab_At G wc U := by
  obtain ⟨h1, h2, h3, h4, h5, h6, h7, h8⟩ := h
  have ha : s.vm.Alike U.vm := by rw [hv]; exact Vm.Alike.refl _
  refine ⟨by rw [hh]; exact h1, va_K.moved ha h2, fun w hw => ab_nest_same hv (ab_nest_is hw) (h3 w hw), fun q hq => ?_, fun q hq => vk_R.same hv.symm (h5 q hq), fun i e hi he => ?_, fun C hC => va_AO.moved ha (h7 C hC), ?_⟩
  · rw [hh]; exact va_Z.moved ha (h4 q hq)
  · rw [hh]; exact ab_kc.moved ha (h6 i e hi he)
  · unfold ab_fm
    rw [hh]
    exact h8.elim (fun h => Or.inl (va_Z.moved ha h)) (fun h => Or.inr (va_Z.moved ha h))
def ab_ws (M : ab_M) : List Cond := Cond.code M.1 M.2.1 M.2.2.1 M.2.2.2 :: ab_good
def ab_rm (d c z : Nat) : Room := { frames := d, cells := c, slots := z, locals := 60 * d }
def ab_lv (G : ab_G) (ls : ab_L) : List (Nat × Value) := (ls.zipIdx.filterMap (fun q => q.1.map (fun v => (q.2, ab_re G v))))
/-- the instruction by which a method ends with v -/
def ab_ends (M : ab_M) (pc : Nat) (v : Option Value) : Prop := match v with
  | none => decode M.2.1 pc = .ok (.return_, 1)
  | some (.int _) => decode M.2.1 pc = .ok (.ireturn, 1)
  | some (.long _) => decode M.2.1 pc = .ok (.lreturn, 1)
  | some (.ref _) => decode M.2.1 pc = .ok (.areturn, 1)
  | some .null => decode M.2.1 pc = .ok (.areturn, 1)
  | _ => False
def ab_Cx (G : ab_G) (M : ab_M) (wc : List ab_E) (p : Program) (s : State) (m : MethodId) (args : Array Value) (meth : Method) (c : Code) : Prop :=
  p.tables.exec = Jvm.exec ∧ c.code = M.2.1 ∧ meth.sig.returnType = M.2.2.2 ∧ meth.locks = false ∧ c.maxLocals = M.2.2.1 ∧ s.vm.findClass M.1.cls = some m.cls ∧ (M.1.name = "<init>" → meth.name = "<init>") ∧ (∀ w ∈ ab_good, w.before args s = true) ∧ ab_At G wc s
def ab_Go (G : ab_G) (d : Nat) (M : ab_M) (pc : Nat) (ls : ab_L) (st : List Value) (w : ab_H) (v : Option Value) (w' : ab_H) : Prop :=
  w.1.length ≤ w'.1.length ∧ w.2 ≤ w'.2 ∧ w'.1.take 50 = w.1.take 50 ∧
  ∀ (R : Room) (p : Program) (e : Env) (s : State) (m : MethodId) (args : Array Value) (below : List Frame) (meth : Method) (c : Code) (w0 : ab_H) (Q : State → Prop),
    ab_Cx G M (w.1.take 50) p s m args meth c → d ≤ R.frames → 60 * d ≤ R.locals → w'.1.length - w0.1.length ≤ R.cells → w'.2 - w0.2 ≤ R.slots → w0.1.length ≤ w.1.length → w0.2 ≤ w.2 →
    (∀ (H' : Heap) (locs' : List Loc) (pc' : Nat) (ls' : Array Slot), ab_R G w' H' → va_S (ab_A G) s.heap H' locs' → ab_ends M pc' v → W p G.1 e R s m args below meth c H' locs' (w'.1.length - w0.1.length) (w'.2 - w0.2) Q (F0 m pc' ls' (v.map (ab_re G)).toList)) →
    ∀ (H : Heap) (locs : List Loc) (lc : Array Slot), ab_R G w H → va_S (ab_A G) s.heap H locs → lv_has lc M.2.2.1 (ab_lv G ls) → W p G.1 e R s m args below meth c H locs (w.1.length - w0.1.length) (w.2 - w0.2) Q (F0 m pc lc (ab_rs G st))
/-- the contract of a method: from the world w, with these arguments, it comes to the answer v and the world w' -/
def ab_Runs (G : ab_G) (d : Nat) (M : ab_M) (as : List Value) (w : ab_H) (v : Option Value) (w' : ab_H) : Prop :=
  w.1.length ≤ w'.1.length ∧ w.2 ≤ w'.2 ∧ w'.1.take 50 = w.1.take 50 ∧
  Met G.1 M.1 (ab_ws M) (ab_rm d (w'.1.length - w.1.length) (w'.2 - w.2)) (va_Pc (ab_rs G as) (fun U => ab_At G (w.1.take 50) U ∧ ab_R G w U.heap)) (fun _ st oc t => oc = .returned (v.map (ab_re G)) ∧ ab_R G w' t.heap ∧ va_F (ab_A G) st t) (w'.1.length - w.1.length) (w'.2 - w.2) (ab_A G)
/-- whether a value may be the answer of a method of this kind -/
def ab_rok (rt : Option FieldType) (v : Option Value) : Prop := match rt, v with
  | none, none => True
  | some ty, some (.int x) => narrow ty (.int x) = .int x
  | some .long, some (.long _) => True
  | some (.object _), some (.ref _) => True
  | some (.array _), some (.ref _) => True
  | some (.object _), some .null => True
  | some (.array _), some .null => True
  | _, _ => False
