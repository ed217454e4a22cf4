/-! ===== Object's begin, arrays of references, copies, the formatter ===== -/
section EXTRA
variable {G : ab_G} {d : Nat} {M : ab_M} {pc : Nat} {ls : ab_L} {st : List Value} {w : ab_H} {Q : Option Value → ab_H → Prop}
theorem x_objInit (pc' : Nat) {i a : Nat} (hd : decode M.2.1 pc = .ok (.invokespecial i, 3)) (hp : pc + 3 = pc') (hdd : 1 ≤ d) (hl : Cond.methodLink M.1.cls i objectInit ∈ ab_good) (hin : Cond.instanceMethod objectInit ∈ ab_good) (hc : Cond.code objectInit ⟨#[0xb1]⟩ 1 none ∈ ab_good) (hW : (st.map (fun v => v.category)).sum ≤ 8) (h : ab_Ex G d M pc' ls st w Q) : ab_Ex G d M pc ls (.ref a :: st) w Q := by
  subst hp
  obtain ⟨v, w', ⟨g1, g2, g3, g⟩, q⟩ := h
  refine ⟨v, w', ⟨g1, g2, g3, fun R p e s m args below meth c w0 Q C hd0 hl0 hcl hsl h1 h2 hend H locs lc hR hS hlv => ?_⟩, q⟩
  have ht := C.2.2.2.2.2.2.2.1
  refine W.objInit C.1 C.2.1 C.2.2.2.2.2.1 (ht _ hl) (ht _ hin) (ht _ hc) rfl (hlv.1.trans C.2.2.2.2.1.symm) rfl hd (by omega) ?_ (g R p e s m args below meth c w0 Q C hd0 hl0 hcl hsl h1 h2 hend H locs lc hR hS hlv)
  show 2 * 0 + ((ab_rs G st).map fun v => v.category).sum + 12 ≤ _
  rw [ab_cats]
  omega
theorem x_anew (pc' t0 : Nat) {i : Nat} {C : String} {n : Int32} (N' : Nat) (hd : decode M.2.1 pc = .ok (.anewarray i, 3)) (hp : pc + 3 = pc') (h50 : 50 ≤ w.1.length) (ht0 : ab_tl[t0]? = some (.object C)) (hov : C ∈ ab_ov) (hcl : Cond.classLink M.1.cls i C ∈ ab_good) (hn : ¬ n < 0) (hN : n.toNatClampNeg = N') (hbytes : N' * 4 ≤ 536870912) (h : ab_Ex G d M pc' ls (.ref w.1.length :: st) (ab_pu w (.inl (.object C, N', .inr (.inr (.inr (.inr (fun _ => none)))))) N') Q) : ab_Ex G d M pc ls (.int n :: st) w Q := by
  subst hp
  subst hN
  refine ab_hn _ n.toNatClampNeg h50 (fun R p e s m args below meth c Q H locs cells slots lc hx hb ho ht hAt hR hS hlv hcells hslots k => ?_) h
  refine W.anew hx hb ho (ht _ hcl) (va_AO.use (hAt.2.2.2.2.2.2.1 C hov)) rfl hd rfl hn hbytes hcells hslots fun cA kA comp f1 f2 f3 f4 => ?_
  generalize hH1 : H.push ({ cls := cA, slots := Array.replicate n.toNatClampNeg .null, vm := .none } : Cell) = H1
  have z1 : H1.size = H.size + 1 := by rw [← hH1, Array.size_push]
  have e1 : H1[H.size]? = some (arrV cA n.toNatClampNeg (fun _ => .null)) := by rw [← hH1, Array.getElem?_push_size, ← arrV_new]
  have o1 : ∀ q : Nat, q < H.size → H1[q]? = H[q]? := fun q hq => by rw [← hH1, Array.getElem?_push, if_neg (Nat.ne_of_lt hq)]
  have hcA : G.2.2.2.1 (.object C) = cA := by
    obtain ⟨kB, comp2, -, -, -, h9⟩ := (hAt.2.1.2 t0 _ (ab_arr ht0)).2
    exact Option.some.inj (h9.symm.trans f1)
  have kk := k H1 (ab_S_push hS z1 o1) (ab_R_push hR z1 o1 (by
    show H1[H.size]? = some (vp_cell (G.2.2.2.1 _) (n.toNatClampNeg, .inr (.inr (.inr (.inr (fun j => (none : Option Nat).map (ab_al G)))))))
    rw [hcA, vp_cell_q]
    exact e1))
  unfold ab_rs at kk
  rw [List.map_cons, ab_newref hR] at kk
  exact kk
theorem x_getsF (pc' : Nat) {i : Nat} (hd : decode M.2.1 pc = .ok (.getstatic i, 3)) (hp : pc + 3 = pc') (hl : Cond.fieldLink M.1.cls i "jdk/internal/util/Preconditions" "SIOOBE_FORMATTER" "Ljava/util/function/BiFunction;" ∈ ab_good) (v : Option Value) (w' : ab_H) (hq : Q v w') (h1 : ab_Go G d M pc' ls (.null :: st) w v w') (h2 : ab_Go G d M pc' ls (.ref 49 :: st) w v w') : ab_Ex G d M pc ls st w Q := by
  subst hp
  refine ⟨v, w', ⟨h1.1, h1.2.1, h1.2.2.1, fun R p e s m args below meth c w0 Q C hd0 hl0 hcl hsl e1 e2 hend H locs lc hR hS hlv => ?_⟩, hq⟩
  have ht := C.2.2.2.2.2.2.2.1
  have hAt := C.2.2.2.2.2.2.2.2
  rcases hAt.2.2.2.2.2.2.2 with hz | hz
  · exact va_gets C.1 C.2.1 hz hS C.2.2.2.2.2.1 (ht _ hl) (fun _ z => z) hd (h1.2.2.2 R p e s m args below meth c w0 Q C hd0 hl0 hcl hsl e1 e2 hend H locs lc hR hS hlv)
  · exact va_gets C.1 C.2.1 hz hS C.2.2.2.2.2.1 (ht _ hl) (fun _ z => z) hd (h2.2.2.2 R p e s m args below meth c w0 Q C hd0 hl0 hcl hsl e1 e2 hend H locs lc hR hS hlv)
end EXTRA
/-! ===== the claim's walk, out of the judgement ===== -/
def R_law : String := "SeasonSeatLaw"
def lw_P (b : Addr) (xs : List Int32) (args : Array Value) (s : State) : Prop := args = #[.ref b] ∧ s.IntsAt b xs ∧ xs.length ≤ 3072 ∧ (Jvm.Cond.and given_1 narrow_1).before args s = true
def lw_Q (_ : Array Value) (s : State) (o : Outcome) (t : State) : Prop := o = .returned (some (.int 1)) ∧ Framed s o t [] 600000 7302250
def lw_Z (below : List Frame) (a : Array Value) (s : State) : State → Prop := fun t => ∃ o, t.status = .running ∧ Ended t below o ∧ lw_Q a s o t
theorem lw_ret {p : Program} {l : Launch} {e : Env} {s : State} {m : MethodId} {below : List Frame} {meth : Method} {c : Code} {b : Nat} (hx : p.tables.exec = Jvm.exec) (hb : c.code = code) (hr : meth.sig.returnType = ret) (hlocks : meth.locks = false) {pc : Nat} {H : Heap} {ls : Array Slot} (hdg : decode code pc = .ok (.ireturn, 1)) : W p l e room_1 s m #[Value.ref b] below meth c H [] 600000 7302250 (lw_Z below #[Value.ref b] s) (F0 m pc ls [.int 1]) := by
  intro T hT X
  obtain ⟨fs, hret, hrun, hended, hW, hframe⟩ := X.leave (v := some (.int 1)) (hlocks := hlocks) (fun h => by rw [hr] at h; cases h)
  have hmeth' : T.vm.method? m = some meth := X.method'
  refine ⟨T.setFrames fs, ?_, .returned (some (.int 1)), hrun, hended, rfl, ⟨_, rfl⟩, hW, hframe⟩
  jvm_step X.here [X.here.top, hx, hb, hdg, hmeth', hr, ret, narrow_b1]
  (try refine ⟨rfl, ?_⟩); (try refine ⟨rfl, ?_⟩)
  first | (intro acts; rw [hret _ acts rfl rfl rfl]) | rw [hret _ _ rfl rfl rfl]
  exact Steps.refl _
def lw_At (p : Program) (s : State) (m : MethodId) (meth : Method) (c : Code) (b L : Nat) (xs : Nat → Int32) : Prop :=
  p.tables.exec = Jvm.exec ∧ c.code = code ∧ meth.sig.returnType = ret ∧ c.maxLocals = 4 ∧ s.vm.findClass R_law = some m.cls ∧ (∀ w ∈ lw_tbl, w.before #[Value.ref b] s = true) ∧ va_X b L xs s s.heap ∧ b < s.heap.size ∧ meth.locks = false ∧ (Jvm.Cond.and given_1 narrow_1).before #[Value.ref b] s = true
def ab_law : ab_M := (x, code, 4, ret)
/-- behind the law: it answers 1, and all that was made fits the room -/
def ab_ok (w0 : ab_H) (v : Option Value) (w' : ab_H) : Prop := v = some (.int 1) ∧ w'.1.length - w0.1.length ≤ 600000 ∧ w'.2 - w0.2 ≤ 7302250
theorem ab_walk {p : Program} {e : Env} {s : State} {m : MethodId} {below : List Frame} {meth : Method} {c : Code} {G : ab_G} {b L : Nat} {xs : Nat → Int32} {w0 : ab_H} (C0 : lw_At p s m meth c b L xs) (hb0 : G.2.1 = s.heap.size) (hb : G.2.2.2.2 48 = b) (hAt : ab_At G (w0.1.take 50) s) (hR : ab_R G w0 s.heap) (h : ab_Ex G 1000 ab_law 0 [some (.ref 48), none, none, none] [] w0 (ab_ok w0)) : W p G.1 e room_1 s m #[Value.ref b] below meth c s.heap [] 0 0 (lw_Z below #[Value.ref b] s) (entryFrame m ([Value.ref b] : List Value).toArray 4) := by
  obtain ⟨v, w', ⟨g1, g2, g3, g⟩, rfl, q1, q2⟩ := h
  obtain ⟨hx, hcd, hr, hml, hown, hts, hX, hbl, hlocks, hgv⟩ := C0
  have hl := lv_entry ([.ref b]) (n := 4) (Nat.le_of_ble_eq_true rfl)
  rw [lg_entry_eq]
  have key := g room_1 p e s m #[Value.ref b] below meth c w0 (lw_Z below #[Value.ref b] s) ⟨hx, hcd, hr, hlocks, hml, hown, fun z => absurd z (by decide), fun w hw => hts w (List.mem_filter.mp hw).1, hAt⟩ (Nat.le_of_ble_eq_true rfl) (Nat.le_of_ble_eq_true rfl) q1 q2 (Nat.le_refl _) (Nat.le_refl _)
    (fun H' locs' pc' ls' hR' hS' hends => by
      refine va_forget (fun q hq => by have := hS'.2.2 q hq; rw [← hb0]; exact this) ?_
      refine W.widen (k := 600000) (n := 7302250) q1 q2 ?_
      exact lw_ret hx hcd hr hlocks hends) s.heap [] _ hR va_S.rf (lv_weak hl (by
        rintro ⟨j, u⟩ hq
        obtain ⟨x, hx, rfl⟩ := ab_mem_lv.mp hq
        match j, hx with
        | 0, hx =>
          cases hx
          show (0, Value.ref (ab_al G 48)) ∈ _
          rw [ab_al_old G (by decide), hb]
          exact List.mem_cons_self
        | 1, hx => cases hx
        | 2, hx => cases hx
        | 3, hx => cases hx
        | j + 4, hx => simp at hx))
  rw [Nat.sub_self, Nat.sub_self] at key
  exact key
