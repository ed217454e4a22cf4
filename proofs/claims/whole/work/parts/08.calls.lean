/-! ===== calls ===== -/
theorem ab_aft {p : Program} {l : Launch} {e : Env} {R : Room} {s : State} {m : MethodId} {args : Array Value} {below : List Frame} {meth : Method} {c : Code} {H : Heap} {locs : List Loc} {cells slots mc ms pc : Nat} {ls : Array Slot} {st0 rest : List Value} {A : Nat → Prop} {H0 : Heap} {Q : State → Prop} {vv : Option Value} {B : Heap → Prop}
    (hr : va_Run p l e R s m args below meth c H locs cells slots mc ms (F0 m pc ls st0) rest (fun st oc t => oc = .returned vv ∧ B t.heap ∧ va_F A st t) A) (hS : va_S A H0 H locs)
    (kk : ∀ (H1 : Heap) (locs1 : List Loc), B H1 → va_S A H0 H1 locs1 → W p l e R s m args below meth c H1 locs1 (cells + mc) (slots + ms) Q (F0 m (pc + 3) ls (vv.toList ++ rest))) : W p l e R s m args below meth c H locs cells slots Q (F0 m pc ls st0) := by
  intro T hT X
  obtain ⟨v, st₀, t, T', L, h0, X', hL, e1, e2, ⟨hv, hb, hz, hk⟩, st⟩ := hr T hT X
  cases hv
  rw [h0] at hz hk
  obtain ⟨t2, a1, b1⟩ := kk T'.heap (locs ++ L) (by rw [e1]; exact hb) ⟨Nat.le_trans hS.1 (by rw [e1]; exact hz), fun q h1 h2 => by rw [e1, hk q (Nat.lt_of_lt_of_le h1 hS.1) h2]; exact hS.2.1 q h1 h2, fun q hq => by
      rcases List.mem_append.mp hq with h | h
      · exact hS.2.2 q h
      · exact hL q h⟩ T' rfl X'
  exact ⟨t2, st t2 a1, b1⟩
theorem ab_goodIn {M : ab_M} (hc : Cond.code M.1 M.2.1 M.2.2.1 M.2.2.2 ∈ ab_good) : GoodIn ab_good (ab_ws M) := by
  intro w hw
  have hm : w ∈ ab_good := (List.mem_cons.mp hw).elim (fun h => h ▸ hc) id
  exact ⟨hm, good_of_word (List.mem_filter.mp hm).2⟩
/-- what is known of every method: its code stands in the tables, its kind is begun, so many parameters, not too many locals -/
def ab_MK (M : ab_M) (n : Nat) : Prop := Cond.code M.1 M.2.1 M.2.2.1 M.2.2.2 ∈ ab_good ∧ Cond.initialized M.1.cls ∈ ab_good ∧ (M.1.cls ≠ "java/lang/invoke/MethodHandle" ∧ M.1.cls ≠ "java/lang/invoke/VarHandle" ∧ (parseMethodDescriptor M.1.desc).map (fun d => d.parameters.length) = some n) ∧ M.2.2.1 ≤ 41
def ab_ML (own : String) (i : Nat) (y : MethodName) : Prop := Cond.methodLink own i y ∈ ab_good ∨ ∃ host : String, Cond.methodLinkNest own i y host ∈ ab_nest
theorem ab_run {G : ab_G} {d d' : Nat} {M M' : ab_M} {pc pc' : Nat} {ls : ab_L} {st st0 : List Value} {w : ab_H} {Q Q1 : Option Value → ab_H → Prop} {as : List Value} (hp : pc + 3 = pc') (hdd : d' + 1 ≤ d) (hL : M'.2.2.1 ≤ 41)
    (hk : ∀ (v1 : Option Value) (w1 : ab_H), Met G.1 M'.1 (ab_ws M') (ab_rm d' (w1.1.length - w.1.length) (w1.2 - w.2)) (va_Pc (ab_rs G as) (fun U => ab_At G (w.1.take 50) U ∧ ab_R G w U.heap)) (fun _ st oc t => oc = .returned (v1.map (ab_re G)) ∧ ab_R G w1 t.heap ∧ va_F (ab_A G) st t) (w1.1.length - w.1.length) (w1.2 - w.2) (ab_A G) →
      ∀ (R : Room) (p : Program) (e : Env) (s : State) (m : MethodId) (args : Array Value) (below : List Frame) (meth : Method) (c : Code) (H : Heap) (locs : List Loc) (cells slots : Nat) (lc : Array Slot), p.tables.exec = Jvm.exec → c.code = M.2.1 → c.maxLocals = M.2.2.1 → s.vm.findClass M.1.cls = some m.cls → (∀ w ∈ ab_good, w.before args s = true) → ab_At G (w.1.take 50) s → ab_R G w H → va_S (ab_A G) s.heap H locs → lc.size = M.2.2.1 → ((ab_rm d' (w1.1.length - w.1.length) (w1.2 - w.2)).frames + 1 ≤ R.frames ∧ 8 + (M'.2.2.1 + 11) + (ab_rm d' (w1.1.length - w.1.length) (w1.2 - w.2)).locals ≤ R.locals) → (cells + (w1.1.length - w.1.length) ≤ R.cells ∧ slots + (w1.2 - w.2) ≤ R.slots) →
      FrameBlind (va_Pc (ab_rs G as) (fun U => ab_At G (w.1.take 50) U ∧ ab_R G w U.heap)) → (∀ U : State, U.heap = H → s.WarmedH U.vm → va_Pc (ab_rs G as) (fun U => ab_At G (w.1.take 50) U ∧ ab_R G w U.heap) (ab_rs G as).toArray U) →
      va_Run p G.1 e R s m args below meth c H locs cells slots (w1.1.length - w.1.length) (w1.2 - w.2) (F0 m pc lc (ab_rs G st0)) (ab_rs G st) (fun st oc t => oc = .returned (v1.map (ab_re G)) ∧ ab_R G w1 t.heap ∧ va_F (ab_A G) st t) (ab_A G))
    (hc : ab_C G d' M' as w Q1) (k : ∀ (v1 : Option Value) (w1 : ab_H), Q1 v1 w1 → ab_Ex G d M pc' ls (v1.toList ++ st) w1 Q) : ab_Ex G d M pc ls st0 w Q := by
  subst hp
  obtain ⟨v1, w1, ⟨r1, r2, r3, hM⟩, q1⟩ := hc
  obtain ⟨v, w', ⟨g1, g2, g3, g⟩, q⟩ := k v1 w1 q1
  refine ⟨v, w', ⟨Nat.le_trans r1 g1, Nat.le_trans r2 g2, g3.trans r3, fun R p e s m args below meth c w0 Q C hd hl hcl hsl h1 h2 hend H locs lc hR hS hlv => ?_⟩, q⟩
  have hAt := C.2.2.2.2.2.2.2.2
  have hrun := hk v1 w1 hM R p e s m args below meth c H locs (w.1.length - w0.1.length) (w.2 - w0.2) lc C.1 C.2.1 C.2.2.2.2.1 C.2.2.2.2.2.1 C.2.2.2.2.2.2.2.1 hAt hR hS hlv.1 ⟨by show d' + 1 ≤ _; omega, by show 8 + (M'.2.2.1 + 11) + 60 * d' ≤ _; omega⟩ ⟨by omega, by omega⟩
    (fun a U g mk z => ⟨z.1, z.2.1.same rfl rfl, z.2.2⟩) (fun U hU hW => ⟨rfl, hAt.warm hW (by rw [hU]; exact hS), by rw [hU]; exact hR⟩)
  refine ab_aft (B := fun H1 => ab_R G w1 H1) hrun hS (fun H1 locs1 hR1 hS1 => ?_)
  have kk := g R p e s m args below meth c w0 Q (by rw [r3]; exact C) hd hl hcl hsl (Nat.le_trans h1 r1) (Nat.le_trans h2 r2) hend H1 locs1 lc hR1 hS1 hlv
  rw [show w1.1.length - w0.1.length = (w.1.length - w0.1.length) + (w1.1.length - w.1.length) by omega, show w1.2 - w0.2 = (w.2 - w0.2) + (w1.2 - w.2) by omega] at kk
  have e1 : ab_rs G (v1.toList ++ st) = (v1.map (ab_re G)).toList ++ ab_rs G st := by cases v1 <;> rfl
  rw [e1] at kk
  exact kk
section CALLS
variable {G : ab_G} {d : Nat} {M : ab_M} {pc : Nat} {ls : ab_L} {st : List Value} {w : ab_H} {Q : Option Value → ab_H → Prop}
theorem ab_cats (l : List Value) : (ab_rs G l).map (fun v => v.category) = l.map (fun v => v.category) := by
  unfold ab_rs
  rw [List.map_map]
  exact List.map_congr_left (fun v _ => ab_cat G v)
theorem ab_revs (as st : List Value) : ab_rs G (as.reverse ++ st) = (ab_rs G as).reverse ++ ab_rs G st := by
  unfold ab_rs
  rw [List.map_append, List.map_reverse]
theorem x_callS (pc' : Nat) (M' : ab_M) (d' n : Nat) {i : Nat} (as : List Value) {Q1 : Option Value → ab_H → Prop} (hd : decode M.2.1 pc = .ok (.invokestatic i, 3)) (hp : pc + 3 = pc') (hdd : d' + 1 ≤ d) (hm : ab_MK M' n) (hst : Cond.static M'.1 ∈ ab_good) (hl : ab_ML M.1.cls i M'.1) (hn : as.length = n) (hW : (st.map (fun v => v.category)).sum ≤ 8) (hc : ab_C G d' M' as w Q1) (k : ∀ (v1 : Option Value) (w1 : ab_H), Q1 v1 w1 → ab_Ex G d M pc' ls (v1.toList ++ st) w1 Q) : ab_Ex G d M pc ls (as.reverse ++ st) w Q := by
  refine ab_run hp hdd hm.2.2.2 (fun v1 w1 hM R p e s m args below meth c H locs cells slots lc hx hb hml ho ht hAt hR hS hls hr hf hB hU => ?_) hc k
  have hn' : (ab_rs G as).length = n := by unfold ab_rs; rw [List.length_map]; exact hn
  have hW' : 2 * (F0 m pc lc (ab_rs G (as.reverse ++ st))).monitorRoom + ((ab_rs G st).map fun v => v.category).sum ≤ 8 := by
    show 2 * 0 + _ ≤ 8
    rw [ab_cats]; omega
  rcases hl with hl | ⟨host, hl⟩
  · exact va_runS (As := ab_rs G as) (rest := ab_rs G st) ⟨hx, hb, hml, ho, ht⟩ hM ⟨callB_of n ht (ab_goodIn hm.1) rfl rfl rfl (ht _ hm.2.1) (ht _ hl) hm.2.2.1 hr, ht _ hst⟩ ⟨hB, hU⟩ rfl hn' hls (ab_revs as st) hW' hd hf
  · exact va_runSN (As := ab_rs G as) (rest := ab_rs G st) ⟨hx, hb, hml, ho, ht⟩ hM ⟨va_cnB n ht (ab_goodIn hm.1) rfl rfl rfl (hAt.2.2.1 _ hl) (ht _ hm.2.1) hm.2.2.1 hr, ht _ hst, trivial⟩ ⟨hB, hU⟩ rfl hn' hls (ab_revs as st) hW' hd hf
theorem x_callV (pc' : Nat) (M' : ab_M) (d' n : Nat) {i a ci : Nat} {T : u_T} {N : Nat} {fs : List Value} (as : List Value) {Q1 : Option Value → ab_H → Prop} (hd : decode M.2.1 pc = .ok (.invokevirtual i, 3)) (hp : pc + 3 = pc') (hdd : d' + 1 ≤ d) (hm : ab_MK M' n) (hi : Cond.instanceMethod M'.1 ∈ ab_good) (hsel : Cond.selects M'.1.cls M'.1 M'.1 ∈ ab_good) (hl : ab_ML M.1.cls i M'.1) (hn : as.length = n) (hW : (st.map (fun v => v.category)).sum ≤ 8) (ha : 50 ≤ a) (hw : w.1[a]? = some (.inr (ci, fs))) (hcl : ab_cl[ci]? = some (M'.1.cls, T, N)) (hc : ab_C G d' M' (.ref a :: as) w Q1) (k : ∀ (v1 : Option Value) (w1 : ab_H), Q1 v1 w1 → ab_Ex G d M pc' ls (v1.toList ++ st) w1 Q) : ab_Ex G d M pc ls (as.reverse ++ .ref a :: st) w Q := by
  refine ab_run (as := .ref a :: as) hp hdd hm.2.2.2 (fun v1 w1 hM R p e s m args below meth c H locs cells slots lc hx hb hml ho ht hAt hR hS hls hr hf hB hU => ?_) hc k
  have hn' : (ab_rs G as).length = n := by unfold ab_rs; rw [List.length_map]; exact hn
  have hW' : 2 * (F0 m pc lc (ab_rs G (as.reverse ++ .ref a :: st))).monitorRoom + ((ab_rs G st).map fun v => v.category).sum ≤ 8 := by
    show 2 * 0 + _ ≤ 8
    rw [ab_cats]; omega
  have hrec := va_recv hAt.2.1 hR.2.2 hcl (ab_cwget (G := G) ha hw)
  rcases hl with hl | ⟨host, hl⟩
  · exact va_runV (As := ab_rs G as) (rest := ab_rs G st) ⟨hx, hb, hml, ho, ht⟩ hM ⟨callB_of n ht (ab_goodIn hm.1) rfl rfl rfl (ht _ hm.2.1) (ht _ hl) hm.2.2.1 hr, ht _ hi, ht _ hsel⟩ ⟨hB, hrec, hU⟩ rfl hn' hls (ab_revs as (.ref a :: st)) hW' hd hf
  · exact va_runVN (As := ab_rs G as) (rest := ab_rs G st) ⟨hx, hb, hml, ho, ht⟩ hM ⟨va_cnB n ht (ab_goodIn hm.1) rfl rfl rfl (hAt.2.2.1 _ hl) (ht _ hm.2.1) hm.2.2.1 hr, ht _ hi, ht _ hsel⟩ ⟨hB, hrec, hU⟩ rfl hn' hls (ab_revs as (.ref a :: st)) hW' hd hf
/-- a call on a text -/
theorem x_callT (pc' : Nat) (M' : ab_M) (d' n : Nat) {i a : Nat} {u1 u2 : Value} (as : List Value) {Q1 : Option Value → ab_H → Prop} (hd : decode M.2.1 pc = .ok (.invokevirtual i, 3)) (hp : pc + 3 = pc') (hdd : d' + 1 ≤ d) (hm : ab_MK M' n) (hi : Cond.instanceMethod M'.1 ∈ ab_good) (hsel : Cond.selects M'.1.cls M'.1 M'.1 ∈ ab_good) (hl : Cond.methodLink M.1.cls i M'.1 ∈ ab_good) (hn : as.length = n) (hW : (st.map (fun v => v.category)).sum ≤ 8) (ha : a < 50) (hw : w.1[a]? = some (.inr (14, [u1, u2]))) (hcl : M'.1.cls = "java/lang/String") (hc : ab_C G d' M' (.ref a :: as) w Q1) (k : ∀ (v1 : Option Value) (w1 : ab_H), Q1 v1 w1 → ab_Ex G d M pc' ls (v1.toList ++ st) w1 Q) : ab_Ex G d M pc ls (as.reverse ++ .ref a :: st) w Q := by
  refine ab_run (as := .ref a :: as) hp hdd hm.2.2.2 (fun v1 w1 hM R p e s m args below meth c H locs cells slots lc hx hb hml ho ht hAt hR hS hls hr hf hB hU => ?_) hc k
  have hn' : (ab_rs G as).length = n := by unfold ab_rs; rw [List.length_map]; exact hn
  have hW' : 2 * (F0 m pc lc (ab_rs G (as.reverse ++ .ref a :: st))).monitorRoom + ((ab_rs G st).map fun v => v.category).sum ≤ 8 := by
    show 2 * 0 + _ ≤ 8
    rw [ab_cats]; omega
  have hrec : ∃ cell : Cell, H[ab_al G a]? = some cell ∧ cell.vm.isStatics = false ∧ s.vm.findClass M'.1.cls = some cell.cls := by
    obtain ⟨cell, q1, q2, q3, -⟩ := (ab_kget (wc := []) hAt ha hw).1.kept hS.2.1
    exact ⟨cell, by rw [ab_al_old G ha]; exact q1, q2, by rw [hcl]; exact q3⟩
  exact va_runV (As := ab_rs G as) (rest := ab_rs G st) ⟨hx, hb, hml, ho, ht⟩ hM ⟨callB_of n ht (ab_goodIn hm.1) rfl rfl rfl (ht _ hm.2.1) (ht _ hl) hm.2.2.1 hr, ht _ hi, ht _ hsel⟩ ⟨hB, hrec, hU⟩ rfl hn' hls (ab_revs as (.ref a :: st)) hW' hd hf
theorem x_callI (pc' : Nat) (M' : ab_M) (d' n : Nat) {i a : Nat} (as : List Value) {Q1 : Option Value → ab_H → Prop} (hd : decode M.2.1 pc = .ok (.invokespecial i, 3)) (hp : pc + 3 = pc') (hdd : d' + 1 ≤ d) (hm : ab_MK M' n) (hret : M'.2.2.2 = none) (hnm : M'.1.name = "<init>") (hi : Cond.instanceMethod M'.1 ∈ ab_good) (hl : ab_ML M.1.cls i M'.1) (hn : as.length = n) (hW : (st.map (fun v => v.category)).sum ≤ 8) (hc : ab_C G d' M' (.ref a :: as) w Q1) (k : ∀ (v1 : Option Value) (w1 : ab_H), Q1 v1 w1 → ab_Ex G d M pc' ls (v1.toList ++ st) w1 Q) : ab_Ex G d M pc ls (as.reverse ++ .ref a :: st) w Q := by
  refine ab_run (as := .ref a :: as) hp hdd hm.2.2.2 (fun v1 w1 hM R p e s m args below meth c H locs cells slots lc hx hb hml ho ht hAt hR hS hls hr hf hB hU => ?_) hc k
  have hn' : (ab_rs G as).length = n := by unfold ab_rs; rw [List.length_map]; exact hn
  have hW' : 2 * (F0 m pc lc (ab_rs G (as.reverse ++ .ref a :: st))).monitorRoom + ((ab_rs G st).map fun v => v.category).sum ≤ 8 := by
    show 2 * 0 + _ ≤ 8
    rw [ab_cats]; omega
  have hwsr : ab_ws M' = Cond.code M'.1 M'.2.1 M'.2.2.1 none :: ab_good := by rw [← hret]; rfl
  rcases hl with hl | ⟨host, hl⟩
  · exact va_runI (As := ab_rs G as) (rest := ab_rs G st) ⟨hx, hb, hml, ho, ht⟩ hM ⟨callB_of n ht (ab_goodIn hm.1) hwsr rfl rfl (ht _ hm.2.1) (ht _ hl) hm.2.2.1 hr, hnm, ht _ hi⟩ ⟨hB, hU⟩ rfl hn' hls (ab_revs as (.ref a :: st)) hW' hd hf
  · exact va_runIN (As := ab_rs G as) (rest := ab_rs G st) ⟨hx, hb, hml, ho, ht⟩ hM ⟨va_cnB n ht (ab_goodIn hm.1) hwsr rfl rfl (hAt.2.2.1 _ hl) (ht _ hm.2.1) hm.2.2.1 hr, hnm, ht _ hi⟩ ⟨hB, hU⟩ rfl hn' hls (ab_revs as (.ref a :: st)) hW' hd hf
end CALLS
