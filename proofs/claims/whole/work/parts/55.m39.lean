/-! ===== the JDK's methods: texts, numbers, rows ===== -/
theorem ab_ofWF {l : Launch} {y : MethodName} {ws ws' : List Cond} {rm : Room} {Pc : Array Value → State → Prop} {Qc : Array Value → State → Outcome → State → Prop} {mc ms : Nat} {free : Addr → Prop} {cc : ByteArray} {maxL : Nat} {ret : Option FieldType}
    (hy : plainFor y = true) (hw : ws = Cond.code y cc maxL ret :: ws')
    (body : ∀ p e s m args below meth c s₁, BodyLoose p l y (headSpec ws rm) cc maxL ret e s m args below meth c s₁ → c.maxLocals = maxL → Pc args s →
      W p l e (headSpec ws rm).room s m args below meth c s.heap [] 0 0 (MQ below Qc args s mc ms free) (entryFrame m args maxL)) : Met l y ws rm Pc Qc mc ms free := by
  refine MetFree.of_bodySF (code := cc) (maxLocals := maxL) (ret := ret) hy ?_ ?_
  · intro args s m h hn
    obtain ⟨meth, c, h1, h2, h3, h4, h5, h6, -, -⟩ := Cond.code_spec hn (atoms_spec (ws := ws) h _ (by rw [hw]; exact List.mem_cons_self))
    exact ⟨meth, c, h1, h2, h3, h4, h5, h6⟩
  · intro p e s m args below meth c s₁ B hml hP _
    have hh0 : s₁.heap = s.heap := by rw [B.state]; rfl
    obtain ⟨t, a1, o, b1, b2, b3⟩ := body p e s m args below meth c s₁ B hml hP s₁ hh0 (Stand.of_body B)
    exact ⟨t, o, a1, b1, b2, ⟨b3.1, b3.2⟩⟩
theorem ab_enterF {G : ab_G} {d : Nat} {M : ab_M} {as : List Value} {w : ab_H} {v : Option Value} {w' : ab_H} (hpl : plainFor M.1 = true) (hlen : (lg_sl (ab_rs G as)).length ≤ M.2.2.1) (hret : ab_rok M.2.2.2 v) (ls : ab_L) (hls : ab_lv G ls = lv_args 0 (ab_rs G as)) (h : ab_Go G d M 0 ls [] w v w') : ab_Runs G d M as w v w' := by
  obtain ⟨g1, g2, g3, g⟩ := h
  refine ⟨g1, g2, g3, ab_ofWF (cc := M.2.1) (maxL := M.2.2.1) (ret := M.2.2.2) hpl rfl ?_⟩
  intro p e s m args below meth c s₁ B hml hv
  obtain ⟨rfl, hAt, hR⟩ := hv
  have hts := atoms_spec (ws := ab_ws M) B.pre
  rw [lg_entry_eq]
  have hl := lv_entry (ab_rs G as) (n := M.2.2.1) hlen
  rw [← hls] at hl
  have hlocks : meth.locks = false := B.notSynchronized
  have key := g (headSpec (ab_ws M) (ab_rm d (w'.1.length - w.1.length) (w'.2 - w.2))).room p e s m (ab_rs G as).toArray below meth c w (MQ below (fun _ st oc t => oc = .returned (v.map (ab_re G)) ∧ ab_R G w' t.heap ∧ va_F (ab_A G) st t) (ab_rs G as).toArray s (w'.1.length - w.1.length) (w'.2 - w.2) (ab_A G))
    ⟨B.exec, B.bytes, B.returns, hlocks, hml, findClass_of_methodNamed B.named, fun hi => (name_of_methodNamed B.named B.method).1.trans hi, fun w hw => hts w (List.mem_cons_of_mem _ hw), hAt⟩ (Nat.le_refl d) (Nat.le_refl _) (Nat.le_refl _) (Nat.le_refl _) (Nat.le_refl _) (Nat.le_refl _)
    (fun H' locs' pc' ls' hR' hS' hends => ab_fin hret B.exec B.bytes B.returns hlocks hR' hS' hends) s.heap [] _ hR va_S.rf hl
  rw [Nat.sub_self, Nat.sub_self] at key
  exact key
theorem x_enterF {G : ab_G} {d : Nat} {M : ab_M} {as : List Value} {w : ab_H} {Q : Option Value → ab_H → Prop} (ls : ab_L) (hpl : plainFor M.1 = true) (hlen : (lg_sl (ab_rs G as)).length ≤ M.2.2.1) (hls : ab_lv G ls = lv_args 0 (ab_rs G as)) (hret : ∀ v w', Q v w' → ab_rok M.2.2.2 v) (h : ab_Ex G d M 0 ls [] w Q) : ab_C G d M as w Q := by
  obtain ⟨v, w', h, q⟩ := h
  exact ⟨v, w', ab_enterF hpl hlen (hret v w' q) ls hls h, q⟩
def kLen (t : Nat) : Nat := ab_len.getD t 0
def kByt (t : Nat) : Nat → Int32 := fun j => (ab_byt.getD t []).getD j 0
/-- a byte of a text -/
def kB (t j : Nat) : Nat := cN (kByt t j)
def kSh (c : Nat → ab_E) : Prop := (∀ t, t < 23 → c t = .inr (14, [.ref (23 + t), .int 0]) ∧ c (23 + t) = .inl (.byte, kLen t, .inl (kByt t))) ∧ c 46 = .inl (.int, 5, .inl ab_pw) ∧ c 47 = .inl (.int, 5, .inl ab_fc)
theorem kLen_all : (List.range 23).all (fun t => decide (kLen t ≤ 110)) = true := by decide +kernel
theorem kLen_le (t : Nat) (h : t < 23) : kLen t ≤ 110 := by
  have h0 := kLen_all
  rw [List.all_eq_true] at h0
  exact decide_eq_true_iff.mp (h0 t (List.mem_range.mpr h))
theorem kLen_lt (t : Nat) : kLen t < 2 ^ 31 := by
  by_cases h : t < 23
  · have := kLen_le t h; omega
  · have e : kLen t = 0 := by
      unfold kLen
      rw [List.getD_eq_getElem?_getD, List.getElem?_eq_none (show ab_len.length ≤ t by show 23 ≤ t; omega)]; rfl
    rw [e]; decide
theorem kByt_all : (List.range 23).all (fun t => (List.range (kLen t)).all (fun j => decide (kByt t j = nI (kB t j)) && decide (kB t j < 128) && decide (((kByt t j &&& 255).toUInt32 % 65536).toInt32 = kByt t j))) = true := by decide +kernel
theorem kByt_ok {t j : Nat} (ht : t < 23) (hj : j < kLen t) : kByt t j = nI (kB t j) ∧ kB t j < 128 ∧ ((kByt t j &&& 255).toUInt32 % 65536).toInt32 = nI (kB t j) := by
  have h0 := kByt_all
  rw [List.all_eq_true] at h0
  have h1 := h0 t (List.mem_range.mpr ht)
  rw [List.all_eq_true] at h1
  have h2 := h1 j (List.mem_range.mpr hj)
  simp only [Bool.and_eq_true, decide_eq_true_iff] at h2
  exact ⟨h2.1.1, h2.1.2, h2.2.trans h2.1.1⟩
def kPw (r : Nat) : Nat := 5 ^ r
def kFc (r : Nat) : Nat := if r = 0 then 1 else if r = 1 then 1 else if r = 2 then 2 else if r = 3 then 6 else 24
theorem kPw_N : ∀ r, r < 5 → ab_pw r = nI (kPw r) := by decide +kernel
theorem kFc_N : ∀ r, r < 5 → ab_fc r = nI (kFc r) := by decide +kernel
theorem nestStr : ab_nest.all (fun w => match w with | .methodLinkNest _ _ y _ => !(y.cls == "java/lang/String") | _ => true) = true := by decide +kernel
theorem ml_T {C : String} {i : Nat} {y : MethodName} (h : ab_ML C i y) (hn : y.cls = "java/lang/String") : Cond.methodLink C i y ∈ ab_good := h.elim id (fun ⟨g, hg⟩ => by
  have h0 := nestStr
  rw [List.all_eq_true] at h0
  have h1 := h0 _ hg
  simp [hn] at h1)
theorem sh0 (x : Int32) : x >>> (nI 0 &&& 31) = x := by
  rw [show (nI 0 &&& 31 : Int32) = 0 from rfl]
  exact Int32.shiftRight_zero
def tb_jS_coder : List (Nat × Instr × Nat) := [(0, .getstatic 38, 3), (3, .ifCond .eq 10, 3), (6, .aload_n 0, 1), (7, .getfield 15, 3), (10, .goto 4, 3), (13, .iconst 1, 1), (14, .ireturn, 1)]
theorem tk_jS_coder : ∀ q ∈ tb_jS_coder, decode M_jS_coder.2.1 q.1 = .ok q.2 := by decide +kernel
theorem c_jS_coder {G : ab_G} {S : ab_S} (kc : kSh S.1) (h50 : 50 ≤ sn S) (t : Nat) (ht : t < 23) : ab_C G 0 M_jS_coder [.ref t] (sw S) (fun v w' => v = some (.int (nI 0)) ∧ w' = sw S) := by
  refine x_enter [some (.ref t)] (by decide) (Nat.le_of_ble_eq_true rfl) rfl (fun v w' h => by obtain ⟨rfl, rfl⟩ := h; rfl) ?_
  refine x_gets 3 (ab_dd tk_jS_coder 0 rfl) rfl (List.mem_of_getElem? (i := 2) rfl) F_jS_38 ?_
  refine x_if_eq_f 6 (ab_dd tk_jS_coder 1 rfl) rfl 13 (by decide) (by decide) ?_
  refine x_aload_n 7 0 (ab_dd tk_jS_coder 2 rfl) rfl rfl rfl ?_
  refine x_strC (v1 := .ref (23 + t)) (v2 := .int 0) 10 (ab_dd tk_jS_coder 3 rfl) rfl F_jS_15 (by omega) (by rw [sw_old (by omega) h50, (kc.1 t ht).1]) (x_topn 0 rfl ?_)
  refine x_goto 14 (ab_dd tk_jS_coder 4 rfl) (by decide) ?_
  exact x_iret (ab_dd tk_jS_coder 6 rfl) ⟨rfl, rfl⟩
def tb_jS_isLatin1 : List (Nat × Instr × Nat) := [(0, .getstatic 38, 3), (3, .ifCond .eq 14, 3), (6, .aload_n 0, 1), (7, .getfield 15, 3), (10, .ifCond .ne 7, 3), (13, .iconst 1, 1), (14, .goto 4, 3), (17, .iconst 0, 1), (18, .ireturn, 1)]
theorem tk_jS_isLatin1 : ∀ q ∈ tb_jS_isLatin1, decode M_jS_isLatin1.2.1 q.1 = .ok q.2 := by decide +kernel
theorem c_jS_isLatin1 {G : ab_G} {S : ab_S} (kc : kSh S.1) (h50 : 50 ≤ sn S) (t : Nat) (ht : t < 23) : ab_C G 0 M_jS_isLatin1 [.ref t] (sw S) (fun v w' => v = some (.int (1)) ∧ w' = sw S) := by
  refine x_enter [some (.ref t)] (by decide) (Nat.le_of_ble_eq_true rfl) rfl (fun v w' h => by obtain ⟨rfl, rfl⟩ := h; rfl) ?_
  refine x_gets 3 (ab_dd tk_jS_isLatin1 0 rfl) rfl (List.mem_of_getElem? (i := 2) rfl) F_jS_38 ?_
  refine x_if_eq_f 6 (ab_dd tk_jS_isLatin1 1 rfl) rfl 17 (by decide) (by decide) ?_
  refine x_aload_n 7 0 (ab_dd tk_jS_isLatin1 2 rfl) rfl rfl rfl ?_
  refine x_strC (v1 := .ref (23 + t)) (v2 := .int 0) 10 (ab_dd tk_jS_isLatin1 3 rfl) rfl F_jS_15 (by omega) (by rw [sw_old (by omega) h50, (kc.1 t ht).1]) (x_topn 0 rfl ?_)
  refine x_if_ne_f 13 (ab_dd tk_jS_isLatin1 4 rfl) rfl 17 (by decide) rfl ?_
  refine x_iconst 14 1 (ab_dd tk_jS_isLatin1 5 rfl) rfl (by decide) (x_topn 1 rfl ?_)
  refine x_goto 18 (ab_dd tk_jS_isLatin1 6 rfl) (by decide) ?_
  exact x_iret (ab_dd tk_jS_isLatin1 8 rfl) ⟨rfl, rfl⟩
def tb_jS_length : List (Nat × Instr × Nat) := [(0, .aload_n 0, 1), (1, .getfield 9, 3), (4, .arraylength, 1), (5, .aload_n 0, 1), (6, .invokevirtual 335, 3), (9, .ishr, 1), (10, .ireturn, 1)]
theorem tk_jS_length : ∀ q ∈ tb_jS_length, decode M_jS_length.2.1 q.1 = .ok q.2 := by decide +kernel
theorem c_jS_length {G : ab_G} {S : ab_S} (kc : kSh S.1) (h50 : 50 ≤ sn S) (t : Nat) (ht : t < 23) : ab_C G 1 M_jS_length [.ref t] (sw S) (fun v w' => v = some (.int (nI (kLen t))) ∧ w' = sw S) := by
  refine x_enter [some (.ref t)] (by decide) (Nat.le_of_ble_eq_true rfl) rfl (fun v w' h => by obtain ⟨rfl, rfl⟩ := h; rfl) ?_
  refine x_aload_n 1 0 (ab_dd tk_jS_length 0 rfl) rfl rfl rfl ?_
  refine x_strV 4 (ab_dd tk_jS_length 1 rfl) rfl F_jS_9 (by omega) (by rw [sw_old (by omega) h50, (kc.1 t ht).1]) ?_
  refine t_alenK 5 (ab_dd tk_jS_length 2 rfl) rfl (by omega) h50 ((kc.1 t ht).2) ?_
  refine x_aload_n 6 0 (ab_dd tk_jS_length 3 rfl) rfl rfl rfl ?_
  refine x_callT 9 M_jS_coder 0 0 [] (ab_dd tk_jS_length 4 rfl) rfl (by decide) K_jS_coder V_jS_coder.1 V_jS_coder.2 (ml_T L_jS_335 rfl) rfl (Nat.le_of_ble_eq_true rfl) (by omega) (by rw [sw_old (by omega) h50, (kc.1 t ht).1]) rfl (c_jS_coder kc h50 t ht) (fun v1 w1 h1 => ?_)
  obtain ⟨rfl, rfl⟩ := h1
  refine x_ishr 10 (ab_dd tk_jS_length 5 rfl) rfl (x_topn (kLen t) (sh0 _) ?_)
  exact x_iret (ab_dd tk_jS_length 6 rfl) ⟨rfl, rfl⟩
def tb_jM_min : List (Nat × Instr × Nat) := [(0, .iload_n 0, 1), (1, .iload_n 1, 1), (2, .if_icmp .gt 7, 3), (5, .iload_n 0, 1), (6, .goto 4, 3), (9, .iload_n 1, 1), (10, .ireturn, 1)]
theorem tk_jM_min : ∀ q ∈ tb_jM_min, decode M_jM_min.2.1 q.1 = .ok q.2 := by decide +kernel
theorem c_jM_min {G : ab_G} (S : ab_S) (x y : Int32) : ab_C G 0 M_jM_min [.int x, .int y] (sw S) (fun v w' => v = some (.int (if x ≤ y then x else y)) ∧ w' = sw S) := by
  refine x_enterF [some (.int x), some (.int y)] (by decide +kernel) (Nat.le_of_ble_eq_true rfl) rfl (fun v w' h => by obtain ⟨rfl, rfl⟩ := h; rfl) ?_
  refine x_iload_n 1 0 (ab_dd tk_jM_min 0 rfl) rfl rfl rfl ?_
  refine x_iload_n 2 1 (ab_dd tk_jM_min 1 rfl) rfl rfl rfl ?_
  refine x_icmp_gt 5 9 (ab_dd tk_jM_min 2 rfl) rfl (by decide) (fun h2 => ?_) (fun h2 => ?_)
  · refine x_iload_n 10 1 (ab_dd tk_jM_min 5 rfl) rfl rfl rfl ?_
    exact x_iret (ab_dd tk_jM_min 6 rfl) ⟨rI (if_neg (Int32.not_le.mpr h2)).symm, rfl⟩
  · refine x_iload_n 6 0 (ab_dd tk_jM_min 3 rfl) rfl rfl rfl ?_
    refine x_goto 10 (ab_dd tk_jM_min 4 rfl) (by decide) ?_
    exact x_iret (ab_dd tk_jM_min 6 rfl) ⟨rI (if_pos (Int32.not_lt.mp h2)).symm, rfl⟩
def tb_jM_max : List (Nat × Instr × Nat) := [(0, .iload_n 0, 1), (1, .iload_n 1, 1), (2, .if_icmp .lt 7, 3), (5, .iload_n 0, 1), (6, .goto 4, 3), (9, .iload_n 1, 1), (10, .ireturn, 1)]
theorem tk_jM_max : ∀ q ∈ tb_jM_max, decode M_jM_max.2.1 q.1 = .ok q.2 := by decide +kernel
theorem c_jM_max {G : ab_G} (S : ab_S) (x y : Int32) : ab_C G 0 M_jM_max [.int x, .int y] (sw S) (fun v w' => v = some (.int (if y ≤ x then x else y)) ∧ w' = sw S) := by
  refine x_enterF [some (.int x), some (.int y)] (by decide +kernel) (Nat.le_of_ble_eq_true rfl) rfl (fun v w' h => by obtain ⟨rfl, rfl⟩ := h; rfl) ?_
  refine x_iload_n 1 0 (ab_dd tk_jM_max 0 rfl) rfl rfl rfl ?_
  refine x_iload_n 2 1 (ab_dd tk_jM_max 1 rfl) rfl rfl rfl ?_
  refine x_icmp_lt 5 9 (ab_dd tk_jM_max 2 rfl) rfl (by decide) (fun h2 => ?_) (fun h2 => ?_)
  · refine x_iload_n 10 1 (ab_dd tk_jM_max 5 rfl) rfl rfl rfl ?_
    exact x_iret (ab_dd tk_jM_max 6 rfl) ⟨rI (if_neg (Int32.not_le.mpr h2)).symm, rfl⟩
  · refine x_iload_n 6 0 (ab_dd tk_jM_max 3 rfl) rfl rfl rfl ?_
    refine x_goto 10 (ab_dd tk_jM_max 4 rfl) (by decide) ?_
    exact x_iret (ab_dd tk_jM_max 6 rfl) ⟨rI (if_pos (Int32.not_lt.mp h2)).symm, rfl⟩
theorem w_min {G : ab_G} (S : ab_S) (x y : Nat) (hx : x < 2 ^ 31) (hy : y < 2 ^ 31) : ab_C G 0 M_jM_min [.int (nI x), .int (nI y)] (sw S) (fun v w' => v = some (.int (nI (if x ≤ y then x else y))) ∧ w' = sw S) := (c_jM_min S (nI x) (nI y)).mono (fun v w' h => ⟨by rw [h.1]; by_cases z : x ≤ y; (· rw [if_pos z, if_pos ((nI_leI hx hy).mpr z)]); (· rw [if_neg z, if_neg (fun q => z ((nI_leI hx hy).mp q))]), h.2⟩)
theorem w_max {G : ab_G} (S : ab_S) (x y : Nat) (hx : x < 2 ^ 31) (hy : y < 2 ^ 31) : ab_C G 0 M_jM_max [.int (nI x), .int (nI y)] (sw S) (fun v w' => v = some (.int (nI (if y ≤ x then x else y))) ∧ w' = sw S) := (c_jM_max S (nI x) (nI y)).mono (fun v w' h => ⟨by rw [h.1]; by_cases z : y ≤ x; (· rw [if_pos z, if_pos ((nI_leI hy hx).mpr z)]); (· rw [if_neg z, if_neg (fun q => z ((nI_leI hy hx).mp q))]), h.2⟩)
def tb_jP_checkIndex : List (Nat × Instr × Nat) := [(0, .iload_n 0, 1), (1, .ifCond .lt 8, 3), (4, .iload_n 0, 1), (5, .iload_n 1, 1), (6, .if_icmp .lt 10, 3), (9, .aload_n 2, 1), (10, .iload_n 0, 1), (11, .iload_n 1, 1), (12, .invokestatic 95, 3), (15, .athrow, 1), (16, .iload_n 0, 1), (17, .ireturn, 1)]
theorem tk_jP_checkIndex : ∀ q ∈ tb_jP_checkIndex, decode M_jP_checkIndex.2.1 q.1 = .ok q.2 := by decide +kernel
theorem c_jP_checkIndexN {G : ab_G} (S : ab_S) (i n : Nat) (hi : i < n) (hn : n < 2 ^ 31) : ab_C G 0 M_jP_checkIndex [.int (nI i), .int (nI n), .null] (sw S) (fun v w' => v = some (.int (nI i)) ∧ w' = sw S) := by
  refine x_enter [some (.int (nI i)), some (.int (nI n)), some (.null)] (by decide) (Nat.le_of_ble_eq_true rfl) rfl (fun v w' h => by obtain ⟨rfl, rfl⟩ := h; rfl) ?_
  refine x_iload_n 1 0 (ab_dd tk_jP_checkIndex 0 rfl) rfl rfl rfl ?_
  refine xn_if_lt 4 9 (ab_dd tk_jP_checkIndex 1 rfl) rfl (by decide) (by omega) ?_
  refine x_iload_n 5 0 (ab_dd tk_jP_checkIndex 2 rfl) rfl rfl rfl ?_
  refine x_iload_n 6 1 (ab_dd tk_jP_checkIndex 3 rfl) rfl rfl rfl ?_
  refine x_icmp_lt_t 16 (ab_dd tk_jP_checkIndex 4 rfl) (by decide) ((nI_ltI (a := i) (b := n) (by omega) (by omega)).mpr (show i < n by omega)) ?_
  refine x_iload_n 17 0 (ab_dd tk_jP_checkIndex 10 rfl) rfl rfl rfl ?_
  exact x_iret (ab_dd tk_jP_checkIndex 11 rfl) ⟨rfl, rfl⟩
theorem c_jP_checkIndexR {G : ab_G} (S : ab_S) (i n : Nat) (hi : i < n) (hn : n < 2 ^ 31) : ab_C G 0 M_jP_checkIndex [.int (nI i), .int (nI n), .ref 49] (sw S) (fun v w' => v = some (.int (nI i)) ∧ w' = sw S) := by
  refine x_enter [some (.int (nI i)), some (.int (nI n)), some (.ref 49)] (by decide) (Nat.le_of_ble_eq_true rfl) rfl (fun v w' h => by obtain ⟨rfl, rfl⟩ := h; rfl) ?_
  refine x_iload_n 1 0 (ab_dd tk_jP_checkIndex 0 rfl) rfl rfl rfl ?_
  refine xn_if_lt 4 9 (ab_dd tk_jP_checkIndex 1 rfl) rfl (by decide) (by omega) ?_
  refine x_iload_n 5 0 (ab_dd tk_jP_checkIndex 2 rfl) rfl rfl rfl ?_
  refine x_iload_n 6 1 (ab_dd tk_jP_checkIndex 3 rfl) rfl rfl rfl ?_
  refine x_icmp_lt_t 16 (ab_dd tk_jP_checkIndex 4 rfl) (by decide) ((nI_ltI (a := i) (b := n) (by omega) (by omega)).mpr (show i < n by omega)) ?_
  refine x_iload_n 17 0 (ab_dd tk_jP_checkIndex 10 rfl) rfl rfl rfl ?_
  exact x_iret (ab_dd tk_jP_checkIndex 11 rfl) ⟨rfl, rfl⟩
def tb_jS_checkIndex : List (Nat × Instr × Nat) := [(0, .iload_n 0, 1), (1, .iload_n 1, 1), (2, .getstatic 1053, 3), (5, .invokestatic 1059, 3), (8, .pop, 1), (9, .return_, 1)]
theorem tk_jS_checkIndex : ∀ q ∈ tb_jS_checkIndex, decode M_jS_checkIndex.2.1 q.1 = .ok q.2 := by decide +kernel
theorem c_jS_checkIndex {G : ab_G} (S : ab_S) (i n : Nat) (hi : i < n) (hn : n < 2 ^ 31) : ab_C G 1 M_jS_checkIndex [.int (nI i), .int (nI n)] (sw S) (fun v w' => v = none ∧ w' = sw S) := by
  refine x_enter [some (.int (nI i)), some (.int (nI n))] (by decide) (Nat.le_of_ble_eq_true rfl) rfl (fun v w' h => by obtain ⟨rfl, rfl⟩ := h; trivial) ?_
  have eN : ab_Ex G 1 M_jS_checkIndex 5 [some (.int (nI i)), some (.int (nI n))] (.null :: .int (nI n) :: .int (nI i) :: []) (sw S) (fun v w' => v = none ∧ w' = sw S) := by
    refine x_callS 8 M_jP_checkIndex 0 3 [_, _, _] (ab_dd tk_jS_checkIndex 3 rfl) rfl (by decide) K_jP_checkIndex T_jP_checkIndex L_jS_1059 rfl (Nat.le_of_ble_eq_true rfl) (c_jP_checkIndexN S i n hi hn) (fun v1 w1 h1 => ?_)
    obtain ⟨rfl, rfl⟩ := h1
    refine x_pop 9 (ab_dd tk_jS_checkIndex 4 rfl) rfl rfl ?_
    exact x_vret (ab_dd tk_jS_checkIndex 5 rfl) ⟨rfl, rfl⟩
  have eR : ab_Ex G 1 M_jS_checkIndex 5 [some (.int (nI i)), some (.int (nI n))] (.ref 49 :: .int (nI n) :: .int (nI i) :: []) (sw S) (fun v w' => v = none ∧ w' = sw S) := by
    refine x_callS 8 M_jP_checkIndex 0 3 [_, _, _] (ab_dd tk_jS_checkIndex 3 rfl) rfl (by decide) K_jP_checkIndex T_jP_checkIndex L_jS_1059 rfl (Nat.le_of_ble_eq_true rfl) (c_jP_checkIndexR S i n hi hn) (fun v1 w1 h1 => ?_)
    obtain ⟨rfl, rfl⟩ := h1
    refine x_pop 9 (ab_dd tk_jS_checkIndex 4 rfl) rfl rfl ?_
    exact x_vret (ab_dd tk_jS_checkIndex 5 rfl) ⟨rfl, rfl⟩
  obtain ⟨v1, w1, g1, rfl, rfl⟩ := eN
  obtain ⟨v2, w2, g2, rfl, rfl⟩ := eR
  refine x_iload_n 1 0 (ab_dd tk_jS_checkIndex 0 rfl) rfl rfl rfl ?_
  refine x_iload_n 2 1 (ab_dd tk_jS_checkIndex 1 rfl) rfl rfl rfl ?_
  exact x_getsF 5 (ab_dd tk_jS_checkIndex 2 rfl) rfl F_jS_1053 _ _ ⟨rfl, rfl⟩ g1 g2
/-- the first place of a byte in a text from j on -/
def kIx (t c : Nat) : Nat → Nat → Option Nat
  | 0, _ => none
  | m + 1, j => if kB t j = c then some j else kIx t c m (j + 1)
theorem ch_nar {b : Nat} (h : b < 128) : narrow .char (.int (nI b)) = .int (nI b) := by
  have : ∀ b, b < 128 → narrow .char (.int (nI b)) = .int (nI b) := by decide +kernel
  exact this b h
theorem i2b_all : (List.range 256).all (fun c => (List.range 128).all (fun b => decide (nI b = (nI c).toInt8.toInt32) == decide (b = c))) = true := by decide +kernel
theorem i2b_eq {b c : Nat} (hb : b < 128) (hc : c < 256) : nI b = (nI c).toInt8.toInt32 ↔ b = c := by
  have h0 := i2b_all
  rw [List.all_eq_true] at h0
  have h1 := h0 c (List.mem_range.mpr hc)
  rw [List.all_eq_true] at h1
  have h2 := h1 b (List.mem_range.mpr hb)
  rw [beq_iff_eq, decide_eq_decide] at h2
  exact h2
def tb_jL_charAt : List (Nat × Instr × Nat) := [(0, .iload_n 1, 1), (1, .aload_n 0, 1), (2, .arraylength, 1), (3, .invokestatic 9, 3), (6, .aload_n 0, 1), (7, .iload_n 1, 1), (8, .baload, 1), (9, .sipush 255, 3), (12, .iand, 1), (13, .i2c, 1), (14, .ireturn, 1)]
theorem tk_jL_charAt : ∀ q ∈ tb_jL_charAt, decode M_jL_charAt.2.1 q.1 = .ok q.2 := by decide +kernel
theorem c_jL_charAt {G : ab_G} {S : ab_S} (kc : kSh S.1) (h50 : 50 ≤ sn S) (t : Nat) (ht : t < 23) (j : Nat) (hj : j < kLen t) : ab_C G 2 M_jL_charAt [.ref (23 + t), .int (nI j)] (sw S) (fun v w' => v = some (.int (nI (kB t j))) ∧ w' = sw S) := by
  have hb := kByt_ok ht hj
  have hl := kLen_le t ht
  refine x_enter [some (.ref (23 + t)), some (.int (nI j))] (by decide) (Nat.le_of_ble_eq_true rfl) rfl (fun v w' h => by obtain ⟨rfl, rfl⟩ := h; show narrow _ _ = _; exact ch_nar hb.2.1) ?_
  refine x_iload_n 1 1 (ab_dd tk_jL_charAt 0 rfl) rfl rfl rfl ?_
  refine x_aload_n 2 0 (ab_dd tk_jL_charAt 1 rfl) rfl rfl rfl ?_
  refine t_alenK 3 (ab_dd tk_jL_charAt 2 rfl) rfl (by omega) h50 ((kc.1 t ht).2) ?_
  refine x_callS 6 M_jS_checkIndex 1 2 [_, _] (ab_dd tk_jL_charAt 3 rfl) rfl (by decide) K_jS_checkIndex T_jS_checkIndex L_jL_9 rfl (Nat.le_of_ble_eq_true rfl) (c_jS_checkIndex S j (kLen t) hj (kLen_lt t)) (fun v1 w1 h1 => ?_)
  obtain ⟨rfl, rfl⟩ := h1
  refine x_aload_n 7 0 (ab_dd tk_jL_charAt 4 rfl) rfl rfl rfl ?_
  refine x_iload_n 8 1 (ab_dd tk_jL_charAt 5 rfl) rfl rfl rfl ?_
  refine t_baldK 9 j (ab_dd tk_jL_charAt 6 rfl) rfl (by omega) h50 ((kc.1 t ht).2) rfl hj (kLen_lt _) (x_topx (kByt t j) rfl ?_)
  refine x_sipush 12 255 (ab_dd tk_jL_charAt 7 rfl) rfl (by decide) (x_topn 255 rfl ?_)
  refine x_iand 13 (ab_dd tk_jL_charAt 8 rfl) rfl (x_topx (kByt t j &&& 255) rfl ?_)
  refine x_i2c 14 (ab_dd tk_jL_charAt 9 rfl) rfl (x_topn (kB t j) hb.2.2 ?_)
  exact x_iret (ab_dd tk_jL_charAt 10 rfl) ⟨rfl, rfl⟩
def tb_jS_charAt : List (Nat × Instr × Nat) := [(0, .aload_n 0, 1), (1, .invokevirtual 492, 3), (4, .ifCond .eq 12, 3), (7, .aload_n 0, 1), (8, .getfield 9, 3), (11, .iload_n 1, 1), (12, .invokestatic 495, 3), (15, .ireturn, 1), (16, .aload_n 0, 1), (17, .getfield 9, 3), (20, .iload_n 1, 1), (21, .invokestatic 498, 3), (24, .ireturn, 1)]
theorem tk_jS_charAt : ∀ q ∈ tb_jS_charAt, decode M_jS_charAt.2.1 q.1 = .ok q.2 := by decide +kernel
theorem c_jS_charAt {G : ab_G} {S : ab_S} (kc : kSh S.1) (h50 : 50 ≤ sn S) (t : Nat) (ht : t < 23) (j : Nat) (hj : j < kLen t) : ab_C G 3 M_jS_charAt [.ref t, .int (nI j)] (sw S) (fun v w' => v = some (.int (nI (kB t j))) ∧ w' = sw S) := by
  have hb := kByt_ok ht hj
  refine x_enter [some (.ref t), some (.int (nI j))] (by decide) (Nat.le_of_ble_eq_true rfl) rfl (fun v w' h => by obtain ⟨rfl, rfl⟩ := h; show narrow _ _ = _; exact ch_nar hb.2.1) ?_
  refine x_aload_n 1 0 (ab_dd tk_jS_charAt 0 rfl) rfl rfl rfl ?_
  refine x_callT 4 M_jS_isLatin1 0 0 [] (ab_dd tk_jS_charAt 1 rfl) rfl (by decide) K_jS_isLatin1 V_jS_isLatin1.1 V_jS_isLatin1.2 (ml_T L_jS_492 rfl) rfl (Nat.le_of_ble_eq_true rfl) (by omega) (by rw [sw_old (by omega) h50, (kc.1 t ht).1]) rfl (c_jS_isLatin1 kc h50 t ht) (fun v1 w1 h1 => ?_)
  obtain ⟨rfl, rfl⟩ := h1
  refine x_if_eq_f 7 (ab_dd tk_jS_charAt 2 rfl) rfl 16 (by decide) (by decide) ?_
  refine x_aload_n 8 0 (ab_dd tk_jS_charAt 3 rfl) rfl rfl rfl ?_
  refine x_strV 11 (ab_dd tk_jS_charAt 4 rfl) rfl F_jS_9 (by omega) (by rw [sw_old (by omega) h50, (kc.1 t ht).1]) ?_
  refine x_iload_n 12 1 (ab_dd tk_jS_charAt 5 rfl) rfl rfl rfl ?_
  refine x_callS 15 M_jL_charAt 2 2 [_, _] (ab_dd tk_jS_charAt 6 rfl) rfl (by decide) K_jL_charAt T_jL_charAt L_jS_495 rfl (Nat.le_of_ble_eq_true rfl) (c_jL_charAt kc h50 t ht j hj) (fun v1 w1 h1 => ?_)
  obtain ⟨rfl, rfl⟩ := h1
  exact x_iret (ab_dd tk_jS_charAt 7 rfl) ⟨rfl, rfl⟩
def tb_jL_canEncode : List (Nat × Instr × Nat) := [(0, .iload_n 0, 1), (1, .ifCond .lt 14, 3), (4, .iload_n 0, 1), (5, .sipush 255, 3), (8, .if_icmp .gt 7, 3), (11, .iconst 1, 1), (12, .goto 4, 3), (15, .iconst 0, 1), (16, .ireturn, 1)]
theorem tk_jL_canEncode : ∀ q ∈ tb_jL_canEncode, decode M_jL_canEncode.2.1 q.1 = .ok q.2 := by decide +kernel
theorem c_jL_canEncode {G : ab_G} (S : ab_S) (c : Nat) (hc : c < 256) : ab_C G 0 M_jL_canEncode [.int (nI c)] (sw S) (fun v w' => v = some (.int 1) ∧ w' = sw S) := by
  refine x_enter [some (.int (nI c))] (by decide) (Nat.le_of_ble_eq_true rfl) rfl (fun v w' h => by obtain ⟨rfl, rfl⟩ := h; rfl) ?_
  refine x_iload_n 1 0 (ab_dd tk_jL_canEncode 0 rfl) rfl rfl rfl ?_
  refine xn_if_lt 4 15 (ab_dd tk_jL_canEncode 1 rfl) rfl (by decide) (by omega) ?_
  refine x_iload_n 5 0 (ab_dd tk_jL_canEncode 2 rfl) rfl rfl rfl ?_
  refine x_sipush 8 255 (ab_dd tk_jL_canEncode 3 rfl) rfl (by decide) (x_topn 255 rfl ?_)
  refine x_icmp_gt_f 11 (ab_dd tk_jL_canEncode 4 rfl) rfl 15 (by decide) (fun z => absurd ((nI_ltI (a := 255) (b := c) (by omega) (by omega)).mp z) (show ¬ (255 < c) by omega)) ?_
  refine x_iconst 12 1 (ab_dd tk_jL_canEncode 5 rfl) rfl (by decide) (x_topn 1 rfl ?_)
  refine x_goto 16 (ab_dd tk_jL_canEncode 6 rfl) (by decide) ?_
  exact x_iret (ab_dd tk_jL_canEncode 8 rfl) ⟨rfl, rfl⟩
def tb_jL_indexOfChar : List (Nat × Instr × Nat) := [(0, .iload_n 1, 1), (1, .i2b, 1), (2, .istore 4, 2), (4, .iload_n 2, 1), (5, .istore 5, 2), (7, .iload 5, 2), (9, .iload_n 3, 1), (10, .if_icmp .ge 21, 3), (13, .aload_n 0, 1), (14, .iload 5, 2), (16, .baload, 1), (17, .iload 4, 2), (19, .if_icmp .ne 6, 3), (22, .iload 5, 2), (24, .ireturn, 1), (25, .iinc 5 1, 3), (28, .goto (-21), 3), (31, .iconst (-1), 1), (32, .ireturn, 1)]
theorem tk_jL_indexOfChar : ∀ q ∈ tb_jL_indexOfChar, decode M_jL_indexOfChar.2.1 q.1 = .ok q.2 := by decide +kernel
theorem c_jL_indexOfChar {G : ab_G} {S : ab_S} (kc : kSh S.1) (h50 : 50 ≤ sn S) (t : Nat) (ht : t < 23) (c : Nat) (hc : c < 256) : ab_C G 0 M_jL_indexOfChar [.ref (23 + t), .int (nI c), .int (nI 0), .int (nI (kLen t))] (sw S) (fun v w' => v = some (.int (encN (kIx t c (kLen t) 0))) ∧ w' = sw S) := by
  have hl := kLen_le t ht
  refine x_enter [some (.ref (23 + t)), some (.int (nI c)), some (.int (nI 0)), some (.int (nI (kLen t))), none, none] (by decide) (Nat.le_of_ble_eq_true rfl) rfl (fun v w' h => by obtain ⟨rfl, rfl⟩ := h; rfl) ?_
  have loop : ∀ (m j : Nat), j + m = kLen t → kIx t c m j = kIx t c (kLen t) 0 → ab_Ex G 0 M_jL_indexOfChar 7 [some (.ref (23 + t)), some (.int (nI c)), some (.int (nI 0)), some (.int (nI (kLen t))), some (.int ((nI c).toInt8.toInt32)), some (.int (nI j))] [] (sw S) (fun v w' => v = some (.int (encN (kIx t c (kLen t) 0))) ∧ w' = sw S) := by
    intro m
    induction m with
    | zero =>
      intro j hj he
      refine x_iload 9 5 (ab_dd tk_jL_indexOfChar 5 rfl) rfl rfl ?_
      refine x_iload_n 10 3 (ab_dd tk_jL_indexOfChar 6 rfl) rfl rfl rfl ?_
      refine x_icmp_ge_t 31 (ab_dd tk_jL_indexOfChar 7 rfl) (by decide) ((nI_leI (a := (kLen t)) (b := j) (by omega) (by omega)).mpr (show (kLen t) ≤ j by omega)) ?_
      refine x_iconst 32 (-1) (ab_dd tk_jL_indexOfChar 17 rfl) rfl (by decide) ?_
      exact x_iret (ab_dd tk_jL_indexOfChar 18 rfl) ⟨rI (by rw [← he]; rfl), rfl⟩
    | succ m ih =>
      intro j hj he
      have hjl : j < kLen t := by omega
      have hb := kByt_ok ht hjl
      have he2 : kIx t c (m + 1) j = if kB t j = c then some j else kIx t c m (j + 1) := rfl
      rw [he2] at he
      refine x_iload 9 5 (ab_dd tk_jL_indexOfChar 5 rfl) rfl rfl ?_
      refine x_iload_n 10 3 (ab_dd tk_jL_indexOfChar 6 rfl) rfl rfl rfl ?_
      refine x_icmp_ge_f 13 (ab_dd tk_jL_indexOfChar 7 rfl) rfl 31 (by decide) (fun z => absurd ((nI_leI (a := (kLen t)) (b := j) (by omega) (by omega)).mp z) (show ¬ ((kLen t) ≤ j) by omega)) ?_
      refine x_aload_n 14 0 (ab_dd tk_jL_indexOfChar 8 rfl) rfl rfl rfl ?_
      refine x_iload 16 5 (ab_dd tk_jL_indexOfChar 9 rfl) rfl rfl ?_
      refine t_baldK 17 j (ab_dd tk_jL_indexOfChar 10 rfl) rfl (by omega) h50 ((kc.1 t ht).2) rfl hjl (kLen_lt _) (x_topx (nI (kB t j)) hb.1 ?_)
      refine x_iload 19 4 (ab_dd tk_jL_indexOfChar 11 rfl) rfl rfl (x_topx ((nI c).toInt8.toInt32) rfl ?_)
      refine x_icmp_ne 22 25 (ab_dd tk_jL_indexOfChar 12 rfl) rfl (by decide) (fun h19 => ?_) (fun h19 => ?_)
      · refine xn_iinc 28 5 (fun y => [some (.ref (23 + t)), some (.int (nI c)), some (.int (nI 0)), some (.int (nI (kLen t))), some (.int ((nI c).toInt8.toInt32)), some (.int y)]) (j + 1) (ab_dd tk_jL_indexOfChar 15 rfl) rfl (by decide) rfl (fun _ => rfl) (iinc_p 1) ?_
        refine x_goto 7 (ab_dd tk_jL_indexOfChar 16 rfl) (by decide) ?_
        exact ih (j + 1) (by omega) (by rw [← he, if_neg (fun z => h19 ((i2b_eq hb.2.1 hc).mpr z))])
      · refine x_iload 24 5 (ab_dd tk_jL_indexOfChar 13 rfl) rfl rfl ?_
        exact x_iret (ab_dd tk_jL_indexOfChar 14 rfl) ⟨rI (by rw [← he, if_pos ((i2b_eq hb.2.1 hc).mp h19)]; rfl), rfl⟩
  refine x_iload_n 1 1 (ab_dd tk_jL_indexOfChar 0 rfl) rfl rfl rfl ?_
  refine x_i2b 2 (ab_dd tk_jL_indexOfChar 1 rfl) rfl (x_topx ((nI c).toInt8.toInt32) rfl ?_)
  refine x_istore 4 [some (.ref (23 + t)), some (.int (nI c)), some (.int (nI 0)), some (.int (nI (kLen t))), some (.int (((nI c).toInt8.toInt32))), none] 4 (ab_dd tk_jL_indexOfChar 2 rfl) rfl (by decide) rfl ?_
  refine x_iload_n 5 2 (ab_dd tk_jL_indexOfChar 3 rfl) rfl rfl rfl ?_
  refine x_istore 7 [some (.ref (23 + t)), some (.int (nI c)), some (.int (nI 0)), some (.int (nI (kLen t))), some (.int (((nI c).toInt8.toInt32))), some (.int (nI 0))] 5 (ab_dd tk_jL_indexOfChar 4 rfl) rfl (by decide) rfl ?_
  exact loop (kLen t) 0 (by omega) rfl
def tb_jL_indexOf : List (Nat × Instr × Nat) := [(0, .iload_n 1, 1), (1, .invokestatic 88, 3), (4, .ifCond .ne 5, 3), (7, .iconst (-1), 1), (8, .ireturn, 1), (9, .iload_n 2, 1), (10, .iconst 0, 1), (11, .invokestatic 92, 3), (14, .istore_n 2, 1), (15, .iload_n 3, 1), (16, .aload_n 0, 1), (17, .arraylength, 1), (18, .invokestatic 38, 3), (21, .istore_n 3, 1), (22, .iload_n 2, 1), (23, .iload_n 3, 1), (24, .if_icmp .lt 5, 3), (27, .iconst (-1), 1), (28, .ireturn, 1), (29, .aload_n 0, 1), (30, .iload_n 1, 1), (31, .iload_n 2, 1), (32, .iload_n 3, 1), (33, .invokestatic 95, 3), (36, .ireturn, 1)]
theorem tk_jL_indexOf : ∀ q ∈ tb_jL_indexOf, decode M_jL_indexOf.2.1 q.1 = .ok q.2 := by decide +kernel
theorem c_jL_indexOf {G : ab_G} {S : ab_S} (kc : kSh S.1) (h50 : 50 ≤ sn S) (t : Nat) (ht : t < 23) (h0 : 0 < kLen t) (c : Nat) (hc : c < 256) : ab_C G 1 M_jL_indexOf [.ref (23 + t), .int (nI c), .int (nI 0), .int (nI (kLen t))] (sw S) (fun v w' => v = some (.int (encN (kIx t c (kLen t) 0))) ∧ w' = sw S) := by
  have hl := kLen_le t ht
  refine x_enter [some (.ref (23 + t)), some (.int (nI c)), some (.int (nI 0)), some (.int (nI (kLen t)))] (by decide) (Nat.le_of_ble_eq_true rfl) rfl (fun v w' h => by obtain ⟨rfl, rfl⟩ := h; rfl) ?_
  refine x_iload_n 1 1 (ab_dd tk_jL_indexOf 0 rfl) rfl rfl rfl ?_
  refine x_callS 4 M_jL_canEncode 0 1 [_] (ab_dd tk_jL_indexOf 1 rfl) rfl (by decide) K_jL_canEncode T_jL_canEncode L_jL_88 rfl (Nat.le_of_ble_eq_true rfl) (c_jL_canEncode S c hc) (fun v1 w1 h1 => ?_)
  obtain ⟨rfl, rfl⟩ := h1
  refine x_if_ne_t 9 (ab_dd tk_jL_indexOf 2 rfl) (by decide) (by decide) ?_
  refine x_iload_n 10 2 (ab_dd tk_jL_indexOf 5 rfl) rfl rfl rfl ?_
  refine x_iconst 11 0 (ab_dd tk_jL_indexOf 6 rfl) rfl (by decide) (x_topn 0 rfl ?_)
  refine x_callS 14 M_jM_max 0 2 [_, _] (ab_dd tk_jL_indexOf 7 rfl) rfl (by decide) K_jM_max T_jM_max L_jL_92 rfl (Nat.le_of_ble_eq_true rfl) (w_max _ 0 0 (by omega) (by omega)) (fun v1 w1 h1 => ?_)
  obtain ⟨rfl, rfl⟩ := h1
  refine (x_topn 0 rfl ?_)
  refine x_istore_n 15 [some (.ref (23 + t)), some (.int (nI c)), some (.int (nI 0)), some (.int (nI (kLen t)))] 2 (ab_dd tk_jL_indexOf 8 rfl) rfl rfl (by decide) rfl ?_
  refine x_iload_n 16 3 (ab_dd tk_jL_indexOf 9 rfl) rfl rfl rfl ?_
  refine x_aload_n 17 0 (ab_dd tk_jL_indexOf 10 rfl) rfl rfl rfl ?_
  refine t_alenK 18 (ab_dd tk_jL_indexOf 11 rfl) rfl (by omega) h50 ((kc.1 t ht).2) ?_
  refine x_callS 21 M_jM_min 0 2 [_, _] (ab_dd tk_jL_indexOf 12 rfl) rfl (by decide) K_jM_min T_jM_min L_jL_38 rfl (Nat.le_of_ble_eq_true rfl) (w_min _ (kLen t) (kLen t) (by omega) (by omega)) (fun v1 w1 h1 => ?_)
  obtain ⟨rfl, rfl⟩ := h1
  refine (x_topn (kLen t) (congrArg nI (if_pos (Nat.le_refl _))) ?_)
  refine x_istore_n 22 [some (.ref (23 + t)), some (.int (nI c)), some (.int (nI 0)), some (.int (nI (kLen t)))] 3 (ab_dd tk_jL_indexOf 13 rfl) rfl rfl (by decide) rfl ?_
  refine x_iload_n 23 2 (ab_dd tk_jL_indexOf 14 rfl) rfl rfl rfl ?_
  refine x_iload_n 24 3 (ab_dd tk_jL_indexOf 15 rfl) rfl rfl rfl ?_
  refine x_icmp_lt_t 29 (ab_dd tk_jL_indexOf 16 rfl) (by decide) ((nI_ltI (a := 0) (b := (kLen t)) (by omega) (by omega)).mpr (show 0 < (kLen t) by omega)) ?_
  refine x_aload_n 30 0 (ab_dd tk_jL_indexOf 19 rfl) rfl rfl rfl ?_
  refine x_iload_n 31 1 (ab_dd tk_jL_indexOf 20 rfl) rfl rfl rfl ?_
  refine x_iload_n 32 2 (ab_dd tk_jL_indexOf 21 rfl) rfl rfl rfl ?_
  refine x_iload_n 33 3 (ab_dd tk_jL_indexOf 22 rfl) rfl rfl rfl ?_
  refine x_callS 36 M_jL_indexOfChar 0 4 [_, _, _, _] (ab_dd tk_jL_indexOf 23 rfl) rfl (by decide) K_jL_indexOfChar T_jL_indexOfChar L_jL_95 rfl (Nat.le_of_ble_eq_true rfl) (c_jL_indexOfChar kc h50 t ht c hc) (fun v1 w1 h1 => ?_)
  obtain ⟨rfl, rfl⟩ := h1
  exact x_iret (ab_dd tk_jL_indexOf 24 rfl) ⟨rfl, rfl⟩
def tb_jS_indexOf_1 : List (Nat × Instr × Nat) := [(0, .aload_n 0, 1), (1, .invokevirtual 492, 3), (4, .ifCond .eq 19, 3), (7, .aload_n 0, 1), (8, .getfield 9, 3), (11, .iload_n 1, 1), (12, .iload_n 2, 1), (13, .aload_n 0, 1), (14, .invokevirtual 505, 3), (17, .invokestatic 637, 3), (20, .goto 16, 3), (23, .aload_n 0, 1), (24, .getfield 9, 3), (27, .iload_n 1, 1), (28, .iload_n 2, 1), (29, .aload_n 0, 1), (30, .invokevirtual 505, 3), (33, .invokestatic 640, 3), (36, .ireturn, 1)]
theorem tk_jS_indexOf_1 : ∀ q ∈ tb_jS_indexOf_1, decode M_jS_indexOf_1.2.1 q.1 = .ok q.2 := by decide +kernel
theorem c_jS_indexOf_1 {G : ab_G} {S : ab_S} (kc : kSh S.1) (h50 : 50 ≤ sn S) (t : Nat) (ht : t < 23) (h0 : 0 < kLen t) (c : Nat) (hc : c < 256) : ab_C G 2 M_jS_indexOf_1 [.ref t, .int (nI c), .int (nI 0)] (sw S) (fun v w' => v = some (.int (encN (kIx t c (kLen t) 0))) ∧ w' = sw S) := by
  refine x_enter [some (.ref t), some (.int (nI c)), some (.int (nI 0))] (by decide) (Nat.le_of_ble_eq_true rfl) rfl (fun v w' h => by obtain ⟨rfl, rfl⟩ := h; rfl) ?_
  refine x_aload_n 1 0 (ab_dd tk_jS_indexOf_1 0 rfl) rfl rfl rfl ?_
  refine x_callT 4 M_jS_isLatin1 0 0 [] (ab_dd tk_jS_indexOf_1 1 rfl) rfl (by decide) K_jS_isLatin1 V_jS_isLatin1.1 V_jS_isLatin1.2 (ml_T L_jS_492 rfl) rfl (Nat.le_of_ble_eq_true rfl) (by omega) (by rw [sw_old (by omega) h50, (kc.1 t ht).1]) rfl (c_jS_isLatin1 kc h50 t ht) (fun v1 w1 h1 => ?_)
  obtain ⟨rfl, rfl⟩ := h1
  refine x_if_eq_f 7 (ab_dd tk_jS_indexOf_1 2 rfl) rfl 23 (by decide) (by decide) ?_
  refine x_aload_n 8 0 (ab_dd tk_jS_indexOf_1 3 rfl) rfl rfl rfl ?_
  refine x_strV 11 (ab_dd tk_jS_indexOf_1 4 rfl) rfl F_jS_9 (by omega) (by rw [sw_old (by omega) h50, (kc.1 t ht).1]) ?_
  refine x_iload_n 12 1 (ab_dd tk_jS_indexOf_1 5 rfl) rfl rfl rfl ?_
  refine x_iload_n 13 2 (ab_dd tk_jS_indexOf_1 6 rfl) rfl rfl rfl ?_
  refine x_aload_n 14 0 (ab_dd tk_jS_indexOf_1 7 rfl) rfl rfl rfl ?_
  refine x_callT 17 M_jS_length 1 0 [] (ab_dd tk_jS_indexOf_1 8 rfl) rfl (by decide) K_jS_length V_jS_length.1 V_jS_length.2 (ml_T L_jS_505 rfl) rfl (Nat.le_of_ble_eq_true rfl) (by omega) (by rw [sw_old (by omega) h50, (kc.1 t ht).1]) rfl (c_jS_length kc h50 t ht) (fun v1 w1 h1 => ?_)
  obtain ⟨rfl, rfl⟩ := h1
  refine x_callS 20 M_jL_indexOf 1 4 [_, _, _, _] (ab_dd tk_jS_indexOf_1 9 rfl) rfl (by decide) K_jL_indexOf T_jL_indexOf L_jS_637 rfl (Nat.le_of_ble_eq_true rfl) (c_jL_indexOf kc h50 t ht h0 c hc) (fun v1 w1 h1 => ?_)
  obtain ⟨rfl, rfl⟩ := h1
  refine x_goto 36 (ab_dd tk_jS_indexOf_1 10 rfl) (by decide) ?_
  exact x_iret (ab_dd tk_jS_indexOf_1 18 rfl) ⟨rfl, rfl⟩
def tb_jS_indexOf_0 : List (Nat × Instr × Nat) := [(0, .aload_n 0, 1), (1, .iload_n 1, 1), (2, .iconst 0, 1), (3, .invokevirtual 633, 3), (6, .ireturn, 1)]
theorem tk_jS_indexOf_0 : ∀ q ∈ tb_jS_indexOf_0, decode M_jS_indexOf_0.2.1 q.1 = .ok q.2 := by decide +kernel
theorem c_jS_indexOf_0 {G : ab_G} {S : ab_S} (kc : kSh S.1) (h50 : 50 ≤ sn S) (t : Nat) (ht : t < 23) (h0 : 0 < kLen t) (c : Nat) (hc : c < 256) : ab_C G 3 M_jS_indexOf_0 [.ref t, .int (nI c)] (sw S) (fun v w' => v = some (.int (encN (kIx t c (kLen t) 0))) ∧ w' = sw S) := by
  refine x_enter [some (.ref t), some (.int (nI c))] (by decide) (Nat.le_of_ble_eq_true rfl) rfl (fun v w' h => by obtain ⟨rfl, rfl⟩ := h; rfl) ?_
  refine x_aload_n 1 0 (ab_dd tk_jS_indexOf_0 0 rfl) rfl rfl rfl ?_
  refine x_iload_n 2 1 (ab_dd tk_jS_indexOf_0 1 rfl) rfl rfl rfl ?_
  refine x_iconst 3 0 (ab_dd tk_jS_indexOf_0 2 rfl) rfl (by decide) (x_topn 0 rfl ?_)
  refine x_callT 6 M_jS_indexOf_1 2 2 [_, _] (ab_dd tk_jS_indexOf_0 3 rfl) rfl (by decide) K_jS_indexOf_1 V_jS_indexOf_1.1 V_jS_indexOf_1.2 (ml_T L_jS_633 rfl) rfl (Nat.le_of_ble_eq_true rfl) (by omega) (by rw [sw_old (by omega) h50, (kc.1 t ht).1]) rfl (c_jS_indexOf_1 kc h50 t ht h0 c hc) (fun v1 w1 h1 => ?_)
  obtain ⟨rfl, rfl⟩ := h1
  exact x_iret (ab_dd tk_jS_indexOf_0 4 rfl) ⟨rfl, rfl⟩
