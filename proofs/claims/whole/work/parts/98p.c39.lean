/-! ===== System.arraycopy of ints, Arrays.copyOf ===== -/
section
variable {G : ab_G} {d : Nat} {M : ab_M} {pc : Nat} {ls : ab_L} {w : ab_H} {Q : Option Value → ab_H → Prop}
theorem nI_nn (k : Nat) (h : k < 2 ^ 31) : ¬ nI k < 0 := fun z => absurd ((nI_ltI (b := 0) h (by decide)).mp z) (Nat.not_lt_zero k)
theorem x_copy (pc' k : Nat) {i a0 a1 n0 n1 : Nat} {f g : Nat → Int32} (hd : decode M.2.1 pc = .ok (.invokestatic i, 3)) (hp : pc + 3 = pc') (hdd : 1 ≤ d) (hlink : Cond.methodLink M.1.cls i arraycopyName ∈ ab_good) (hnat : Cond.native arraycopyName ∈ ab_good) (hstat : Cond.static arraycopyName ∈ ab_good) (hini : Cond.initialized "java/lang/System" ∈ ab_good) (ha0 : 50 ≤ a0) (hw0 : w.1[a0]? = some (.inl (.int, n0, .inl f))) (ha1 : 50 ≤ a1) (hw1 : w.1[a1]? = some (.inl (.int, n1, .inl g))) (hk0 : k ≤ n0) (hk1 : k ≤ n1) (hk : k < 2 ^ 31) (h : ab_Ex G d M pc' ls [] (ab_st w a1 (.inl (.int, n1, .inl (va_cpy f g 0 0 k)))) Q) : ab_Ex G d M pc ls [.int (nI k), .int (nI 0), .ref a1, .int (nI 0), .ref a0] w Q := by
  subst hp
  obtain ⟨v, w', ⟨g1, g2, g3, go⟩, q⟩ := h
  have hl1 : (ab_st w a1 (.inl (.int, n1, .inl (va_cpy f g 0 0 k)))).1.length = w.1.length := List.length_set
  have ht1 : (ab_st w a1 (.inl (.int, n1, .inl (va_cpy f g 0 0 k)))).1.take 50 = w.1.take 50 := ab_take_set ha1
  refine ⟨v, w', ⟨by rw [← hl1]; exact g1, g2, by rw [← ht1]; exact g3, fun R p ev s m args below meth c w0 Q C hdR hl hc hs h1 h2 hend H locs lc hR hS hlv => ?_⟩, q⟩
  have kk := go R p ev s m args below meth c w0 Q (by rw [ht1]; exact C) hdR hl hc hs (by rw [hl1]; exact h1) h2 hend
  rw [hl1] at kk
  have hAt := C.2.2.2.2.2.2.2.2
  have hgo := C.2.2.2.2.2.2.2.1
  have e0 := ab_cwget (G := G) ha0 hw0
  have e1 := ab_cwget (G := G) ha1 hw1
  have hD := ab_D (G := G) (w.1.drop 50)
  intro T hT X
  have hc0 : H[ab_al G a0]? = some (vp_cell (G.2.2.2.1 .int) (n0, .inl f)) := hR.2.2 _ _ e0
  have hc1 : H[ab_al G a1]? = some (vp_cell (G.2.2.2.1 .int) (n1, .inl g)) := hR.2.2 _ _ e1
  obtain ⟨_, z0, y0, cm0, u0⟩ := (hAt.2.1.2 0 _ rfl).1 n0 (fun j => .int (f j))
  obtain ⟨_, z1, y1, cm1, u1⟩ := (hAt.2.1.2 0 _ rfl).1 n1 (fun j => .int (g j))
  have t0 : (nI 0).toNatClampNeg = 0 := nI_clamp (by decide)
  have tk : (nI k).toNatClampNeg = k := nI_clamp hk
  have i0 : (nI 0).toInt = 0 := by decide
  have ik : (nI k).toInt = (k : Int) := nI_toInt hk
  obtain ⟨vm', X', step⟩ := X.arraycopy C.1 C.2.2.2.2.2.1 (hgo _ hlink) (hgo _ hnat) (hgo _ hstat) (hgo _ hini) (src := ab_al G a0) (dst := ab_al G a1) (cs := vp_cell (G.2.2.2.1 .int) (n0, .inl f)) (cd := vp_cell (G.2.2.2.1 .int) (n1, .inl g)) (srcPos := nI 0) (destPos := nI 0) (n := nI k) (by rw [hT]; exact hc0) (by rw [hT]; exact hc1)
    (fun _ h => by cases h) (fun _ h => by cases h) (fun h => by cases h) (fun h => by cases h) y0 y1 u0 u1 rfl (by decide) (by decide) (nI_nn k hk)
    (by rw [i0, ik]; show ¬ _ > ((arrV (G.2.2.2.1 .int) n0 (fun j => .int (f j))).slots.size : Int); rw [arrV_size]; omega)
    (by rw [i0, ik]; show ¬ _ > ((arrV (G.2.2.2.1 .int) n1 (fun j => .int (g j))).slots.size : Int); rw [arrV_size]; omega)
    (fun vm₁ _ j hj => by
      rw [tk] at hj
      have e : (vp_cell (G.2.2.2.1 .int) (n0, .inl f)).slots.getD ((nI 0).toNatClampNeg + j) .null = .int (f (0 + j)) := by
        show (arrV (G.2.2.2.1 .int) n0 (fun j => .int (f j))).slots.getD _ _ = _
        rw [t0, Array.getD_eq_getD_getElem?, arrV_read _ _ (by omega)]
        rfl
      rw [e]
      exact ⟨rfl, trivial⟩)
    (g := F0 m pc lc (ab_rs G [.int (nI k), .int (nI 0), .ref a1, .int (nI 0), .ref a0])) rfl (by rw [C.2.2.2.2.1]; exact hlv.1) (rest := []) rfl (by rw [C.2.1]; exact hd) (by omega) (by show 2 * 0 + _ + _ ≤ _; have : nativeFrameWords "java/lang/System" "arraycopy" 5 = 7 := (by decide); rw [this]; show 2 * 0 + 0 + (7 + 11) ≤ _; omega)
  have hcp : copied (vp_cell (G.2.2.2.1 .int) (n0, .inl f)) (vp_cell (G.2.2.2.1 .int) (n1, .inl g)) (nI 0) (nI 0) (nI k) = vp_cell (G.2.2.2.1 .int) (n1, .inl (va_cpy f g 0 0 k)) := by
    have z := va_copied (fun z => Value.int z) (G.2.2.2.1 .int) (G.2.2.2.1 .int) (n0 := n0) (n1 := n1) (sp := 0) (dp := 0) (n := k) f g (by omega)
    have z2 : copied (vp_cell (G.2.2.2.1 .int) (n0, .inl f)) (vp_cell (G.2.2.2.1 .int) (n1, .inl g)) (nI 0) (nI 0) (nI k) = (arrV (G.2.2.2.1 .int) n1 (fun j => Value.int (g j))).storeRun (nI 0).toNatClampNeg ((arrV (G.2.2.2.1 .int) n0 (fun j => Value.int (f j))).stretch (nI 0).toNatClampNeg (nI k).toNatClampNeg) := rfl
    rw [z2, t0, tk]
    exact z
  rw [hcp] at X' step
  have hlt : ab_al G a1 < H.size := (Array.getElem?_eq_some_iff.mp hc1).1
  have oq : ∀ q : Nat, q ≠ ab_al G a1 → (H.setIfInBounds (ab_al G a1) (vp_cell (G.2.2.2.1 .int) (n1, .inl (va_cpy f g 0 0 k))))[q]? = H[q]? := fun q hq => by simp [Array.getElem?_setIfInBounds, Ne.symm hq]
  have hz : (H.setIfInBounds (ab_al G a1) (vp_cell (G.2.2.2.1 .int) (n1, .inl (va_cpy f g 0 0 k)))).size = H.size := by simp
  obtain ⟨t, b1, b2⟩ := kk _ _ lc (ab_R_set (G := G) ha1 hR hz (hR.2.2.set hD e1 (show (H.setIfInBounds (ab_al G a1) _)[ab_al G a1]? = some _ by simp [Array.getElem?_setIfInBounds, hlt]; rfl) oq)) ⟨by rw [hz]; exact hS.1, fun q z1 z2 => by
      rw [oq q (fun e => z2 (by rw [e]; exact hD.2 _ _ e1))]
      exact hS.2.1 q z1 z2, fun q hq => by
      rcases List.mem_append.mp hq with h | h
      · exact hS.2.2 q h
      · obtain ⟨z, -, hz⟩ := List.mem_map.mp h
        rw [← hz]
        exact hD.2 _ _ e1⟩ hlv (T := (T.setVm vm').setCell (ab_al G a1) (vp_cell (G.2.2.2.1 .int) (n1, .inl (va_cpy f g 0 0 k)))) (by rw [← hT]; rfl) X'
  exact ⟨t, step t b1, b2⟩
end
theorem Y_link : Cond.methodLink "java/util/Arrays" 150 arraycopyName ∈ ab_good := ab_gm 632 (by decide +kernel) rfl
theorem Y_stat : Cond.static arraycopyName ∈ ab_good := ab_gm 633 (by decide +kernel) rfl
theorem Y_nat : Cond.native arraycopyName ∈ ab_good := ab_gm 634 (by decide +kernel) rfl
theorem Y_ini : Cond.initialized "java/lang/System" ∈ ab_good := ab_gm 18 (by decide +kernel) rfl
