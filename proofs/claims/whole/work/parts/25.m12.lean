/-! ===== stops ===== -/
theorem spF_dig {tw : Nat → Nat} {c : Nat} (hc : c < 160000) (ht : ∀ r, tw r < 5) : ∀ k, k ≤ 4 → spF tw c k < 160000 ∧ spF tw c k / 625 = c / 625 ∧ ∀ t, t < 4 → mWa (spF tw c k) t = if t < k then tw t else mWa c t
  | 0, _ => ⟨hc, rfl, fun t _ => by rw [if_neg (Nat.not_lt_zero t)]; rfl⟩
  | k + 1, hk => by
    obtain ⟨h1, h2, h3⟩ := spF_dig hc ht k (by omega)
    obtain ⟨g1, g2, g3⟩ := mWi_ok h1 (show k < 4 by omega) (ht k)
    refine ⟨g1, g2.trans h2, fun t htt => ?_⟩
    show mWa (mWi (spF tw c k) k (tw k)) t = _
    rw [g3 t htt]
    by_cases e : t = k
    · rw [if_pos e, if_pos (by omega), e]
    · rw [if_neg e, h3 t htt]
      by_cases e2 : t < k
      · rw [if_pos e2, if_pos (by omega)]
      · rw [if_neg e2, if_neg (by omega)]
theorem mSw_Ok {n c q : Nat} (hn : n ≤ 4) (h : mOk n c) (hq : q < n ∨ q = 0) : mOk n (mSw n c q) ∧ ∀ t, mWa (mSw n c q) t = mWa c t := by
  have hs := mSw_ok hn h.1 h.2.1 hq
  have hw : ∀ t, mWa (mSw n c q) t = mWa c t := fun t => by unfold mWa; rw [hs.2.2.1]
  refine ⟨?_, hw⟩
  by_cases h0 : q = 0
  · rw [h0]; exact h
  · have hqn : q < n := hq.resolve_right h0
    have ha := h.2.1 (q - 1) (by omega)
    have hb := h.2.1 q hqn
    have ea := mSit_se ha
    have eb := mSit_se hb
    have hd := hs.2.2.2 h0
    refine ⟨hs.1, fun s hsn => ?_, fun r hr hnr => ?_, fun r hr => ?_⟩
    · have key : ∃ r, r < n ∧ mSe (mSw n c q) r = s := by
        by_cases e1 : s = q
        · exact ⟨_, ha, by rw [hd _ (by omega), if_pos rfl, e1]⟩
        · by_cases e2 : s = q - 1
          · refine ⟨_, hb, ?_⟩
            rw [hd _ (by omega), if_neg (fun e => by rw [e, ea] at eb; omega), if_pos rfl, e2]
          · have hr := h.2.1 s hsn
            have er := mSit_se hr
            refine ⟨_, hr, ?_⟩
            rw [hd _ (by omega), if_neg (fun e => by rw [e, ea] at er; omega), if_neg (fun e => by rw [e, eb] at er; omega), er]
      obtain ⟨r, h1, h2⟩ := key
      exact sFirst_lt h1 (by show (mSe (mSw n c q) r == s) = true; rw [h2]; exact beq_self_eq_true s)
    · rw [hd r hr, if_neg (by omega), if_neg (by omega), hw]
      exact h.2.2.1 r hr hnr
    · rw [hd r (by omega)]
      split
      · exact hqn
      · split
        · omega
        · exact h.2.2.2 r hr
theorem mOk_se {n c c' : Nat} (h : mOk n c) (hc : c' < 160000) (hd : c' / 625 = c / 625) (hz : ∀ r, r < 4 → n ≤ r → mWa c' r = 0) : mOk n c' := by
  have e : ∀ r, mSe c' r = mSe c r := fun r => by unfold mSe; rw [hd]
  refine ⟨hc, fun s hs => ?_, fun r hr hn => ⟨by rw [e]; exact (h.2.2.1 r hr hn).1, hz r hr hn⟩, fun r hr => by rw [e]; exact h.2.2.2 r hr⟩
  have := h.2.1 s hs
  have e2 := mSit_se this
  exact sFirst_lt this (by show (mSe c' _ == s) = true; rw [e, e2]; exact beq_self_eq_true s)
theorem spS_Ok {n : Nat} {wl : Option (Nat × (Nat → Int32))} {sea cls : Nat → Int32} {mo : Int32} {c q : Nat} (hn : n ≤ 4) (h : mOk n c) (hq : q < n ∨ q = 0) : mOk n (spS n wl sea cls mo c q) ∧ (∀ t, mSe (spS n wl sea cls mo c q) t = mSe (mSw n c q) t) ∧ ∀ t, t < n → mWa (spS n wl sea cls mo c q) t = spT wl sea cls n mo (mSw n c q) t := by
  obtain ⟨h1, h2⟩ := mSw_Ok hn h hq
  obtain ⟨g1, g2, g3⟩ := spF_dig (tw := fun r => spT wl sea cls n mo (mSw n c q) r) h1.1 (fun r => spT_lt _ _ _ _ _ _ _) n hn
  refine ⟨mOk_se h1 g1 g2 (fun r hr hnr => ?_), fun t => by unfold mSe spS; rw [g2], fun t ht => ?_⟩
  · show mWa (spF _ _ n) r = 0
    rw [g3 r hr, if_neg (by omega)]
    exact (h1.2.2.1 r hr hnr).2
  · show mWa (spF _ _ n) t = _
    rw [g3 t (by omega), if_pos ht]
def tb_m_goesStop : List (Nat × Instr × Nat) := [(0, .aload_n 0, 1), (1, .aload_n 0, 1), (2, .aload_n 0, 1), (3, .invokevirtual 266, 3), (6, .iload_n 1, 1), (7, .aload_n 0, 1), (8, .getfield 13, 3), (11, .bipush 40, 2), (13, .iaload, 1), (14, .invokevirtual 273, 3), (17, .invokevirtual 276, 3), (20, .aload_n 0, 1), (21, .getfield 13, 3), (24, .bipush 41, 2), (26, .dup2, 1), (27, .iaload, 1), (28, .iconst 1, 1), (29, .iadd, 1), (30, .iastore, 1), (31, .return_, 1)]
theorem tk_m_goesStop : ∀ q ∈ tb_m_goesStop, decode M_m_goesStop.2.1 q.1 = .ok q.2 := by decide +kernel
theorem c_m_goesStop {G : ab_G} {S : ab_S} (hm : mSh S) (hv : mV S) (hl : mLw S) (hp : mPe S) (q : Nat) (hq : q < mR S ∨ q = 0) : ab_C G 5 M_m_goesStop [.ref 120, .int (nI q)] (sw S) (fun v w' => v = none ∧ ∃ S', w' = sw S' ∧ sEq [121, 125, 126] S S' ∧ mA S' = up1 (mPut (mA S) (mR S) (spS (mR S) (mWl S) (mSea S) (mCls S) (mA S 40) (mEn S (mR S)) q)) 41 (mA S 41 + 1)) := by
  refine x_enter [some (.ref 120), some (.int (nI q))] (by decide) (Nat.le_of_ble_eq_true rfl) rfl (fun v w' h => by obtain ⟨rfl, -⟩ := h; trivial) ?_
  have hok := mEn_ok hv hp
  have hR4 := hv.1.2
  have hsk := spS_Ok (wl := mWl S) (sea := mSea S) (cls := mCls S) (mo := mA S 40) hR4 hok hq
  refine x_aload_n 1 0 (ab_dd tk_m_goesStop 0 rfl) rfl rfl rfl ?_
  refine x_aload_n 2 0 (ab_dd tk_m_goesStop 1 rfl) rfl rfl rfl ?_
  refine x_aload_n 3 0 (ab_dd tk_m_goesStop 2 rfl) rfl rfl rfl ?_
  refine t_callV 6 M_m_standNow 1 0 [] (ab_dd tk_m_goesStop 3 rfl) rfl (by decide) K_m_standNow V_m_standNow.1 V_m_standNow.2 L_m_266 rfl (Nat.le_of_ble_eq_true rfl) (by decide) (Nat.lt_of_lt_of_le (by decide) hm.1) (hm.2.1 0 (by decide)) rfl (c_m_standNow hm hv) (fun v1 w1 h1 => ?_)
  obtain ⟨rfl, rfl⟩ := h1
  refine x_iload_n 7 1 (ab_dd tk_m_goesStop 4 rfl) rfl rfl rfl ?_
  refine x_aload_n 8 0 (ab_dd tk_m_goesStop 5 rfl) rfl rfl rfl ?_
  refine t_getP 11 121 (ab_dd tk_m_goesStop 6 rfl) rfl F_m_13 (by decide) (Nat.lt_of_lt_of_le (by decide) hm.1) (hm.2.1 0 (by decide)) rfl (hm.2.2 1 (by decide)) ?_
  refine x_bipush 13 40 (ab_dd tk_m_goesStop 7 rfl) rfl (by decide) ?_
  refine t_iald 14 40 (ab_dd tk_m_goesStop 8 rfl) rfl (by decide) (Nat.lt_of_lt_of_le (by decide) hm.1) (hm.2.1 1 (by decide)) (by decide) (by decide) (by decide) ?_
  refine t_callV 17 M_m_stopTo 4 3 [_, _, _] (ab_dd tk_m_goesStop 9 rfl) rfl (by decide) K_m_stopTo V_m_stopTo.1 V_m_stopTo.2 L_m_273 rfl (Nat.le_of_ble_eq_true rfl) (by decide) (Nat.lt_of_lt_of_le (by decide) hm.1) (hm.2.1 0 (by decide)) rfl (c_m_stopTo hm hv hl (mEn S (mR S)) q (mA S 40) hok.1 hok.2.1 hq) (fun v1 w1 h1 => ?_)
  obtain ⟨S1, rfl, hE1, rfl⟩ := h1
  have hm1 := hm.eq hE1
  have hv1 := hv.eq hE1 (by decide)
  refine t_callV 20 M_m_isStand 2 1 [_] (ab_dd tk_m_goesStop 10 rfl) rfl (by decide) K_m_isStand V_m_isStand.1 V_m_isStand.2 L_m_276 rfl (Nat.le_of_ble_eq_true rfl) (by decide) (Nat.lt_of_lt_of_le (by decide) hm1.1) (hm1.2.1 0 (by decide)) rfl (c_m_isStand hm1 hv1.1 (spS (mR S) (mWl S) (mSea S) (mCls S) (mA S 40) (mEn S (mR S)) q) hsk.1.1) (fun v1 w1 h1 => ?_)
  obtain ⟨rfl, S2, rfl, hE2, hV2⟩ := h1
  have hm2 := hm1.eq hE2
  refine x_aload_n 21 0 (ab_dd tk_m_goesStop 11 rfl) rfl rfl rfl ?_
  refine t_getP 24 121 (ab_dd tk_m_goesStop 12 rfl) rfl F_m_13 (by decide) (Nat.lt_of_lt_of_le (by decide) hm2.1) (hm2.2.1 0 (by decide)) rfl (hm2.2.2 1 (by decide)) ?_
  refine x_bipush 26 41 (ab_dd tk_m_goesStop 13 rfl) rfl (by decide) ?_
  refine x_dup2 27 (ab_dd tk_m_goesStop 14 rfl) rfl rfl rfl ?_
  refine t_iald 28 41 (ab_dd tk_m_goesStop 15 rfl) rfl (by decide) (Nat.lt_of_lt_of_le (by decide) hm2.1) (hm2.2.1 1 (by decide)) (by decide) (by decide) (by decide) ?_
  refine x_iconst 29 1 (ab_dd tk_m_goesStop 16 rfl) rfl (by decide) ?_
  refine x_iadd 30 (ab_dd tk_m_goesStop 17 rfl) rfl ?_
  refine t_iast 31 41 (ab_dd tk_m_goesStop 18 rfl) rfl (by decide) (Nat.lt_of_lt_of_le (by decide) hm2.1) (hm2.2.1 1 (by decide)) (by decide) (by decide) (by decide) ?_
  exact x_vret (ab_dd tk_m_goesStop 19 rfl) ⟨rfl, _, rfl, ((hE1.mono (by decide)).tr (hE2.mono (by decide))).pI (by decide), by
    have e1 : mR S1 = mR S := (mMl_eq hE1 (by decide)).2.2.2.2.2
    have hV3 : sI S2 121 = mPut (mA S) (mR S) (spS (mR S) (mWl S) (mSea S) (mCls S) (mA S 40) (mEn S (mR S)) q) := by
      refine hV2.trans ?_
      rw [hv1.2, e1]
    funext i
    show up2 (sI S2) 121 41 _ 121 i = _
    by_cases h : i = 41
    · subst h
      rw [up2_s, up1_s, hV3]
      congr 1
      unfold mPut
      rw [if_neg (by omega), if_neg (by omega)]
    · rw [up2_k h, up1_o h, hV3]⟩
theorem c_m_whyStopN {G : ab_G} {S : ab_S} (hm : mSh S) (hv : mV S) (c : Int32) (d : Int64) (mo : Int32) (hd : d < 0) : ab_C G 4 M_m_whyStop [.ref 120, .int c, .long d, .int mo] (sw S) (fun v w' => v = some (.int 1) ∧ w' = sw S) := by
  refine x_enter [some (.ref 120), some (.int c), some (.long d), none, some (.int mo), none] (by decide) (Nat.le_of_ble_eq_true rfl) rfl (fun v w' h => by obtain ⟨rfl, rfl⟩ := h; rfl) ?_
  refine x_lload_n 1 2 (ab_dd tk_m_whyStop 0 rfl) rfl rfl rfl ?_
  refine x_lconst 2 0 (ab_dd tk_m_whyStop 1 rfl) rfl (by decide) ?_
  refine x_lcmp 3 (ab_dd tk_m_whyStop 2 rfl) rfl ?_
  refine x_if_ne_t 8 (ab_dd tk_m_whyStop 3 rfl) (by decide) (fun e => by rw [lg_cmp_eq] at e; rw [e] at hd; exact absurd hd (by decide)) ?_
  refine x_lload_n 9 2 (ab_dd tk_m_whyStop 6 rfl) rfl rfl rfl ?_
  refine x_lconst 10 1 (ab_dd tk_m_whyStop 7 rfl) rfl (by decide) ?_
  refine x_aload_n 11 0 (ab_dd tk_m_whyStop 8 rfl) rfl rfl rfl ?_
  refine t_getP 14 121 (ab_dd tk_m_whyStop 9 rfl) rfl F_m_13 (by decide) (Nat.lt_of_lt_of_le (by decide) hm.1) (hm.2.1 0 (by decide)) rfl (hm.2.2 1 (by decide)) ?_
  refine x_iconst 15 1 (ab_dd tk_m_whyStop 10 rfl) rfl (by decide) ?_
  refine t_iald 16 1 (ab_dd tk_m_whyStop 11 rfl) rfl (by decide) (Nat.lt_of_lt_of_le (by decide) hm.1) (hm.2.1 1 (by decide)) (by decide) (by decide) (by decide) ?_
  refine x_iconst 17 1 (ab_dd tk_m_whyStop 12 rfl) rfl (by decide) ?_
  refine x_isub 18 (ab_dd tk_m_whyStop 13 rfl) rfl ?_
  refine x_i2l 19 (ab_dd tk_m_whyStop 14 rfl) rfl ?_
  refine x_callS 22 M_m_within 0 3 [_, _, _] (ab_dd tk_m_whyStop 15 rfl) rfl (by decide) K_m_within T_m_within L_m_159 rfl (Nat.le_of_ble_eq_true rfl) (w_within _ _ _) (fun v1 w1 h1 => ?_)
  obtain ⟨rfl, rfl⟩ := h1
  refine x_if_ne_f 25 (ab_dd tk_m_whyStop 16 rfl) rfl 27 (by decide) (if_neg (fun z => Int64.lt_irrefl (Int64.lt_of_lt_of_le (show (0 : Int64) < 1 by decide) (Int64.le_trans z.1 (Int64.le_of_lt hd))))) ?_
  refine x_iconst 26 1 (ab_dd tk_m_whyStop 17 rfl) rfl (by decide) ?_
  exact x_iret (ab_dd tk_m_whyStop 18 rfl) ⟨rfl, rfl⟩
