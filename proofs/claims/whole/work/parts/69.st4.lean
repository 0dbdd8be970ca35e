section
set_option maxRecDepth 20000 in
theorem mCut_19 (x : zs) (b k c : Nat) (much : Int32) : rF (mCut x b k much) 19 c = if c = k ∧ rF x 17 k - mLess x k much = 0 then nI 0 else rF x 19 c := by
  have e : rF (mC1 x b k) 17 = rF x 17 := qmDOL_F _ _ _ _ _ 17 (by decide)
  have e2 : rF (mC1 x b k) 19 = rF x 19 := qmDOL_F _ _ _ _ _ 19 (by decide)
  unfold mCut
  rw [(mC3_R _ _ _).2.1 19 c (Or.inr rfl), e, e2]
set_option maxRecDepth 20000 in
theorem qH_cut {x : zs} {U b k : Nat} {much : Int32} (h : qH U x) : qH U (mCut x b k much) := fun c hc => by
  rw [mCut_N] at hc
  rw [mCut_19]
  split
  · exact ⟨0, by omega, rfl⟩
  · exact h c hc
set_option maxRecDepth 20000 in
theorem qG_cut {x : zs} {b k : Nat} {much : Int32} (h : qG x) : qG (mCut x b k much) := fun c hc h0 => by
  rw [mCut_N] at hc
  rw [mCut_17] at h0
  rw [mCut_19]
  by_cases e : c = k
  · rw [if_pos e] at h0
    rw [if_pos ⟨e, h0⟩]
  · rw [if_neg e] at h0
    rw [if_neg (fun z => e z.1)]
    exact h c hc h0
set_option maxRecDepth 20000 in
theorem qG_day {x : zs} (hM : qM x) (hv : qV (rF x 17)) (h : qG x) : qG (mDay x).2 := fun c hc h0 => by
  have h4 : rN (mWA x) 4 = rN x 4 := mWA_N _ 0 x 4
  rw [mDay_N] at hc
  obtain ⟨hb, hcm⟩ := hM.2.2.2 c hc
  have e17 : rF (mDay x).2 17 = rF (zfw mBB 0 (rN x 4) (0, mWA x)).2 17 := qmDTL_F _ _ _ 17 (by decide)
  have e19 : rF (mDay x).2 19 = rF (zfw mBB 0 (rN x 4) (0, mWA x)).2 19 := qmDTL_F _ _ _ 19 (by decide)
  obtain ⟨-, r2, -⟩ := mBBs_R (rN x 4) 0 0 (mWA x) (qM_WA hM) (by rw [mWA_V.1]; exact hv) (by rw [h4]; omega)
  have hAw : ∀ k, rA (mWA x) k = rA x k := mWA_A _ 0 x
  have hcm2 : c ∈ ml (mWA x) (rA x 11 c) := by rw [ml_of hAw]; exact hcm
  rw [e17, r2 17 (rA x 11 c) c (Or.inl rfl) (by rw [h4]; exact hb) hcm2] at h0
  rw [e19, r2 19 (rA x 11 c) c (Or.inr (Or.inr rfl)) (by rw [h4]; exact hb) hcm2]
  by_cases q : 0 ≤ rA x 11 c ∧ rA x 11 c < 0 + rN x 4 ∧ c ∈ lostM (mWA x) (rA x 11 c)
  · rw [if_pos q]
  · rw [if_neg q] at h0 ⊢
    rw [mWA_V.1] at h0
    rw [show rF (mWA x) 19 c = _ from (mWA_R (rN x 5) 0 x).1 c, if_pos (by omega), h c hc h0]
    unfold mGain
    rw [if_pos h0, nI_add]
set_option maxRecDepth 20000 in
theorem st_cut (G : zG) (i : Nat) (w : zh) (h : Gd i w) (k q : Int32) : Oki G i mX7_cut mX8_cut [.int k, .int q] w := by
  obtain ⟨pg, nw, kp, sn, ks, fo, ft, fe, gt, mx, re, m, hh, rfl, hJ, hf⟩ := h
  obtain ⟨n4, n5, hO, hM, hH, hq⟩ := J_n hJ
  by_cases q1 : xNo k (rN nw 0) = true
  · exact Ok_mk _ (c_cut0 G pg nw kp sn ks fo ft fe gt mx re m hh k q q1) (cm_cut0 G _ nw kp sn ks fo ft fe gt mx re m hh hM k q (by rw [n4]; exact q1)) (J_s hJ) hf
  · obtain ⟨c, hc, e⟩ := xNo_e q1
    subst e
    have hb : c < rN (mBegin m) 4 := by show c < rN m 4; omega
    have hcl := c_cut1 G pg nw kp sn ks fo ft fe gt mx re m hh hO c hc q
    by_cases q2 : xIn q 1 3 = true
    · obtain ⟨a, b⟩ := xIn_t.mp q2
      obtain ⟨mu, hm1, hm3, e⟩ := xIn_e q2 (by decide) (by decide)
      subst e
      cases ht : mTop (mBegin m) c with
      | none =>
        have q3 : rA nw 10 c = 0 := (qTop_0 hq hb).mp ht
        have ev : xCutV nw c (nI mu) = -103 ∧ xCutB nw c (nI mu) = nw := by
          unfold xCutV xCutB
          rw [if_neg a, if_pos b, if_pos q3, if_neg a, if_pos b, if_pos q3]
          exact ⟨rfl, rfl⟩
        rw [ev.1, ev.2] at hcl
        exact Ok_mk _ hcl (cm_cut2 G _ nw kp sn ks fo ft fe gt mx re m hh hM c (by omega) _ q2 ht) (J_s (J_P hJ (mP_begin m))) hf
      | some t =>
        have q3 : ¬ rA nw 10 c = 0 := (qTop_some hq hb ht).1
        have hg := hJ.2.1.2.2.2.2.2.1
        by_cases q4 : rI m 7 < nI 9000
        · obtain ⟨s1, s2, s3, s4, s5⟩ := qQ_cut hq hb ht hm1 hm3
          have ev : xCutV nw c (nI mu) = mCutG m t (nI mu) ∧ xCutB nw c (nI mu) = bSlice nw c (nI mu) := by
            unfold xCutV xCutB
            rw [if_neg a, if_pos b, if_neg q3, if_pos (by rw [hg]; exact q4), if_neg a, if_pos b, if_neg q3, if_pos (by rw [hg]; exact q4), s2]
            exact ⟨rfl, rfl⟩
          rw [ev.1, ev.2] at hcl
          obtain ⟨-, l2, l3, l4, l5, l6, l7, l8, l9, l10⟩ := hJ.2.1
          have hA : ∀ j, rA (mCutE m c t (nI mu)) j = rA m j := fun j => mCut_A (mBegin m) c t _ j
          have hN : ∀ j, rN (mCutE m c t (nI mu)) j = rN m j := fun j => mCut_N (mBegin m) c t _ j
          have hI : ∀ j, j ≠ 7 → rI (mCutE m c t (nI mu)) j = rI m j := fun j hj => by
            unfold mCutE
            rw [rI_uI, if_neg hj]
            exact mCut_I (mBegin m) c t _ j
          have hF : ∀ j, j ≠ 14 → j ≠ 15 → j ≠ 16 → j < 17 ∨ 19 < j → rF (mCutE m c t (nI mu)) j = rF m j := fun j h1 h2 h3 h4 => by
            show rF (mTake (mCut (mBegin m) c t (nI mu))) j = _
            unfold mTake
            rw [rF_uF, if_neg h3, rF_uF, if_neg h2, rF_uF, if_neg h1, mCut_F' _ _ _ _ _ h4, qmBegin_F m j h4]
          have hsB : ∀ j, rN (bSlice nw c (nI mu)) j = rN nw j := fun j => by
            unfold bSlice
            rw [if_neg q3, rN_uI]
            unfold bSl3
            split
            · exact (bDryBut_N c _ 0 _ j).trans (bSl2_N nw c _ j)
            · exact bSl2_N nw c _ j
          refine Ok_mk _ hcl (cm_cut4 G _ _ kp sn ks fo ft fe gt mx re m hh hM c (by omega) _ q2 t ht q4) (J_s (J_L hJ ⟨qQ_y s1 (fun j _ _ => (hA j).trans (mCut_A (mBegin m) c t _ j).symm) ((hN 4).trans (mCut_N (mBegin m) c t _ 4).symm) ((hN 5).trans (mCut_N (mBegin m) c t _ 5).symm) rfl rfl rfl, ?_, ?_, ?_, ?_, ?_, ?_, ?_, l9, ?_⟩ (hN 1) (hF 0 (by decide) (by decide) (by decide) (by omega)) (hN 9) (hN 20) (hI 28 (by decide)) (fun j _ => hA j) (fun j _ => hN j) (fun j hj => hI j (by omega)) (fun j hj => hF j (by omega) (by omega) (by omega) (by omega)))) hf
          · intro d hd
            rw [hN 6]
            have hd' : d < rN m 5 := by rw [← hN 5]; exact hd
            have hz := qH_cut (b := c) (k := t) (much := nI mu) l2 d (by rw [mCut_N]; exact hd')
            show ∃ u, u ≤ 24 * rN m 6 ∧ rF (mCut (mBegin m) c t (nI mu)) 19 d = nI u
            exact hz
          · intro d hd h0
            have hd' : d < rN m 5 := by rw [← hN 5]; exact hd
            have hz := qG_cut (b := c) (k := t) (much := nI mu) l3 d (by rw [mCut_N]; exact hd') h0
            show rF (mCut (mBegin m) c t (nI mu)) 19 d = nI 0
            exact hz
          · rw [s5, hN 6]; exact l4
          · rw [hN 6]; exact l5
          · rw [s3, l6]
            unfold mCutE
            rw [rI_uI, if_pos rfl]
            show rI m 7 + mCutG m t (nI mu) = rI (mCut (mBegin m) c t (nI mu)) 7 + mCutG m t (nI mu)
            rw [mCut_I]
            rfl
          · rw [s4, l7, hI 8 (by decide)]
          · rw [hsB 1, hsB 0]; exact l8
          · refine ⟨by rw [hN 24]; exact l10.1, fun j hj => ?_⟩
            rw [hF 25 (by decide) (by decide) (by decide) (by omega)]
            exact l10.2 j hj
        · have ev : xCutV nw c (nI mu) = -104 ∧ xCutB nw c (nI mu) = nw := by
            unfold xCutV xCutB
            rw [if_neg a, if_pos b, if_neg q3, if_neg (by rw [hg]; exact q4), if_neg a, if_pos b, if_neg q3, if_neg (by rw [hg]; exact q4)]
            exact ⟨rfl, rfl⟩
          rw [ev.1, ev.2] at hcl
          exact Ok_mk _ hcl (cm_cut3 G _ nw kp sn ks fo ft fe gt mx re m hh hM c (by omega) _ q2 t ht q4) (J_s (J_P hJ (mP_begin m))) hf
    · have ev : xCutV nw c q = -102 ∧ xCutB nw c q = nw := by
        unfold xCutV xCutB
        by_cases a : q < nI 1
        · rw [if_pos a, if_pos a]; exact ⟨rfl, rfl⟩
        · by_cases b : q ≤ nI 3
          · exact absurd (xIn_t.mpr ⟨a, b⟩) q2
          · rw [if_neg a, if_neg b, if_neg a, if_neg b]; exact ⟨rfl, rfl⟩
      rw [ev.1, ev.2] at hcl
      exact Ok_mk _ hcl (cm_cut1 G _ nw kp sn ks fo ft fe gt mx re m hh hM c (by omega) q (xIn_f q2)) (J_s hJ) hf
set_option maxRecDepth 20000 in
theorem bD_01 (s : zs) (h : ∀ k, rN (bDay s).2 k = rN s k) : rN (bD s) 0 = rN s 0 ∧ rN (bD s) 1 = rN s 1 := by
  refine ⟨?_, ?_⟩
  · show rN (uI (uN (bDay s).2 2 _) 4 _) 0 = _
    rw [rN_uI, rN_uN, if_neg (by decide)]; exact h 0
  · show rN (uI (uN (bDay s).2 2 _) 4 _) 1 = _
    rw [rN_uI, rN_uN, if_neg (by decide)]; exact h 1
set_option maxRecDepth 20000 in
theorem st_day (G : zG) (i : Nat) (w : zh) (h : Gd i w) : Oki G i mX7_day mX8_day [] w := by
  obtain ⟨pg, nw, kp, sn, ks, fo, ft, fe, gt, mx, re, m, hh, rfl, hJ, hf⟩ := h
  obtain ⟨n4, n5, hO, hM, hH, hq⟩ := J_n hJ
  have h0 := J_0 hJ
  obtain ⟨-, l2, l3, l4, l5, l6, l7, l8, l9, l10⟩ := hJ.2.1
  have hcl := c_day G pg nw kp sn ks fo ft fe gt mx re m hh hO (by omega)
  by_cases q1 : rN m 4 = 0
  · have ev : xDayV nw = -103 ∧ xDayB nw = nw := by
      unfold xDayV xDayB
      rw [if_pos (h0.mp q1), if_pos (h0.mp q1)]
      exact ⟨rfl, rfl⟩
    rw [ev.1, ev.2] at hcl
    exact Ok_mk _ hcl (cm_day0 G _ nw kp sn ks fo ft fe gt mx re m hh hM q1) (J_s hJ) hf
  · have q1' : ¬ rN nw 1 = 0 := fun z => q1 (h0.mpr z)
    by_cases q2 : rN m 6 = 999
    · have ev : xDayV nw = -104 ∧ xDayB nw = nw := by
        unfold xDayV xDayB
        rw [if_neg q1', if_neg (by omega), if_neg q1', if_neg (by omega)]
        exact ⟨rfl, rfl⟩
      rw [ev.1, ev.2] at hcl
      exact Ok_mk _ hcl (cm_day1 G _ nw kp sn ks fo ft fe gt mx re m hh hM q1 q2) (J_s hJ) hf
    · obtain ⟨d1, d2, d3, d4, d5⟩ := qQ_day hq
      have ev : xDayV nw = nI (mDay (mBegin m)).1 ∧ xDayB nw = bD nw := by
        unfold xDayV xDayB
        rw [if_neg q1', if_pos (by omega), if_neg q1', if_pos (by omega), d2]
        exact ⟨rfl, rfl⟩
      rw [ev.1, ev.2] at hcl
      have hA : ∀ j, rA (mDayE m) j = rA m j := fun j => mDay_A (mBegin m) j
      have hN : ∀ j, j ≠ 6 → rN (mDayE m) j = rN m j := fun j hj => by
        unfold mDayE
        rw [rN_uI, rN_uN, if_neg hj]
        exact mDay_N (mBegin m) j
      have hN6 : rN (mDayE m) 6 = rN m 6 + 1 := by
        unfold mDayE
        rw [rN_uI, rN_uN, if_pos rfl]
        exact congrArg (· + 1) (mDay_N (mBegin m) 6)
      have hI : ∀ j, j ≠ 8 → rI (mDayE m) j = rI m j := fun j hj => by
        unfold mDayE
        rw [rI_uI, if_neg hj]
        exact mDay_I (mBegin m) j
      have hF : ∀ j, j ≠ 14 → j ≠ 15 → j ≠ 16 → j < 17 ∨ 19 < j → rF (mDayE m) j = rF m j := fun j h1 h2 h3 h4 => by
        show rF (mTake (mDay (mBegin m)).2) j = _
        unfold mTake
        rw [rF_uF, if_neg h3, rF_uF, if_neg h2, rF_uF, if_neg h1, mDay_F' _ _ h4, qmBegin_F m j h4]
      have s4 := d1.2.2.1.1
      have s5 := d1.2.2.1.2.1
      rw [mDay_N] at s4 s5
      refine Ok_mk _ hcl (cm_day2 G _ _ kp sn ks fo ft fe gt mx re m hh hM hH q1 (by omega)) (J_s (J_L hJ ⟨qQ_y d1 (fun j _ _ => (hA j).trans (mDay_A (mBegin m) j).symm) ((hN 4 (by decide)).trans (mDay_N (mBegin m) 4).symm) ((hN 5 (by decide)).trans (mDay_N (mBegin m) 5).symm) rfl rfl rfl, ?_, ?_, ?_, ?_, ?_, ?_, ?_, l9, ?_⟩ (hN 1 (by decide)) (hF 0 (by decide) (by decide) (by decide) (by omega)) (hN 9 (by decide)) (hN 20 (by decide)) (hI 28 (by decide)) (fun j _ => hA j) (fun j hj => hN j (by omega)) (fun j hj => hI j (by omega)) (fun j hj => hF j (by omega) (by omega) (by omega) (by omega)))) hf
      · intro d hd
        have hd' : d < rN m 5 := by rw [← hN 5 (by decide)]; exact hd
        rw [hN6, show 24 * (rN m 6 + 1) = 24 * rN m 6 + 24 by omega]
        exact qH_day hq.2.1 hq.2.2.2.1 hq.2.2.2.2.1 l2 d (by rw [mDay_N]; exact hd')
      · intro d hd z
        have hd' : d < rN m 5 := by rw [← hN 5 (by decide)]; exact hd
        exact qG_day hq.2.1 hq.2.2.2.1 l3 d (by rw [mDay_N]; exact hd') z
      · rw [d5, hN6, l4]
      · rw [hN6]; omega
      · rw [d4, hI 7 (by decide)]; exact l6
      · rw [d3, l7]
        unfold mDayE
        rw [rI_uI, if_pos rfl]
        show rI m 8 + _ = rI (mDay (mBegin m)).2 8 + _
        rw [mDay_I]
        rfl
      · have e0 : rN (bD nw) 0 = rN nw 0 := by rw [← s4]; exact n4
        have e1 : rN (bD nw) 1 = rN nw 1 := by rw [← s5]; exact n5
        rw [e0, e1]; exact l8
      · refine ⟨by rw [hN 24 (by decide)]; exact l10.1, fun j hj => ?_⟩
        rw [hF 25 (by decide) (by decide) (by decide) (by omega)]
        exact l10.2 j hj
set_option maxRecDepth 20000 in
theorem mImg_N (m : zs) (k : Nat) : rN (mImg m) k = if k = 32 then rN m 24 else if k = 29 then rN m 6 else rN m k := by
  unfold mImg
  rw [rN_uI, rN_uN, rN_uI, rN_uI, rN_uN, rN_uF, rN_uF, rN_uF, rN_uF, rN_uA]
set_option maxRecDepth 20000 in
theorem mImg_I (m : zs) (k : Nat) : rI (mImg m) k = if k = 28 then nI (rN m 9) else if k = 31 then rI m 8 else if k = 30 then rI m 7 else rI m k := by
  unfold mImg
  rw [rI_uI, rI_uN, rI_uI, rI_uI, rI_uN, rI_uF, rI_uF, rI_uF, rI_uF, rI_uA]
set_option maxRecDepth 20000 in
theorem mImg_A (m : zs) (k : Nat) : rA (mImg m) k = if k = 33 then rA m 13 else rA m k := by
  unfold mImg
  rw [rA_uI, rA_uN, rA_uI, rA_uI, rA_uN, rA_uF, rA_uF, rA_uF, rA_uF, rA_uA]
set_option maxRecDepth 20000 in
theorem mImg_F (m : zs) (k : Nat) : rF (mImg m) k = if k = 37 then rF m 25 else if k = 36 then rF m 16 else if k = 35 then rF m 15 else if k = 34 then rF m 14 else rF m k := by
  unfold mImg
  rw [rF_uI, rF_uN, rF_uI, rF_uI, rF_uN, rF_uF, rF_uF, rF_uF, rF_uF, rF_uA]
set_option maxRecDepth 20000 in
theorem st_image (G : zG) (i : Nat) (w : zh) (h : Gd i w) : Oki G i mX7_image mX8_image [] w := by
  obtain ⟨pg, nw, kp, sn, ks, fo, ft, fe, gt, mx, re, m, hh, rfl, hJ, hf⟩ := h
  obtain ⟨n4, n5, hO, hM, hH, hq⟩ := J_n hJ
  have h0 := J_0 hJ
  by_cases q1 : rN m 4 = 0
  · exact Ok_mk _ (c_image0 G pg nw kp sn ks fo ft fe gt mx re m hh hO (h0.mp q1)) (cm_image0 G _ nw kp sn ks fo ft fe gt mx re m hh hM q1) (J_s hJ) hf
  · have q1' : ¬ rN nw 1 = 0 := fun z => q1 (h0.mpr z)
    have hcl := c_image G pg nw kp sn ks fo ft fe gt mx re m hh hO q1'
    rw [hJ.2.1.2.2.2.1] at hcl
    refine Ok_mk _ hcl (cm_image1 G _ nw _ sn _ fo ft fe gt _ re m hh hM q1) (J_s ?_) hf
    obtain ⟨⟨p1, p2, p3⟩, b, ⟨c1, c2⟩, ⟨d1, d2⟩, e, f⟩ := hJ
    have i28 : rI (mImg m) 28 = nI (rN m 9) := by rw [mImg_I, if_pos rfl]
    have n9 : rN (mImg m) 9 = rN m 9 := rfl
    refine ⟨⟨p1, p2, p3⟩, ?_, ⟨c1, c2⟩, ⟨d1, d2⟩, Or.inr ⟨rN m 9, Nat.le_refl _, i28⟩, Or.inr ⟨rfl, by rw [i28, n9], ?_⟩⟩
    · exact qLv_of b (fun k h1 h2 => by rw [mImg_A, if_neg (by omega)]) (fun k hk => by rw [mImg_N, if_neg (by omega), if_neg (by omega)]) (fun k hk => by rw [mImg_I, if_neg (by omega), if_neg (by omega), if_neg (by omega)]) (fun k hk => by rw [mImg_F, if_neg (by omega), if_neg (by omega), if_neg (by omega), if_neg (by omega)])
    · refine qLv_of b (fun k h1 h2 => ?_) (fun k hk => ?_) (fun k hk => ?_) (fun k hk => ?_)
      · rw [mRes_A]
        by_cases z : k = 13
        · rw [if_pos z, z]; rfl
        · rw [if_neg z, mImg_A, if_neg (by omega)]
      · rcases hk with z | z | z | z <;> subst z <;> rfl
      · rcases hk with z | z <;> subst z <;> rfl
      · rcases hk with z | z | z | z <;> subst z <;> rfl
set_option maxRecDepth 20000 in
theorem st_restore (G : zG) (i : Nat) (w : zh) (h : Gd i w) : Oki G i mX7_restore mX8_restore [] w := by
  obtain ⟨pg, nw, kp, sn, ks, fo, ft, fe, gt, mx, re, m, hh, rfl, hJ, hf⟩ := h
  have hJ0 := hJ
  obtain ⟨⟨p1, p2, p3⟩, b, ⟨c1, c2⟩, ⟨d1, d2⟩, e, f⟩ := hJ
  rcases f with ⟨f1, f2⟩ | ⟨f1, f2, f3⟩
  · exact Ok_mk _ (c_restore0 G pg nw kp sn ks fo ft fe gt mx re m hh (by omega) f1) (cm_restore0 G _ nw kp sn ks fo ft fe gt mx re m hh f2) (J_s hJ0) hf
  · have hcl := c_restore G pg nw kp sn ks fo ft fe gt mx re m hh (by omega) (by omega)
    have e6 : rN kp 2 = rN m 29 := f3.2.2.2.1
    rw [e6] at hcl
    refine Ok_mk _ hcl (cm_restore1 G _ _ kp _ ks fo ft fe gt mx re m hh f2) (J_s ?_) hf
    refine ⟨⟨p1, p2, p3⟩, f3, ⟨c1, c2⟩, ⟨d1, d2⟩, e, Or.inr ⟨f1, f2, ?_⟩⟩
    exact qLv_R f3 (fun k hk => by rw [mRes_A, if_neg (by omega)]) (fun k hk => by rw [mRes_N, if_neg (by omega), if_neg (by omega)]) (fun k hk => by rw [mRes_I, if_neg (by omega), if_neg (by omega)]) (fun k hk => by rw [mRes_F, if_neg (by omega), if_neg (by omega), if_neg (by omega), if_neg (by omega)])
end
