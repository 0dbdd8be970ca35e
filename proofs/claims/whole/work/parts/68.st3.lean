section
set_option maxRecDepth 20000 in
theorem J_0 {i : Nat} {pg nw kp sn ks mx m : zs} (h : J i pg nw kp sn ks mx m) : rN m 4 = 0 ↔ rN nw 1 = 0 := by
  have h1 := h.2.1.2.2.2.2.2.2.2.1
  rw [h1, (J_n h).1]
set_option maxRecDepth 20000 in
theorem st_lasts (G : zG) (i : Nat) (w : zh) (h : Gd i w) (k : Int32) : Oki G i mX7_lasts mX8_lasts [.int k] w := by
  obtain ⟨pg, nw, kp, sn, ks, fo, ft, fe, gt, mx, re, m, hh, rfl, hJ, hf⟩ := h
  obtain ⟨n4, n5, hO, hM, hH, hq⟩ := J_n hJ
  have h0 := J_0 hJ
  have hc := c_lastsX G pg nw kp sn ks fo ft fe gt mx re m hh hO k
  by_cases q1 : xIn k 1 6 = true
  · obtain ⟨a, b⟩ := xIn_t.mp q1
    by_cases q2 : rN m 4 = 0
    · have ev : xLastV nw k = -103 ∧ xLastT nw ft k = ft := by
        unfold xLastV xLastT
        rw [if_neg a, if_pos b, if_pos (h0.mp q2), if_neg a, if_pos b, if_pos (h0.mp q2)]
        exact ⟨rfl, rfl⟩
      rw [ev.1, ev.2] at hc
      exact Ok_mk _ hc (cm_lasts1 G _ nw kp sn ks fo ft fe gt mx re m hh hM k q1 q2) (J_s hJ) hf
    · have q2' : ¬ rN nw 1 = 0 := fun z => q2 (h0.mpr z)
      obtain ⟨r, r1, r2, r3⟩ := qLasts (much := k) 100 0 nw (mBegin m) hq
      have ev : xLastV nw k = nI r.1 := by
        unfold xLastV
        rw [if_neg a, if_pos b, if_neg q2', r2]
      rw [ev] at hc
      exact Ok_mk _ hc (cm_lasts2 G _ nw kp sn ks fo _ fe gt mx re m hh hM hH k q1 q2 r r1) (J_s (J_P hJ (mP_trans r3 (mP_begin m)))) hf
  · have ev : xLastV nw k = -102 ∧ xLastT nw ft k = ft := by
      unfold xLastV xLastT
      by_cases a : k < nI 1
      · rw [if_pos a, if_pos a]; exact ⟨rfl, rfl⟩
      · by_cases b : k ≤ nI 6
        · exact absurd (xIn_t.mpr ⟨a, b⟩) q1
        · rw [if_neg a, if_neg b, if_neg a, if_neg b]; exact ⟨rfl, rfl⟩
    rw [ev.1, ev.2] at hc
    exact Ok_mk _ hc (cm_lasts0 G _ nw kp sn ks fo ft fe gt mx re m hh k (xIn_f q1)) (J_s hJ) hf
set_option maxRecDepth 20000 in
theorem st_burnt (G : zG) (i : Nat) (w : zh) (h : Gd i w) (k : Int32) : Oki G i mX7_burnt mX8_burnt [.int k] w := by
  obtain ⟨pg, nw, kp, sn, ks, fo, ft, fe, gt, mx, re, m, hh, rfl, hJ, hf⟩ := h
  obtain ⟨n4, n5, hO, hM, hH, hq⟩ := J_n hJ
  have h0 := J_0 hJ
  have hc := c_burntX G pg nw kp sn ks fo ft fe gt mx re m hh hO k
  by_cases q1 : xIn k 0 20 = true
  · obtain ⟨a, b⟩ := xIn_t.mp q1
    rw [nI_0] at a
    by_cases q2 : rN m 4 = 0
    · have ev : xBurnV nw k = -103 ∧ xBurnT nw ft k = ft := by
        unfold xBurnV xBurnT
        rw [if_neg a, if_pos b, if_pos (h0.mp q2), if_neg a, if_pos b, if_pos (h0.mp q2)]
        exact ⟨rfl, rfl⟩
      rw [ev.1, ev.2] at hc
      exact Ok_mk _ hc (cm_burnt1 G _ nw kp sn ks fo ft fe gt mx re m hh hM k q1 q2) (J_s hJ) hf
    · have q2' : ¬ rN nw 1 = 0 := fun z => q2 (h0.mpr z)
      obtain ⟨j, -, hj, e⟩ := xIn_e q1 (by decide) (by decide)
      subst e
      have ev : xBurnV nw (nI j) = nI (mBits (mDs j (mBegin m))) := by
        unfold xBurnV
        rw [if_neg a, if_pos b, if_neg q2', nI_clamp (by omega), qBits hq j]
      rw [ev] at hc
      exact Ok_mk _ hc (cm_burnt2 G _ nw kp sn ks fo _ fe gt mx re m hh hM hH j hj q1 q2) (J_s (J_P hJ (mP_trans (qDays j 0 nw (mBegin m) hq).2 (mP_begin m)))) hf
  · have ev : xBurnV nw k = -102 ∧ xBurnT nw ft k = ft := by
      unfold xBurnV xBurnT
      by_cases a : k < 0
      · rw [if_pos a, if_pos a]; exact ⟨rfl, rfl⟩
      · by_cases b : k ≤ nI 20
        · exact absurd (xIn_t.mpr ⟨by rw [nI_0]; exact a, b⟩) q1
        · rw [if_neg a, if_neg b, if_neg a, if_neg b]; exact ⟨rfl, rfl⟩
    rw [ev.1, ev.2] at hc
    exact Ok_mk _ hc (cm_burnt0 G _ nw kp sn ks fo ft fe gt mx re m hh k (xIn_f q1)) (J_s hJ) hf
set_option maxRecDepth 20000 in
theorem st_winters (G : zG) (i : Nat) (w : zh) (h : Gd i w) (d k q : Int32) : Oki G i mX7_winters mX8_winters [.int d, .int k, .int q] w := by
  obtain ⟨pg, nw, kp, sn, ks, fo, ft, fe, gt, mx, re, m, hh, rfl, hJ, hf⟩ := h
  obtain ⟨n4, n5, hO, hM, hH, hq⟩ := J_n hJ
  have h0 := J_0 hJ
  by_cases q1 : xWinOk d k q = true
  · by_cases q2 : rN m 4 = 0
    · exact Ok_mk _ (c_win1 G pg nw kp sn ks fo ft fe gt mx re m hh hO d k q q1 (h0.mp q2)) (cm_win1 G _ nw kp sn ks fo ft fe gt mx re m hh hM d k q q1 q2) (J_s hJ) hf
    · have q2' : ¬ rN nw 1 = 0 := fun z => q2 (h0.mpr z)
      have q3 := of_decide_eq_true q1
      obtain ⟨a1, a2, a3, a4, a5⟩ := q3
      obtain ⟨d, hd1, hd2, e1⟩ := xIn_e (xIn_t.mpr ⟨a1, a2⟩) (by decide) (by decide)
      obtain ⟨k, hk, e2⟩ := nI_of a3
      obtain ⟨q, -, hq2, e3⟩ := xIn_e (a := 0) (xIn_t.mpr ⟨by rw [nI_0]; exact a4, a5⟩) (by decide) (by decide)
      subst e1 e2 e3
      have hcl := c_win2 G pg nw kp sn ks fo ft fe gt mx re m hh hO q2' (by omega) d k q hd1 hd2 (by omega) hq2
      have hx : qQ nw (mBegin (uI m 27 (nI k))) := qQ_y hq (fun _ _ _ => rfl) rfl rfl rfl rfl rfl
      obtain ⟨r1, r2, r3, r4⟩ := qWin (rI nw 3) (rI nw 4) d k (nI 0) (nI 0) nw (mBegin (uI m 27 (nI k))) hx (by show 0 < rN m 4; omega) (by rw [i32_add0]) (by rw [i32_add0])
      have ev : fWinV nw q (fWin d (k, nw)) = mWinV q (mWin d k (nI 0) (nI 0) (mBegin (uI m 27 (nI k)))) := by
        unfold fWinV mWinV
        rw [r1, r2, r3, i32_sl, i32_sl]
      rw [ev] at hcl
      refine Ok_mk _ hcl (cm_win2 G _ nw kp sn ks fo _ fe gt mx re m hh hM hH q2 d k q hd1 hd2 (by omega) hq2) (J_s (J_P hJ (mP_trans r4 (mP_trans (mP_begin _) ?_)))) hf
      exact ⟨fun _ => rfl, fun _ _ _ => rfl, fun j hj => by rw [rI_uI, if_neg hj], fun _ _ => rfl⟩
  · rw [Bool.not_eq_true] at q1
    exact Ok_mk _ (c_win0 G pg nw kp sn ks fo ft fe gt mx re m hh d k q q1) (cm_win0 G _ nw kp sn ks fo ft fe gt mx re m hh d k q q1) (J_s hJ) hf
set_option maxRecDepth 20000 in
theorem st_share (G : zG) (i : Nat) (w : zh) (h : Gd i w) (k : Int32) : Oki G i mX7_share mX8_share [.int k] w := by
  obtain ⟨pg, nw, kp, sn, ks, fo, ft, fe, gt, mx, re, m, hh, rfl, hJ, hf⟩ := h
  obtain ⟨n4, n5, hO, hM, hH, hq⟩ := J_n hJ
  have h0 := J_0 hJ
  obtain ⟨s1, s2⟩ := hJ.2.2.2.1
  by_cases q1 : xIn k 2 3 = true
  · obtain ⟨a, b⟩ := xIn_t.mp q1
    by_cases q2 : rN m 4 = 0 ∨ rN m 20 = 12
    · refine Ok_mk _ (c_share1 G pg nw kp sn ks fo ft fe gt mx re m hh hO (by omega) k a b ?_) (cm_share1 G _ nw kp sn ks fo ft fe gt mx re m hh hM s2 k q1 q2) (J_s hJ) hf
      rcases q2 with z | z
      · exact Or.inl (h0.mp z)
      · exact Or.inr (by omega)
    · have q3 : ¬ rN m 4 = 0 := fun z => q2 (Or.inl z)
      have q4 : rN m 20 < 12 := by
        have : ¬ rN m 20 = 12 := fun z => q2 (Or.inr z)
        omega
      have q3' : ¬ rN nw 1 = 0 := fun z => q3 (h0.mpr z)
      have hx : qQ nw (mBegin (uN m 20 (rN m 20 + 1))) := qQ_y hq (fun _ _ _ => rfl) rfl rfl rfl rfl rfl
      obtain ⟨A, l, e1, e2, e3, e4, e5, e6, e7⟩ := qShare hx
      have hJ2 : ∀ t, mQ t (uN m 20 (rN m 20 + 1)) → J (i + 1) pg nw kp sn ks (uN mx 10 (rN mx 10 + 1)) t := fun t ht => by
        refine J_s (J_P ?_ (mQ_P ht))
        obtain ⟨p, b, c, -, e, f⟩ := hJ
        refine ⟨p, qLv_of b (fun _ _ _ => rfl) (fun k hk => by rw [rN_uN, if_neg (by omega)]) (fun _ _ => rfl) (fun _ _ => rfl), c, ⟨?_, ?_⟩, e, ?_⟩
        · rw [rN_uN, if_pos rfl, rN_uN, if_pos rfl, s1]
        · rw [rN_uN, if_pos rfl]; omega
        · rcases f with f | ⟨f1, f2, f3⟩
          · exact Or.inl f
          · exact Or.inr ⟨f1, f2, qLv_R f3 (fun _ _ => rfl) (fun k hk => by rw [rN_uN, if_neg (by omega)]) (fun _ _ => rfl) (fun _ _ => rfl)⟩
      obtain ⟨j, hj2, hj3, e⟩ := xIn_e q1 (by decide) (by decide)
      subst e
      rcases (show j = 2 ∨ j = 3 by omega) with z | z
      · subst z
        have hcl := c_share2 G pg nw kp sn ks fo ft fe gt mx re m hh hO q3' (by omega) A e1 e2
        rw [e4] at hcl
        exact Ok_mk _ hcl (cm_share2 G _ nw kp sn ks fo ft fe gt _ re m hh hM q4 2 (by omega) (by omega) q1 q3) (hJ2 _ e6) hf
      · subst z
        have hcl := c_share3 G pg nw kp sn ks fo ft fe gt mx re m hh hO q3' (by omega) A e1 e2 l e3
        rw [e5 re] at hcl
        exact Ok_mk _ hcl (cm_share2 G _ nw kp sn ks fo ft fe gt _ _ m hh hM q4 3 (by omega) (by omega) q1 q3) (hJ2 _ e7) hf
  · refine Ok_mk _ (c_share0 G pg nw kp sn ks fo ft fe gt mx re m hh k ?_) (cm_share0 G _ nw kp sn ks fo ft fe gt mx re m hh k (xIn_f q1)) (J_s hJ) hf
    by_cases a : k < nI 2
    · exact Or.inl a
    · by_cases b : nI 3 < k
      · exact Or.inr b
      · exact absurd (xIn_t.mpr ⟨a, Int32.not_lt.mp b⟩) q1
set_option maxRecDepth 20000 in
theorem qPlanOk (d q : Int32) : xPlanOk d q = mPlanOk d q := by
  have h4 : xIn q 10 13 = true ↔ ¬ q < nI 10 ∧ q < nI 14 := by
    rw [xIn_t]
    refine and_congr Iff.rfl ?_
    rw [Int32.le_iff_toInt_le, Int32.lt_iff_toInt_lt, nI_toInt (by decide), nI_toInt (by decide)]
    omega
  have h5 : xPlanOk d q = true ↔ mPlanOk d q = true := by
    unfold xPlanOk mPlanOk
    rw [decide_eq_true_eq, Bool.and_eq_true, Bool.or_eq_true, xIn_t, h4, decide_eq_true_eq, and_assoc]
  by_cases z : mPlanOk d q = true
  · rw [z]; exact h5.mpr z
  · rw [Bool.not_eq_true] at z
    rw [z, Bool.eq_false_iff]
    exact fun y => by rw [h5, z] at y; cases y
set_option maxRecDepth 20000 in
theorem st_plan (G : zG) (i : Nat) (w : zh) (h : Gd i w) (d q : Int32) : Oki G i mX7_plan mX8_plan [.int d, .int q] w := by
  obtain ⟨pg, nw, kp, sn, ks, fo, ft, fe, gt, mx, re, m, hh, rfl, hJ, hf⟩ := h
  obtain ⟨n4, n5, hO, hM, hH, hq⟩ := J_n hJ
  have h0 := J_0 hJ
  by_cases q1 : mPlanOk d q = true
  · by_cases q2 : rN m 4 = 0
    · exact Ok_mk _ (c_plan1 G pg nw kp sn ks fo ft fe gt mx re m hh hO d q (by rw [qPlanOk]; exact q1) (h0.mp q2)) (cm_plan1 G _ nw kp sn ks fo ft fe gt mx re m hh hM d q q1 q2) (J_s hJ) hf
    · have q2' : ¬ rN nw 1 = 0 := fun z => q2 (h0.mpr z)
      have q3 := q1
      unfold mPlanOk at q3
      rw [Bool.and_eq_true, Bool.or_eq_true, decide_eq_true_eq] at q3
      obtain ⟨q4, q5⟩ := q3
      obtain ⟨d, hd1, hd4, e⟩ := xIn_e q4 (by decide) (by decide)
      subst e
      obtain ⟨P1, P2, P3, P4⟩ := qPlan (fo := fo) (ft := ft) hq hd1 hd4
      rcases q5 with z | z
      · have z' : q = nI 0 := by rw [nI_0]; exact z
        subst z'
        have hcl := c_planV G pg nw kp sn ks fo ft fe gt mx re m hh hO q2' d hd1 hd4
        rw [P1] at hcl
        exact Ok_mk _ hcl (cm_planX G _ nw kp sn ks _ _ fe gt mx re m hh hM d 0 (by decide) q1 q2 _ _ (cm_planV G _ nw kp sn ks _ _ fe gt mx re m hh hM hH d hd1 hd4)) (J_s (J_P hJ (mP0_P P3))) hf
      · obtain ⟨j, hj1, hj2, e⟩ := xIn_e z (by decide) (by decide)
        subst e
        obtain ⟨p, rfl⟩ : ∃ p, j = 10 + p := ⟨j - 10, by omega⟩
        have hcl := c_planB G pg nw kp sn ks fo ft fe gt mx re m hh hO q2' d p hd1 hd4 (by omega) (by omega)
        by_cases y : p < d
        · obtain ⟨o, t, t1, -, t3, t4⟩ := pChos (p + 1) d none (mBegin m) P4 (by omega)
          have eM := mBegin_same P3
          have hr : mChos (mPlanL d (mP3 d 1) 0 (-1) 0 m).2.1 (p + 1) (mP3 (d - 1) 1) none (mBegin (mPlanL d (mP3 d 1) 0 (-1) 0 m).2.2) = some (o, t) := by
            rw [eM, mP3_pow (d := d - 1) (by omega)]; exact t1
          have ev : fPB (fPlan nw fo ft d).1 d p = o := by
            unfold fPB
            rw [if_pos y, fDig_g (n := d - (p + 1)) (by omega), t3 (by omega)]
          rw [ev] at hcl
          exact Ok_mk _ hcl (cm_planX G _ nw kp sn ks _ _ fe gt mx re m hh hM d (10 + p) (by omega) q1 q2 _ _ (cm_planB G _ nw kp sn ks _ _ fe gt mx re m hh hM hH d p hd1 hd4 y (o, t) hr)) (J_s (J_P hJ (mP0_P (mP0_trans t4 (mP0_begin m))))) hf
        · have ev : fPB (fPlan nw fo ft d).1 d p = none := by unfold fPB; rw [if_neg y]
          rw [ev] at hcl
          exact Ok_mk _ hcl (cm_planX G _ nw kp sn ks _ _ fe gt mx re m hh hM d (10 + p) (by omega) q1 q2 _ _ (cm_planN G _ nw kp sn ks _ _ fe gt mx re m hh hM hH d p hd1 hd4 (by omega) (by omega))) (J_s (J_P hJ (mP0_P P3))) hf
  · rw [Bool.not_eq_true] at q1
    exact Ok_mk _ (c_plan0 G pg nw kp sn ks fo ft fe gt mx re m hh d q (by rw [qPlanOk]; exact q1)) (cm_plan0 G _ nw kp sn ks fo ft fe gt mx re m hh d q q1) (J_s hJ) hf
end
