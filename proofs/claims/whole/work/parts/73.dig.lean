section
def Okl (G : zG) (i : Nat) (yc ym : zY) (as : List Value) (w : zh) : Prop := ∃ (v : Int64) (w1 w2 : zh), zK G yc (.ref 0 :: as) w (some (.long v)) w1 ∧ zK G ym (.ref 49 :: as) w1 (some (.long v)) w2 ∧ (∃ fs, w1 49 = zO 7 fs) ∧ Gd (i + 1) w2
set_option maxRecDepth 20000 in
theorem fPlan_ind (nw fo ft fo2 ft2 : zs) (d : Nat) : rI (fPlan nw fo ft d).1 1 = rI (fPlan nw fo2 ft2 d).1 1 ∧ rN (fPlan nw fo ft d).1 2 = rN (fPlan nw fo2 ft2 d).1 2 := by
  have h1 := fPlan_B nw d (1 * 2 ^ (2 * d)) 0 (uN (uI fo 1 (-1)) 2 0) ft
  have h2 := fPlan_B nw d (1 * 2 ^ (2 * d)) 0 (uN (uI fo2 1 (-1)) 2 0) ft2
  have e : rI (uN (uI fo 1 (-1)) 2 0) 1 = -1 ∧ rN (uN (uI fo 1 (-1)) 2 0) 2 = 0 := ⟨rfl, rfl⟩
  have e2 : rI (uN (uI fo2 1 (-1)) 2 0) 1 = -1 ∧ rN (uN (uI fo2 1 (-1)) 2 0) 2 = 0 := ⟨rfl, rfl⟩
  rw [e.1, e.2] at h1
  rw [e2.1, e2.2, ← h1] at h2
  exact ⟨(congrArg Prod.fst h2).symm, (congrArg Prod.snd h2).symm⟩
set_option maxRecDepth 20000 in
theorem qPlan_m {nw m : zs} (h : qQ nw (mBegin m)) : (∀ (G : zG) (pg2 nw2 kp2 sn2 ks2 fo ft fe gt mx2 : zs) (re : Nat → Int64), ∃ t, mP t m ∧ ∀ hh, zK G mX8_planOf [.ref 49, .int (nI 2), .int (nI 0)] (wW pg2 nw2 kp2 sn2 ks2 fo ft fe gt mx2 re m hh) (some (.int (rI (fPlan nw z0 z0 2).1 1))) (wW pg2 nw2 kp2 sn2 ks2 fo ft fe gt mx2 re t hh)) ∧ (∀ p, p < 2 → ∀ (G : zG) (pg2 nw2 kp2 sn2 ks2 fo ft fe gt mx2 : zs) (re : Nat → Int64), ∃ t, mP t m ∧ ∀ hh, zK G mX8_planOf [.ref 49, .int (nI 2), .int (nI (10 + p))] (wW pg2 nw2 kp2 sn2 ks2 fo ft fe gt mx2 re m hh) (some (.int (oI (fPB (fPlan nw z0 z0 2).1 2 p)))) (wW pg2 nw2 kp2 sn2 ks2 fo ft fe gt mx2 re t hh)) := by
  have hM : mOK m := h.2.1.1
  have hH : mHP m := qM_hp h.2.1
  obtain ⟨P1, P2, P3, P4⟩ := qPlan (fo := z0) (ft := z0) h (d := 2) (by omega) (by omega)
  refine ⟨fun G a1 a2 a3 a4 a5 fo ft fe gt a6 re => ⟨_, mP0_P P3, fun hh => ?_⟩, fun p hp G a1 a2 a3 a4 a5 fo ft fe gt a6 re => ?_⟩
  · rw [P1]
    exact cm_planV G a1 a2 a3 a4 a5 fo ft fe gt a6 re m hh hM hH 2 (by omega) (by omega)
  · obtain ⟨o, t, t1, -, t3, t4⟩ := pChos (p + 1) 2 none (mBegin m) P4 (by omega)
    have eM := mBegin_same P3
    have hr : mChos (mPlanL 2 (mP3 2 1) 0 (-1) 0 m).2.1 (p + 1) (mP3 (2 - 1) 1) none (mBegin (mPlanL 2 (mP3 2 1) 0 (-1) 0 m).2.2) = some (o, t) := by
      rw [eM, mP3_pow (d := 2 - 1) (by omega)]; exact t1
    have ev : fPB (fPlan nw z0 z0 2).1 2 p = o := by
      unfold fPB
      rw [if_pos hp, fDig_g (n := 2 - (p + 1)) (by omega), t3 (by omega)]
    refine ⟨t, mP0_P (mP0_trans t4 (mP0_begin m)), fun hh => ?_⟩
    rw [ev]
    exact cm_planB G a1 a2 a3 a4 a5 fo ft fe gt a6 re m hh hM hH 2 p (by omega) (by omega) hp (o, t) hr
def vSay (nw : zs) (k : Nat) : Int32 := if k = 0 then nI (fLasts (nI 2) 0 100 nw).1 else if k = 1 then rI (fPlan nw z0 z0 2).1 1 else if k = 2 then oI (fPB (fPlan nw z0 z0 2).1 2 0) else if k = 3 then oI (fPB (fPlan nw z0 z0 2).1 2 1) else nI (fBits nw (fDays 9 nw))
theorem choose2 {P : Nat → Nat → Int32 → Prop} (h : ∀ c w, ∃ v, P c w v) : ∃ A : Nat → Nat → Int32, ∀ c w, P c w (A c w) := ⟨fun c w => Classical.choose (h c w), fun c w => Classical.choose_spec (h c w)⟩
set_option maxRecDepth 20000 in
theorem st_digest (G : zG) (i : Nat) (w : zh) (h : Gd i w) : Okl G i mX7_digest mX8_digest [] w := by
  obtain ⟨pg, nw, kp, sn, ks, fo, ft, fe, gt, mx, re, m, hh, rfl, hJ, hf⟩ := h
  obtain ⟨n4, n5, hO, hM, hH, hq⟩ := J_n hJ
  have hA : ∀ c w, ∃ v : Int32, c < rN nw 1 → w ≤ 12 → ¬ w = 9 → (∀ (G : zG) (fo ft fe gt : zs) (re : Nat → Int64) (m2 : zs) (hh : Int64), feOK fe → ∃ e g, feOK e ∧ zK G mX7_cart [.ref 0, .int (nI c), .int (nI w)] (wW pg nw kp sn ks fo ft fe gt mx re m2 hh) (some (.int v)) (wW pg nw kp sn ks fo ft e g mx re m2 hh)) ∧ (∀ (G : zG) (pg2 nw2 kp2 sn2 ks2 fo ft fe gt mx2 : zs) (re : Nat → Int64) (x : zs), mP x m → ∃ t, mP t m ∧ ∀ hh, zK G mX8_tellCart [.ref 49, .int (nI c), .int (nI w)] (wW pg2 nw2 kp2 sn2 ks2 fo ft fe gt mx2 re x hh) (some (.int v)) (wW pg2 nw2 kp2 sn2 ks2 fo ft fe gt mx2 re t hh)) := fun c w => by
    by_cases q : c < rN nw 1 ∧ w ≤ 12 ∧ ¬ w = 9
    · obtain ⟨v, hv⟩ := val_cart hJ q.1 q.2.1 q.2.2
      exact ⟨v, fun _ _ _ => hv⟩
    · exact ⟨0, fun a b c => absurd ⟨a, b, c⟩ q⟩
  have hB : ∀ c w, ∃ v : Int32, c < rN nw 0 → w ≤ 12 → (w < 5 ∨ 9 < w) → (∀ (G : zG) (fo ft fe gt : zs) (re : Nat → Int64) (m2 : zs) (hh : Int64), ∃ t, zK G mX7_bay [.ref 0, .int (nI c), .int (nI w)] (wW pg nw kp sn ks fo ft fe gt mx re m2 hh) (some (.int v)) (wW pg nw kp sn ks fo t fe gt mx re m2 hh)) ∧ (∀ (G : zG) (pg2 nw2 kp2 sn2 ks2 fo ft fe gt mx2 : zs) (re : Nat → Int64) (x : zs), mP x m → ∃ t, mP t m ∧ ∀ hh, zK G mX8_tellBay [.ref 49, .int (nI c), .int (nI w)] (wW pg2 nw2 kp2 sn2 ks2 fo ft fe gt mx2 re x hh) (some (.int v)) (wW pg2 nw2 kp2 sn2 ks2 fo ft fe gt mx2 re t hh)) := fun c w => by
    by_cases q : c < rN nw 0 ∧ w ≤ 12 ∧ (w < 5 ∨ 9 < w)
    · obtain ⟨v, hv⟩ := val_bay hJ q.1 q.2.1 q.2.2
      exact ⟨v, fun _ _ _ => hv⟩
    · exact ⟨0, fun a b c => absurd ⟨a, b, c⟩ q⟩
  obtain ⟨A, hA⟩ := choose2 hA
  obtain ⟨B, hB⟩ := choose2 hB
  have h9 : rN nw 1 ≤ 9 := hO.2.2.2.2.2
  have h3 : rN nw 0 ≤ 3 := hO.2.2.2.2.1
  have h38 : rN pg 1 ≤ 38 := by have := hJ.1; omega
  obtain ⟨a, b, e, g, he, hcl⟩ := c_digest G pg nw kp sn ks mx re m hh (fun _ _ fe _ => feOK fe) (rN nw 1) (rN nw 0) (rN pg 1) (rF pg 0) rfl rfl rfl rfl hO h9 h3 h38
    (xCount pg nw sn mx) (fun fo ft fe gt w _ hw => c_count G pg nw kp sn ks fo ft fe gt mx re m hh hO w hw)
    (vSay nw) hJ.2.1.2.2.2.2.2.2.2.1
    (fun fo ft fe gt hp _ => ⟨_, hp, c_lasts G pg nw kp sn ks fo ft fe gt mx re m hh hO (nI 2)⟩)
    (fun fo ft fe gt hp _ => by
      have hi := fPlan_ind nw fo ft z0 z0 2
      have h256 := (qPlan (fo := fo) (ft := ft) hq (d := 2) (by omega) (by omega)).2.1
      refine ⟨_, _, hp, c_makePlan G pg nw kp sn ks fo ft fe gt mx re m hh hO 2 (by omega), hi.1, ?_, ?_⟩
      · have e1 : vSay nw 2 = oI (fPB (fPlan nw fo ft 2).1 2 0) := by
          show oI (fPB (fPlan nw z0 z0 2).1 2 0) = _
          unfold fPB
          rw [hi.2]
        rw [e1]
        exact c_plannedBay G pg nw kp sn ks _ _ fe gt mx re m hh 2 0 (by omega) (by omega) (by omega)
      · have e1 : vSay nw 3 = oI (fPB (fPlan nw fo ft 2).1 2 1) := by
          show oI (fPB (fPlan nw z0 z0 2).1 2 1) = _
          unfold fPB
          rw [hi.2]
        rw [e1]
        exact c_plannedBay G pg nw kp sn ks _ _ fe gt mx re m hh 2 1 (by omega) (by omega) (by omega))
    (fun fo ft fe gt hp _ => ⟨_, hp, c_gone G pg nw kp sn ks fo ft fe gt mx re m hh hO 9 (by omega)⟩)
    A (fun fo ft fe gt c w hp hc hw h9 => by
      obtain ⟨e, g, h1, h2⟩ := (hA c w hc hw h9).1 G fo ft fe gt re m hh hp
      exact ⟨fo, ft, e, g, h1, h2⟩)
    B (fun fo ft fe gt c w hp hc hw h9 => by
      obtain ⟨t, h2⟩ := (hB c w hc hw h9).1 G fo ft fe gt re m hh
      exact ⟨fo, t, fe, gt, hp, h2⟩)
    fo ft fe gt hf
  obtain ⟨t, ht, hml⟩ := cm_digest G pg nw kp sn ks a b e g mx re (fun x => mP x m) (rN nw 1) (rN nw 0) (rN pg 1) (rF pg 0)
    (fun x hx => by
      have hJx := J_P hJ hx
      obtain ⟨a4, a5, -, a1, -, -⟩ := J_n hJx
      exact ⟨a5, a4, hJx.1.1.symm, hJx.1.2.2.symm, a1⟩) h9 h3 h38
    (xCount pg nw sn mx) (fun x w hh hx hw => by
      have hJx := J_P hJ hx
      rw [val_count hJx]
      exact cm_countOf G pg nw kp sn ks a b e g mx re x hh (J_n hJx).2.2.2.1 w hw)
    (vSay nw) (fun x hh hx hn => by
      have hJx := J_P hJ hx
      obtain ⟨a4, a5, -, x1, x2, x3⟩ := J_n hJx
      obtain ⟨r, r1, r2, r3⟩ := qLasts (much := nI 2) 100 0 nw (mBegin x) x3
      have p1 : mP r.2 m := mP_trans r3 (mP_trans (mP_begin x) hx)
      obtain ⟨-, -, -, -, -, y1⟩ := J_n (J_P hJ p1)
      obtain ⟨t2, q2, k2⟩ := (qPlan_m y1).1 G pg nw kp sn ks a b e g mx re
      have p2 : mP t2 m := mP_trans q2 p1
      obtain ⟨-, -, -, -, -, y2⟩ := J_n (J_P hJ p2)
      obtain ⟨t3, q3, k3⟩ := (qPlan_m y2).2 0 (by omega) G pg nw kp sn ks a b e g mx re
      have p3 : mP t3 m := mP_trans q3 p2
      obtain ⟨-, -, -, -, -, y3⟩ := J_n (J_P hJ p3)
      obtain ⟨t4, q4, k4⟩ := (qPlan_m y3).2 1 (by omega) G pg nw kp sn ks a b e g mx re
      have p4 : mP t4 m := mP_trans q4 p3
      obtain ⟨-, -, -, z1, z2, y4⟩ := J_n (J_P hJ p4)
      have e4 : vSay nw 4 = nI (mBits (mDs 9 (mBegin t4))) := by
        show nI (fBits nw (fDays 9 nw)) = _
        rw [qBits y4 9]
      have e0 : vSay nw 0 = nI r.1 := by
        show nI (fLasts (nI 2) 0 100 nw).1 = _
        rw [r2]
      refine ⟨mDs 9 (mBegin t4), mP_trans (qDays 9 0 nw (mBegin t4) y4).2 (mP_trans (mP_begin t4) p4), ?_⟩
      exact cm_sayBarn G pg nw kp sn ks a b e g mx re x hh r.2 t2 t3 t4 (mDs 9 (mBegin t4)) (vSay nw)
        (fun hh => by rw [e0]; exact cm_lastsOf G pg nw kp sn ks a b e g mx re x hh x1 x2 (nI 2) r r1) k2 k3 k4
        (fun hh => by rw [e4]; exact cm_burntOf G pg nw kp sn ks a b e g mx re t4 hh z1 z2 9 (by omega)))
    A (fun x c w hx hc hw h9 => (hA c w hc hw h9).2 G pg nw kp sn ks a b e g mx re x hx)
    B (fun x c w hx hc hw h9 => (hB c w hc hw h9).2 G pg nw kp sn ks a b e g mx re x hx)
    m hh (mP_refl m)
  exact ⟨_, _, _, hcl, hml, ⟨_, wm⟩, ⟨pg, nw, kp, sn, ks, a, b, e, g, mx, re, t, _, rfl, J_s (J_P hJ ht), he⟩⟩
end
