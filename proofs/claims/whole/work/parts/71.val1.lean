section
set_option maxRecDepth 20000 in
theorem split_uniq {c : Nat} : ∀ (A A2 R R2 : List Nat), (A ++ c :: R).Nodup → A ++ c :: R = A2 ++ c :: R2 → A = A2 ∧ R = R2
  | [], [], R, R2, _, h => ⟨rfl, (List.cons.inj h).2⟩
  | [], a :: A2, R, R2, hn, h => by
    have h1 := List.cons.inj h
    rw [List.nil_append] at hn
    have : c ∈ R := by rw [h1.2]; exact List.mem_append_right _ List.mem_cons_self
    exact absurd this (List.nodup_cons.mp hn).1
  | a :: A, [], R, R2, hn, h => by
    have h1 := List.cons.inj h
    have : a ∈ A ++ c :: R := by rw [h1.1]; exact List.mem_append_right _ List.mem_cons_self
    exact absurd this (List.nodup_cons.mp hn).1
  | a :: A, a2 :: A2, R, R2, hn, h => by
    have h1 := List.cons.inj h
    obtain ⟨e1, e2⟩ := split_uniq A A2 R R2 (List.nodup_cons.mp hn).2 h1.2
    exact ⟨by rw [h1.1, e1], e2⟩
set_option maxRecDepth 20000 in
theorem onC0_len {l w : Nat → Int32} (hl : qV l) : ∀ (R : List Nat) (k : Nat), R.foldl (onC l w 0) k = k + (R.filter (qa l)).length
  | [], _ => rfl
  | q :: R, k => by
    rw [List.foldl_cons, List.filter_cons]
    by_cases e : l q = 0
    · rw [if_neg (by simp [qa, e]), show onC l w 0 k q = k from if_pos ((qV_le hl q).mpr e)]
      exact onC0_len hl R k
    · rw [if_pos (by simp [qa, e]), show onC l w 0 k q = k + 1 by unfold onC; rw [if_neg (fun z => e ((qV_le hl q).mp z)), if_pos rfl], onC0_len hl R (k + 1), List.length_cons]
      omega
set_option maxRecDepth 20000 in
/-- a cart that isn't gone: its place, how many lie on it, by how much it warms -/
theorem qPlace {s x : zs} (h : qQ s x) {c : Nat} (hc : c < rN x 5) (ha : ¬ rF x 17 c = 0) : ∃ p q, bFind s c = some p ∧ mFind x c = some q ∧ mOn x c 0 = rA s 10 (rA s 6 c) - 1 - p ∧ mGain x c = bGainAt s (rA s 6 c) p := by
  obtain ⟨hO, hM, hS, hv, hw, hB⟩ := h
  obtain ⟨hb, hcm⟩ := hM.2.2.2 c hc
  have eb : rA s 6 c = rA x 11 c := ((hS.2.2 c hc).2).symm
  obtain ⟨b1, b2⟩ := hB _ hb
  obtain ⟨q, A, R, f1, f2, f3, f4, -⟩ := ml_at hM hc
  have hma : ma x (rA x 11 c) = A.filter (qa (rF x 17)) ++ c :: R.filter (qa (rF x 17)) := by
    unfold ma
    rw [f2, List.filter_append, List.filter_cons, if_pos (by simp [qa, ha])]
  have hin : c ∈ sl s (rA x 11 c) := by rw [b2, hma]; exact List.mem_append_right _ List.mem_cons_self
  obtain ⟨p0, a0, a1, a2⟩ := (qL_mem _ c _ _).mp hin
  obtain ⟨p, hp⟩ := zfind_ex (P := fun p => Nat.beq (rA s 11 (rA s 6 c * 3 + p)) c) (rA s 10 (rA s 6 c)) 0 p0 a0 (by rw [eb]; exact a1) (by rw [eb, show rA s 11 (rA x 11 c * 3 + p0) = c from a2]; simp)
  have hl := zfind_lt _ _ _ hp
  have hpc : rA s 11 (rA x 11 c * 3 + p) = c := by rw [← eb]; exact Nat.eq_of_beq_eq_true hl.2.2.1
  have hpn : p < rA s 10 (rA x 11 c) := by rw [← eb]; omega
  have hsl : sl s (rA x 11 c) = qL (fun p => rA s 11 (rA x 11 c * 3 + p)) 0 p ++ c :: qL (fun p => rA s 11 (rA x 11 c * 3 + p)) (p + 1) (rA s 10 (rA x 11 c) - (p + 1)) := by
    unfold sl
    rw [qL_at _ _ hpn, hpc]
  have hnd : (sl s (rA x 11 c)).Nodup := by rw [b2]; exact (hM.2.1 _ hb).filter _
  rw [hsl] at hnd
  obtain ⟨e1, e2⟩ := split_uniq _ _ _ _ hnd (hsl.symm.trans (b2.trans hma))
  refine ⟨p, q, hp, f1, ?_, ?_⟩
  · rw [mOn_L f1, ← f3, onC0_len hv R 0, ← e2, qL_len, eb]
    omega
  · rw [mGain_L (A := A) hM hv hw hc ha f1 f3, eb, bGainAt_L (n := rA s 10 (rA x 11 c) - (p + 1)) (by omega), e2, hpc, (b1 c hcm).2.1, (hS.2.2 c hc).1]
    refine congrArg (kWarms (rA s 5 c)) (dWc_congr _ _ (fun d hd => ?_))
    exact (b1 d (by rw [f2]; exact List.mem_append_right _ (List.mem_cons_of_mem _ (List.mem_filter.mp hd).1))).2.1
set_option maxRecDepth 20000 in
theorem lt_le_min (l v : Int32) : (if l < v then l else v) = (if l ≤ v then l else v) := by
  by_cases h1 : l < v
  · rw [if_pos h1, if_pos (Int32.le_of_lt h1)]
  · rw [if_neg h1]
    by_cases h2 : l ≤ v
    · rw [if_pos h2]; exact Int32.le_antisymm (Int32.not_lt.mp h1) h2
    · rw [if_neg h2]
set_option maxRecDepth 20000 in
theorem feOK_0 : feOK z0 := fun _ => ⟨0, by omega, nI_0.symm⟩
set_option maxRecDepth 20000 in
/-- how wet a cart can be, and which day to feel it: alike, whatever was tried before -/
theorem feelAll {nw sn m : zs} (h : qLv nw sn m) {c : Nat} (hc : c < rN m 5) (gt fe : zs) (hf : feOK fe) : feOK (gAll nw c (gt, fe)).2 ∧ gWets sn (gAll nw c (gt, fe)).2 c = mLaid (mWays (mBegin m) c) (rA sn 1) c ∧ mSn (mWays (mBegin m) c) (rA sn 1) ∧ mP (mWays (mBegin m) c) m ∧ (∀ t wn, (∀ j, rF (gAll nw c (gt, fe)).2 1 j = nI (wn j) ∧ wn j ≤ 30) → (gBest t wn (gAll nw c (gt, fe)).2).1 = oI (mFlL (mWays (mBegin m) c) t 9 0 none 11) ∧ feOK (gBest t wn (gAll nw c (gt, fe)).2).2.2) := by
  obtain ⟨h1, h2, h3, h4, h5, h6, h7, h8, h9, h10⟩ := h
  have eMM : mBegin (mBegin m) = mBegin m := mBegin_same (mP0_begin m)
  obtain ⟨r1, -, r3, r4⟩ := qWay_out h1 eMM (c := c) hc h2 (by omega) 10 0 gt fe (mBegin m) (mP1_refl _) rfl
  have e1 : ∀ k, rF (gAll nw c (gt, fe)).2 1 k = if k < 90 then rF (mWays (mBegin m) c) 26 k else rF fe 1 k := fun k => by
    rw [show rF (gAll nw c (gt, fe)).2 1 k = _ from r1 k]
    by_cases z : k < 90
    · rw [if_pos (by omega), if_pos z]; rfl
    · rw [if_neg (by omega), if_neg z]
  have hw : ∀ k, k < 90 → rF (gAll nw c (gt, fe)).2 1 k = rF (mWays (mBegin m) c) 26 k := fun k hk => by rw [e1 k, if_pos hk]
  have f1 : feOK (gAll nw c (gt, fe)).2 := fun j => by
    rw [e1 j]
    by_cases z : j < 90
    · rw [if_pos z]; exact r3 j (by omega) z
    · rw [if_neg z]; exact hf j
  have n24 : rN (mWays (mBegin m) c) 24 = rN m 24 := r4.2.1 24
  have f25 : rF (mWays (mBegin m) c) 25 = rF m 25 := (r4.2.2.2 25 (by omega) (by decide)).trans (qmBegin_F m 25 (by omega))
  have hE : qE sn (mWays (mBegin m) c) := ⟨by rw [n24]; exact h10.1, fun j hj => by rw [f25]; exact h10.2 j hj⟩
  have hc9 : c < 9 := by have := h1.2.1.1.2.2.2.2.2; have : rN (mBegin m) 5 = rN m 5 := rfl; omega
  refine ⟨f1, qLaid h9 hE hc9 hw, ⟨by rw [n24, ← h10.1]; exact h9.1, fun j hj => ?_⟩, mP_trans (mP1_P r4) (mP_begin m), fun t wn hwn => ?_⟩
  · rw [n24, ← h10.1] at hj
    rw [f25]
    exact ⟨(h10.2 j hj).2.1, h9.2.2.1 j hj, h9.2.2.2 j⟩
  · obtain ⟨b1, b2⟩ := qBest (x := mWays (mBegin m) c) (t := t) (wn := wn) (fun j => (hwn j).2) (fun k hk => by rw [← hw k hk]; exact (hwn k).1) 9 0 none 11 (gAll nw c (gt, fe)).2 rfl (Nat.le_refl _)
    refine ⟨b1, fun j => ?_⟩
    rw [show rF (gBest t wn (gAll nw c (gt, fe)).2).2.2 1 = _ from b2]
    exact f1 j
set_option maxRecDepth 20000 in
theorem val_cart {i : Nat} {pg nw kp sn ks mx m : zs} (hJ : J i pg nw kp sn ks mx m) {c w : Nat} (hc : c < rN nw 1) (hw : w ≤ 12) (h9 : ¬ w = 9) : ∃ v : Int32, (∀ (G : zG) (fo ft fe gt : zs) (re : Nat → Int64) (m2 : zs) (hh : Int64), feOK fe → ∃ e g, feOK e ∧ zK G mX7_cart [.ref 0, .int (nI c), .int (nI w)] (wW pg nw kp sn ks fo ft fe gt mx re m2 hh) (some (.int v)) (wW pg nw kp sn ks fo ft e g mx re m2 hh)) ∧ (∀ (G : zG) (pg2 nw2 kp2 sn2 ks2 fo ft fe gt mx2 : zs) (re : Nat → Int64) (x : zs), mP x m → ∃ t, mP t m ∧ ∀ hh, zK G mX8_tellCart [.ref 49, .int (nI c), .int (nI w)] (wW pg2 nw2 kp2 sn2 ks2 fo ft fe gt mx2 re x hh) (some (.int v)) (wW pg2 nw2 kp2 sn2 ks2 fo ft fe gt mx2 re t hh)) := by
  obtain ⟨n4, n5, hO, hM, hH, hq⟩ := J_n hJ
  have X : ∀ x, mP x m → mOK x ∧ mHP x ∧ c < rN x 5 ∧ rA x 10 c = rA nw 5 c ∧ rA x 11 c = rA nw 6 c ∧ rF x 14 c = rF nw 7 c ∧ rF x 15 c = rF nw 8 c ∧ rF x 16 c = rF nw 9 c ∧ mP (mBegin x) m ∧ qLv nw sn x := fun x hx => by
    have hJx := J_P hJ hx
    obtain ⟨-, a5, -, a1, a2, -⟩ := J_n hJx
    obtain ⟨k1, k2, k3, k4, k5⟩ := J_kd hJx hc
    exact ⟨a1, a2, by omega, k1, k2, k3, k4, k5, mP_trans (mP_begin x) hx, hJx.2.1⟩
  by_cases w0 : w = 0
  · subst w0
    refine ⟨nI (rA nw 5 c), fun G fo ft fe gt re m2 hh hf => ⟨fe, gt, hf, c_cart_0 G pg nw kp sn ks fo ft fe gt mx re m2 hh hO c hc⟩, fun G a1 a2 a3 a4 a5 fo ft fe gt a6 re x hx => ?_⟩
    obtain ⟨x1, x2, x3, x4, x5, x6, x7, x8, x9, x10⟩ := X x hx
    exact ⟨_, x9, fun hh => by rw [← x4]; exact cm_tc_0 G a1 a2 a3 a4 a5 fo ft fe gt a6 re x hh x1 c x3⟩
  by_cases w1 : w = 1
  · subst w1
    refine ⟨rF nw 7 c, fun G fo ft fe gt re m2 hh hf => ⟨fe, gt, hf, c_cart_1 G pg nw kp sn ks fo ft fe gt mx re m2 hh hO c hc⟩, fun G a1 a2 a3 a4 a5 fo ft fe gt a6 re x hx => ?_⟩
    obtain ⟨x1, x2, x3, x4, x5, x6, x7, x8, x9, x10⟩ := X x hx
    exact ⟨_, x9, fun hh => by rw [← x6]; exact cm_tc_1 G a1 a2 a3 a4 a5 fo ft fe gt a6 re x hh x1 c x3⟩
  by_cases w2 : w = 2
  · subst w2
    refine ⟨rF nw 8 c, fun G fo ft fe gt re m2 hh hf => ⟨fe, gt, hf, c_cart_2 G pg nw kp sn ks fo ft fe gt mx re m2 hh hO c hc⟩, fun G a1 a2 a3 a4 a5 fo ft fe gt a6 re x hx => ?_⟩
    obtain ⟨x1, x2, x3, x4, x5, x6, x7, x8, x9, x10⟩ := X x hx
    exact ⟨_, x9, fun hh => by rw [← x7]; exact cm_tc_2 G a1 a2 a3 a4 a5 fo ft fe gt a6 re x hh x1 c x3⟩
  by_cases w3 : w = 3
  · subst w3
    refine ⟨rF nw 9 c, fun G fo ft fe gt re m2 hh hf => ⟨fe, gt, hf, c_cart_3 G pg nw kp sn ks fo ft fe gt mx re m2 hh hO c hc⟩, fun G a1 a2 a3 a4 a5 fo ft fe gt a6 re x hx => ?_⟩
    obtain ⟨x1, x2, x3, x4, x5, x6, x7, x8, x9, x10⟩ := X x hx
    exact ⟨_, x9, fun hh => by rw [← x8]; exact cm_tc_3 G a1 a2 a3 a4 a5 fo ft fe gt a6 re x hh x1 c x3⟩
  by_cases w4 : w = 4
  · subst w4
    refine ⟨nI (rA nw 6 c), fun G fo ft fe gt re m2 hh hf => ⟨fe, gt, hf, c_cart_4 G pg nw kp sn ks fo ft fe gt mx re m2 hh hO c hc⟩, fun G a1 a2 a3 a4 a5 fo ft fe gt a6 re x hx => ?_⟩
    obtain ⟨x1, x2, x3, x4, x5, x6, x7, x8, x9, x10⟩ := X x hx
    exact ⟨_, x9, fun hh => by rw [← x5]; exact cm_tc_4 G a1 a2 a3 a4 a5 fo ft fe gt a6 re x hh x1 c x3⟩
  by_cases hg : rF nw 7 c = 0
  · by_cases w6 : w = 6
    · subst w6
      refine ⟨nI 0, fun G fo ft fe gt re m2 hh hf => ⟨fe, gt, hf, c_cart_6g G pg nw kp sn ks fo ft fe gt mx re m2 hh hO c hc hg⟩, fun G a1 a2 a3 a4 a5 fo ft fe gt a6 re x hx => ?_⟩
      obtain ⟨x1, x2, x3, x4, x5, x6, x7, x8, x9, x10⟩ := X x hx
      obtain ⟨p, hp⟩ := x2 c x3
      have e : mGain (mBegin x) c = nI 0 := by unfold mGain; exact if_pos (x6.trans hg)
      exact ⟨_, x9, fun hh => by rw [← e]; exact cm_tc_6 G a1 a2 a3 a4 a5 fo ft fe gt a6 re x hh x1 c x3 p hp⟩
    · refine ⟨-1, fun G fo ft fe gt re m2 hh hf => ⟨fe, gt, hf, ?_⟩, fun G a1 a2 a3 a4 a5 fo ft fe gt a6 re x hx => ?_⟩
      · rcases (show w = 5 ∨ w = 7 ∨ w = 8 ∨ w = 10 ∨ w = 11 ∨ w = 12 by omega) with z | z | z | z | z | z <;> subst z
        · exact c_cart_5g G pg nw kp sn ks fo ft fe gt mx re m2 hh hO c hc hg
        · exact c_cart_7g G pg nw kp sn ks fo ft fe gt mx re m2 hh hO c hc hg
        · exact c_cart_8g G pg nw kp sn ks fo ft fe gt mx re m2 hh hO c hc hg
        · exact c_cart_10g G pg nw kp sn ks fo ft fe gt mx re m2 hh hO c hc hg
        · exact c_cart_11g G pg nw kp sn ks fo ft fe gt mx re m2 hh hO c hc hg
        · exact c_cart_12g G pg nw kp sn ks fo ft fe gt mx re m2 hh hO c hc hg
      · obtain ⟨x1, x2, x3, x4, x5, x6, x7, x8, x9, x10⟩ := X x hx
        have hg2 := x6.trans hg
        refine ⟨_, x9, fun hh => ?_⟩
        rcases (show w = 5 ∨ w = 7 ∨ w = 8 ∨ w = 10 ∨ w = 11 ∨ w = 12 by omega) with z | z | z | z | z | z <;> subst z
        · exact cm_tc_5g G a1 a2 a3 a4 a5 fo ft fe gt a6 re x hh x1 c x3 hg2
        · exact cm_tc_7g G a1 a2 a3 a4 a5 fo ft fe gt a6 re x hh x1 c x3 hg2
        · exact cm_tc_8g G a1 a2 a3 a4 a5 fo ft fe gt a6 re x hh x1 c x3 hg2
        · exact cm_tc_10g G a1 a2 a3 a4 a5 fo ft fe gt a6 re x hh x1 c x3 hg2
        · exact cm_tc_11g G a1 a2 a3 a4 a5 fo ft fe gt a6 re x hh x1 c x3 hg2
        · exact cm_tc_12g G a1 a2 a3 a4 a5 fo ft fe gt a6 re x hh x1 c x3 hg2
  · obtain ⟨p, -, hp, -⟩ := qPlace hq (c := c) (by show c < rN m 5; omega) (by rw [show rF (mBegin m) 17 c = rF m 14 c from rfl, (J_kd hJ hc).2.2.1]; exact hg)
    have Y : ∀ x, mP x m → ∃ q, mFind x c = some q ∧ mOn (mBegin x) c 0 = rA nw 10 (rA nw 6 c) - 1 - p ∧ mGain (mBegin x) c = bGainAt nw (rA nw 6 c) p := fun x hx => by
      obtain ⟨x1, x2, x3, x4, x5, x6, x7, x8, x9, x10⟩ := X x hx
      obtain ⟨p2, q, f1, f2, f3, f4⟩ := qPlace x10.1 (c := c) x3 (by rw [show rF (mBegin x) 17 c = rF x 14 c from rfl, x6]; exact hg)
      have ep : p2 = p := Option.some.inj (f1.symm.trans hp)
      rw [ep] at f3 f4
      exact ⟨q, f2, f3, f4⟩
    by_cases w5 : w = 5
    · subst w5
      refine ⟨_, fun G fo ft fe gt re m2 hh hf => ⟨fe, gt, hf, c_cart_5a G pg nw kp sn ks fo ft fe gt mx re m2 hh hO c hc hg p hp⟩, fun G a1 a2 a3 a4 a5 fo ft fe gt a6 re x hx => ?_⟩
      obtain ⟨x1, x2, x3, x4, x5, x6, x7, x8, x9, x10⟩ := X x hx
      obtain ⟨q, y1, y2, y3⟩ := Y x hx
      exact ⟨_, x9, fun hh => by rw [← y2]; exact cm_tc_5a G a1 a2 a3 a4 a5 fo ft fe gt a6 re x hh x1 c x3 (by rw [x6]; exact hg) q y1⟩
    by_cases w6 : w = 6
    · subst w6
      refine ⟨_, fun G fo ft fe gt re m2 hh hf => ⟨fe, gt, hf, c_cart_6a G pg nw kp sn ks fo ft fe gt mx re m2 hh hO c hc hg p hp⟩, fun G a1 a2 a3 a4 a5 fo ft fe gt a6 re x hx => ?_⟩
      obtain ⟨x1, x2, x3, x4, x5, x6, x7, x8, x9, x10⟩ := X x hx
      obtain ⟨q, y1, y2, y3⟩ := Y x hx
      exact ⟨_, x9, fun hh => by rw [← y3]; exact cm_tc_6 G a1 a2 a3 a4 a5 fo ft fe gt a6 re x hh x1 c x3 q y1⟩
    have hs : sOK sn := hJ.2.1.2.2.2.2.2.2.2.2.1
    obtain ⟨g1, g2, -, -, g5⟩ := feelAll hJ.2.1 (c := c) (by omega) z0 z0 feOK_0
    have eqW : ∀ gt fe, feOK fe → gWets sn (gAll nw c (gt, fe)).2 c = gWets sn (gAll nw c (z0, z0)).2 c := fun gt fe hf => by
      rw [(feelAll hJ.2.1 (c := c) (by omega) gt fe hf).2.1, g2]
    by_cases w7 : w = 7
    · subst w7
      refine ⟨nI (gWets sn (gAll nw c (z0, z0)).2 c), fun G fo ft fe gt re m2 hh hf => ⟨(gAll nw c (gt, fe)).2, (gAll nw c (gt, fe)).1, (feelAll hJ.2.1 (c := c) (by omega) gt fe hf).1, ?_⟩, fun G a1 a2 a3 a4 a5 fo ft fe gt a6 re x hx => ?_⟩
      · rw [← eqW gt fe hf]
        exact c_cart_7a G pg nw kp sn ks fo ft fe gt mx re m2 hh hO c hc hg hs
      · obtain ⟨x1, x2, x3, x4, x5, x6, x7, x8, x9, x10⟩ := X x hx
        obtain ⟨-, k2, k3, k4, -⟩ := feelAll x10 (c := c) x3 z0 z0 feOK_0
        refine ⟨_, mP_trans k4 hx, fun hh => ?_⟩
        rw [k2]
        exact cm_tc_7a G a1 a2 a3 a4 a5 fo ft fe gt a6 re x hh x1 c x3 (by rw [x6]; exact hg) x2 (rA sn 1) k3
    by_cases w8 : w = 8
    · subst w8
      by_cases hz : gWets sn (gAll nw c (z0, z0)).2 c = 0
      · refine ⟨-1, fun G fo ft fe gt re m2 hh hf => ⟨(gAll nw c (gt, fe)).2, (gAll nw c (gt, fe)).1, (feelAll hJ.2.1 (c := c) (by omega) gt fe hf).1, ?_⟩, fun G a1 a2 a3 a4 a5 fo ft fe gt a6 re x hx => ?_⟩
        · exact c_cart_8a G pg nw kp sn ks fo ft fe gt mx re m2 hh hO c hc hg hs (by rw [eqW gt fe hf]; exact hz)
        · obtain ⟨x1, x2, x3, x4, x5, x6, x7, x8, x9, x10⟩ := X x hx
          obtain ⟨-, k2, k3, k4, -⟩ := feelAll x10 (c := c) x3 z0 z0 feOK_0
          refine ⟨_, mP_trans k4 hx, fun hh => ?_⟩
          exact cm_tc_8a G a1 a2 a3 a4 a5 fo ft fe gt a6 re x hh x1 c x3 (by rw [x6]; exact hg) x2 (rA sn 1) k3 (by rw [← k2]; exact hz)
      · have hwn : ∀ gt fe, feOK fe → ∃ wn : Nat → Nat, ∀ j, rF (gAll nw c (gt, fe)).2 1 j = nI (wn j) ∧ wn j ≤ 30 := fun gt fe hf => by
          refine ⟨fun j => (rF (gAll nw c (gt, fe)).2 1 j).toNatClampNeg, fun j => ?_⟩
          obtain ⟨v, v1, v2⟩ := (feelAll hJ.2.1 (c := c) (by omega) gt fe hf).1 j
          show rF (gAll nw c (gt, fe)).2 1 j = nI (rF (gAll nw c (gt, fe)).2 1 j).toNatClampNeg ∧ (rF (gAll nw c (gt, fe)).2 1 j).toNatClampNeg ≤ 30
          rw [v2, nI_clamp (by omega)]
          exact ⟨rfl, v1⟩
        obtain ⟨wn0, hwn0⟩ := hwn z0 z0 feOK_0
        have ht : gWets sn (gAll nw c (z0, z0)).2 c < 2 ^ 30 := gWets_lt _ _ _
        refine ⟨(gBest (gWets sn (gAll nw c (z0, z0)).2 c) wn0 (gAll nw c (z0, z0)).2).1, fun G fo ft fe gt re m2 hh hf => ?_, fun G a1 a2 a3 a4 a5 fo ft fe gt a6 re x hx => ?_⟩
        · obtain ⟨wn, hwn1⟩ := hwn gt fe hf
          obtain ⟨-, -, -, -, k5⟩ := feelAll hJ.2.1 (c := c) (by omega) gt fe hf
          obtain ⟨k6, k7⟩ := k5 (gWets sn (gAll nw c (z0, z0)).2 c) wn hwn1
          refine ⟨_, (gAll nw c (gt, fe)).1, k7, ?_⟩
          rw [(g5 (gWets sn (gAll nw c (z0, z0)).2 c) wn0 hwn0).1, ← k6]
          exact c_cart_8b G pg nw kp sn ks fo ft fe gt mx re m2 hh hO c hc hg hs _ (by omega) (eqW gt fe hf) hz wn hwn1
        · obtain ⟨x1, x2, x3, x4, x5, x6, x7, x8, x9, x10⟩ := X x hx
          obtain ⟨-, k2, k3, k4, k5⟩ := feelAll x10 (c := c) x3 z0 z0 feOK_0
          refine ⟨_, mP_trans k4 hx, fun hh => ?_⟩
          rw [(k5 (gWets sn (gAll nw c (z0, z0)).2 c) wn0 hwn0).1]
          exact cm_tc_8b G a1 a2 a3 a4 a5 fo ft fe gt a6 re x hh x1 c x3 (by rw [x6]; exact hg) x2 (rA sn 1) k3 _ ht k2.symm hz
    rcases (show w = 10 ∨ w = 11 ∨ w = 12 by omega) with z | z | z <;> subst z
    · refine ⟨_, fun G fo ft fe gt re m2 hh hf => ⟨fe, gt, hf, c_cart_10a G pg nw kp sn ks fo ft fe gt mx re m2 hh hO c hc hg⟩, fun G a1 a2 a3 a4 a5 fo ft fe gt a6 re x hx => ?_⟩
      obtain ⟨x1, x2, x3, x4, x5, x6, x7, x8, x9, x10⟩ := X x hx
      exact ⟨_, x9, fun hh => by rw [lt_le_min, ← x4, ← x6]; exact cm_tc_10a G a1 a2 a3 a4 a5 fo ft fe gt a6 re x hh x1 c x3 (by rw [x6]; exact hg)⟩
    · refine ⟨_, fun G fo ft fe gt re m2 hh hf => ⟨fe, gt, hf, c_cart_11a G pg nw kp sn ks fo ft fe gt mx re m2 hh hO c hc hg⟩, fun G a1 a2 a3 a4 a5 fo ft fe gt a6 re x hx => ?_⟩
      obtain ⟨x1, x2, x3, x4, x5, x6, x7, x8, x9, x10⟩ := X x hx
      exact ⟨_, x9, fun hh => by rw [lt_le_min, ← x4, ← x6]; exact cm_tc_11a G a1 a2 a3 a4 a5 fo ft fe gt a6 re x hh x1 c x3 (by rw [x6]; exact hg)⟩
    · refine ⟨_, fun G fo ft fe gt re m2 hh hf => ⟨fe, gt, hf, c_cart_12a G pg nw kp sn ks fo ft fe gt mx re m2 hh hO c hc hg⟩, fun G a1 a2 a3 a4 a5 fo ft fe gt a6 re x hx => ?_⟩
      obtain ⟨x1, x2, x3, x4, x5, x6, x7, x8, x9, x10⟩ := X x hx
      exact ⟨_, x9, fun hh => by rw [lt_le_min, ← x4, ← x6]; exact cm_tc_12a G a1 a2 a3 a4 a5 fo ft fe gt a6 re x hh x1 c x3 (by rw [x6]; exact hg)⟩
end
