section
set_option maxRecDepth 20000 in
theorem qL_get (h : Nat → Nat) : ∀ (n i p : Nat), (qL h i n)[p]? = if p < n then some (h (i + p)) else none
  | 0, i, p => by rw [if_neg (by omega)]; rfl
  | n + 1, i, 0 => by rw [if_pos (by omega)]; rfl
  | n + 1, i, p + 1 => by
    rw [qL, List.getElem?_cons_succ, qL_get h n (i + 1) p, show i + 1 + p = i + (p + 1) by omega]
    by_cases z : p < n
    · rw [if_pos z, if_pos (by omega)]
    · rw [if_neg z, if_neg (by omega)]
set_option maxRecDepth 20000 in
theorem fsum_f (l : Nat → Int32) : ∀ (M : List Nat) (y : Int32), (M.filter (qa l)).foldl (fun y c => y + l c) y = M.foldl (fun y c => y + l c) y
  | [], _ => rfl
  | a :: M, y => by
    rw [List.filter_cons, List.foldl_cons]
    by_cases e : l a = 0
    · rw [if_neg (by simp [qa, e]), e, fsum_f l M y]
      rw [show y + 0 = y by simp]
    · rw [if_pos (by simp [qa, e]), List.foldl_cons, fsum_f l M _]
set_option maxRecDepth 20000 in
theorem qL_nd (h : Nat → Nat) (hi : ∀ a b, h a = h b → a = b) : ∀ (n i : Nat), (qL h i n).Nodup
  | 0, _ => List.nodup_nil
  | n + 1, i => by
    rw [qL, List.nodup_cons]
    refine ⟨fun q => ?_, qL_nd h hi n (i + 1)⟩
    obtain ⟨p, p1, -, p3⟩ := (qL_mem h _ _ _).mp q
    have := hi _ _ p3
    omega
set_option maxRecDepth 20000 in
theorem flt_split (f : Nat → Nat) (j : Nat) : ∀ (L : List Nat), (L.filter (fun c => decide (f c < j + 1))).length = (L.filter (fun c => decide (f c < j))).length + (L.filter (fun c => decide (f c = j))).length
  | [] => rfl
  | a :: L => by
    rw [List.filter_cons, List.filter_cons, List.filter_cons]
    have ih := flt_split f j L
    by_cases z : f a < j
    · rw [if_pos (decide_eq_true (by omega)), if_pos (decide_eq_true z), if_neg (by simp; omega), List.length_cons, List.length_cons]; omega
    · by_cases y : f a = j
      · rw [if_pos (decide_eq_true (by omega)), if_neg (by simp; omega), if_pos (decide_eq_true y), List.length_cons, List.length_cons]; omega
      · rw [if_neg (by simp; omega), if_neg (by simp; omega), if_neg (by simp [y])]; exact ih
set_option maxRecDepth 20000 in
theorem qLie_eq {s x : zs} (h : qQ s x) : bLie s = ((qL (fun p => p) 0 (rN x 5)).filter (qa (rF x 17))).length := by
  obtain ⟨hO, hM, hS, hv, hw, hB⟩ := h
  have hnd : ((qL (fun p => p) 0 (rN x 5)).filter (qa (rF x 17))).Nodup := (qL_nd (fun p => p) (fun _ _ e => e) _ _).filter _
  have key : ∀ (n i : Nat), i + n ≤ rN x 4 → zfw (fun b k => k + rA s 10 b) i n (((qL (fun p => p) 0 (rN x 5)).filter (qa (rF x 17))).filter (fun c => decide (rA x 11 c < i))).length = (((qL (fun p => p) 0 (rN x 5)).filter (qa (rF x 17))).filter (fun c => decide (rA x 11 c < i + n))).length := by
    intro n
    induction n with
    | zero => intro i _; rfl
    | succ n ih =>
      intro i hi
      have e1 : rA s 10 i = (((qL (fun p => p) 0 (rN x 5)).filter (qa (rF x 17))).filter (fun c => decide (rA x 11 c = i))).length := by
        rw [← sl_len, (hB i (by omega)).2]
        refine List.Perm.length_eq ((List.perm_ext_iff_of_nodup ((hM.2.1 i (by omega)).filter _) (hnd.filter _)).mpr (fun c => ?_))
        rw [List.mem_filter, List.mem_filter, List.mem_filter, qL_mem]
        constructor
        · rintro ⟨a, b⟩
          have z := hM.2.2.1 i c (by omega) a
          exact ⟨⟨⟨c, by omega, by omega, rfl⟩, b⟩, decide_eq_true z.2⟩
        · rintro ⟨⟨⟨p, p1, p2, p3⟩, b⟩, d⟩
          have hc : c < rN x 5 := by omega
          have z := (hM.2.2.2 c hc).2
          rw [of_decide_eq_true d] at z
          exact ⟨z, b⟩
      rw [zfw, show i + (n + 1) = (i + 1) + n by omega, ← ih (i + 1) (by omega), flt_split (rA x 11) i, e1]
  unfold bLie
  rw [← hS.1]
  have k0 := key (rN x 4) 0 (by omega)
  rw [List.filter_eq_nil_iff.mpr (fun c _ => by simp), Nat.zero_add] at k0
  refine Eq.trans (show zfw (fun b x => x + rA s 10 b) 0 (rN x 4) 0 = _ from k0) ?_
  refine congrArg List.length (List.filter_eq_self.mpr (fun c hc => decide_eq_true ?_))
  obtain ⟨p, -, p2, p3⟩ := (qL_mem _ c _ _).mp (List.mem_filter.mp hc).1
  exact (hM.2.2.2 c (by omega)).1
set_option maxRecDepth 20000 in
theorem val_bay {i : Nat} {pg nw kp sn ks mx m : zs} (hJ : J i pg nw kp sn ks mx m) {b w : Nat} (hb : b < rN nw 0) (hw : w ≤ 12) (h9 : w < 5 ∨ 9 < w) : ∃ v : Int32, (∀ (G : zG) (fo ft fe gt : zs) (re : Nat → Int64) (m2 : zs) (hh : Int64), ∃ t, zK G mX7_bay [.ref 0, .int (nI b), .int (nI w)] (wW pg nw kp sn ks fo ft fe gt mx re m2 hh) (some (.int v)) (wW pg nw kp sn ks fo t fe gt mx re m2 hh)) ∧ (∀ (G : zG) (pg2 nw2 kp2 sn2 ks2 fo ft fe gt mx2 : zs) (re : Nat → Int64) (x : zs), mP x m → ∃ t, mP t m ∧ ∀ hh, zK G mX8_tellBay [.ref 49, .int (nI b), .int (nI w)] (wW pg2 nw2 kp2 sn2 ks2 fo ft fe gt mx2 re x hh) (some (.int v)) (wW pg2 nw2 kp2 sn2 ks2 fo ft fe gt mx2 re t hh)) := by
  obtain ⟨n4, n5, hO, hM, hH, hq⟩ := J_n hJ
  have X : ∀ x, mP x m → mOK x ∧ mHP x ∧ b < rN x 4 ∧ mP (mBegin x) m ∧ qQ nw (mBegin x) := fun x hx => by
    obtain ⟨a4, -, -, a1, a2, a3⟩ := J_n (J_P hJ hx)
    exact ⟨a1, a2, by omega, mP_trans (mP_begin x) hx, a3⟩
  have hL : ∀ x, mP x m → ma0 x b = sl nw b := fun x hx => by
    obtain ⟨-, -, x3, -, x5⟩ := X x hx
    rw [(x5.2.2.2.2.2 b x3).2]
    rfl
  have hAt : ∀ x, mP x m → ∀ p, oI (mAt x b p) = bAt nw b p := fun x hx p => by
    obtain ⟨-, -, x3, -, x5⟩ := X x hx
    rw [mAt_L (show qV (rF x 14) from x5.2.2.2.1), hL x hx]
    unfold sl bAt
    rw [qL_get]
    by_cases z : p < rA nw 10 b
    · rw [if_pos z, if_pos z, Nat.zero_add]; rfl
    · rw [if_neg z, if_neg z]; rfl
  have S : ∀ x, mP x m → ∀ ft, (fSafe nw ft b).1 = (fSafe nw z0 b).1 := fun x hx ft => by
    obtain ⟨-, -, x3, -, x5⟩ := X x hx
    have e1 := (qSafe (ft := ft) x5 x3).2.2.2.2.1
    have e2 := (qSafe (ft := z0) x5 x3).2.2.2.2.1
    exact Option.some.inj (e1.symm.trans e2)
  rcases (show w = 0 ∨ w = 1 ∨ w = 2 ∨ w = 3 ∨ w = 4 ∨ w = 10 ∨ w = 11 ∨ w = 12 by omega) with z | z | z | z | z | z | z | z <;> subst z
  · refine ⟨_, fun G fo ft fe gt re m2 hh => ⟨ft, c_bay_0 G pg nw kp sn ks fo ft fe gt mx re m2 hh hO b hb⟩, fun G a1 a2 a3 a4 a5 fo ft fe gt a6 re x hx => ?_⟩
    obtain ⟨x1, x2, x3, x4, x5⟩ := X x hx
    have e : mMany x b = rA nw 10 b := by rw [mMany_L (show qV (rF x 14) from x5.2.2.2.1), hL x hx, sl_len]
    exact ⟨_, x4, fun hh => by rw [← e]; exact cm_tb_0 G a1 a2 a3 a4 a5 fo ft fe gt a6 re x hh x1 b x3⟩
  · refine ⟨_, fun G fo ft fe gt re m2 hh => ⟨ft, c_bay_1 G pg nw kp sn ks fo ft fe gt mx re m2 hh hO b hb⟩, fun G a1 a2 a3 a4 a5 fo ft fe gt a6 re x hx => ?_⟩
    obtain ⟨x1, x2, x3, x4, x5⟩ := X x hx
    have e : bTop nw b = oI (mTop (mBegin x) b) := by
      rw [qTop_eq x5 x3]
      unfold bTop
      by_cases y : rA nw 10 b = 0
      · rw [if_pos y, if_pos y]; rfl
      · rw [if_neg y, if_neg y]; rfl
    exact ⟨_, x4, fun hh => by rw [e]; exact cm_tb_1 G a1 a2 a3 a4 a5 fo ft fe gt a6 re x hh x1 b x3⟩
  · refine ⟨_, fun G fo ft fe gt re m2 hh => ⟨ft, c_bay_2 G pg nw kp sn ks fo ft fe gt mx re m2 hh hO b hb⟩, fun G a1 a2 a3 a4 a5 fo ft fe gt a6 re x hx => ?_⟩
    obtain ⟨x1, x2, x3, x4, x5⟩ := X x hx
    have e : bLightOf nw b = mLI x b := by
      have e1 : bLightOf nw b = (sl nw b).foldl (fun y c => y + rF nw 7 c) (nI 0) := zfw_L (fun c x => x + rF nw 7 c) (fun p => rA nw 11 (b * 3 + p)) _ _ _
      have e2 : mLI x b = (ml x b).foldl (fun y c => y + rF x 14 c) (nI 0) := zfw_L (fun c y => y + rF x 14 c) (fun p => rA x 13 (4 * b + p)) _ _ _
      rw [e1, e2, ← fsum_f (rF x 14) (ml x b), show (ml x b).filter (qa (rF x 14)) = sl nw b from hL x hx]
      refine fsum_cg _ _ (fun c hc => ?_)
      rw [(x5.2.2.2.2.2 b x3).2] at hc
      exact (((x5.2.2.2.2.2 b x3).1 c (ma_in hc)).1).symm
    exact ⟨_, x4, fun hh => by rw [e]; exact cm_tb_2 G a1 a2 a3 a4 a5 fo ft fe gt a6 re x hh x1 b x3⟩
  · refine ⟨nI (fSafe nw z0 b).1, fun G fo ft fe gt re m2 hh => ⟨_, by rw [← S m (mP_refl m) ft]; exact c_bay_3 G pg nw kp sn ks fo ft fe gt mx re m2 hh hO b hb⟩, fun G a1 a2 a3 a4 a5 fo ft fe gt a6 re x hx => ?_⟩
    obtain ⟨x1, x2, x3, x4, x5⟩ := X x hx
    obtain ⟨s1, s2, s3, s4, s5, s6, s7, s8⟩ := qSafe (ft := z0) x5 x3
    have e : nI (fSafe nw z0 b).1 = oI (mSafe (mBegin x) b).1 := by rw [s5]; rfl
    exact ⟨_, mP_trans (mP0_P s4) x4, fun hh => by rw [e]; exact cm_tb_3 G a1 a2 a3 a4 a5 fo ft fe gt a6 re x hh x1 b x3 x2 s2 s3⟩
  · have h8 : ∀ ft, (fSafe nw ft b).1 < 2 ^ 30 := fun ft => by
      have := (qSafe (ft := ft) hq (b := b) (by omega)).2.2.2.2.2.1
      omega
    refine ⟨bLightSome nw b (fSafe nw z0 b).1, fun G fo ft fe gt re m2 hh => ⟨_, by rw [← S m (mP_refl m) ft]; exact c_bay_4 G pg nw kp sn ks fo ft fe gt mx re m2 hh hO b hb (h8 ft)⟩, fun G a1 a2 a3 a4 a5 fo ft fe gt a6 re x hx => ?_⟩
    obtain ⟨x1, x2, x3, x4, x5⟩ := X x hx
    obtain ⟨s1, s2, s3, s4, s5, s6, s7, s8⟩ := qSafe (ft := z0) x5 x3
    have hm2 : mOK (mSafe (mBegin x) b).2 := mOK_of x5.2.1.1 s4.1 (fun k _ => s4.2.1 k)
    exact ⟨_, mP_trans (mP0_P s4) x4, fun hh => by rw [← s8]; exact cm_tb_4 G a1 a2 a3 a4 a5 fo ft fe gt a6 re x hh x1 b x3 x2 s2 s3 _ (h8 z0) s5 hm2 s7⟩
  · refine ⟨_, fun G fo ft fe gt re m2 hh => ⟨ft, c_bay_10 G pg nw kp sn ks fo ft fe gt mx re m2 hh hO b hb⟩, fun G a1 a2 a3 a4 a5 fo ft fe gt a6 re x hx => ?_⟩
    obtain ⟨x1, x2, x3, x4, x5⟩ := X x hx
    exact ⟨x, hx, fun hh => by rw [← hAt x hx]; exact cm_tb_10 G a1 a2 a3 a4 a5 fo ft fe gt a6 re x hh x1 b x3⟩
  · refine ⟨_, fun G fo ft fe gt re m2 hh => ⟨ft, c_bay_11 G pg nw kp sn ks fo ft fe gt mx re m2 hh hO b hb⟩, fun G a1 a2 a3 a4 a5 fo ft fe gt a6 re x hx => ?_⟩
    obtain ⟨x1, x2, x3, x4, x5⟩ := X x hx
    exact ⟨x, hx, fun hh => by rw [← hAt x hx]; exact cm_tb_11 G a1 a2 a3 a4 a5 fo ft fe gt a6 re x hh x1 b x3⟩
  · refine ⟨_, fun G fo ft fe gt re m2 hh => ⟨ft, c_bay_12 G pg nw kp sn ks fo ft fe gt mx re m2 hh hO b hb⟩, fun G a1 a2 a3 a4 a5 fo ft fe gt a6 re x hx => ?_⟩
    obtain ⟨x1, x2, x3, x4, x5⟩ := X x hx
    exact ⟨x, hx, fun hh => by rw [← hAt x hx]; exact cm_tb_12 G a1 a2 a3 a4 a5 fo ft fe gt a6 re x hh x1 b x3⟩
set_option maxRecDepth 20000 in
theorem val_count {i : Nat} {pg nw kp sn ks mx m : zs} (hJ : J i pg nw kp sn ks mx m) (w : Nat) : xCount pg nw sn mx w = mCount m w := by
  obtain ⟨n4, n5, hO, hM, hH, hq⟩ := J_n hJ
  have hl := hJ.2.1
  have cell : ∀ c, c < rN nw 1 → rF m 14 c = rF nw 7 c ∧ rF m 15 c = rF nw 8 c ∧ rF m 16 c = rF nw 9 c := fun c hc => (J_kd hJ hc).2.2
  have e2 : bLie nw = mTh m := by
    rw [qLie_eq hq]
    unfold mTh mThF
    rw [mCnt_L (f := rF m 14) (h := fun p => p) (show qV (rF m 14) from hq.2.2.2.1), Nat.zero_add]
    rfl
  have e3 : bLightAll nw = mSsl m := by
    unfold bLightAll mSsl
    rw [n5]
    exact zfw_cg _ 0 _ (fun c y _ h2 => by rw [(cell c (by omega)).1])
  have e4 : bWetAll nw = mSsw m := by
    unfold bWetAll mSsw
    rw [n5]
    exact zfw_cg _ 0 _ (fun c y _ h2 => by rw [(cell c (by omega)).2.1])
  have e5 : bMostWarm nw = mWm m := by
    unfold bMostWarm mWm
    rw [n5]
    refine zfw_cg _ 0 _ (fun c y _ h2 => ?_)
    unfold mWmF
    rw [(cell c (by omega)).2.2]
    by_cases z : y < rF nw 9 c
    · rw [if_pos z, if_neg (Int32.not_le.mpr z)]
    · rw [if_neg z, if_pos (Int32.not_lt.mp z)]
  unfold xCount mCount
  rw [n4, n5, e2, e3, e4, e5, hl.2.2.2.1, hl.2.2.2.2.2.1, hl.2.2.2.2.2.2.1, hl.2.2.2.2.2.2.2.2.2.1, hJ.1.1, hJ.2.2.1.1, hJ.2.2.2.1.1]
set_option maxRecDepth 20000 in
theorem st_count (G : zG) (i : Nat) (w : zh) (h : Gd i w) (k : Int32) : Oki G i mX7_count mX8_count [.int k] w := by
  obtain ⟨pg, nw, kp, sn, ks, fo, ft, fe, gt, mx, re, m, hh, rfl, hJ, hf⟩ := h
  obtain ⟨n4, n5, hO, hM, hH, hq⟩ := J_n hJ
  by_cases q1 : ∃ j, j ≤ 12 ∧ k = nI j
  · obtain ⟨j, hj, e⟩ := q1
    subst e
    have hc := c_count G pg nw kp sn ks fo ft fe gt mx re m hh hO j hj
    rw [val_count hJ] at hc
    exact Ok_mk _ hc (cm_countX G _ nw kp sn ks fo ft fe gt mx re m hh _ _ (cm_countOf G _ nw kp sn ks fo ft fe gt mx re m hh hM j hj)) (J_s hJ) hf
  · have q2 : ∀ j, j ≤ 12 → ¬ k = nI j := fun j hj e => q1 ⟨j, hj, e⟩
    exact Ok_mk _ (c_countO G pg nw kp sn ks fo ft fe gt mx re m hh k q2) (cm_countX G _ nw kp sn ks fo ft fe gt mx re m hh _ _ (cm_countO G _ nw kp sn ks fo ft fe gt mx re m hh k q2)) (J_s hJ) hf
set_option maxRecDepth 20000 in
theorem st_cart (G : zG) (i : Nat) (w : zh) (h : Gd i w) (k q : Int32) : Oki G i mX7_cart mX8_cart [.int k, .int q] w := by
  obtain ⟨pg, nw, kp, sn, ks, fo, ft, fe, gt, mx, re, m, hh, rfl, hJ, hf⟩ := h
  obtain ⟨n4, n5, hO, hM, hH, hq⟩ := J_n hJ
  by_cases q1 : xNo k (rN nw 1) = true
  · exact Ok_mk _ (c_cart0 G pg nw kp sn ks fo ft fe gt mx re m hh k q q1) (cm_cart0 G _ nw kp sn ks fo ft fe gt mx re m hh hM k q (by rw [n5]; exact q1)) (J_s hJ) hf
  · obtain ⟨c, hc, e⟩ := xNo_e q1
    subst e
    by_cases q2 : ∃ j, j ≤ 12 ∧ ¬ j = 9 ∧ q = nI j
    · obtain ⟨j, hj, h9, e⟩ := q2
      subst e
      obtain ⟨v, v1, v2⟩ := val_cart hJ hc hj h9
      obtain ⟨e, g, f1, f2⟩ := v1 G fo ft fe gt re m hh hf
      obtain ⟨t, t1, t2⟩ := v2 G pg nw kp sn ks fo ft e g mx re m (mP_refl m)
      exact Ok_mk _ f2 (cm_cartX G _ nw kp sn ks fo ft e g mx re m hh hM c (by omega) _ v t (t2 hh)) (J_s (J_P hJ t1)) f1
    · have hx : xIn q 10 12 = false := by
        refine xIn_f (fun z => ?_)
        obtain ⟨j, j1, j2, e⟩ := xIn_e z (by decide) (by decide)
        exact q2 ⟨j, by omega, by omega, e⟩
      have h8 : ∀ j, j ≤ 8 → ¬ q = nI j := fun j hj e => q2 ⟨j, by omega, by omega, e⟩
      have hcl : zK G mX7_cart [.ref 0, .int (nI c), .int q] (wW pg nw kp sn ks fo ft fe gt mx re m hh) (some (.int (-102))) (wW pg nw kp sn ks fo ft fe gt mx re m hh) := by
        by_cases z : q = nI 9
        · rw [z]; exact c_cart_9 G pg nw kp sn ks fo ft fe gt mx re m hh hO c hc
        · refine c_cart_O G pg nw kp sn ks fo ft fe gt mx re m hh hO c hc q (fun j hj e => ?_)
          by_cases y : j = 9
          · rw [y] at e; exact z e
          · exact q2 ⟨j, hj, y, e⟩
      exact Ok_mk _ hcl (cm_cartX G _ nw kp sn ks fo ft fe gt mx re m hh hM c (by omega) q _ _ (cm_tc_O G _ nw kp sn ks fo ft fe gt mx re m hh hM c (by omega) q hx h8)) (J_s (J_P hJ (mP_begin m))) hf
set_option maxRecDepth 20000 in
theorem st_bay (G : zG) (i : Nat) (w : zh) (h : Gd i w) (k q : Int32) : Oki G i mX7_bay mX8_bay [.int k, .int q] w := by
  obtain ⟨pg, nw, kp, sn, ks, fo, ft, fe, gt, mx, re, m, hh, rfl, hJ, hf⟩ := h
  obtain ⟨n4, n5, hO, hM, hH, hq⟩ := J_n hJ
  by_cases q1 : xNo k (rN nw 0) = true
  · exact Ok_mk _ (c_bay0 G pg nw kp sn ks fo ft fe gt mx re m hh k q q1) (cm_bay0 G _ nw kp sn ks fo ft fe gt mx re m hh hM k q (by rw [n4]; exact q1)) (J_s hJ) hf
  · obtain ⟨c, hc, e⟩ := xNo_e q1
    subst e
    by_cases q2 : ∃ j, j ≤ 12 ∧ (j < 5 ∨ 9 < j) ∧ q = nI j
    · obtain ⟨j, hj, h9, e⟩ := q2
      subst e
      obtain ⟨v, v1, v2⟩ := val_bay hJ hc hj h9
      obtain ⟨b, f2⟩ := v1 G fo ft fe gt re m hh
      obtain ⟨t, t1, t2⟩ := v2 G pg nw kp sn ks fo b fe gt mx re m (mP_refl m)
      exact Ok_mk _ f2 (cm_bayX G _ nw kp sn ks fo b fe gt mx re m hh hM c (by omega) _ v t (t2 hh)) (J_s (J_P hJ t1)) hf
    · have hx : xIn q 10 12 = false := by
        refine xIn_f (fun z => ?_)
        obtain ⟨j, j1, j2, e⟩ := xIn_e z (by decide) (by decide)
        exact q2 ⟨j, by omega, by omega, e⟩
      have h8 : ∀ j, j ≤ 4 → ¬ q = nI j := fun j hj e => q2 ⟨j, by omega, by omega, e⟩
      have hcl : zK G mX7_bay [.ref 0, .int (nI c), .int q] (wW pg nw kp sn ks fo ft fe gt mx re m hh) (some (.int (-102))) (wW pg nw kp sn ks fo ft fe gt mx re m hh) := by
        by_cases z5 : q = nI 5
        · rw [z5]; exact c_bay_5 G pg nw kp sn ks fo ft fe gt mx re m hh hO c hc
        by_cases z6 : q = nI 6
        · rw [z6]; exact c_bay_6 G pg nw kp sn ks fo ft fe gt mx re m hh hO c hc
        by_cases z7 : q = nI 7
        · rw [z7]; exact c_bay_7 G pg nw kp sn ks fo ft fe gt mx re m hh hO c hc
        by_cases z8 : q = nI 8
        · rw [z8]; exact c_bay_8 G pg nw kp sn ks fo ft fe gt mx re m hh hO c hc
        by_cases z9 : q = nI 9
        · rw [z9]; exact c_bay_9 G pg nw kp sn ks fo ft fe gt mx re m hh hO c hc
        refine c_bay_O G pg nw kp sn ks fo ft fe gt mx re m hh hO c hc q (fun j hj e => ?_)
        rcases (show j = 5 ∨ j = 6 ∨ j = 7 ∨ j = 8 ∨ j = 9 ∨ (j < 5 ∨ 9 < j) by omega) with y | y | y | y | y | y
        · rw [y] at e; exact z5 e
        · rw [y] at e; exact z6 e
        · rw [y] at e; exact z7 e
        · rw [y] at e; exact z8 e
        · rw [y] at e; exact z9 e
        · exact q2 ⟨j, hj, y, e⟩
      exact Ok_mk _ hcl (cm_bayX G _ nw kp sn ks fo ft fe gt mx re m hh hM c (by omega) q _ _ (cm_tb_O G _ nw kp sn ks fo ft fe gt mx re m hh hM c (by omega) q hx h8)) (J_s (J_P hJ (mP_begin m))) hf
end
