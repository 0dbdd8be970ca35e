section
def qT (f : Nat → Int32) : Nat → Nat
  | 0 => 0
  | n + 1 => qT f n + (f n).toNatClampNeg
set_option maxRecDepth 20000 in
theorem qT_le {f : Nat → Int32} (h : qV f) : ∀ n, qT f n ≤ 9 * n
  | 0 => Nat.le_refl _
  | n + 1 => by
    have h1 := qT_le h n
    obtain ⟨a, ha, e⟩ := h n
    rw [qT, e, nI_clamp (by omega)]
    omega
set_option maxRecDepth 20000 in
theorem qT_cg {f g : Nat → Int32} : ∀ n, (∀ c, c < n → g c = f c) → qT g n = qT f n
  | 0, _ => Eq.trans (show qT g 0 = 0 from rfl) (show 0 = qT f 0 from rfl)
  | n + 1, h => by rw [qT, qT, h n (by omega), qT_cg n (fun c hc => h c (by omega))]
set_option maxRecDepth 20000 in
theorem qT_upd {f g : Nat → Int32} {k a a2 : Nat} (ha : f k = nI a) (ha2 : g k = nI a2) (h9 : a ≤ 9) (h92 : a2 ≤ 9) (ho : ∀ c, c ≠ k → g c = f c) : ∀ n, k < n → qT g n + a = qT f n + a2
  | 0, h => by omega
  | n + 1, h => by
    rw [qT, qT]
    by_cases e : k = n
    · rw [← e, ha, ha2, nI_clamp (by omega), nI_clamp (by omega), qT_cg k (fun c hc => ho c (by omega))]
      omega
    · have := qT_upd ha ha2 h9 h92 ho n (by omega)
      rw [ho n (by omega)]
      omega
set_option maxRecDepth 20000 in
theorem qT_pos {f : Nat → Int32} {k a : Nat} (ha : f k = nI a) (h9 : a ≤ 9) : ∀ n, k < n → a ≤ qT f n
  | 0, h => by omega
  | n + 1, h => by
    rw [qT]
    by_cases e : k = n
    · rw [← e, ha, nI_clamp (by omega)]
      omega
    · have := qT_pos ha h9 n (by omega)
      omega
set_option maxRecDepth 20000 in
theorem mCut_17 (x : zs) (b k c : Nat) (much : Int32) : rF (mCut x b k much) 17 c = if c = k then rF x 17 k - mLess x k much else rF x 17 c := by
  have e : rF (mC1 x b k) 17 = rF x 17 := qmDOL_F _ _ _ _ _ 17 (by decide)
  unfold mCut
  rw [(mC3_R _ _ _).1 c, e]
set_option maxRecDepth 20000 in
theorem qFeed {much : Int32} : ∀ (n : Nat) (g : Int32) (s x : zs), qQ s x → qT (rF x 17) (rN x 5) ≤ n → ∃ y, mFeed much (n + 1) (g, x) = some y ∧ (fFed much n (g, s)).1 = decide (much ≤ y.1) ∧ qQ (fFed much n (g, s)).2 y.2 ∧ mP y.2 x := by
  intro n
  induction n with
  | zero =>
    intro g s x h hT
    obtain ⟨l1, l2, l3⟩ := qLeast_eq h
    refine ⟨(g, x), ?_, rfl, h, mP_refl x⟩
    rw [mFeed]
    by_cases q : much ≤ g
    · rw [if_pos q]
    · rw [if_neg q]
      show (match mLeast x with | none => _ | some b => _) = _
      cases e : mLeast x with
      | none => rfl
      | some b =>
        obtain ⟨hb, t, ht⟩ := l2 b e
        obtain ⟨-, -, -, hk5, l, hl1, hl9, e17, -⟩ := qTop_some h hb ht
        have := qT_pos e17 hl9 (rN x 5) hk5
        omega
  | succ n ih =>
    intro g s x h hT
    obtain ⟨l1, l2, l3⟩ := qLeast_eq h
    rw [mFeed, fFed]
    by_cases q : much ≤ g
    · rw [if_pos q, if_pos q]
      exact ⟨(g, x), rfl, (decide_eq_true q).symm, h, mP_refl x⟩
    · rw [if_neg q, if_neg q]
      show ∃ y, (match mLeast x with | none => _ | some b => _) = some y ∧ (match bLeastO s with | none => _ | some b => _ : Bool × zs).1 = _ ∧ qQ (match bLeastO s with | none => _ | some b => _ : Bool × zs).2 _ ∧ _
      rw [l1]
      cases e : mLeast x with
      | none => exact ⟨(g, x), rfl, (decide_eq_false q).symm, h, mP_refl x⟩
      | some b =>
        obtain ⟨hb, t, ht⟩ := l2 b e
        obtain ⟨-, -, -, hk5, l, hl1, hl9, e17, -⟩ := qTop_some h hb ht
        obtain ⟨c1, c2, -⟩ := qQ_cut h hb ht (mu := 1) (Nat.le_refl _) (by omega)
        have hless : mLess x t (nI 1) = nI 1 := by
          unfold mLess
          rw [e17, qLess_m hl9 (by omega), Nat.min_eq_right hl1]
        have hTT : qT (rF (mCut x b t (nI 1)) 17) (rN (mCut x b t (nI 1)) 5) + l = qT (rF x 17) (rN x 5) + (l - 1) := by
          rw [mCut_N]
          refine qT_upd e17 ?_ hl9 (by omega) (fun c hc => by rw [mCut_17, if_neg hc]) _ hk5
          rw [mCut_17, if_pos rfl, e17, hless]
          exact nix_sub hl1
        obtain ⟨y, y1, y2, y3, y4⟩ := ih (g + bGive s b (nI 1)) (bSlice s b (nI 1)) (mCut x b t (nI 1)) c1 (by omega)
        refine ⟨y, ?_, y2, y3, mP_trans y4 (mP_cut x b t (nI 1))⟩
        show (match mTop x b with | none => _ | some k => _) = some y
        rw [ht]
        rw [c2] at y1
        exact y1
set_option maxRecDepth 20000 in
theorem qLasts {much : Int32} : ∀ (n i : Nat) (s x : zs), qQ s x → ∃ r, mLasts much i n x = some r ∧ r.1 = (fLasts much i n s).1 ∧ mP r.2 x := by
  intro n
  induction n with
  | zero => intro i s x h; exact ⟨(i, x), rfl, rfl, mP_refl x⟩
  | succ n ih =>
    intro i s x h
    have hT : qT (rF x 17) (rN x 5) ≤ 81 := by
      have h1 := qT_le h.2.2.2.1 (rN x 5)
      have h2 := h.2.1.1.2.2.2.2.2
      omega
    obtain ⟨y, y1, y2, y3, y4⟩ := qFeed (much := much) 81 (nI 0) s x h hT
    rw [mLasts, fLasts, y1, y2]
    show ∃ r, (if much ≤ y.1 then _ else _) = some r ∧ _
    by_cases q : much ≤ y.1
    · rw [if_pos q, if_pos (decide_eq_true q)]
      obtain ⟨r, r1, r2, r3⟩ := ih (i + 1) _ _ (qQ_day y3).1
      exact ⟨r, r1, r2, mP_trans r3 (mP_trans (mP_day y.2) y4)⟩
    · rw [if_neg q, if_neg (by simp [q])]
      exact ⟨(i, y.2), rfl, rfl, y4⟩
set_option maxRecDepth 20000 in
theorem qDays : ∀ (n i : Nat) (s x : zs), qQ s x → qQ (zfw (fun _ x => bD x) i n s) (zfw (fun _ x => (mDay x).2) i n x) ∧ mP (zfw (fun _ x => (mDay x).2) i n x) x := by
  intro n
  induction n with
  | zero => intro i s x h; exact ⟨h, mP_refl x⟩
  | succ n ih =>
    intro i s x h
    rw [zfw, zfw]
    have r := ih (i + 1) _ _ (qQ_day h).1
    exact ⟨r.1, mP_trans r.2 (mP_day x)⟩
set_option maxRecDepth 20000 in
theorem qBits {nw m : zs} (h : qQ nw (mBegin m)) (d : Nat) : fBits nw (fDays d nw) = mBits (mDs d (mBegin m)) := by
  obtain ⟨r1, r2⟩ := qDays d 0 nw (mBegin m) h
  have h5 : rN (mDs d (mBegin m)) 5 = rN m 5 := r2.2.1 5 (by decide) (by decide)
  have h14 : rF (mDs d (mBegin m)) 14 = rF m 14 := (r2.2.2.2 14 (by omega)).trans (qmBegin_F m 14 (by omega))
  unfold fBits mBits
  rw [h5, show rN nw 1 = rN m 5 from h.2.2.1.2.1.symm]
  refine zfw_cg _ 0 _ (fun c y _ hc => ?_)
  have e1 : rF (mDs d (mBegin m)) 17 c = rF (fDays d nw) 7 c := (qQ_cell r1 (c := c) (by show c < rN (mDs d (mBegin m)) 5; rw [h5]; omega)).1
  have e2 : rF m 14 c = rF nw 7 c := (qQ_cell h (c := c) (by show c < rN m 5; omega)).1
  have hv : qV (rF m 14) := h.2.2.2.1
  show (if _ then _ else _) = mBitF _ _ c y
  unfold mBitF
  rw [h14, e1, ← e2, Nat.or_zero]
  by_cases q1 : rF m 14 c = 0
  · rw [if_pos ((qV_le hv c).mpr q1), if_pos q1]
    split <;> rfl
  · rw [if_neg (fun z => q1 ((qV_le hv c).mp z)), if_neg q1]
set_option maxRecDepth 20000 in
theorem qQ_x {s x y : zs} (h : qQ s x) (hA : ∀ k, rA y k = rA x k) (hN : ∀ k, k = 4 ∨ k = 5 → rN y k = rN x k) (h17 : rF y 17 = rF x 17) (h18 : rF y 18 = rF x 18) (h19 : rF y 19 = rF x 19) : qQ s y := by
  obtain ⟨hO, hM, hS, hv, hw, hB⟩ := h
  have n4 := hN 4 (Or.inl rfl)
  have n5 := hN 5 (Or.inr rfl)
  refine ⟨hO, ?_, ?_, by rw [h17]; exact hv, by rw [h18]; exact hw, fun b hb => ?_⟩
  · obtain ⟨m1, m2, m3, m4⟩ := hM
    refine ⟨mOK_of m1 hA hN, fun b hb => by rw [ml_of hA]; exact m2 b (by rw [← n4]; exact hb), fun b c hb hc => ?_, fun c hc => ?_⟩
    · rw [ml_of hA] at hc
      rw [n5, hA 11]
      exact m3 b c (by rw [← n4]; exact hb) hc
    · rw [n5] at hc
      rw [n4, hA 11, ml_of hA]
      exact m4 c hc
  · obtain ⟨a, b, c⟩ := hS
    refine ⟨by rw [n4]; exact a, by rw [n5]; exact b, fun k hk => ?_⟩
    rw [hA 10, hA 11]
    exact c k (by rw [← n5]; exact hk)
  · rw [n4] at hb
    refine ⟨fun c hc => ?_, ?_⟩
    · rw [ml_of hA] at hc
      rw [h17, h18, h19]
      exact (hB b hb).1 c hc
    · rw [(hB b hb).2]
      exact (ma_congr hA (fun c _ => by rw [h17])).symm
set_option maxRecDepth 20000 in
theorem mP_Wx (k : Nat) (x : zs) : mP (mWx k x) x := ⟨fun _ => rfl, fun _ _ _ => rfl, fun j hj => by unfold mWx; rw [rI_uI, if_neg hj, rI_uI, if_neg hj], fun _ _ => rfl⟩
set_option maxRecDepth 20000 in
theorem i32_sl (a g : Int32) : a + g - a = g := by rw [Int32.add_comm, Int32.add_sub_cancel]
set_option maxRecDepth 20000 in
theorem qWin (G0 Z0 : Int32) : ∀ (n k : Nat) (g z : Int32) (s x : zs), qQ s x → 0 < rN x 4 → rI s 3 = G0 + g → rI s 4 = Z0 + z → (fWin n (k, s)).1 = (mWin n k g z x).1 ∧ rI (fWin n (k, s)).2 3 = G0 + (mWin n k g z x).2.1 ∧ rI (fWin n (k, s)).2 4 = Z0 + (mWin n k g z x).2.2.1 ∧ mP (mWin n k g z x).2.2.2 x := by
  intro n
  induction n with
  | zero => intro k g z s x h _ h3 h4; exact ⟨rfl, h3, h4, mP_refl x⟩
  | succ n ih =>
    intro k g z s x h hb0 h3 h4
    have e0 : fWin (n + 1) (k, s) = fWin n (fWinStep (k, s)) := zfw_c fWinStep n 1 0 _
    rw [e0, mWin]
    have hx : qQ s (mWx k x) := qQ_x h (fun _ => rfl) (fun _ _ => rfl) rfl rfl rfl
    have hb : mWb k x < rN (mWx k x) 4 := Nat.mod_lt _ hb0
    have eb : nxt (nxt k) / 65536 % rN s 0 = mWb k x := by unfold mWb; rw [h.2.2.1.1]
    have emu : (nI (1 + nxt k / 65536 % 3) : Int32) = nI (mWmu k) := rfl
    have hmu : 1 ≤ mWmu k ∧ mWmu k ≤ 3 := by
      have := Nat.mod_lt (nxt k / 65536) (show 0 < 3 by decide)
      unfold mWmu
      omega
    have key : qQ (bSlice s (mWb k x) (nI (mWmu k))) (mWc k x) ∧ rI (bSlice s (mWb k x) (nI (mWmu k))) 3 = G0 + mWg k g x ∧ rI (bSlice s (mWb k x) (nI (mWmu k))) 4 = Z0 + z ∧ mP (mWc k x) x := by
      cases ht : mTop (mWx k x) (mWb k x) with
      | none =>
        have et := qTop_eq hx hb
        rw [ht] at et
        have h10 : rA s 10 (mWb k x) = 0 := by
          by_cases q : rA s 10 (mWb k x) = 0
          · exact q
          · rw [if_neg q] at et; cases et
        rw [mWc_none ht, mWg_none ht, i32_add0, show bSlice s (mWb k x) (nI (mWmu k)) = s by unfold bSlice; rw [if_pos h10]]
        exact ⟨hx, h3, h4, mP_Wx k x⟩
      | some t =>
        obtain ⟨c1, c2, c3, c4, -⟩ := qQ_cut hx hb ht hmu.1 hmu.2
        rw [mWc_some ht, mWg_some ht]
        refine ⟨c1, ?_, c4.trans h4, mP_trans (mP_cut _ _ _ _) (mP_Wx k x)⟩
        rw [c3, h3, Int32.add_assoc]
    obtain ⟨k1, k2, k3, k4⟩ := key
    obtain ⟨d1, d2, d3, d4, -⟩ := qQ_day k1
    have eS : fWinStep (k, s) = (nxt (nxt k), bD (bSlice s (mWb k x) (nI (mWmu k)))) := by
      unfold fWinStep
      rw [eb, emu]
    rw [eS]
    have hN4 : 0 < rN (mDay (mWc k x)).2 4 := by rw [mDay_N, mWc_N]; exact hb0
    obtain ⟨r1, r2, r3, r4⟩ := ih (nxt (nxt k)) (mWg k g x) (z + nI (mDay (mWc k x)).1) _ _ d1 hN4 (d4.trans k2) (by rw [d3, k3, Int32.add_assoc])
    exact ⟨r1, r2, r3, mP_trans r4 (mP_trans (mP_day _) k4)⟩
end
