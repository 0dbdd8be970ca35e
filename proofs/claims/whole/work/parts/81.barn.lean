section
/-! a page that is whole, read by both -/
def tB (f : Nat → Int32) : Nat → Nat × Nat
  | 0 => (0, 0)
  | k + 1 => if f (4 * k + 3) = nI 59 then ((tB f k).1 + 1, 0) else ((tB f k).1, (tB f k).2 + 1)
def goodC (f : Nat → Int32) (j : Nat) : Prop := kOf (f (4 * j)) ≠ none ∧ xIn (f (4 * j + 1)) 49 57 = true ∧ xIn (f (4 * j + 2)) 48 57 = true
set_option maxRecDepth 20000 in
theorem mf_step {f : Nat → Int32} {i n : Nat} {x : zs} (h : (mFaultL f i (n + 1) x).1 = i + (n + 1)) : mGood i (f i) x = true ∧ mFaultL f i (n + 1) x = mFaultL f (i + 1) n (mGoodS i (f i) x) := by
  rw [mFaultL] at h
  by_cases q : mGood i (f i) x = true
  · exact ⟨q, by rw [mFaultL, if_pos q]⟩
  · rw [if_neg q] at h
    have h' : i = i + (n + 1) := h
    omega
set_option maxRecDepth 20000 in
theorem nf_all (f : Nat → Int32) : ∀ (r k : Nat) (x : zs), rN x 2 = (tB f k).1 + 1 → rN x 3 = (tB f k).2 → (tB f k).1 ≤ 2 → (tB f k).2 ≤ 2 → (mFaultL f (4 * k) (4 * r + 3) x).1 = 4 * k + (4 * r + 3) → (∀ j, k ≤ j → j ≤ k + r → goodC f j ∧ (tB f j).1 ≤ 2 ∧ (tB f j).2 ≤ 2) ∧ rN (mFaultL f (4 * k) (4 * r + 3) x).2 2 = (tB f (k + r)).1 + 1 := by
  intro r
  induction r with
  | zero =>
    intro k x h2 h3 hb hh h
    obtain ⟨g0, e0⟩ := mf_step (n := 2) h
    rw [e0] at h ⊢
    have s0 : mGoodS (4 * k) (f (4 * k)) x = uN x 3 (rN x 3 + 1) := by unfold mGoodS; rw [if_pos (by omega)]
    rw [s0] at h ⊢
    obtain ⟨g1, e1⟩ := mf_step (n := 1) (i := 4 * k + 1) (h.trans (by omega))
    rw [e1] at h ⊢
    have s1 : mGoodS (4 * k + 1) (f (4 * k + 1)) (uN x 3 (rN x 3 + 1)) = uN x 3 (rN x 3 + 1) := by unfold mGoodS; rw [if_neg (by omega), if_pos (by omega)]
    rw [s1] at h ⊢
    obtain ⟨g2, e2⟩ := mf_step (n := 0) (i := 4 * k + 1 + 1) (h.trans (by omega))
    rw [e2]
    have s2 : mGoodS (4 * k + 1 + 1) (f (4 * k + 1 + 1)) (uN x 3 (rN x 3 + 1)) = uN x 3 (rN x 3 + 1) := by unfold mGoodS; rw [if_neg (by omega), if_neg (by omega), if_pos (by omega)]
    rw [s2]
    refine ⟨fun j h4 h5 => ?_, ?_⟩
    · have ej : j = k := by omega
      subst ej
      refine ⟨⟨?_, ?_, ?_⟩, hb, hh⟩
      · unfold mGood at g0; rw [if_pos (by omega)] at g0; exact of_decide_eq_true g0
      · unfold mGood at g1; rw [if_neg (by omega), if_pos (by omega)] at g1; exact g1
      · unfold mGood at g2; rw [if_neg (by omega), if_neg (by omega), if_pos (by omega)] at g2; exact g2
    · show rN (uN x 3 (rN x 3 + 1)) 2 = _
      rw [rN_uN, if_neg (by decide)]
      exact h2
  | succ r ih =>
    intro k x h2 h3 hb hh h
    have en : 4 * (r + 1) + 3 = (4 * r + 3) + 1 + 1 + 1 + 1 := by omega
    rw [en] at h ⊢
    obtain ⟨g0, e0⟩ := mf_step (n := (4 * r + 3) + 1 + 1 + 1) h
    rw [e0] at h ⊢
    have s0 : mGoodS (4 * k) (f (4 * k)) x = uN x 3 (rN x 3 + 1) := by unfold mGoodS; rw [if_pos (by omega)]
    rw [s0] at h ⊢
    obtain ⟨g1, e1⟩ := mf_step (n := (4 * r + 3) + 1 + 1) (i := 4 * k + 1) (h.trans (by omega))
    rw [e1] at h ⊢
    have s1 : mGoodS (4 * k + 1) (f (4 * k + 1)) (uN x 3 (rN x 3 + 1)) = uN x 3 (rN x 3 + 1) := by unfold mGoodS; rw [if_neg (by omega), if_pos (by omega)]
    rw [s1] at h ⊢
    obtain ⟨g2, e2⟩ := mf_step (n := (4 * r + 3) + 1) (i := 4 * k + 1 + 1) (h.trans (by omega))
    rw [e2] at h ⊢
    have s2 : mGoodS (4 * k + 1 + 1) (f (4 * k + 1 + 1)) (uN x 3 (rN x 3 + 1)) = uN x 3 (rN x 3 + 1) := by unfold mGoodS; rw [if_neg (by omega), if_neg (by omega), if_pos (by omega)]
    rw [s2] at h ⊢
    obtain ⟨g3, e3⟩ := mf_step (n := 4 * r + 3) (i := 4 * k + 1 + 1 + 1) (h.trans (by omega))
    rw [e3] at h ⊢
    have hgood : goodC f k := by
      refine ⟨?_, ?_, ?_⟩
      · unfold mGood at g0; rw [if_pos (by omega)] at g0; exact of_decide_eq_true g0
      · unfold mGood at g1; rw [if_neg (by omega), if_pos (by omega)] at g1; exact g1
      · unfold mGood at g2; rw [if_neg (by omega), if_neg (by omega), if_pos (by omega)] at g2; exact g2
    have n2 : rN (uN x 3 (rN x 3 + 1)) 2 = (tB f k).1 + 1 := by rw [rN_uN, if_neg (by decide)]; exact h2
    have n3 : rN (uN x 3 (rN x 3 + 1)) 3 = (tB f k).2 + 1 := by rw [rN_uN, if_pos rfl, h3]
    have ei : 4 * k + 1 + 1 + 1 + 1 = 4 * (k + 1) := by omega
    have e43 : 4 * k + 1 + 1 + 1 = 4 * k + 3 := by omega
    rw [ei, e43] at h ⊢
    rw [e43] at g3
    unfold mGood at g3
    rw [if_neg (by omega), if_neg (by omega), if_neg (by omega), n2, n3] at g3
    have fin : ∀ x2, mGoodS (4 * k + 3) (f (4 * k + 3)) (uN x 3 (rN x 3 + 1)) = x2 → rN x2 2 = (tB f (k + 1)).1 + 1 → rN x2 3 = (tB f (k + 1)).2 → (tB f (k + 1)).1 ≤ 2 → (tB f (k + 1)).2 ≤ 2 → (∀ j, k ≤ j → j ≤ k + (r + 1) → goodC f j ∧ (tB f j).1 ≤ 2 ∧ (tB f j).2 ≤ 2) ∧ rN (mFaultL f (4 * (k + 1)) (4 * r + 3) (mGoodS (4 * k + 3) (f (4 * k + 3)) (uN x 3 (rN x 3 + 1)))).2 2 = (tB f (k + (r + 1))).1 + 1 := fun x2 a1 a2 a3 a4 a5 => by
      rw [a1] at h ⊢
      obtain ⟨r1, r2⟩ := ih (k + 1) x2 a2 a3 a4 a5 (h.trans (by omega))
      refine ⟨fun j j1 j2 => ?_, by rw [r2, show k + 1 + r = k + (r + 1) by omega]⟩
      by_cases z : j = k
      · rw [z]; exact ⟨hgood, hb, hh⟩
      · exact r1 j (by omega) (by omega)
    by_cases q : f (4 * k + 3) = nI 59
    · have hb3 : (tB f k).1 + 1 < 3 := by
        by_cases z : (tB f k).1 + 1 < 3
        · exact z
        · rw [if_neg (fun y => z y.2)] at g3
          have := (of_decide_eq_true g3).1
          rw [q] at this
          exact absurd this (by decide +kernel)
      have es : tB f (k + 1) = ((tB f k).1 + 1, 0) := by rw [tB, if_pos q]
      refine fin (uN (uN (uN x 3 (rN x 3 + 1)) 2 ((tB f k).1 + 1 + 1)) 3 0) ?_ ?_ ?_ ?_ ?_
      · unfold mGoodS
        rw [if_neg (by omega), if_neg (by omega), if_neg (by omega), n2, if_pos ⟨q, hb3⟩]
      · rw [es, rN_uN, if_neg (by decide), rN_uN, if_pos rfl]
      · rw [es, rN_uN, if_pos rfl]
      · rw [es]; show (tB f k).1 + 1 ≤ 2; omega
      · rw [es]; show 0 ≤ 2; omega
    · rw [if_neg (fun y => q y.1)] at g3
      have g4 := of_decide_eq_true g3
      have es : tB f (k + 1) = ((tB f k).1, (tB f k).2 + 1) := by rw [tB, if_neg q]
      refine fin (uN x 3 (rN x 3 + 1)) ?_ ?_ ?_ ?_ ?_
      · unfold mGoodS
        rw [if_neg (by omega), if_neg (by omega), if_neg (by omega), if_neg (fun y => q y.1)]
      · rw [es]; exact n2
      · rw [es]; exact n3
      · rw [es]; exact hb
      · rw [es]; show (tB f k).2 + 1 ≤ 2; omega
set_option maxRecDepth 20000 in
theorem tB_mono (f : Nat → Int32) (k : Nat) : (tB f k).1 ≤ (tB f (k + 1)).1 := by
  rw [tB]
  split
  · exact Nat.le_succ _
  · exact Nat.le_refl _
set_option maxRecDepth 20000 in
theorem tB_le (f : Nat → Int32) (k : Nat) : ∀ n, (tB f k).1 ≤ (tB f (k + n)).1
  | 0 => Nat.le_refl _
  | n + 1 => Nat.le_trans (tB_le f k n) (tB_mono f (k + n))
set_option maxRecDepth 20000 in
theorem rK_le (c : Int32) : rK c ≤ 4 := by
  unfold rK kOf
  split
  · decide
  · split
    · decide
    · split
      · decide
      · split
        · decide
        · split
          · decide
          · decide
def kI (f : Nat → Int32) (k : Nat) (s x : zs) : Prop :=
  (rN s 1 = k ∧ rN s 0 = (if k = 0 then 0 else (tB f (k - 1)).1 + 1) ∧ rN s 2 = 0 ∧ rI s 3 = nI 0 ∧ rI s 4 = nI 0) ∧
  (∀ c, c < k → rA s 5 c = rA x 10 c ∧ rA s 6 c = (tB f c).1 ∧ rA x 11 c = (tB f c).1 ∧ rF x 14 c = rF s 7 c ∧ rF x 15 c = rF s 8 c ∧ rF s 9 c = nI 0 ∧ rF x 16 c = nI 0 ∧ ¬ rF x 14 c = 0) ∧
  (∀ b, b < 3 → rA s 10 b = rA x 12 b) ∧
  (∀ b, b < 3 → (tB f k).1 < b → rA x 12 b = 0) ∧ ((tB f k).1 < 3 → rA x 12 (tB f k).1 = (tB f k).2) ∧
  (∀ b p, b < 3 → p < rA x 12 b → rA s 11 (b * 3 + p) = rA x 13 (4 * b + p) ∧ rA x 13 (4 * b + p) < k ∧ (tB f (rA x 13 (4 * b + p))).1 = b) ∧
  (∀ b p q, b < 3 → p < q → q < rA x 12 b → rA x 13 (4 * b + p) < rA x 13 (4 * b + q)) ∧
  (∀ c, c < k → ∃ p, p < rA x 12 (tB f c).1 ∧ rA x 13 (4 * (tB f c).1 + p) = c) ∧
  ((∀ j, rA s 11 j < 9) ∧ (∀ j, rA s 10 j ≤ 3) ∧ (∀ j, rA s 6 j < 3) ∧ (∀ j, rA s 5 j ≤ 4)) ∧
  ((∀ j, rA x 13 j < 9) ∧ (∀ j, rA x 12 j ≤ 3) ∧ (∀ j, rA x 11 j < 3) ∧ (∀ j, rA x 10 j ≤ 4)) ∧ qV (rF x 14) ∧ qV (rF x 15)
set_option maxRecDepth 20000 in
theorem updN_all {P : Nat → Prop} {f : Nat → Nat} (h : ∀ j, P (f j)) {k v : Nat} (hv : P v) : ∀ j, P (updN f k v j) := fun j => by
  by_cases e : j = k
  · rw [e, updN_s]; exact hv
  · rw [updN_n _ _ e]; exact h j
set_option maxRecDepth 20000 in
theorem kI_step {f : Nat → Int32} {k : Nat} {s x : zs} (h : kI f k s x) (h0 : rF x 0 = f) (h9 : k < 9) (hg : goodC f k) (hb : (tB f k).1 ≤ 2) (hh : (tB f k).2 ≤ 2) : kI f (k + 1) (bLay s (tB f k).1 (rK (f (4 * k))) (f (4 * k + 1) - nI 48) (f (4 * k + 2) - nI 48)) (mRx k (tB f k).1 x) := by
  obtain ⟨⟨a1, a2, a3, a4, a5⟩, c0, d0, d1, d2, e0, e1, e2, o1, o2, v1, v2⟩ := h
  have hH := d2 (by omega)
  have hS := d0 (tB f k).1 (by omega)
  obtain ⟨l, l1, l2, el⟩ := xIn_e hg.2.1 (by decide) (by decide)
  obtain ⟨w, w1, w2, ew⟩ := xIn_e hg.2.2 (by decide) (by decide)
  have eL : f (4 * k + 1) - nI 48 = nI (l - 48) := by rw [el]; exact nix_sub (by omega)
  have eW : f (4 * k + 2) - nI 48 = nI (w - 48) := by rw [ew]; exact nix_sub (by omega)
  have s5 : rA (bLay s (tB f k).1 (rK (f (4 * k))) (f (4 * k + 1) - nI 48) (f (4 * k + 2) - nI 48)) 5 = updN (rA s 5) (rN s 1) (rK (f (4 * k))) := rfl
  have s6 : rA (bLay s (tB f k).1 (rK (f (4 * k))) (f (4 * k + 1) - nI 48) (f (4 * k + 2) - nI 48)) 6 = updN (rA s 6) (rN s 1) (tB f k).1 := rfl
  have s7 : rF (bLay s (tB f k).1 (rK (f (4 * k))) (f (4 * k + 1) - nI 48) (f (4 * k + 2) - nI 48)) 7 = upd (rF s 7) (rN s 1) (f (4 * k + 1) - nI 48) := rfl
  have s8 : rF (bLay s (tB f k).1 (rK (f (4 * k))) (f (4 * k + 1) - nI 48) (f (4 * k + 2) - nI 48)) 8 = upd (rF s 8) (rN s 1) (f (4 * k + 2) - nI 48) := rfl
  have s9 : rF (bLay s (tB f k).1 (rK (f (4 * k))) (f (4 * k + 1) - nI 48) (f (4 * k + 2) - nI 48)) 9 = upd (rF s 9) (rN s 1) (nI 0) := rfl
  have s10 : rA (bLay s (tB f k).1 (rK (f (4 * k))) (f (4 * k + 1) - nI 48) (f (4 * k + 2) - nI 48)) 10 = updN (rA s 10) (tB f k).1 (rA s 10 (tB f k).1 + 1) := rfl
  have s11 : rA (bLay s (tB f k).1 (rK (f (4 * k))) (f (4 * k + 1) - nI 48) (f (4 * k + 2) - nI 48)) 11 = updN (rA s 11) ((tB f k).1 * 3 + rA s 10 (tB f k).1) (rN s 1) := rfl
  have x10 : rA (mRx k (tB f k).1 x) 10 = updN (rA x 10) k (rK (rF x 0 (4 * k))) := rfl
  have x11 : rA (mRx k (tB f k).1 x) 11 = updN (rA x 11) k (tB f k).1 := rfl
  have x12 : rA (mRx k (tB f k).1 x) 12 = updN (rA x 12) (tB f k).1 (rA x 12 (tB f k).1 + 1) := rfl
  have x13 : rA (mRx k (tB f k).1 x) 13 = updN (rA x 13) (4 * (tB f k).1 + rA x 12 (tB f k).1) k := rfl
  have x14 : rF (mRx k (tB f k).1 x) 14 = upd (rF x 14) k (rF x 0 (4 * k + 1) - nI 48) := rfl
  have x15 : rF (mRx k (tB f k).1 x) 15 = upd (rF x 15) k (rF x 0 (4 * k + 2) - nI 48) := rfl
  have x16 : rF (mRx k (tB f k).1 x) 16 = upd (rF x 16) k (nI 0) := rfl
  rw [h0] at x10 x14 x15
  rw [a1] at s5 s6 s7 s8 s9 s11
  rw [hS, hH] at s10 s11
  rw [hH] at x12 x13
  refine ⟨⟨?_, ?_, a3, a4, a5⟩, ?_, ?_, ?_, ?_, ?_, ?_, ?_, ?_, ?_, ?_, ?_⟩
  · show rN s 1 + 1 = k + 1
    rw [a1]
  · rw [if_neg (by omega), Nat.add_sub_cancel]
    rfl
  · intro c hc
    rw [s5, s6, s7, s8, s9, x10, x11, x14, x15, x16]
    by_cases z : c = k
    · rw [z, updN_s, updN_s, updN_s, updN_s, upd_s, upd_s, upd_s, upd_s, upd_s, upd_s, eL]
      exact ⟨rfl, rfl, rfl, rfl, rfl, rfl, rfl, nI_ne0 (by omega) (by omega)⟩
    · rw [updN_n _ _ z, updN_n _ _ z, updN_n _ _ z, updN_n _ _ z, upd_n _ _ z, upd_n _ _ z, upd_n _ _ z, upd_n _ _ z, upd_n _ _ z, upd_n _ _ z]
      exact c0 c (by omega)
  · intro b hb3
    rw [s10, x12]
    by_cases z : b = (tB f k).1
    · rw [z, updN_s, updN_s]
    · rw [updN_n _ _ z, updN_n _ _ z]; exact d0 b hb3
  · intro b hb3 hlt
    have := tB_mono f k
    rw [x12, updN_n _ _ (by omega)]
    exact d1 b hb3 (by omega)
  · intro hlt
    rw [x12, tB]
    rw [tB] at hlt
    by_cases q : f (4 * k + 3) = nI 59
    · rw [if_pos q] at hlt ⊢
      have hlt' : (tB f k).1 + 1 < 3 := hlt
      show updN (rA x 12) (tB f k).1 _ ((tB f k).1 + 1) = 0
      rw [updN_n _ _ (by omega)]
      exact d1 _ hlt' (by omega)
    · rw [if_neg q] at hlt ⊢
      show updN (rA x 12) (tB f k).1 _ (tB f k).1 = (tB f k).2 + 1
      rw [updN_s]
  · intro b p hb3 hp
    rw [x12] at hp
    rw [s11, x13]
    by_cases z : b = (tB f k).1
    · rw [z, updN_s] at hp
      rw [z]
      by_cases y : p = (tB f k).2
      · rw [y, updN_s, updN_s]
        exact ⟨rfl, by omega, rfl⟩
      · rw [updN_n _ _ (by omega), updN_n _ _ (by omega)]
        obtain ⟨q1, q2, q3⟩ := e0 (tB f k).1 p (by omega) (by omega)
        exact ⟨q1, by omega, q3⟩
    · rw [updN_n _ _ z] at hp
      have h3 := o2.2.1 b
      rw [updN_n _ _ (by omega), updN_n _ _ (by omega)]
      obtain ⟨q1, q2, q3⟩ := e0 b p hb3 hp
      exact ⟨q1, by omega, q3⟩
  · intro b p q hb3 hpq hq
    rw [x12] at hq
    rw [x13]
    by_cases z : b = (tB f k).1
    · rw [z, updN_s] at hq
      rw [z, updN_n _ _ (show 4 * (tB f k).1 + p ≠ 4 * (tB f k).1 + (tB f k).2 by omega)]
      by_cases y : q = (tB f k).2
      · rw [y, updN_s]
        exact (e0 (tB f k).1 p (by omega) (by omega)).2.1
      · rw [updN_n _ _ (by omega)]
        exact e1 _ p q (by omega) hpq (by omega)
    · rw [updN_n _ _ z] at hq
      have h3 := o2.2.1 b
      rw [updN_n _ _ (by omega), updN_n _ _ (by omega)]
      exact e1 b p q hb3 hpq hq
  · intro c hc
    rw [x12, x13]
    by_cases z : c = k
    · rw [z]
      exact ⟨(tB f k).2, by rw [updN_s]; omega, by rw [updN_s]⟩
    · obtain ⟨p, p1, p2⟩ := e2 c (by omega)
      have hcb : (tB f c).1 ≤ (tB f k).1 := by
        have := tB_le f c (k - c)
        rw [show c + (k - c) = k by omega] at this
        exact this
      by_cases y : (tB f c).1 = (tB f k).1
      · refine ⟨p, ?_, ?_⟩
        · rw [y, updN_s]; rw [y, hH] at p1; omega
        · rw [updN_n _ _ (by rw [y, hH] at p1; rw [y]; omega)]; exact p2
      · have h3 := o2.2.1 (tB f c).1
        refine ⟨p, by rw [updN_n _ _ y]; exact p1, ?_⟩
        rw [updN_n _ _ (by omega)]; exact p2
  · rw [s5, s6, s10, s11]
    exact ⟨updN_all (P := fun v => v < 9) o1.1 (by omega), updN_all (P := fun v => v ≤ 3) o1.2.1 (by omega), updN_all (P := fun v => v < 3) o1.2.2.1 (by omega), updN_all (P := fun v => v ≤ 4) o1.2.2.2 (rK_le _)⟩
  · rw [x10, x11, x12, x13]
    exact ⟨updN_all (P := fun v => v < 9) o2.1 (by omega), updN_all (P := fun v => v ≤ 3) o2.2.1 (by omega), updN_all (P := fun v => v < 3) o2.2.2.1 (by omega), updN_all (P := fun v => v ≤ 4) o2.2.2.2 (rK_le _)⟩
  · rw [x14, eL]; exact qV_upd v1 k _ (by omega)
  · rw [x15, eW]; exact qV_upd v2 k _ (by omega)
set_option maxRecDepth 20000 in
theorem run_all (f : Nat → Int32) : ∀ (r k b : Nat) (s x : zs), kI f k s x → rF x 0 = f → rN x 5 = k + r → k + r ≤ 9 → (0 < r → b = (tB f k).1) → (∀ j, k ≤ j → j < k + r → goodC f j ∧ (tB f j).1 ≤ 2 ∧ (tB f j).2 ≤ 2) → rGood f r (4 * k) ((tB f (k - 1)).1, s) ∧ mRg r k b x ∧ kI f (k + r) (rRun f r (4 * k) ((tB f (k - 1)).1, s)).2 (mRun r k b x) ∧ (∀ j, rN (mRun r k b x) j = rN x j) ∧ (∀ j, rI (mRun r k b x) j = rI x j) ∧ (∀ j, j ≠ 14 → j ≠ 15 → j ≠ 16 → rF (mRun r k b x) j = rF x j) := by
  intro r
  induction r with
  | zero => intro k b s x h _ _ _ _ _; exact ⟨trivial, trivial, h, fun _ => rfl, fun _ => rfl, fun _ _ _ _ => rfl⟩
  | succ r ih =>
    intro k b s x h h0 h5 h9 hb hgd
    obtain ⟨g1, g2, g3⟩ := hgd k (Nat.le_refl _) (by omega)
    have eb := hb (by omega)
    have ebay : rBay f (4 * k) (tB f (k - 1)).1 = (tB f k).1 := by
      unfold rBay
      cases k with
      | zero => rw [if_neg (by omega)]
      | succ k =>
        rw [Nat.add_sub_cancel, show 4 * (k + 1) - 1 = 4 * k + 3 by omega, tB]
        by_cases q : f (4 * k + 3) = nI 59
        · rw [if_pos ⟨by omega, q⟩, if_pos q]
        · rw [if_neg (fun z => q z.2), if_neg q]
    have hst := kI_step h h0 (by omega) g1 g2 g3
    have estep : rStep f (4 * k) ((tB f (k - 1)).1, s) = ((tB f (k + 1 - 1)).1, bLay s (tB f k).1 (rK (f (4 * k))) (f (4 * k + 1) - nI 48) (f (4 * k + 2) - nI 48)) := by
      unfold rStep
      rw [ebay, Nat.add_sub_cancel]
    have hnext : 0 < r → mRb k b x = (tB f (k + 1)).1 := fun hr => by
      unfold mRb
      rw [h5, h0, eb, tB]
      by_cases q : f (4 * k + 3) = nI 59
      · rw [if_pos ⟨by omega, q⟩, if_pos q]
      · rw [if_neg (fun z => q z.2), if_neg q]
    rw [← eb] at hst
    obtain ⟨r1, r2, r3, r4, r5, r6⟩ := ih (k + 1) (mRb k b x) _ (mRx k b x) hst h0 (by show rN x 5 = _; omega) (by omega) hnext (fun j j1 j2 => hgd j (by omega) (by omega))
    rw [eb] at r1
    have hs10 : rA s 10 (tB f k).1 < 3 := by
      rw [h.2.2.1 _ (by omega), h.2.2.2.2.1 (by omega)]; omega
    have hx12 : rA x 12 b < 3 := by
      rw [eb, h.2.2.2.2.1 (by omega)]; omega
    refine ⟨⟨g1.1, by show rBay f (4 * k) (tB f (k - 1)).1 < 3; rw [ebay]; omega, by show rA s 10 (rBay f (4 * k) (tB f (k - 1)).1) < 3; rw [ebay]; exact hs10, by show rN s 1 < 9; rw [h.1.1]; omega, ?_⟩, ⟨by rw [h0]; exact g1.1, by omega, hx12, r2⟩, ?_, ?_, ?_, ?_⟩
    · rw [estep, show 4 * k + 4 = 4 * (k + 1) by omega]; exact r1
    · rw [rRun, mRun, estep, show 4 * k + 4 = 4 * (k + 1) by omega, show k + (r + 1) = k + 1 + r by omega, ← eb]; exact r3
    · intro j; rw [mRun, r4 j]; rfl
    · intro j; rw [mRun, r5 j]; rfl
    · intro j j1 j2 j3
      rw [mRun, r6 j j1 j2 j3]
      show rF (mR5 k b x) j = _
      unfold mR5
      rw [rF_uA, rF_uF, if_neg j3, rF_uF, if_neg j2, rF_uF, if_neg j1, rF_uA]
end
