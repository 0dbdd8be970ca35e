section
/-! what holds between the two, call by call -/
def qG (x : zs) : Prop := ∀ c, c < rN x 5 → rF x 17 c = 0 → rF x 19 c = nI 0
def qLv (nw sn m : zs) : Prop := qQ nw (mBegin m) ∧ qH (24 * rN m 6) (mBegin m) ∧ qG (mBegin m) ∧ rN nw 2 = rN m 6 ∧ rN m 6 ≤ 999 ∧ rI nw 3 = rI m 7 ∧ rI nw 4 = rI m 8 ∧ (rN nw 1 = 0 ↔ rN nw 0 = 0) ∧ sOK sn ∧ qE sn m
set_option maxRecDepth 20000 in
theorem qQ_y {s x y : zs} (h : qQ s x) (hA : ∀ k, 10 ≤ k → k ≤ 13 → rA y k = rA x k) (h4 : rN y 4 = rN x 4) (h5 : rN y 5 = rN x 5) (h17 : rF y 17 = rF x 17) (h18 : rF y 18 = rF x 18) (h19 : rF y 19 = rF x 19) : qQ s y := by
  obtain ⟨hO, hM, hS, hv, hw, hB⟩ := h
  have a10 := hA 10 (by omega) (by omega)
  have a11 := hA 11 (by omega) (by omega)
  have a12 := hA 12 (by omega) (by omega)
  have a13 := hA 13 (by omega) (by omega)
  have hml : ∀ b, ml y b = ml x b := fun b => by unfold ml; rw [a12, a13]
  refine ⟨hO, ?_, ?_, by rw [h17]; exact hv, by rw [h18]; exact hw, fun b hb => ?_⟩
  · obtain ⟨⟨o1, o2, o3, o4, o5, o6⟩, m2, m3, m4⟩ := hM
    refine ⟨⟨by rw [a13]; exact o1, by rw [a12]; exact o2, by rw [a11]; exact o3, by rw [a10]; exact o4, by rw [h4]; exact o5, by rw [h5]; exact o6⟩, fun b hb => by rw [hml]; exact m2 b (by rw [← h4]; exact hb), fun b c hb hc => ?_, fun c hc => ?_⟩
    · rw [hml] at hc
      rw [h5, a11]
      exact m3 b c (by rw [← h4]; exact hb) hc
    · rw [h5] at hc
      rw [h4, a11, hml]
      exact m4 c hc
  · obtain ⟨a, b, c⟩ := hS
    refine ⟨by rw [h4]; exact a, by rw [h5]; exact b, fun k hk => ?_⟩
    rw [a10, a11]
    exact c k (by rw [← h5]; exact hk)
  · rw [h4] at hb
    refine ⟨fun c hc => ?_, ?_⟩
    · rw [hml] at hc
      rw [h17, h18, h19]
      exact (hB b hb).1 c hc
    · rw [(hB b hb).2]
      unfold ma
      rw [hml, h17]
set_option maxRecDepth 20000 in
theorem qLv_of {nw sn m t : zs} (h : qLv nw sn m) (hA : ∀ k, 10 ≤ k → k ≤ 13 → rA t k = rA m k) (hN : ∀ k, k = 4 ∨ k = 5 ∨ k = 6 ∨ k = 24 → rN t k = rN m k) (hI : ∀ k, k = 7 ∨ k = 8 → rI t k = rI m k) (hF : ∀ k, k = 14 ∨ k = 15 ∨ k = 16 ∨ k = 25 → rF t k = rF m k) : qLv nw sn t := by
  obtain ⟨h1, h2, h3, h4, h5, h6, h7, h8, h9, h10⟩ := h
  have n4 := hN 4 (by omega)
  have n5 := hN 5 (by omega)
  have n6 := hN 6 (by omega)
  have n24 := hN 24 (by omega)
  have f14 := hF 14 (by omega)
  have f15 := hF 15 (by omega)
  have f16 := hF 16 (by omega)
  have f25 := hF 25 (by omega)
  refine ⟨qQ_y h1 hA n4 n5 f14 f15 f16, ?_, ?_, by rw [n6]; exact h4, by rw [n6]; exact h5, by rw [hI 7 (by omega)]; exact h6, by rw [hI 8 (by omega)]; exact h7, h8, h9, ?_⟩
  · intro c hc
    rw [n6]
    show ∃ u, _ ∧ rF t 16 c = nI u
    rw [f16]
    exact h2 c (by show c < rN m 5; rw [← n5]; exact hc)
  · intro c hc
    show rF t 14 c = 0 → rF t 16 c = nI 0
    rw [f14, f16]
    exact h3 c (by show c < rN m 5; rw [← n5]; exact hc)
  · refine ⟨by rw [n24]; exact h10.1, fun j hj => ?_⟩
    rw [f25]
    exact h10.2 j hj
set_option maxRecDepth 20000 in
theorem qLv_P {nw sn m t : zs} (h : qLv nw sn m) (p : mP t m) : qLv nw sn t := qLv_of h (fun k _ _ => p.1 k) (fun k hk => p.2.1 k (by omega) (by omega)) (fun k hk => p.2.2.1 k (by omega)) (fun k hk => p.2.2.2 k (by omega))
def J (i : Nat) (pg nw kp sn ks mx m : zs) : Prop := (rN pg 1 = rN m 1 ∧ rN m 1 ≤ 38 ∧ rF pg 0 = rF m 0) ∧ qLv nw sn m ∧ (rN mx 9 = rN m 9 ∧ rN m 9 ≤ i) ∧ (rN mx 10 = rN m 20 ∧ rN m 20 ≤ 12) ∧ (rI m 28 = -1 ∨ ∃ k, k ≤ rN m 9 ∧ rI m 28 = nI k) ∧ (rN mx 8 = 0 ∧ rI m 28 ≠ nI (rN m 9) ∨ rN mx 8 = 1 ∧ rI m 28 = nI (rN m 9) ∧ qLv kp ks (mRes m))
set_option maxRecDepth 20000 in
theorem mRes_N (m : zs) (k : Nat) : rN (mRes m) k = if k = 24 then rN m 32 else if k = 6 then rN m 29 else rN m k := by
  unfold mRes
  rw [rN_uN, rN_uI, rN_uI, rN_uN, rN_uF, rN_uF, rN_uF, rN_uF, rN_uA]
set_option maxRecDepth 20000 in
theorem mRes_I (m : zs) (k : Nat) : rI (mRes m) k = if k = 8 then rI m 31 else if k = 7 then rI m 30 else rI m k := by
  unfold mRes
  rw [rI_uN, rI_uI, rI_uI, rI_uN, rI_uF, rI_uF, rI_uF, rI_uF, rI_uA]
set_option maxRecDepth 20000 in
theorem mRes_A (m : zs) (k : Nat) : rA (mRes m) k = if k = 13 then rA m 33 else rA m k := by
  unfold mRes
  rw [rA_uN, rA_uI, rA_uI, rA_uN, rA_uF, rA_uF, rA_uF, rA_uF, rA_uA]
set_option maxRecDepth 20000 in
theorem mRes_F (m : zs) (k : Nat) : rF (mRes m) k = if k = 25 then rF m 37 else if k = 16 then rF m 36 else if k = 15 then rF m 35 else if k = 14 then rF m 34 else rF m k := by
  unfold mRes
  rw [rF_uN, rF_uI, rF_uI, rF_uN, rF_uF, rF_uF, rF_uF, rF_uF, rF_uA]
set_option maxRecDepth 20000 in
/-- what was kept, told of a model whose kept rows, bays and carts are the same -/
theorem qLv_R {kp ks m t : zs} (h : qLv kp ks (mRes m)) (hA : ∀ k, k = 10 ∨ k = 11 ∨ k = 12 ∨ k = 33 → rA t k = rA m k) (hN : ∀ k, k = 4 ∨ k = 5 ∨ k = 29 ∨ k = 32 → rN t k = rN m k) (hI : ∀ k, k = 30 ∨ k = 31 → rI t k = rI m k) (hF : ∀ k, 33 < k → rF t k = rF m k) : qLv kp ks (mRes t) := by
  refine qLv_of h (fun k h1 h2 => ?_) (fun k hk => ?_) (fun k hk => ?_) (fun k hk => ?_)
  · rw [mRes_A, mRes_A]
    by_cases e : k = 13
    · rw [if_pos e, if_pos e]; exact hA 33 (by omega)
    · rw [if_neg e, if_neg e]; exact hA k (by omega)
  · rw [mRes_N, mRes_N]
    rcases hk with e | e | e | e <;> subst e
    · exact hN 4 (by omega)
    · exact hN 5 (by omega)
    · exact hN 29 (by omega)
    · exact hN 32 (by omega)
  · rw [mRes_I, mRes_I]
    rcases hk with e | e <;> subst e
    · exact hI 30 (by omega)
    · exact hI 31 (by omega)
  · rw [mRes_F, mRes_F]
    rcases hk with e | e | e | e <;> subst e
    · exact hF 34 (by omega)
    · exact hF 35 (by omega)
    · exact hF 36 (by omega)
    · exact hF 37 (by omega)
set_option maxRecDepth 20000 in
theorem J_P {i : Nat} {pg nw kp sn ks mx m t : zs} (h : J i pg nw kp sn ks mx m) (p : mP t m) : J i pg nw kp sn ks mx t := by
  obtain ⟨⟨a1, a2, a3⟩, b, ⟨c1, c2⟩, ⟨d1, d2⟩, e, f⟩ := h
  have n1 := p.2.1 1 (by decide) (by decide)
  have n9 := p.2.1 9 (by decide) (by decide)
  have n20 := p.2.1 20 (by decide) (by decide)
  have i28 := p.2.2.1 28 (by decide)
  refine ⟨⟨by rw [n1]; exact a1, by rw [n1]; exact a2, by rw [p.2.2.2 0 (by omega)]; exact a3⟩, qLv_P b p, ⟨by rw [n9]; exact c1, by rw [n9]; exact c2⟩, ⟨by rw [n20]; exact d1, by rw [n20]; exact d2⟩, ?_, ?_⟩
  · rw [i28, n9]; exact e
  · rw [i28, n9]
    rcases f with f | ⟨f1, f2, f3⟩
    · exact Or.inl f
    · exact Or.inr ⟨f1, f2, qLv_R f3 (fun k _ => p.1 k) (fun k hk => p.2.1 k (by omega) (by omega)) (fun k hk => p.2.2.1 k (by omega)) (fun k hk => p.2.2.2 k (by omega))⟩
set_option maxRecDepth 20000 in
theorem J_s {i : Nat} {pg nw kp sn ks mx m : zs} (h : J i pg nw kp sn ks mx m) : J (i + 1) pg nw kp sn ks mx m := ⟨h.1, h.2.1, ⟨h.2.2.1.1, by have := h.2.2.1.2; omega⟩, h.2.2.2⟩
set_option maxRecDepth 20000 in
/-- a change of the live part alone -/
theorem J_L {i : Nat} {pg nw nw2 kp sn sn2 ks mx m t : zs} (h : J i pg nw kp sn ks mx m) (hl : qLv nw2 sn2 t) (h1 : rN t 1 = rN m 1) (h0 : rF t 0 = rF m 0) (h9 : rN t 9 = rN m 9) (h20 : rN t 20 = rN m 20) (h28 : rI t 28 = rI m 28) (hA : ∀ k, k = 10 ∨ k = 11 ∨ k = 12 ∨ k = 33 → rA t k = rA m k) (hN : ∀ k, k = 4 ∨ k = 5 ∨ k = 29 ∨ k = 32 → rN t k = rN m k) (hI : ∀ k, k = 30 ∨ k = 31 → rI t k = rI m k) (hF : ∀ k, 33 < k → rF t k = rF m k) : J i pg nw2 kp sn2 ks mx t := by
  obtain ⟨⟨a1, a2, a3⟩, b, ⟨c1, c2⟩, ⟨d1, d2⟩, e, f⟩ := h
  refine ⟨⟨by rw [h1]; exact a1, by rw [h1]; exact a2, by rw [h0]; exact a3⟩, hl, ⟨by rw [h9]; exact c1, by rw [h9]; exact c2⟩, ⟨by rw [h20]; exact d1, by rw [h20]; exact d2⟩, by rw [h28, h9]; exact e, ?_⟩
  rw [h28, h9]
  rcases f with f | ⟨f1, f2, f3⟩
  · exact Or.inl f
  · exact Or.inr ⟨f1, f2, qLv_R f3 hA hN hI hF⟩
def feOK (fe : zs) : Prop := ∀ j, ∃ v, v ≤ 30 ∧ rF fe 1 j = nI v
def Gd (i : Nat) (w : zh) : Prop := ∃ (pg nw kp sn ks fo ft fe gt mx : zs) (re : Nat → Int64) (m : zs) (hh : Int64), w = wW pg nw kp sn ks fo ft fe gt mx re m hh ∧ J i pg nw kp sn ks mx m ∧ feOK fe
/-- a call of both: the same answer, and all stands as it should -/
def Oki (G : zG) (i : Nat) (yc ym : zY) (as : List Value) (w : zh) : Prop := ∃ (v : Int32) (w1 w2 : zh), zK G yc (.ref 0 :: as) w (some (.int v)) w1 ∧ zK G ym (.ref 49 :: as) w1 (some (.int v)) w2 ∧ (∃ fs, w1 49 = zO 7 fs) ∧ Gd (i + 1) w2
end
