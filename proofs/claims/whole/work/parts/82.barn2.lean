section
set_option maxRecDepth 20000 in
theorem pSecond_n {pg : zs} {nc : Nat} (hn : 4 * nc = rN pg 1 + 1) (hgd : ∀ j, j < nc → goodC (rF pg 0) j) : pSecond pg = true ↔ 1 ≤ (tB (rF pg 0) (nc - 1)).1 := by
  have hcnt : ∀ k, 1 ≤ (tB (rF pg 0) k).1 ↔ ∃ j, j < k ∧ rF pg 0 (4 * j + 3) = nI 59 := by
    intro k
    induction k with
    | zero => exact ⟨fun z => absurd z (by show ¬ 1 ≤ 0; omega), fun ⟨j, h, _⟩ => by omega⟩
    | succ k ih =>
      rw [tB]
      by_cases q : rF pg 0 (4 * k + 3) = nI 59
      · rw [if_pos q]
        exact ⟨fun _ => ⟨k, by omega, q⟩, fun _ => by show 1 ≤ _ + 1; omega⟩
      · rw [if_neg q]
        show 1 ≤ (tB (rF pg 0) k).1 ↔ _
        rw [ih]
        constructor
        · rintro ⟨j, a, b⟩; exact ⟨j, by omega, b⟩
        · rintro ⟨j, a, b⟩
          refine ⟨j, ?_, b⟩
          by_cases z : j = k
          · rw [z] at b; exact absurd b q
          · omega
  rw [hcnt]
  unfold pSecond
  rw [Option.isSome_iff_exists]
  constructor
  · rintro ⟨p, hp⟩
    have hl := zfind_lt _ _ _ hp
    have e59 : rF pg 0 p = nI 59 := of_decide_eq_true hl.2.2.1
    obtain ⟨g0, g1, g2⟩ := hgd (p / 4) (by omega)
    refine ⟨p / 4, ?_, ?_⟩
    · have h3 : p % 4 = 3 := by
        rcases (show p % 4 = 0 ∨ p % 4 = 1 ∨ p % 4 = 2 ∨ p % 4 = 3 by omega) with z | z | z | z
        · rw [show 4 * (p / 4) = p by omega] at g0
          exact absurd e59 (kOf_44 g0).2
        · rw [show 4 * (p / 4) + 1 = p by omega, e59] at g1
          exact absurd g1 (by decide +kernel)
        · rw [show 4 * (p / 4) + 2 = p by omega, e59] at g2
          exact absurd g2 (by decide +kernel)
        · exact z
      omega
    · have h3 : p % 4 = 3 := by
        rcases (show p % 4 = 0 ∨ p % 4 = 1 ∨ p % 4 = 2 ∨ p % 4 = 3 by omega) with z | z | z | z
        · rw [show 4 * (p / 4) = p by omega] at g0
          exact absurd e59 (kOf_44 g0).2
        · rw [show 4 * (p / 4) + 1 = p by omega, e59] at g1
          exact absurd g1 (by decide +kernel)
        · rw [show 4 * (p / 4) + 2 = p by omega, e59] at g2
          exact absurd g2 (by decide +kernel)
        · exact z
      rw [show 4 * (p / 4) + 3 = p by omega]; exact e59
  · rintro ⟨j, a, b⟩
    exact zfind_ex (rN pg 1) 0 (4 * j + 3) (by omega) (by omega) (decide_eq_true b)
set_option maxRecDepth 20000 in
theorem inc_nd (h : Nat → Nat) : ∀ (n i : Nat), (∀ p q, i ≤ p → p < q → q < i + n → h p < h q) → (qL h i n).Nodup
  | 0, _, _ => List.nodup_nil
  | n + 1, i, hh => by
    rw [qL, List.nodup_cons]
    refine ⟨fun z => ?_, inc_nd h n (i + 1) (fun p q a b c => hh p q (by omega) b (by omega))⟩
    obtain ⟨p, p1, p2, p3⟩ := (qL_mem h _ _ _).mp z
    have := hh i p (Nat.le_refl _) (by omega) (by omega)
    omega
set_option maxRecDepth 20000 in
/-- what both have read is alike -/
theorem kI_qQ {f : Nat → Int32} {nc : Nat} {s x : zs} (h : kI f nc s x) (h5 : rN x 5 = nc) (h4 : rN x 4 = (tB f (nc - 1)).1 + 1) (hn : 0 < nc) (h9 : nc ≤ 9) (hb2 : ∀ j, j < nc → (tB f j).1 ≤ 2) : qQ s (mBegin x) := by
  obtain ⟨⟨a1, a2, a3, a4, a5⟩, c0, d0, d1, d2, e0, e1, e2, o1, o2, v1, v2⟩ := h
  rw [if_neg (by omega)] at a2
  have hlast := hb2 (nc - 1) (by omega)
  have hmem : ∀ b c, b < 3 → c ∈ ml (mBegin x) b → c < nc ∧ (tB f c).1 = b := fun b c hb hc => by
    obtain ⟨p, p1, p2, p3⟩ := (qL_mem _ c _ _).mp hc
    have z := e0 b p hb (by show p < rA x 12 b; have : rA (mBegin x) 12 b = rA x 12 b := rfl; omega)
    have p3' : rA x 13 (4 * b + p) = c := p3
    rw [p3'] at z
    exact z.2
  refine ⟨⟨o1.1, o1.2.1, o1.2.2.1, o1.2.2.2, by rw [a2]; omega, by rw [a1]; exact h9⟩, ⟨⟨o2.1, o2.2.1, o2.2.2.1, o2.2.2.2, by show rN x 4 ≤ 3; rw [h4]; omega, by show rN x 5 ≤ 9; rw [h5]; exact h9⟩, fun b hb => ?_, fun b c hb hc => ?_, fun c hc => ?_⟩, ⟨by show rN x 4 = _; rw [h4, a2], by show rN x 5 = _; rw [h5, a1], fun c hc => ?_⟩, v1, v2, fun b hb => ?_⟩
  · have hb' : b < rN x 4 := hb
    exact inc_nd _ _ _ (fun p q _ hpq hq => e1 b p q (by omega) hpq (by show q < rA x 12 b; have : rA (mBegin x) 12 b = rA x 12 b := rfl; omega))
  · have hb' : b < rN x 4 := hb
    obtain ⟨z1, z2⟩ := hmem b c (by omega) hc
    refine ⟨by show c < rN x 5; omega, ?_⟩
    show rA x 11 c = b
    rw [(c0 c z1).2.2.1]; exact z2
  · have hc' : c < nc := by rw [← h5]; exact hc
    have e11 : rA (mBegin x) 11 c = (tB f c).1 := (c0 c hc').2.2.1
    rw [e11]
    have hle : (tB f c).1 ≤ (tB f (nc - 1)).1 := by
      have := tB_le f c (nc - 1 - c)
      rw [show c + (nc - 1 - c) = nc - 1 by omega] at this
      exact this
    refine ⟨by show _ < rN x 4; omega, ?_⟩
    obtain ⟨p, p1, p2⟩ := e2 c hc'
    exact (qL_mem _ c _ _).mpr ⟨p, Nat.zero_le _, by show p < 0 + rA x 12 (tB f c).1; omega, p2⟩
  · have hc' : c < nc := by rw [← h5]; exact hc
    obtain ⟨z1, z2, z3, -⟩ := c0 c hc'
    exact ⟨z1.symm, by show rA x 11 c = _; rw [z2, z3]⟩
  · have hb' : b < rN x 4 := hb
    refine ⟨fun c hc => ?_, ?_⟩
    · obtain ⟨z1, z2⟩ := hmem b c (by omega) hc
      obtain ⟨-, -, -, y4, y5, y6, y7, -⟩ := c0 c z1
      exact ⟨y4, y5, by show rF x 16 c = _; rw [y6, y7]⟩
    · have e1' : ma (mBegin x) b = ml (mBegin x) b := by
        refine List.filter_eq_self.mpr (fun c hc => ?_)
        obtain ⟨z1, z2⟩ := hmem b c (by omega) hc
        have y8 := (c0 c z1).2.2.2.2.2.2.2
        have y8' : ¬ rF (mBegin x) 17 c = 0 := y8
        simp [qa, y8']
      rw [e1']
      unfold sl
      rw [d0 b (by omega)]
      exact qL_congr _ _ (fun p _ hp => (e0 b p (by omega) (by omega)).1)
set_option maxRecDepth 20000 in
theorem st_barn (G : zG) (i : Nat) (w : zh) (hi : i < 1000) (h : Gd i w) : Oki G i mX7_barn mX8_barn [] w := by
  obtain ⟨pg, nw, kp, sn, ks, fo, ft, fe, gt, mx, re, m, hh, rfl, hJ, hf⟩ := h
  obtain ⟨n4, n5, hO, hM, hH, hq⟩ := J_n hJ
  obtain ⟨p1, p2, p3⟩ := hJ.1
  have eF := qFault p1 p3
  have hle : ∀ (n i : Nat) (x : zs), (mFaultL (rF m 0) i n x).1 ≤ i + n := by
    intro n
    induction n with
    | zero => intro i x; exact Nat.le_refl _
    | succ n ih =>
      intro i x
      rw [mFaultL]
      split
      · have := ih (i + 1) (mGoodS i (rF m 0 i) x)
        omega
      · show i ≤ _; omega
  have hle0 : (mFault m).1 ≤ rN m 1 := by
    have := hle (rN m 1) 0 (mF0 m)
    rw [Nat.zero_add] at this
    exact this
  have no : pWhole pg = false → zK G mX7_barn [.ref 0] (wW pg nw kp sn ks fo ft fe gt mx re m hh) (some (.int (-103))) (wW pg nw kp sn ks fo ft fe gt mx re m hh) := fun z => c_barn0 G pg nw kp sn ks fo ft fe gt mx re m hh (by omega) z
  by_cases q1 : rN m 1 % 4 = 3
  · by_cases q2 : (mFault m).1 < rN m 1
    · refine Ok_mk _ (no ?_) (cm_barn1 G _ nw kp sn ks fo ft fe gt mx re m hh p2 q1 q2) (J_s (J_P hJ (mFault_P m))) hf
      unfold pWhole
      rw [eF, p1, decide_eq_false (show ¬ (mFault m).1 = rN m 1 by omega), Bool.false_and, Bool.and_false]
    · have q3 : (mFault m).1 = rN m 1 := by omega
      obtain ⟨nc, hnc⟩ : ∃ nc, 4 * nc = rN m 1 + 1 := ⟨(rN m 1 + 1) / 4, by omega⟩
      have er : rN m 1 = 4 * (nc - 1) + 3 := by omega
      obtain ⟨r1, r2⟩ := nf_all (rF m 0) (nc - 1) 0 (mF0 m) rfl rfl (by show 0 ≤ 2; omega) (by show 0 ≤ 2; omega) (by
        have : (mFaultL (rF m 0) 0 (rN m 1) (mF0 m)).1 = rN m 1 := q3
        rw [er] at this
        rw [Nat.mul_zero, Nat.zero_add]
        exact this)
      rw [Nat.mul_zero, Nat.zero_add, ← er] at r2
      have r2' : rN (mFault m).2 2 = (tB (rF m 0) (nc - 1)).1 + 1 := r2
      have hgd : ∀ j, j < nc → goodC (rF m 0) j ∧ (tB (rF m 0) j).1 ≤ 2 ∧ (tB (rF m 0) j).2 ≤ 2 := fun j hj => r1 j (Nat.zero_le _) (by omega)
      have hsec := pSecond_n (pg := pg) (nc := nc) (by omega) (fun j hj => by rw [p3]; exact (hgd j hj).1)
      rw [p3] at hsec
      have hpw : pWhole pg = pSecond pg := by
        unfold pWhole
        rw [eF, p1, q3, decide_eq_true q1, decide_eq_true rfl, Bool.true_and, Bool.true_and]
      by_cases q4 : rN (mFault m).2 2 < 2
      · refine Ok_mk _ (no ?_) (cm_barn2 G _ nw kp sn ks fo ft fe gt mx re m hh p2 q1 q3 q4) (J_s (J_P hJ (mFault_P m))) hf
        rw [hpw, Bool.eq_false_iff]
        intro z
        have := hsec.mp z
        omega
      · have hF := mFault_F m
        have e1 : rN (mFault m).2 1 = rN m 1 := hF.2.1 1 (by decide) (by decide)
        have e5 : (rN m 1 + 1) / 4 = nc := by omega
        have hB5 : rN (mB0 (mFault m).2) 5 = nc := by
          show (rN (mFault m).2 1 + 1) / 4 = nc
          rw [e1]; exact e5
        have hB4 : rN (mB0 (mFault m).2) 4 = (tB (rF m 0) (nc - 1)).1 + 1 := r2'
        have hB0 : rF (mB0 (mFault m).2) 0 = rF m 0 := hF.2.2.2 0
        have hA12 : rA (mB0 (mFault m).2) 12 = updN (updN (updN (rA m 12) 0 0) 1 0) 2 0 := by
          show updN (updN (updN (rA (mFault m).2 12) 0 0) 1 0) 2 0 = _
          rw [hF.1 12]
        have h12 : ∀ b, b < 3 → rA (mB0 (mFault m).2) 12 b = 0 := fun b hb => by
          rw [hA12]
          rcases (show b = 0 ∨ b = 1 ∨ b = 2 by omega) with z | z | z <;> subst z <;> rfl
        have h10 : ∀ b, b < 3 → rA (bEmpty nw) 10 b = 0 := fun b hb => by
          rcases (show b = 0 ∨ b = 1 ∨ b = 2 by omega) with z | z | z <;> subst z <;> rfl
        have hk0 : kI (rF m 0) 0 (bEmpty nw) (mB0 (mFault m).2) := by
          refine ⟨⟨rfl, rfl, rfl, rfl, rfl⟩, fun c hc => absurd hc (Nat.not_lt_zero _), fun b hb => by rw [h10 b hb, h12 b hb], fun b hb _ => h12 b hb, fun _ => h12 0 (by omega), fun b p hb hp => by rw [h12 b hb] at hp; omega, fun b p q hb hpq hq => by rw [h12 b hb] at hq; omega, fun c hc => absurd hc (Nat.not_lt_zero _), ⟨hO.1, ?_, hO.2.2.1, hO.2.2.2.1⟩, ⟨?_, ?_, ?_, ?_⟩, ?_, ?_⟩
          · show ∀ j, updN (updN (updN (rA nw 10) 0 0) 1 0) 2 0 j ≤ 3
            exact updN_all (P := fun v => v ≤ 3) (updN_all (P := fun v => v ≤ 3) (updN_all (P := fun v => v ≤ 3) hO.2.1 (by omega)) (by omega)) (by omega)
          · show ∀ j, rA (mFault m).2 13 j < 9
            rw [hF.1]; exact hM.1
          · rw [hA12]
            exact updN_all (P := fun v => v ≤ 3) (updN_all (P := fun v => v ≤ 3) (updN_all (P := fun v => v ≤ 3) hM.2.1 (by omega)) (by omega)) (by omega)
          · show ∀ j, rA (mFault m).2 11 j < 3
            rw [hF.1]; exact hM.2.2.1
          · show ∀ j, rA (mFault m).2 10 j ≤ 4
            rw [hF.1]; exact hM.2.2.2.1
          · show qV (rF (mFault m).2 14)
            rw [hF.2.2.2]; exact hq.2.2.2.1
          · show qV (rF (mFault m).2 15)
            rw [hF.2.2.2]; exact hq.2.2.2.2.1
        obtain ⟨u1, u2, u3, u4, u5, u6⟩ := run_all (rF m 0) nc 0 0 (bEmpty nw) (mB0 (mFault m).2) hk0 hB0 (by rw [hB5]; omega) (by omega) (fun _ => rfl) (fun j _ hj => hgd j (by omega))
        rw [Nat.mul_zero] at u1 u3
        have u1' : rGood (rF m 0) nc 0 (0, bEmpty nw) := u1
        have u3' : kI (rF m 0) nc (rRun (rF m 0) nc 0 (0, bEmpty nw)).2 (mRun nc 0 0 (mB0 (mFault m).2)) := by
          rw [Nat.zero_add] at u3; exact u3
        have hw2 : pWhole pg = true := by
          rw [hpw]
          exact hsec.mpr (by omega)
        have hcl := c_barn1 G pg nw kp sn ks fo ft fe gt mx re m hh (by omega) hw2 nc (by omega) (by rw [p3]; exact u1')
        rw [p3] at hcl
        have eN1 : rN (rRun (rF m 0) nc 0 (0, bEmpty nw)).2 1 = nc := u3'.1.1
        rw [eN1] at hcl
        have hml := cm_barn3 G (uN pg 1 0) (rRun (rF m 0) nc 0 (0, bEmpty nw)).2 kp (uN sn 3 0) ks fo ft fe gt (uN (uN mx 8 0) 9 (rN mx 9 + 1)) re m hh p2 q1 q3 q4 (by have := (hgd (nc - 1) (by omega)).2.1; omega) (by rw [e5]; exact u2)
        rw [e5] at hml
        have f5 : rN (mRun nc 0 0 (mB0 (mFault m).2)) 5 = nc := (u4 5).trans hB5
        have f4 : rN (mRun nc 0 0 (mB0 (mFault m).2)) 4 = (tB (rF m 0) (nc - 1)).1 + 1 := (u4 4).trans hB4
        have hQ := kI_qQ u3' f5 f4 (by omega) (by omega) (fun j hj => (hgd j hj).2.1)
        have f9 : rN (mRun nc 0 0 (mB0 (mFault m).2)) 9 = rN m 9 := (u4 9).trans (hF.2.1 9 (by decide) (by decide))
        have f20 : rN (mRun nc 0 0 (mB0 (mFault m).2)) 20 = rN m 20 := (u4 20).trans (hF.2.1 20 (by decide) (by decide))
        have f28 : rI (mRun nc 0 0 (mB0 (mFault m).2)) 28 = rI m 28 := (u5 28).trans (hF.2.2.1 28)
        have f0 : rF (mRun nc 0 0 (mB0 (mFault m).2)) 0 = rF m 0 := (u6 0 (by decide) (by decide) (by decide)).trans hB0
        generalize mRun nc 0 0 (mB0 (mFault m).2) = x at *
        generalize (rRun (rF m 0) nc 0 (0, bEmpty nw)).2 = s at *
        have hsn := hJ.2.1.2.2.2.2.2.2.2.2.1
        obtain ⟨-, -, ⟨t1, t2⟩, ⟨t3, t4⟩, t5, -⟩ := hJ
        obtain ⟨⟨k1, k2, k3, k4, k5⟩, kc, -⟩ := u3'
        rw [if_neg (by omega)] at k2
        refine Ok_mk _ hcl hml ?_ hf
        have b9 : rN (mBE x) 9 = rN m 9 + 1 := by show rN x 9 + 1 = _; rw [f9]
        have b28 : rI (mBE x) 28 = rI m 28 := f28
        refine ⟨⟨rfl, Nat.zero_le _, p3.trans f0.symm⟩, ⟨qQ_y hQ (fun _ _ _ => rfl) rfl rfl rfl rfl rfl, ?_, ?_, k3, Nat.zero_le _, k4, k5, ⟨fun z => by omega, fun z => by omega⟩, ⟨Nat.zero_le _, hsn.2.1, fun j hj => absurd hj (Nat.not_lt_zero _), hsn.2.2.2⟩, ⟨rfl, fun j hj => absurd hj (Nat.not_lt_zero _)⟩⟩, ⟨?_, by rw [b9]; omega⟩, ⟨t3.trans f20.symm, by show rN x 20 ≤ 12; rw [f20]; exact t4⟩, ?_, Or.inl ⟨rfl, ?_⟩⟩
        · intro c hc
          have hc' : c < rN x 5 := hc
          exact ⟨0, Nat.zero_le _, (kc c (by omega)).2.2.2.2.2.2.1⟩
        · intro c hc _
          have hc' : c < rN x 5 := hc
          exact (kc c (by omega)).2.2.2.2.2.2.1
        · rw [b9]
          show rN mx 9 + 1 = _
          rw [t1]
        · rw [b28, b9]
          rcases t5 with z | ⟨k, z1, z2⟩
          · exact Or.inl z
          · exact Or.inr ⟨k, by omega, z2⟩
        · rw [b28, b9]
          rcases t5 with z | ⟨k, z1, z2⟩
          · rw [z]
            exact fun y => nI_m1 (by omega) y.symm
          · rw [z2]
            intro y
            have := (nI_eq (by omega) (by omega)).mp y
            omega
  · refine Ok_mk _ (no ?_) (cm_barn0 G _ nw kp sn ks fo ft fe gt mx re m hh p2 q1) (J_s hJ) hf
    unfold pWhole
    rw [p1, decide_eq_false q1, Bool.false_and]
end
