section
set_option maxRecDepth 20000 in
theorem sum_eq {f : Nat → Int32} {l : Nat → Nat} : ∀ (n i a : Nat), (∀ c, i ≤ c → c < i + n → f c = nI (l c)) → zfw (fun c x => x + f c) i n (nI a) = nI (a + (qL l i n).sum) := by
  intro n
  induction n with
  | zero => intro i a _; rfl
  | succ n ih =>
    intro i a h
    rw [zfw, h i (Nat.le_refl _) (by omega), nI_add, ih (i + 1) _ (fun c h1 h2 => h c (by omega) (by omega)), qL, List.sum_cons, Nat.add_assoc]
set_option maxRecDepth 20000 in
/-- shares are alike -/
theorem qShare {nw m : zs} (h : qQ nw (mBegin m)) : ∃ (A : Nat) (l : Nat → Nat), bLightAll nw = nI A ∧ A < 1000 ∧ (∀ c, c < rN nw 1 → rF nw 7 c = nI (l c) ∧ l c < 100) ∧ oI (hSum (hTwo nw (rN nw 1)) 0 (A / 2 + 1)) = mShare m 2 ∧ (∀ re : Nat → Int64, nI (hBest (hThree l (rN nw 1) (vp_updL (zfw hClr 0 28 re) 0 1)) A (if A / 3 < 27 then A / 3 else 27)) = mShare m 3) ∧ mQ (mShS m 2) m ∧ mQ (mShS m 3) m := by
  have hv : qV (rF m 14) := h.2.2.2.1
  have h9 : rN m 5 ≤ 9 := h.2.1.1.2.2.2.2.2
  have e1 : rN nw 1 = rN m 5 := h.2.2.1.2.1.symm
  have hl : ∀ c, rF m 14 c = nI (rF m 14 c).toNatClampNeg ∧ (rF m 14 c).toNatClampNeg ≤ 9 := fun c => by
    obtain ⟨n, hn, e⟩ := hv c
    rw [e, nI_clamp (by omega)]
    exact ⟨rfl, hn⟩
  obtain ⟨l, hl⟩ : ∃ l : Nat → Nat, ∀ c, rF m 14 c = nI (l c) ∧ l c ≤ 9 := ⟨fun c => (rF m 14 c).toNatClampNeg, hl⟩
  have hnw : ∀ c, c < rN m 5 → rF nw 7 c = nI (l c) := fun c hc => by
    have := (qQ_cell h (c := c) hc).1
    rw [← this]; exact (hl c).1
  obtain ⟨⟨v2, s1, s2⟩, ⟨T, v3, t1, t2, t3⟩, q2, q3⟩ := mShare_R (l := l) h9 (fun c _ => (hl c).1) (fun c => (hl c).2)
  have hlen : (qL l 0 (rN m 5)).length = rN m 5 := qL_len _ _ _
  have hmem : ∀ x, x ∈ qL l 0 (rN m 5) → x ≤ 9 := fun x hx => by
    obtain ⟨c, -, -, e⟩ := (qL_mem l x _ _).mp hx
    rw [← e]; exact (hl c).2
  have hA : bLightAll nw = nI (qL l 0 (rN m 5)).sum := by
    unfold bLightAll
    rw [e1, sum_eq (l := l) _ _ _ (fun c _ hc => hnw c (by omega)), Nat.zero_add]
  have hSF : SL (qL l 0 (rN m 5)) (full (rN m 5)) = (qL l 0 (rN m 5)).sum := by
    have := SL_full (qL l 0 (rN m 5))
    rw [hlen] at this
    exact this
  have hA81 : (qL l 0 (rN m 5)).sum ≤ 81 := by
    rw [← hSF]
    have := SL_le (qL l 0 (rN m 5)) (full (rN m 5)) hmem
    rw [hlen] at this
    omega
  have hmsk := asg_mask (qL l 0 (rN m 5))
  have hmsk2 := asg2_mask (qL l 0 (rN m 5))
  have hco := asg_co (qL l 0 (rN m 5))
  have hsw := asg_swap (qL l 0 (rN m 5))
  have hsub := SL_sub (qL l 0 (rN m 5))
  have hS0 := SL_0 (qL l 0 (rN m 5))
  rw [hlen] at hmsk hmsk2
  have hF : full (rN m 5) < 2 ^ rN m 5 := by
    have : 0 < 2 ^ rN m 5 := Nat.pow_pos (by decide)
    unfold full; omega
  refine ⟨(qL l 0 (rN m 5)).sum, l, hA, by omega, fun c hc => ⟨hnw c (by rw [← e1]; exact hc), by have := (hl c).2; omega⟩, ?_, fun re => ?_, q2, q3⟩
  · -- among two
    rw [s1]
    have hT : hTwo nw (rN nw 1) = (qL l 0 (rN m 5)).foldl gv2 1 := by
      unfold hTwo
      rw [e1]
      rw [zfw_cg (G := fun c s => gv2 s (l c)) (rN m 5) 0 _ (fun c s _ hc => by unfold gv2; rw [hnw c (by omega)])]
      exact zfw_L (fun x s => gv2 s x) l (rN m 5) 0 1
    have hbits : ∀ k, k < 64 → (hB (hTwo nw (rN nw 1)) k = true ↔ ∃ p, sub p (full (rN m 5)) ∧ SL (qL l 0 (rN m 5)) p = k) := fun k hk => by
      rw [hB_bt _ hk, hT, two_fold (qL l 0 (rN m 5)) 1 (fun k => k = 0) (fun x hx => by have := hmem x hx; omega) (fun k hk => by
        show (1#64 : BitVec 64).getLsbD k = true ↔ _
        rw [BitVec.getLsbD_one]; simp) k hk, ← hmsk2]
      exact ⟨fun ⟨k0, d, z1, z2, z3⟩ => by rw [z2, z1, Nat.zero_add]; exact z3, fun z => ⟨0, k, rfl, by omega, z⟩⟩
    generalize hSS : SL (qL l 0 (rN m 5)) = S at *
    generalize (qL l 0 (rN m 5)).sum = A at *
    obtain ⟨g1, g2⟩ := hSum_R (hTwo nw (rN nw 1)) 0 (A / 2 + 1)
    cases e : hSum (hTwo nw (rN nw 1)) 0 (A / 2 + 1) with
    | none =>
      have := g1 e 0 (Nat.le_refl _) (by omega)
      rw [Bool.eq_false_iff] at this
      exact absurd ((hbits 0 (by decide)).mpr ⟨0, sub_0 _, hS0⟩) this
    | some k =>
      obtain ⟨-, k2, k3, k4⟩ := g2 k e
      obtain ⟨p, p1, p2⟩ := (hbits k (by omega)).mp k3
      have hp := hsub p _ p1
      rw [hSF] at hp
      refine congrArg nI (Nat.le_antisymm ?_ ?_)
      · by_cases z : p = 0
        · rw [← p2, z, hS0]; omega
        · have := s2.1 p p1 z
          omega
      · rcases s2.2 with z | ⟨q, z1, z2, z3⟩
        · omega
        · have hq := hsub q _ z1
          rw [hSF] at hq
          have hit : ∀ w, w = v2 → w ≤ A / 2 → (∃ p, sub p (full (rN m 5)) ∧ S p = w) → v2 ≤ k := fun w ew hw hpp => by
            by_cases y : v2 ≤ k
            · exact y
            · have f1 := k4 w (by omega) (by omega)
              rw [Bool.eq_false_iff] at f1
              exact absurd ((hbits w (by omega)).mpr hpp) f1
          by_cases y : S q ≤ S (full (rN m 5) - q)
          · exact hit (S q) (by omega) (by omega) ⟨q, z1, rfl⟩
          · exact hit (S (full (rN m 5) - q)) (by omega) (by omega) ⟨_, sub_diff _ _ _ hF z1, rfl⟩
  · -- among three
    rw [t1]
    have hT : hThree l (rN nw 1) (vp_updL (zfw hClr 0 28 re) 0 1) = (qL l 0 (rN m 5)).foldl (fun f x => hGive x 28 f) (vp_updL (zfw hClr 0 28 re) 0 1) := by
      unfold hThree
      rw [e1]
      exact zfw_L (fun x f => hGive x 28 f) l (rN m 5) 0 _
    have hclr : ∀ (n i : Nat) (f : Nat → Int64) (a : Nat), zfw hClr i n f a = if i ≤ a ∧ a < i + n then 0 else f a := by
      intro n
      induction n with
      | zero => intro i f a; rw [if_neg (by omega)]; rfl
      | succ n ih =>
        intro i f a
        rw [zfw, ih]
        unfold hClr vp_updL
        by_cases z : a = i
        · rw [if_neg (by omega), if_pos z, if_pos (by omega)]
        · rw [if_neg z]
          by_cases y : i ≤ a ∧ a < i + (n + 1)
          · rw [if_pos y, if_pos (by omega)]
          · rw [if_neg y, if_neg (by omega)]
    have hbits : ∀ a k, a < 28 → k < 64 → (hB (hThree l (rN nw 1) (vp_updL (zfw hClr 0 28 re) 0 1) a) k = true ↔ asg (qL l 0 (rN m 5)) a k) := fun a k ha hk => by
      rw [hB_bt _ hk, hT, three_fold (qL l 0 (rN m 5)) _ (fun a k => a = 0 ∧ k = 0) (fun x hx => by have := hmem x hx; omega) (fun a k ha hk => by
        unfold vp_updL
        by_cases z : a = 0
        · rw [if_pos z]
          show (1#64 : BitVec 64).getLsbD k = true ↔ _
          rw [BitVec.getLsbD_one]; simp [z]
        · rw [if_neg z, hclr, if_pos (by omega)]
          show (0#64 : BitVec 64).getLsbD k = true ↔ _
          simp [z]) a k ha hk]
      exact ⟨fun ⟨a0, k0, da, dk, z1, z2, z3, z4⟩ => by rw [z2, z3, z1.1, z1.2, Nat.zero_add, Nat.zero_add]; exact z4, fun z => ⟨0, 0, a, k, ⟨rfl, rfl⟩, by omega, by omega, z⟩⟩
    obtain ⟨g1, g2, g3⟩ := hBest_R (hThree l (rN nw 1) (vp_updL (zfw hClr 0 28 re) 0 1)) (qL l 0 (rN m 5)).sum (if (qL l 0 (rN m 5)).sum / 3 < 27 then (qL l 0 (rN m 5)).sum / 3 else 27)
    generalize hThree l (rN nw 1) (vp_updL (zfw hClr 0 28 re) 0 1) = F at *
    generalize hBest F (qL l 0 (rN m 5)).sum (if (qL l 0 (rN m 5)).sum / 3 < 27 then (qL l 0 (rN m 5)).sum / 3 else 27) = one at *
    generalize hSS : SL (qL l 0 (rN m 5)) = S at *
    generalize hAA : asg (qL l 0 (rN m 5)) = Q at *
    generalize (qL l 0 (rN m 5)).sum = A at *
    have hn : (if A / 3 < 27 then A / 3 else 27) = min (A / 3) 27 := by
      by_cases z : A / 3 < 27
      · rw [if_pos z]; omega
      · rw [if_neg z]; omega
    rw [hn] at g1 g3
    refine congrArg nI (Nat.le_antisymm ?_ ?_)
    · rcases g2 with z | z
      · omega
      · cases e : hSum (F one) one ((A - one) / 2 + 1 - one) with
        | none => exact absurd e z
        | some k =>
          obtain ⟨k1, k2, k3, -⟩ := (hSum_R (F one) one ((A - one) / 2 + 1 - one)).2 k e
          obtain ⟨p, q, p1, p2, p3, p4⟩ := (hmsk one k).mp ((hbits one k (by omega) (by omega)).mp k3)
          by_cases y : one = 0
          · omega
          · have n1 : p ≠ 0 := fun w => by rw [w, hS0] at p3; omega
            have n2 : q ≠ 0 := fun w => by rw [w, hS0] at p4; omega
            have b1 := t2.1 p p1 n1
            have b2 := (t3 (full (rN m 5) - p) (Nat.sub_le _ _)).1 q p2 n2
            have b3 := hsub p _ p1
            have b4 := hsub q _ p2
            rw [hSF] at b3
            omega
    · rcases t2.2 with z | ⟨p, z1, z2, z3⟩
      · omega
      · by_cases y0 : v3 = 0
        · omega
        · rcases (t3 (full (rN m 5) - p) (Nat.sub_le _ _)).2 with w | ⟨q, w1, w2, w3⟩
          · omega
          · have b3 := hsub p _ z1
            have b4 := hsub q _ w1
            rw [hSF] at b3
            have a0 : Q (S p) (S q) := (hmsk _ _).mpr ⟨p, q, z1, w1, rfl, rfl⟩
            generalize S p = a at *
            generalize S q = b at *
            generalize hc : S (full (rN m 5) - p - q) = c at *
            obtain ⟨c1, ec1, a1⟩ := hco _ _ a0
            obtain ⟨c2, ec2, a2⟩ := hco _ _ (hsw _ _ a0)
            have ec1' : c1 = c := by omega
            have ec2' : c2 = c := by omega
            rw [ec1'] at a1
            rw [ec2'] at a2
            have hit : ∀ k, Q v3 k → v3 ≤ k → k ≤ (A - v3) / 2 → v3 ≤ one := fun k hk h1 h2 => by
              by_cases y : v3 ≤ one
              · exact y
              · have f0 := g3 v3 (by omega) (by omega)
                have f1 := (hSum_R (F v3) v3 ((A - v3) / 2 + 1 - v3)).1 f0 k h1 (by omega)
                rw [Bool.eq_false_iff] at f1
                exact absurd ((hbits v3 k (by omega) (by omega)).mpr hk) f1
            by_cases y1 : v3 = a
            · by_cases y2 : b ≤ c
              · exact hit b (by rw [y1]; exact a0) (by omega) (by omega)
              · exact hit c (by rw [y1]; exact a1) (by omega) (by omega)
            · by_cases y2 : v3 = b
              · by_cases y3 : a ≤ c
                · exact hit a (by rw [y2]; exact hsw _ _ a0) (by omega) (by omega)
                · exact hit c (by rw [y2]; exact a2) (by omega) (by omega)
              · have y4 : v3 = c := by omega
                by_cases y3 : a ≤ b
                · exact hit a (by rw [y4]; exact hsw _ _ a1) (by omega) (by omega)
                · exact hit b (by rw [y4]; exact hsw _ _ a2) (by omega) (by omega)
end
