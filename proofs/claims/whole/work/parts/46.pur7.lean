section
set_option maxRecDepth 20000 in
/-- the bay that is cut -/
theorem qB_cut {b k n mu : Nat} {s x y : zs} (hM : qM x) (hb : b < rN x 4) (h : qB b s x) (hl : (sl s b).getLast? = some k) (h0 : ¬ rA s 10 b = 0) (ek : rA s 11 (b * 3 + rA s 10 b - 1) = k) (hn : 1 ≤ n) (hn9 : n ≤ 9) (e17 : rF x 17 k = nI n) (hm : 1 ≤ mu) (hm3 : mu ≤ 3)
    (hA : ∀ j, rA y j = rA x j) (hc : ∀ c, c ∈ ml x b → rF y 17 c = rF x 17 c ∧ rF y 18 c = rF x 18 c ∧ rF y 19 c = rF x 19 c) : qB b (bSl2 s b (nI mu)) (mC3 y k (nI (min n mu))) := by
  have hin : k ∈ ma x b := by rw [← h.2]; exact last_in hl
  have hml := ma_in hin
  have e7 : rF s 7 k = nI n := by rw [← (h.1 k hml).1]; exact e17
  have hless : bLess s b (nI mu) = nI (min n mu) := by
    unfold bLess
    rw [ek, e7]
    exact qLess_c hn9 hm3
  have e2 : rF s 7 k - bLess s b (nI mu) = nI (n - min n mu) := by rw [e7, hless]; exact nix_sub (Nat.min_le_left _ _)
  obtain ⟨r1, r2, r3, -, r5, -⟩ := bSl2_R h0 hl ek e2
  have ey : rF y 17 k - nI (min n mu) = nI (n - min n mu) := by rw [(hc k hml).1, e17]; exact nix_sub (Nat.min_le_left _ _)
  obtain ⟨m1, m2, m3, -, -⟩ := mC3_R y k (nI (min n mu))
  rw [ey] at m1 m2
  have hA2 : ∀ j, rA (mC3 y k (nI (min n mu))) j = rA x j := fun j => (m3 j).trans (hA j)
  refine ⟨fun c h1 => ?_, ?_⟩
  · rw [ml_of hA2] at h1
    obtain ⟨c1, c2, c3⟩ := h.1 c h1
    obtain ⟨d1, d2, d3⟩ := hc c h1
    refine ⟨?_, ?_, ?_⟩
    · rw [m1 c, r1 c, d1, c1]
    · rw [m2 18 c (Or.inl rfl), r2 8 c (Or.inl rfl), d2, c2]
    · rw [m2 19 c (Or.inr rfl), r2 9 c (Or.inr rfl), d3, c3]
  · rw [r5]
    have hma : ma (mC3 y k (nI (min n mu))) b = (ma x b).filter (fun c => !decide (c = k ∧ nI (n - min n mu) = 0)) := by
      unfold ma
      rw [ml_of hA2, List.filter_filter]
      refine List.filter_congr (fun c h1 => ?_)
      unfold qa
      rw [m1 c, (hc c h1).1]
      by_cases e : c = k
      · rw [if_pos e, e, e17]
        have : ¬ nI n = 0 := nI_ne0 (by omega) (by omega)
        simp [this]
      · rw [if_neg e]; simp [e]
    rw [hma, h.2]
    by_cases q : nI (n - min n mu) = 0
    · rw [if_pos q]
      have hnd : (ma x b).Nodup := (hM.2.1 b hb).filter _
      rw [h.2] at hl
      have hst := (snoc_take hl).1
      have hnd2 : ((ma x b).take ((ma x b).length - 1) ++ [k]).Nodup := by rw [hst]; exact hnd
      have hnd3 := List.nodup_append.mp hnd2
      have e : (ma x b).filter (fun c => !decide (c = k ∧ nI (n - min n mu) = 0)) = ((ma x b).take ((ma x b).length - 1) ++ [k]).filter (fun c => !decide (c = k ∧ nI (n - min n mu) = 0)) := by rw [hst]
      rw [e, List.filter_append, List.filter_eq_self.mpr (fun c h1 => by
        have : c ≠ k := hnd3.2.2 c h1 k (List.mem_singleton.mpr rfl)
        simp [this]), List.filter_cons, if_neg (by simp [q]), List.filter_nil, List.append_nil]
    · rw [if_neg q, List.filter_eq_self.mpr (fun c _ => by simp [q])]
set_option maxRecDepth 20000 in
theorem bDryBut_I (b : Nat) : ∀ (n i : Nat) (x : zs) (k : Nat), rI (zfw (fun j x => if j = b then x else bDry x j) i n x) k = rI x k
  | 0, _, _, _ => rfl
  | n + 1, i, x, k => by
    rw [zfw, bDryBut_I b n (i + 1)]
    split
    · rfl
    · exact (bDry_R x i).2.2.1 k
set_option maxRecDepth 20000 in
theorem qQ_cut {s x : zs} {b k mu : Nat} (h : qQ s x) (hb : b < rN x 4) (hk : mTop x b = some k) (hm : 1 ≤ mu) (hm3 : mu ≤ 3) : qQ (bSlice s b (nI mu)) (mCut x b k (nI mu)) ∧ bGive s b (nI mu) = kGives (rA x 10 k) (mLess x k (nI mu)) ∧ rI (bSlice s b (nI mu)) 3 = rI s 3 + kGives (rA x 10 k) (mLess x k (nI mu)) ∧ rI (bSlice s b (nI mu)) 4 = rI s 4 ∧ rN (bSlice s b (nI mu)) 2 = rN s 2 := by
  obtain ⟨h0, ek, hml, hk5, n, hn, hn9, e17, e7⟩ := qTop_some h hb hk
  have hl : (sl s b).getLast? = some k := by rw [(h.2.2.2.2.2 b hb).2, ← mTop_L x b h.2.2.2.1]; exact hk
  obtain ⟨hO, hM, hS, hv, hw, hB⟩ := h
  have hlm : mLess x k (nI mu) = nI (min n mu) := by unfold mLess; rw [e17]; exact qLess_m hn9 hm3
  have hlc : bLess s b (nI mu) = nI (min n mu) := by unfold bLess; rw [ek, e7]; exact qLess_c hn9 hm3
  have hg : bGive s b (nI mu) = kGives (rA x 10 k) (mLess x k (nI mu)) := by
    unfold bGive
    rw [if_neg h0, ek, hlc, hlm, (hS.2.2 k hk5).1]
  have e2 : rF s 7 k - bLess s b (nI mu) = nI (n - min n mu) := by rw [e7, hlc]; exact nix_sub (Nat.min_le_left _ _)
  obtain ⟨r1, r2, r3, r4, r5, r6⟩ := bSl2_R h0 hl ek e2
  have hO2 : bOK (bSl2 s b (nI mu)) := bSl2_ok hO b _
  have hS2 : qS (bSl2 s b (nI mu)) x := qS_of hS (fun j _ => bSl2_N s b _ j) (r3 5 (by decide)) (r3 6 (by decide)) (fun _ => rfl) (fun _ _ => rfl)
  -- the model before and behind the drying
  have hX : ∀ y : zs, (∀ j, rA y j = rA x j) → (∀ j, rN y j = rN x j) → rF y 17 = rF x 17 → rF y 19 = rF x 19 → (∀ c, c ∈ ml x b → rF y 18 c = rF x 18 c) → qB b (bSl2 s b (nI mu)) (mC3 y k (nI (min n mu))) := fun y hA _ h17 h19 h18 =>
    qB_cut hM hb (hB b hb) hl h0 ek hn hn9 e17 hm hm3 hA (fun c hc => ⟨by rw [h17], h18 c hc, by rw [h19]⟩)
  have hoth : ∀ (b2 : Nat) (t y : zs), b2 < rN x 4 → b2 ≠ b → (∀ j, rA y j = rA x j) → qB b2 t y → qB b2 t (mC3 y k (nI (min n mu))) := fun b2 t y hb2 hne hA hq => by
    obtain ⟨m1, m2, m3, -, -⟩ := mC3_R y k (nI (min n mu))
    have hnk : ∀ c, c ∈ ml x b2 → c ≠ k := fun c hc e => hne (qM_home hM hb2 hb hc (e ▸ hml))
    refine ⟨fun c hc => ?_, ?_⟩
    · rw [ml_of m3] at hc
      obtain ⟨c1, c2, c3⟩ := hq.1 c hc
      rw [ml_of hA] at hc
      refine ⟨by rw [m1 c, if_neg (hnk c hc)]; exact c1, by rw [m2 18 c (Or.inl rfl), if_neg (fun z => hnk c hc z.1)]; exact c2, by rw [m2 19 c (Or.inr rfl), if_neg (fun z => hnk c hc z.1)]; exact c3⟩
    · rw [hq.2]
      refine (ma_congr m3 (fun c hc => ?_)).symm
      rw [ml_of hA] at hc
      rw [m1 c, if_neg (hnk c hc)]
  have hV : ∀ y : zs, rF y 17 = rF x 17 → qV (rF y 18) → qV (rF (mC3 y k (nI (min n mu))) 17) ∧ qV (rF (mC3 y k (nI (min n mu))) 18) := fun y h17 h18 => by
    obtain ⟨m1, m2, -⟩ := mC3_R y k (nI (min n mu))
    refine ⟨fun c => ?_, fun c => ?_⟩
    · rw [m1 c]
      split
      · refine ⟨n - min n mu, by omega, ?_⟩
        rw [h17, e17]
        exact nix_sub (Nat.min_le_left _ _)
      · rw [h17]; exact hv c
    · rw [m2 18 c (Or.inl rfl)]
      split
      · exact ⟨0, by omega, rfl⟩
      · exact h18 c
  have hfr : ∀ b2, b2 < rN x 4 → b2 ≠ b → qB b2 (bSl2 s b (nI mu)) x := fun b2 hb2 hne => by
    have hnk : ∀ c, c ∈ ml x b2 → c ≠ k := fun c hc e => hne (qM_home hM hb2 hb hc (e ▸ hml))
    exact qB_frame (hB b2 hb2) (fun c hc => ⟨by rw [r1 c, if_neg (hnk c hc)], by rw [r2 8 c (Or.inl rfl), if_neg (fun z => hnk c hc z.1)], by rw [r2 9 c (Or.inr rfl), if_neg (fun z => hnk c hc z.1)]⟩) (r6 b2 hne)
  have eS : bSlice s b (nI mu) = uI (bSl3 s b (nI mu)) 3 (rI (bSl3 s b (nI mu)) 3 + bGive s b (nI mu)) := by unfold bSlice; rw [if_neg h0]
  have eK : rA s 5 k = rA x 10 k := ((hS.2.2 k hk5).1).symm
  have key : bOK (bSl3 s b (nI mu)) ∧ qS (bSl3 s b (nI mu)) x ∧ qM (mC1 x b k) ∧ (∀ j, rA (mC1 x b k) j = rA x j) ∧ (∀ j, rN (mC1 x b k) j = rN x j) ∧ rF (mC1 x b k) 17 = rF x 17 ∧ qV (rF (mC1 x b k) 18) ∧ (∀ j, rI (bSl3 s b (nI mu)) j = rI s j) ∧ (∀ j, rN (bSl3 s b (nI mu)) j = rN s j) ∧ ∀ b2, b2 < rN x 4 → qB b2 (bSl3 s b (nI mu)) (mC3 (mC1 x b k) k (nI (min n mu))) := by
    unfold bSl3
    rw [ek, eK]
    by_cases q : rA x 10 k = 3
    · rw [if_pos q]
      have eC : mC1 x b k = zfw (mDO 3 b) 0 (rN x 4) x := by unfold mC1; rw [q]
      obtain ⟨d1, d2, d3⟩ := mDOs_R b (rN x 4) 0 x hM hv hw (by omega)
      rw [← eC] at d1 d2 d3
      have hA : ∀ j, rA (mC1 x b k) j = rA x j := mDOL_A _ _ _ _ _
      have hN : ∀ j, rN (mC1 x b k) j = rN x j := mDOL_N _ _ _ _ _
      have h17 : rF (mC1 x b k) 17 = rF x 17 := d2 17 (by decide)
      have hz18 : ∀ c, c ∈ ml x b → rF (mC1 x b k) 18 c = rF x 18 c := fun c hc => by rw [d1 b c hb hc, if_neg (fun z => z.2.2 rfl)]
      refine ⟨bOK_of hO2 (bDryBut_A b _ 0 _) (bDryBut_N b _ 0 _), qS_of hS2 (fun j _ => bDryBut_N b _ 0 _ j) (bDryBut_A b _ 0 _ 5) (bDryBut_A b _ 0 _ 6) (fun _ => rfl) (fun _ _ => rfl), qM_of hM hA (fun j _ => hN j), hA, hN, h17, d3, fun j => (bDryBut_I b _ 0 _ j).trans (r4 j), fun j => (bDryBut_N b _ 0 _ j).trans (bSl2_N s b _ j), ?_⟩
      have e4 : rN (bSl2 s b (nI mu)) 0 = rN x 4 := by rw [bSl2_N]; exact hS.1.symm
      have key2 := bays_loop (mC3 x k (nI (min n mu))) (mC3 (mC1 x b k) k (nI (min n mu))) (rN x 4) (fun j t => if j = b then t else bDry t j) (fun _ _ => 0) (fun _ => 0) (fun _ => True)
        (fun b2 t hb2 _ hq => ⟨by
          obtain ⟨m1, m2, m3, -, -⟩ := mC3_R x k (nI (min n mu))
          obtain ⟨p1, p2, p3, -, -⟩ := mC3_R (mC1 x b k) k (nI (min n mu))
          have hA3 : ∀ j, rA (mC3 (mC1 x b k) k (nI (min n mu))) j = rA (mC3 x k (nI (min n mu))) j := fun j => by rw [p3, m3, hA]
          have hl17 : ∀ c, rF (mC3 (mC1 x b k) k (nI (min n mu))) 17 c = rF (mC3 x k (nI (min n mu))) 17 c := fun c => by rw [p1 c, m1 c, h17]
          have h19 : rF (mC1 x b k) 19 = rF x 19 := d2 19 (by decide)
          have hl19 : ∀ c, rF (mC3 (mC1 x b k) k (nI (min n mu))) 19 c = rF (mC3 x k (nI (min n mu))) 19 c := fun c => by rw [p2 19 c (Or.inr rfl), m2 19 c (Or.inr rfl), h17, h19]
          have hma : ma (mC3 (mC1 x b k) k (nI (min n mu))) b2 = ma (mC3 x k (nI (min n mu))) b2 := ma_congr hA3 (fun c _ => hl17 c)
          by_cases e : b2 = b
          · show qB b2 (if b2 = b then t else bDry t b2) _
            rw [if_pos e]
            refine ⟨fun c hc => ?_, by rw [hma]; exact hq.2⟩
            rw [ml_of hA3] at hc
            obtain ⟨c1, c2, c3⟩ := hq.1 c hc
            refine ⟨by rw [hl17]; exact c1, ?_, by rw [hl19]; exact c3⟩
            rw [← c2, p2 18 c (Or.inl rfl), m2 18 c (Or.inl rfl), h17, hz18 c (by rw [ml_of m3, e] at hc; exact hc)]
          · show qB b2 (if b2 = b then t else bDry t b2) _
            rw [if_neg e]
            have hnk : ∀ c, c ∈ ml x b2 → c ≠ k := fun c hc z => e (qM_home hM hb2 hb hc (z ▸ hml))
            obtain ⟨f1, f2, -, f4⟩ := bDry_R t b2
            have hma2 : ma (mC3 x k (nI (min n mu))) b2 = ma x b2 := ma_congr m3 (fun c hc => by rw [m1 c, if_neg (hnk c hc)])
            refine ⟨fun c hc => ?_, by rw [hma, f4 b2]; exact hq.2⟩
            rw [ml_of hA3] at hc
            obtain ⟨c1, c2, c3⟩ := hq.1 c hc
            rw [ml_of m3] at hc
            refine ⟨by rw [hl17, f2 7 (by decide)]; exact c1, ?_, by rw [hl19, f2 9 (by decide)]; exact c3⟩
            rw [p2 18 c (Or.inl rfl), if_neg (fun z => hnk c hc z.1), d1 b2 c hb2 hc, if_pos ⟨Nat.zero_le _, by omega, e⟩, f1 c, hq.2, hma2]
            refine dDry_congr ?_
            rw [← c2, m2 18 c (Or.inl rfl), if_neg (fun z => hnk c hc z.1)], rfl⟩)
        (fun _ _ _ _ => trivial)
        (fun b1 b2 t hb1 hb2 hne _ hq => by
          obtain ⟨m1, m2, m3, mN, -⟩ := mC3_R x k (nI (min n mu))
          obtain ⟨p1, p2, p3, -, -⟩ := mC3_R (mC1 x b k) k (nI (min n mu))
          have hMx : qM (mC3 x k (nI (min n mu))) := qM_of hM m3 (fun j _ => mN j)
          show (_ → qB b2 (if b1 = b then t else bDry t b1) _) ∧ (_ → qB b2 (if b1 = b then t else bDry t b1) _)
          by_cases e : b1 = b
          · rw [if_pos e]; exact ⟨fun z => z, fun z => z⟩
          · rw [if_neg e]
            refine ⟨fun z => qB_frame z (fun c hc => bDry_out t b1 (qB_disj hMx (by rw [mN]; exact hb1) (by rw [mN]; exact hb2) hne hq hc)) ((bDry_R t b1).2.2.2 b2), fun z => qB_frame z (fun c hc => bDry_out t b1 (qB_disj hMx (by rw [mN]; exact hb1) (by rw [mN]; exact hb2) hne hq ?_)) ((bDry_R t b1).2.2.2 b2)⟩
            rw [ml_of p3, ml_of hA] at hc
            rw [ml_of m3]; exact hc)
        (rN x 4) 0 0 (bSl2 s b (nI mu)) (Nat.zero_add _) trivial (fun _ hz => by omega) (fun b2 _ hb2 => by
          by_cases e : b2 = b
          · rw [e]; exact hX x (fun _ => rfl) (fun _ => rfl) rfl rfl (fun _ _ => rfl)
          · exact hoth b2 _ x hb2 e (fun _ => rfl) (hfr b2 hb2 e))
      have ez : ∀ (n i k2 : Nat) (t : zs), (zfw (fun b2 (y : Nat × zs) => (y.1 + 0, if b2 = b then y.2 else bDry y.2 b2)) i n (k2, t)).2 = zfw (fun j t => if j = b then t else bDry t j) i n t := by
        intro n
        induction n with
        | zero => intros; rfl
        | succ n ih => intro i k2 t; rw [zfw, zfw]; exact ih (i + 1) _ _
      intro b2 hb2
      have := key2.2.2 b2 hb2
      rw [show bDryBut (bSl2 s b (nI mu)) b = zfw (fun j t => if j = b then t else bDry t j) 0 (rN x 4) (bSl2 s b (nI mu)) by unfold bDryBut; rw [e4]]
      rw [← ez (rN x 4) 0 0]
      exact this
    · rw [if_neg q]
      have eC : mC1 x b k = x := mDOs_n q b _ 0 x
      rw [eC]
      refine ⟨hO2, hS2, hM, fun _ => rfl, fun _ => rfl, rfl, hw, r4, fun j => bSl2_N s b _ j, fun b2 hb2 => ?_⟩
      by_cases e : b2 = b
      · rw [e]; exact hX x (fun _ => rfl) (fun _ => rfl) rfl rfl (fun _ _ => rfl)
      · exact hoth b2 _ x hb2 e (fun _ => rfl) (hfr b2 hb2 e)
  obtain ⟨k1, k2, k3, k4, k5, k6, k7, k8, k9, k10⟩ := key
  have eM : mCut x b k (nI mu) = mC3 (mC1 x b k) k (nI (min n mu)) := by unfold mCut; rw [hlm]
  obtain ⟨-, -, m3, m4, -⟩ := mC3_R (mC1 x b k) k (nI (min n mu))
  have hVV := hV (mC1 x b k) k6 k7
  rw [eS, eM, hg]
  refine ⟨⟨k1, qM_of k3 m3 (fun j _ => m4 j), qS_of k2 (fun _ _ => rfl) rfl rfl (fun j => (m3 j).trans (k4 j)) (fun j _ => (m4 j).trans (k5 j)), hVV.1, hVV.2, fun b2 hb2 => ?_⟩, rfl, ?_, ?_, ?_⟩
  · rw [m4, k5] at hb2
    exact ⟨(k10 b2 hb2).1, (k10 b2 hb2).2⟩
  · rw [rI_uI, if_pos rfl, k8]
  · rw [rI_uI, if_neg (by decide), k8]
  · rw [rN_uI, k9]
end
