section
set_option maxRecDepth 20000 in
theorem qB_frame {b2 : Nat} {s t x : zs} (h : qB b2 s x) (hc : ∀ c, c ∈ ml x b2 → rF t 7 c = rF s 7 c ∧ rF t 8 c = rF s 8 c ∧ rF t 9 c = rF s 9 c) (hl : sl t b2 = sl s b2) : qB b2 t x := ⟨fun c h1 => by
  obtain ⟨c1, c2, c3⟩ := h.1 c h1
  obtain ⟨d1, d2, d3⟩ := hc c h1
  exact ⟨by rw [d1]; exact c1, by rw [d2]; exact c2, by rw [d3]; exact c3⟩, by rw [hl]; exact h.2⟩
set_option maxRecDepth 20000 in
theorem bWarm_out (s : zs) (b : Nat) {c : Nat} (h : c ∉ sl s b) : rF (bWarm s b) 7 c = rF s 7 c ∧ rF (bWarm s b) 8 c = rF s 8 c ∧ rF (bWarm s b) 9 c = rF s 9 c := by
  rw [bWarm_eq]
  refine ⟨rfl, rfl, ?_⟩
  rw [rF_uF, if_pos rfl]
  exact dWarm_out _ _ h
set_option maxRecDepth 20000 in
theorem bWarm_sl (s : zs) (b b2 : Nat) : sl (bWarm s b) b2 = sl s b2 := by rw [bWarm_eq]; rfl
set_option maxRecDepth 20000 in
theorem bBurn_out (s : zs) (b : Nat) {c : Nat} (h : c ∉ sl s b) : rF (bBurnS s b) 7 c = rF s 7 c ∧ rF (bBurnS s b) 8 c = rF s 8 c ∧ rF (bBurnS s b) 9 c = rF s 9 c := by
  have hn : c ∉ dLost (rF s 9) (sl s b) := fun q => h ((List.dropWhile_sublist _).subset q)
  obtain ⟨-, b2, -⟩ := bBurn_R s b
  exact ⟨by rw [b2 7 c (Or.inl rfl), if_neg hn], by rw [b2 8 c (Or.inr (Or.inl rfl)), if_neg hn], by rw [b2 9 c (Or.inr (Or.inr rfl)), if_neg hn]⟩
set_option maxRecDepth 20000 in
theorem bDry_out (s : zs) (b : Nat) {c : Nat} (h : c ∉ sl s b) : rF (bDry s b) 7 c = rF s 7 c ∧ rF (bDry s b) 8 c = rF s 8 c ∧ rF (bDry s b) 9 c = rF s 9 c := by
  obtain ⟨b1, b2, -, -⟩ := bDry_R s b
  exact ⟨by rw [b2 7 (by decide)], by rw [b1 c, dDry_n (fun q => h (last_in q))], by rw [b2 9 (by decide)]⟩
def bBD (s : zs) (b : Nat) : zs := bDry (bBurnS (bWarm s b) b) b
set_option maxRecDepth 20000 in
theorem bBD_out (s : zs) (b : Nat) {c : Nat} (h : c ∉ sl s b) : rF (bBD s b) 7 c = rF s 7 c ∧ rF (bBD s b) 8 c = rF s 8 c ∧ rF (bBD s b) 9 c = rF s 9 c := by
  have h1 : c ∉ sl (bWarm s b) b := by rw [bWarm_sl]; exact h
  have h2 : c ∉ sl (bBurnS (bWarm s b) b) b := by
    rw [(bBurn_R (bWarm s b) b).2.2.2.2.2.1]
    exact fun q => h1 ((List.takeWhile_sublist _).subset q)
  obtain ⟨a1, a2, a3⟩ := bWarm_out s b h
  obtain ⟨e1, e2, e3⟩ := bBurn_out (bWarm s b) b h1
  obtain ⟨f1, f2, f3⟩ := bDry_out (bBurnS (bWarm s b) b) b h2
  exact ⟨f1.trans (e1.trans a1), f2.trans (e2.trans a2), f3.trans (e3.trans a3)⟩
set_option maxRecDepth 20000 in
theorem bBD_sl (s : zs) {b b2 : Nat} (h : b2 ≠ b) : sl (bBD s b) b2 = sl s b2 := by
  unfold bBD
  rw [(bDry_R _ b).2.2.2 b2, (bBurn_R _ b).2.2.2.2.2.2 b2 h, bWarm_sl]
set_option maxRecDepth 20000 in
theorem bBD_A (s : zs) (b k : Nat) (hk : k ≠ 10) : rA (bBD s b) k = rA s k := by
  unfold bBD
  rw [bDry_A, (bBurn_R _ b).2.2.1 k hk, bWarm_eq]; rfl
set_option maxRecDepth 20000 in
theorem bBD_N (s : zs) (b k : Nat) : rN (bBD s b) k = rN s k := by
  unfold bBD
  rw [bDry_N, (bBurn_R _ b).2.2.2.1 k, bWarm_eq]; rfl
set_option maxRecDepth 20000 in
theorem bBD_I (s : zs) (b k : Nat) : rI (bBD s b) k = rI s k := by
  unfold bBD
  rw [(bDry_R _ b).2.2.1 k, (bBurn_R _ b).2.2.2.2.1 k, bWarm_eq]; rfl
set_option maxRecDepth 20000 in
theorem mWA_V {x : zs} : rF (mWA x) 17 = rF x 17 ∧ rF (mWA x) 18 = rF x 18 := ⟨(mWA_R _ 0 x).2 17 (by decide), (mWA_R _ 0 x).2 18 (by decide)⟩
set_option maxRecDepth 20000 in
theorem qM_WA {x : zs} (h : qM x) : qM (mWA x) := qM_of h (mWA_A _ 0 x) (fun k _ => mWA_N _ 0 x k)
set_option maxRecDepth 20000 in
theorem mBBs_V : ∀ (n i k : Nat) (x : zs), qM x → qV (rF x 17) → qV (rF x 18) → i + n ≤ rN x 4 → qV (rF (zfw mBB i n (k, x)).2 17) ∧ qV (rF (zfw mBB i n (k, x)).2 18)
  := by
  intro n
  induction n with
  | zero => exact fun _ _ _ _ h h2 _ => ⟨h, h2⟩
  | succ n ih =>
    intro i k x hM hv hw hi
    have hO := mGos_O (lostM x i) x
    rw [zfw, mBB_eq i k x (hM.2.1 i (by omega)) hv]
    exact ih (i + 1) _ _ (qM_of hM hO.1 (fun k _ => hO.2.1 k)) (qV_gos 17 (Or.inl rfl) hv) (qV_gos 18 (Or.inr (Or.inl rfl)) hw) (by rw [hO.2.1 4]; omega)
set_option maxRecDepth 20000 in
theorem qV_dry {w : Nat → Int32} (h : qV w) (o : Option Nat) : qV (dDry w o) := fun c => by
  unfold dDry
  cases o with
  | none => exact h c
  | some t =>
    show ∃ n, n ≤ 9 ∧ (if c = t then w t - (if w t ≤ 0 then nI 0 else nI 1) else w c) = nI n
    by_cases e : c = t
    · rw [if_pos e]
      obtain ⟨n, hn, e2⟩ := h t
      by_cases z : w t ≤ 0
      · rw [if_pos z, i32_sub0]; exact ⟨n, hn, e2⟩
      · rw [if_neg z, e2]
        have : 1 ≤ n := by
          rcases Nat.eq_zero_or_pos n with y | y
          · exact absurd (by rw [e2, y, nI_0]; decide) z
          · exact y
        exact ⟨n - 1, by omega, nix_sub this⟩
    · rw [if_neg e]; exact h c
set_option maxRecDepth 20000 in
theorem mDT_V {b : Nat} {x : zs} (hv : qV (rF x 17)) (hw : qV (rF x 18)) : qV (rF (mDT b x) 17) ∧ qV (rF (mDT b x) 18) := by
  obtain ⟨r1, r2⟩ := mDT_R b x hv
  refine ⟨by rw [r2 17 (by decide)]; exact hv, fun c => ?_⟩
  rw [r1 c]
  exact qV_dry hw _ c
set_option maxRecDepth 20000 in
theorem mDTs_V : ∀ (n i : Nat) (x : zs), qV (rF x 17) → qV (rF x 18) → qV (rF (zfw mDT i n x) 17) ∧ qV (rF (zfw mDT i n x) 18)
  | 0, _, _, h, h2 => ⟨h, h2⟩
  | n + 1, i, x, hv, hw => mDTs_V n (i + 1) (mDT i x) (mDT_V hv hw).1 (mDT_V hv hw).2
set_option maxRecDepth 20000 in
/-- a bay's day is the model's day there -/
theorem qB_day {b : Nat} {s x : zs} (hM : qM x) (hS : qS s x) (hv : qV (rF x 17)) (hw : qV (rF x 18)) (hb : b < rN x 4) (h : qB b s x) : qB b (bBD s b) (mDay x).2 ∧ bBurnN (bWarm s b) b = (lostM (mWA x) b).length := by
  have h4 : rN (mWA x) 4 = rN x 4 := mWA_N _ 0 x 4
  have hM1 := qM_WA hM
  have hv1 : qV (rF (mWA x) 17) := by rw [mWA_V.1]; exact hv
  have h1 := qB_warm hM hS hv hw hb h
  have h2 := qB_burn hM1 hv1 (by rw [h4]; exact hb) 0 h1
  rw [h4] at h2
  have hM2 : qM (zfw mBB 0 (rN x 4) (0, mWA x)).2 := qM_of hM1 (mBBL_A _ _ _) (fun k _ => mBBL_N _ _ _ k)
  have hv2 := (mBBs_V (rN x 4) 0 0 (mWA x) hM1 hv1 (by rw [mWA_V.2]; exact hw) (by rw [h4]; omega)).1
  exact ⟨qB_dry hM2 hv2 (by rw [mBBL_N]; show b < rN (mWA x) 4; rw [h4]; exact hb) h2.1, h2.2⟩
set_option maxRecDepth 20000 in
/-- the same without fire -/
theorem qB_wd {b : Nat} {s x : zs} (hM : qM x) (hS : qS s x) (hv : qV (rF x 17)) (hw : qV (rF x 18)) (hb : b < rN x 4) (h : qB b s x) : qB b (bDry (bWarm s b) b) (mWD x) := by
  have h4 : rN (mWA x) 4 = rN x 4 := mWA_N _ 0 x 4
  exact qB_dry (qM_WA hM) (by rw [mWA_V.1]; exact hv) (by rw [h4]; exact hb) (qB_warm hM hS hv hw hb h)
set_option maxRecDepth 20000 in
/-- bays one behind the other, each its own -/
theorem bays_loop (x z : zs) (B : Nat) (f : Nat → zs → zs) (cn : Nat → zs → Nat) (d : Nat → Nat) (J : zs → Prop)
    (hst : ∀ b s, b < B → J s → qB b s x → qB b (f b s) z ∧ cn b s = d b) (hJ : ∀ b s, b < B → J s → J (f b s))
    (hfr : ∀ b b2 s, b < B → b2 < B → b2 ≠ b → J s → qB b s x → (qB b2 s x → qB b2 (f b s) x) ∧ (qB b2 s z → qB b2 (f b s) z)) :
    ∀ (n i k : Nat) (s : zs), i + n = B → J s → (∀ b, b < i → qB b s z) → (∀ b, i ≤ b → b < B → qB b s x) → (zfw (fun b y => (y.1 + cn b y.2, f b y.2)) i n (k, s)).1 = sumL d i n k ∧ J (zfw (fun b y => (y.1 + cn b y.2, f b y.2)) i n (k, s)).2 ∧ ∀ b, b < B → qB b (zfw (fun b y => (y.1 + cn b y.2, f b y.2)) i n (k, s)).2 z
  := by
  intro n
  induction n with
  | zero => exact fun i k s hi hj h1 _ => ⟨rfl, hj, fun b hb => h1 b (by omega)⟩
  | succ n ih =>
    intro i k s hi hj h1 h2
    have hib : i < B := by omega
    have hq := h2 i (Nat.le_refl _) hib
    have hs := hst i s hib hj hq
    rw [zfw, sumL]
    show (zfw _ (i + 1) n (k + cn i s, f i s)).1 = _ ∧ _
    rw [hs.2]
    refine ih (i + 1) _ (f i s) (by omega) (hJ i s hib hj) (fun b hb => ?_) (fun b hb hb2 => ?_)
    · by_cases e : b = i
      · rw [e]; exact hs.1
      · exact (hfr i b s hib (by omega) e hj hq).2 (h1 b (by omega))
    · exact (hfr i b s hib hb2 (by omega) hj hq).1 (h2 b (by omega) hb2)
def qQ (s x : zs) : Prop := bOK s ∧ qM x ∧ qS s x ∧ qV (rF x 17) ∧ qV (rF x 18) ∧ ∀ b, b < rN x 4 → qB b s x
set_option maxRecDepth 20000 in
theorem qB_disj {b b2 c : Nat} {s x : zs} (hM : qM x) (hb : b < rN x 4) (hb2 : b2 < rN x 4) (hne : b2 ≠ b) (h : qB b s x) (hc : c ∈ ml x b2) : c ∉ sl s b := fun q => by
  rw [h.2] at q
  exact hne (qM_home hM hb2 hb hc (ma_in q))
set_option maxRecDepth 20000 in
theorem qS_of {s t x y : zs} (h : qS s x) (hN : ∀ k, k < 2 → rN t k = rN s k) (h5 : rA t 5 = rA s 5) (h6 : rA t 6 = rA s 6) (hA : ∀ k, rA y k = rA x k) (hN2 : ∀ k, k < 6 → rN y k = rN x k) : qS t y := by
  obtain ⟨a, b, c⟩ := h
  refine ⟨by rw [hN2 4 (by decide), hN 0 (by decide)]; exact a, by rw [hN2 5 (by decide), hN 1 (by decide)]; exact b, fun k hk => ?_⟩
  rw [hA 10, hA 11, h5, h6]
  exact c k (by rw [← hN2 5 (by decide)]; exact hk)
set_option maxRecDepth 20000 in
theorem qQ_day {s x : zs} (h : qQ s x) : qQ (bD s) (mDay x).2 ∧ (bDay s).1 = (mDay x).1 ∧ rI (bD s) 4 = rI s 4 + nI (mDay x).1 ∧ rI (bD s) 3 = rI s 3 ∧ rN (bD s) 2 = rN s 2 + 1 := by
  obtain ⟨hO, hM, hS, hv, hw, hB⟩ := h
  have h4 : rN (mWA x) 4 = rN x 4 := mWA_N _ 0 x 4
  have hA := mDay_A x
  have key := bays_loop x (mDay x).2 (rN x 4) (fun b s => bBD s b) (fun b s => bBurnN (bWarm s b) b) (fun b => (lostM (mWA x) b).length) (fun t => qS t x ∧ (∀ k, rI t k = rI s k) ∧ (∀ k, rN t k = rN s k))
    (fun b t hb hj hq => qB_day hM hj.1 hv hw hb hq)
    (fun b t hb hj => ⟨qS_of hj.1 (fun k _ => bBD_N t b k) (bBD_A t b 5 (by decide)) (bBD_A t b 6 (by decide)) (fun _ => rfl) (fun _ _ => rfl), fun k => (bBD_I t b k).trans (hj.2.1 k), fun k => (bBD_N t b k).trans (hj.2.2 k)⟩)
    (fun b b2 t hb hb2 hne hj hq => ⟨fun q => qB_frame q (fun c hc => bBD_out t b (qB_disj hM hb hb2 hne hq hc)) (bBD_sl t hne), fun q => qB_frame q (fun c hc => bBD_out t b (qB_disj hM hb hb2 hne hq (by rw [← ml_of hA]; exact hc))) (bBD_sl t hne)⟩)
    (rN x 4) 0 0 s (Nat.zero_add _) ⟨hS, fun _ => rfl, fun _ => rfl⟩ (fun b hb => by omega) (fun b _ hb => hB b hb)
  have e0 : bDay s = zfw (fun b y => (y.1 + bBurnN (bWarm y.2 b) b, bBD y.2 b)) 0 (rN x 4) (0, s) := by
    unfold bDay
    rw [hS.1]; rfl
  rw [← e0] at key
  obtain ⟨k1, k2, k3⟩ := key
  have hn : (bDay s).1 = (mDay x).1 := by
    rw [k1]
    have := (mBBs_R (rN x 4) 0 0 (mWA x) (qM_WA hM) (by rw [mWA_V.1]; exact hv) (by rw [h4]; omega)).1
    exact this.symm
  have hM2 : qM (mDay x).2 := qM_of hM hA (fun k _ => mDay_N x k)
  have hV2 := mBBs_V (rN x 4) 0 0 (mWA x) (qM_WA hM) (by rw [mWA_V.1]; exact hv) (by rw [mWA_V.2]; exact hw) (by rw [h4]; omega)
  have hV3 := mDTs_V (rN (zfw mBB 0 (rN x 4) (0, mWA x)).2 4) 0 _ hV2.1 hV2.2
  refine ⟨⟨bD_ok hO, hM2, ?_, hV3.1, hV3.2, fun b hb => ?_⟩, hn, ?_, ?_, ?_⟩
  · refine qS_of (s := (bDay s).2) (x := x) k2.1 (fun k hk => ?_) rfl rfl hA (fun k _ => mDay_N x k)
    show rN (uI (uN (bDay s).2 2 _) 4 _) k = _
    rw [rN_uI, rN_uN, if_neg (by omega)]
  · rw [mDay_N] at hb
    exact ⟨(k3 b hb).1, (k3 b hb).2⟩
  · show rI (uI (uN (bDay s).2 2 _) 4 _) 4 = _
    rw [rI_uI, if_pos rfl, k2.2.1 4, hn]
  · show rI (uI (uN (bDay s).2 2 _) 4 _) 3 = _
    rw [rI_uI, if_neg (by decide)]
    exact k2.2.1 3
  · show rN (uI (uN (bDay s).2 2 _) 4 _) 2 = _
    rw [rN_uI, rN_uN, if_pos rfl, k2.2.2 2]
end
