section
/-! how warm carts can be -/
def qH (U : Nat) (x : zs) : Prop := ∀ c, c < rN x 5 → ∃ u, u ≤ U ∧ rF x 19 c = nI u
set_option maxRecDepth 20000 in
theorem kWM_N (k n : Nat) (h : n ≤ 12) : ∃ g, g ≤ 24 ∧ kWarmsM k (nI n) = nI g := by
  unfold kWarmsM
  split
  · exact ⟨n / 2, by omega, pk_div (by omega) (by decide) (by decide)⟩
  · split
    · exact ⟨2 * n, by omega, nix_mul⟩
    · split
      · exact ⟨0, by omega, rfl⟩
      · split
        · exact ⟨n / 4, by omega, pk_div (by omega) (by decide) (by decide)⟩
        · exact ⟨n, by omega, rfl⟩
set_option maxRecDepth 20000 in
theorem mGain_N {x : zs} (hM : qM x) (hw : qV (rF x 18)) {c : Nat} (hc : c < rN x 5) : ∃ g, g ≤ 24 ∧ mGain x c = nI g := by
  unfold mGain
  split
  · exact ⟨0, by omega, rfl⟩
  · obtain ⟨p, -, R, f1, -, f3, -, -⟩ := ml_at hM hc
    obtain ⟨n, hn, e⟩ := hw c
    have hle := onC_le (rF x 17) (rF x 18) 1 R 0
    have hlen : R.length ≤ 3 := by rw [f3, qL_len]; have := hM.1.2.1 (rA x 11 c); omega
    rw [mOn_L f1, ← f3, e, nI_add]
    exact kWM_N _ _ (by omega)
set_option maxRecDepth 20000 in
theorem qH_warm {x : zs} {U : Nat} (hM : qM x) (hw : qV (rF x 18)) (h : qH U x) : qH (U + 24) (mWA x) := fun c hc => by
  rw [show rN (mWA x) 5 = rN x 5 from mWA_N _ 0 x 5] at hc
  obtain ⟨u, hu, e⟩ := h c hc
  obtain ⟨g, hg, e2⟩ := mGain_N hM hw hc
  refine ⟨u + g, by omega, ?_⟩
  rw [show rF (mWA x) 19 c = _ from (mWA_R (rN x 5) 0 x).1 c, if_pos (by omega), e, e2, nI_add]
set_option maxRecDepth 20000 in
theorem qH_burn {x : zs} {U : Nat} (hM : qM x) (hv : qV (rF x 17)) (h : qH U x) (k : Nat) : qH U (zfw mBB 0 (rN x 4) (k, x)).2 := fun c hc => by
  rw [show rN (zfw mBB 0 (rN x 4) (k, x)).2 5 = rN x 5 from mBBL_N _ _ _ 5] at hc
  obtain ⟨h1, h2⟩ := hM.2.2.2 c hc
  obtain ⟨-, r2, -⟩ := mBBs_R (rN x 4) 0 k x hM hv (by omega)
  rw [r2 19 (rA x 11 c) c (Or.inr (Or.inr rfl)) h1 h2]
  split
  · exact ⟨0, by omega, rfl⟩
  · exact h c hc
set_option maxRecDepth 20000 in
theorem qH_day {x : zs} {U : Nat} (hM : qM x) (hv : qV (rF x 17)) (hw : qV (rF x 18)) (h : qH U x) : qH (U + 24) (mDay x).2 := fun c hc => by
  have h4 : rN (mWA x) 4 = rN x 4 := mWA_N _ 0 x 4
  have h2 := qH_burn (qM_WA hM) (by rw [mWA_V.1]; exact hv) (qH_warm hM hw h) 0
  rw [h4] at h2
  rw [mDay_N] at hc
  have e : rF (mDay x).2 19 = rF (zfw mBB 0 (rN x 4) (0, mWA x)).2 19 := qmDTL_F _ _ _ 19 (by decide)
  rw [e]
  exact h2 c (by rw [show rN (zfw mBB 0 (rN x 4) (0, mWA x)).2 5 = rN (mWA x) 5 from mBBL_N _ _ _ 5, show rN (mWA x) 5 = rN x 5 from mWA_N _ 0 x 5]; exact hc)
/-! a cart tried at each wet -/
def mP1 (x m : zs) : Prop := (∀ k, rA x k = rA m k) ∧ (∀ k, rN x k = rN m k) ∧ (∀ k, rI x k = rI m k) ∧ (∀ k, k < 17 ∨ 19 < k → k ≠ 26 → rF x k = rF m k)
set_option maxRecDepth 20000 in
theorem mP1_refl (x : zs) : mP1 x x := ⟨fun _ => rfl, fun _ => rfl, fun _ => rfl, fun _ _ _ => rfl⟩
set_option maxRecDepth 20000 in
theorem mP1_trans {x y z : zs} (h : mP1 x y) (g : mP1 y z) : mP1 x z := ⟨fun k => (h.1 k).trans (g.1 k), fun k => (h.2.1 k).trans (g.2.1 k), fun k => (h.2.2.1 k).trans (g.2.2.1 k), fun k a b => (h.2.2.2 k a b).trans (g.2.2.2 k a b)⟩
set_option maxRecDepth 20000 in
theorem mP1_P {x y : zs} (h : mP1 x y) : mP x y := ⟨h.1, fun k _ _ => h.2.1 k, fun k _ => h.2.2.1 k, fun k hk => h.2.2.2 k (by omega) (by omega)⟩
set_option maxRecDepth 20000 in
theorem mP0_P1 {x y : zs} (h : mP0 x y) : mP1 x y := ⟨h.1, h.2.1, h.2.2.1, fun k hk _ => h.2.2.2 k hk⟩
set_option maxRecDepth 20000 in
theorem mWD_P0 (x : zs) : mP0 (mWD x) x := ⟨fun k => (mDTL_A _ _ _ k).trans (mWA_A _ 0 x k), fun k => (mDTL_N _ _ _ k).trans (mWA_N _ 0 x k), fun k => (mDTL_I _ _ _ k).trans (mWA_I _ 0 x k), fun k hk => (qmDTL_F _ _ _ k (by omega)).trans (qmWA_F _ _ _ k (by omega))⟩
set_option maxRecDepth 20000 in
theorem mP1_u26 (x : zs) (f : Nat → Int32) : mP1 (uF x 26 f) x := ⟨fun _ => rfl, fun _ => rfl, fun _ => rfl, fun k _ hk => by rw [rF_uF, if_neg hk]⟩
set_option maxRecDepth 20000 in
theorem qWay_in {c w b : Nat} : ∀ (n j u : Nat) (s x e : zs), qM x → qS s x → qV (rF x 17) → qV (rF x 18) → b < rN x 4 → c ∈ ml x b → qB b s x → rF x 19 c = nI u → u + 24 * n ≤ 100000 → w < 10 → j + n = 9 →
    (∀ k, rF (zfw (gDay b c w) (j + 1) n (s, e)).2 1 k = if 9 * w + j ≤ k ∧ k < 9 * w + (j + n) then rF (zfw (mWyF c w) j n x) 26 k else rF e 1 k) ∧ (∀ k, ¬ (9 * w + j ≤ k ∧ k < 9 * w + (j + n)) → rF (zfw (mWyF c w) j n x) 26 k = rF x 26 k) ∧ (∀ k, 9 * w + j ≤ k → k < 9 * w + (j + n) → ∃ v, v ≤ 30 ∧ rF (zfw (mWyF c w) j n x) 26 k = nI v) ∧ mP1 (zfw (mWyF c w) j n x) x := by
  intro n
  induction n with
  | zero => intro j u s x e _ _ _ _ _ _ _ _ _ _ _; exact ⟨fun k => by rw [if_neg (by omega)]; rfl, fun k _ => rfl, fun k h1 h2 => by omega, mP1_refl x⟩
  | succ n ih =>
    intro j u s x e hM hS hv hw hb hc h hu hun hw10 hj
    have hP := mWD_P0 x
    have hq := qB_wd hM hS hv hw hb h
    have hM2 : qM (mWD x) := qM_of hM hP.1 (fun k _ => hP.2.1 k)
    have hc5 := (hM.2.2.1 b c hb hc).1
    have hV2 := mDTs_V (rN (mWA x) 4) 0 (mWA x) (by rw [mWA_V.1]; exact hv) (by rw [mWA_V.2]; exact hw)
    obtain ⟨g, hg, eg⟩ := mGain_N hM hw hc5
    have e19 : rF (mWD x) 19 c = nI (u + g) := by
      rw [show rF (mWD x) 19 = rF (mWA x) 19 from qmDTL_F _ _ _ 19 (by decide), show rF (mWA x) 19 c = _ from (mWA_R (rN x 5) 0 x).1 c, if_pos (by omega), hu, eg, nI_add]
    have hc2 : c ∈ ml (mWD x) b := by rw [ml_of hP.1]; exact hc
    have eS : rF (bDry (bWarm s b) b) 9 c = nI (u + g) := by rw [← (hq.1 c hc2).2.2]; exact e19
    have ev : (if rF (bDry (bWarm s b) b) 9 c < nI 30 then rF (bDry (bWarm s b) b) 9 c else nI 30) = nI (min (u + g) 30) := by
      rw [eS]
      by_cases z : u + g < 30
      · rw [if_pos (nI_lt z (by omega)), Nat.min_eq_left (by omega)]
      · rw [if_neg (nI_nlt (by omega) (by omega)), Nat.min_eq_right (by omega)]
    have em : (if rF (mWD x) 19 c ≤ nI 30 then rF (mWD x) 19 c else nI 30) = nI (min (u + g) 30) := by
      rw [e19]
      by_cases z : u + g ≤ 30
      · rw [if_pos (nI_le z (by omega)), Nat.min_eq_left (by omega)]
      · rw [if_neg (nI_ge (by omega) (by omega)), Nat.min_eq_right (by omega)]
    have e1 : gDay b c w (j + 1) (s, e) = (bDry (bWarm s b) b, uF e 1 (upd (rF e 1) (9 * w + j) (nI (min (u + g) 30)))) := by
      unfold gDay gV
      rw [ev, show w * 9 + (j + 1) - 1 = 9 * w + j by omega]
    have e2 : mWyF c w j x = uF (mWD x) 26 (upd (rF (mWD x) 26) (9 * w + j) (nI (min (u + g) 30))) := by
      unfold mWyF
      rw [em]
    rw [zfw, zfw, e1, e2]
    have e26 : rF (mWD x) 26 = rF x 26 := hP.2.2.2 26 (by omega)
    obtain ⟨r1, r2, r3, r4⟩ := ih (j + 1) (u + g) (bDry (bWarm s b) b) (uF (mWD x) 26 (upd (rF (mWD x) 26) (9 * w + j) (nI (min (u + g) 30)))) (uF e 1 (upd (rF e 1) (9 * w + j) (nI (min (u + g) 30))))
      (qM_of hM2 (fun _ => rfl) (fun _ _ => rfl)) (qS_of hS (fun k _ => by rw [bDry_N, bWarm_eq]; rfl) (by rw [bDry_A, bWarm_eq]; rfl) (by rw [bDry_A, bWarm_eq]; rfl) hP.1 (fun k _ => hP.2.1 k)) hV2.1 hV2.2 (by show b < rN (mWD x) 4; rw [hP.2.1]; exact hb) hc2 ⟨hq.1, hq.2⟩ e19 (by omega) hw10 (by omega)
    have en : rF (zfw (mWyF c w) (j + 1) n (uF (mWD x) 26 (upd (rF (mWD x) 26) (9 * w + j) (nI (min (u + g) 30))))) 26 (9 * w + j) = nI (min (u + g) 30) := by
      rw [r2 (9 * w + j) (by omega), rF_uF, if_pos rfl, upd_s]
    refine ⟨fun k => ?_, fun k hk => ?_, fun k h1 h2 => ?_, mP1_trans r4 (mP1_trans (mP1_u26 _ _) (mP0_P1 hP))⟩
    · rw [r1 k, rF_uF, if_pos rfl]
      by_cases z : k = 9 * w + j
      · rw [z, if_neg (by omega), upd_s, if_pos (by omega), en]
      · rw [upd_n _ _ z]
        by_cases y : 9 * w + (j + 1) ≤ k ∧ k < 9 * w + (j + 1 + n)
        · rw [if_pos y, if_pos (by omega)]
        · rw [if_neg y, if_neg (by omega)]
    · rw [r2 k (by omega), rF_uF, if_pos rfl, upd_n _ _ (by omega), e26]
    · by_cases z : k = 9 * w + j
      · rw [z, en]; exact ⟨_, by omega, rfl⟩
      · exact r3 k (by omega) (by omega)
set_option maxRecDepth 20000 in
theorem qV_upd {f : Nat → Int32} (h : qV f) (c n : Nat) (hn : n ≤ 9) : qV (upd f c (nI n)) := fun k => by
  by_cases e : k = c
  · rw [e, upd_s]; exact ⟨n, hn, rfl⟩
  · rw [upd_n _ _ e]; exact h k
set_option maxRecDepth 20000 in
theorem qWay_out {nw M : zs} {c U : Nat} (h : qQ nw M) (hMM : mBegin M = M) (hc : c < rN M 5) (hH : qH U M) (hU : U ≤ 50000) : ∀ (n w : Nat) (g e x : zs), mP1 x M → w + n = 10 →
    (∀ k, rF (zfw (gWet nw c) w n (g, e)).2 1 k = if 9 * w ≤ k ∧ k < 90 then rF (zfw (mWySo c) w n x) 26 k else rF e 1 k) ∧ (∀ k, k < 9 * w → rF (zfw (mWySo c) w n x) 26 k = rF x 26 k) ∧ (∀ k, 9 * w ≤ k → k < 90 → ∃ v, v ≤ 30 ∧ rF (zfw (mWySo c) w n x) 26 k = nI v) ∧ mP1 (zfw (mWySo c) w n x) M := by
  intro n
  induction n with
  | zero => intro w g e x hx hw; exact ⟨fun k => by rw [if_neg (by omega)]; rfl, fun k _ => rfl, fun k h1 h2 => by omega, hx⟩
  | succ n ih =>
    intro w g e x hx hw
    obtain ⟨hO, hM, hS, hv, hw18, hB⟩ := h
    obtain ⟨hb, hcm⟩ := hM.2.2.2 c hc
    have eb : rA nw 6 c = rA M 11 c := ((hS.2.2 c hc).2).symm
    have a17 : rF (mW0 c w x) 17 = rF M 17 := by
      show rF x 14 = rF M 17
      rw [hx.2.2.2 14 (by omega) (by omega), ← hMM]; rfl
    have a18 : rF (mW0 c w x) 18 = upd (rF M 18) c (nI w) := by
      show upd (rF x 15) c (nI w) = _
      rw [hx.2.2.2 15 (by omega) (by omega), ← hMM]; rfl
    have a19 : rF (mW0 c w x) 19 = rF M 19 := by
      show rF x 16 = rF M 19
      rw [hx.2.2.2 16 (by omega) (by omega), ← hMM]; rfl
    have aP : mP1 (mW0 c w x) x := ⟨fun _ => rfl, fun _ => rfl, fun _ => rfl, fun k hk _ => by unfold mW0; rw [rF_uF, if_neg (by omega), qmBegin_F x k hk]⟩
    have a26 : rF (mW0 c w x) 26 = rF x 26 := by unfold mW0; rw [rF_uF, if_neg (by decide), qmBegin_F x 26 (by omega)]
    have aQ := mP1_trans aP hx
    have hM0 : qM (mW0 c w x) := qM_of hM aQ.1 (fun k _ => aQ.2.1 k)
    have hS0 : qS (uF nw 8 (upd (rF nw 8) c (nI w))) (mW0 c w x) := qS_of hS (fun _ _ => rfl) rfl rfl aQ.1 (fun k _ => aQ.2.1 k)
    have hq0 : qB (rA M 11 c) (uF nw 8 (upd (rF nw 8) c (nI w))) (mW0 c w x) := by
      refine ⟨fun d hd => ?_, ?_⟩
      · rw [ml_of aQ.1] at hd
        obtain ⟨c1, c2, c3⟩ := (hB _ hb).1 d hd
        refine ⟨by rw [a17]; exact c1, ?_, by rw [a19]; exact c3⟩
        rw [a18, rF_uF, if_pos rfl]
        by_cases z : d = c
        · rw [z, upd_s, upd_s]
        · rw [upd_n _ _ z, upd_n _ _ z]; exact c2
      · rw [ma_congr aQ.1 (fun d _ => by rw [a17])]
        exact (hB _ hb).2
    obtain ⟨u, hu, eu⟩ := hH c hc
    obtain ⟨q1, q2, q3, q4⟩ := qWay_in (c := c) (w := w) (b := rA M 11 c) 9 0 u (uF nw 8 (upd (rF nw 8) c (nI w))) (mW0 c w x) e hM0 hS0 (by rw [a17]; exact hv) (by rw [a18]; exact qV_upd hw18 c w (by omega)) (by rw [aQ.2.1]; exact hb) (by rw [ml_of aQ.1]; exact hcm) hq0 (by rw [a19]; exact eu) (by omega) (by omega) rfl
    rw [zfw, zfw]
    have eg : gWet nw c w (g, e) = zfw (gDay (rA M 11 c) c w) (0 + 1) 9 (uF nw 8 (upd (rF nw 8) c (nI w)), e) := by unfold gWet; rw [eb]
    have ew : mWySo c w x = zfw (mWyF c w) 0 9 (mW0 c w x) := rfl
    rw [← eg] at q1
    rw [← ew] at q1 q2 q3 q4
    obtain ⟨r1, r2, r3, r4⟩ := ih (w + 1) (gWet nw c w (g, e)).1 (gWet nw c w (g, e)).2 (mWySo c w x) (mP1_trans q4 aQ) (by omega)
    refine ⟨fun k => ?_, fun k hk => ?_, fun k h1 h2 => ?_, r4⟩
    · rw [r1 k, q1 k]
      by_cases z : 9 * (w + 1) ≤ k ∧ k < 90
      · rw [if_pos z, if_pos (by omega)]
      · rw [if_neg z]
        by_cases y : 9 * w ≤ k ∧ k < 90
        · rw [if_pos (by omega), if_pos y, r2 k (by omega)]
        · rw [if_neg (by omega), if_neg y]
    · rw [r2 k (by omega), q2 k (by omega), a26]
    · by_cases z : k < 9 * (w + 1)
      · rw [r2 k z]; exact q3 k (by omega) (by omega)
      · exact r3 k (by omega) h2
end
