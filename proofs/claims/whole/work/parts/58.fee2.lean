section
def qE (sn m : zs) : Prop := rN sn 3 = rN m 24 ∧ ∀ j, j < rN sn 3 → rF m 25 (3 * j) = nI (rA sn 0 j) ∧ rF m 25 (3 * j + 1) = nI (rA sn 1 j) ∧ rF m 25 (3 * j + 2) = rF sn 2 j
set_option maxRecDepth 20000 in
theorem qLdU {sn e x : zs} (hs : sOK sn) (hE : qE sn x) {c so : Nat} (hc : c < 9) (hso : so < 10) (hw : ∀ k, k < 90 → rF e 1 k = rF x 26 k) : ∀ (n i u : Nat), i + n ≤ rN sn 3 → (u = 0 ∨ u = 1) → zfw (mLdF x (rA sn 1) c so) i n u = if u = 0 then 0 else if (zfind (gBad sn e c so) i n).isNone = true then 1 else 0 := by
  intro n
  induction n with
  | zero =>
    intro i u _ hu
    rcases hu with e | e
    · subst e; rfl
    · subst e; rfl
  | succ n ih =>
    intro i u hi hu
    obtain ⟨e1, e2, e3⟩ := hE.2 i (by omega)
    have h9 := hs.2.1 i
    have hd1 := hs.2.2.1 i (by omega)
    have hd9 := hs.2.2.2 i
    rw [zfw]
    have ek : (rF x 25 (3 * i) = nI c) ↔ rA sn 0 i = c := by rw [e1]; exact nI_eq (by omega) (by omega)
    have ew : rF x 26 (9 * so + rA sn 1 i - 1) = rF e 1 (so * 9 + rA sn 1 i - 1) := by
      rw [hw _ (by omega), show so * 9 + rA sn 1 i - 1 = 9 * so + rA sn 1 i - 1 by omega]
    by_cases q : rA sn 0 i = c
    · by_cases z : rF e 1 (so * 9 + rA sn 1 i - 1) = rF sn 2 i
      · have eb : gBad sn e c so i = false := by unfold gBad; simp [q, z]
        have ef : mLdF x (rA sn 1) c so i u = u := by
          unfold mLdF
          rw [if_pos (ek.mpr q), ew, e3, if_pos z]
          rcases hu with y | y
          · rw [y, if_pos rfl]
          · rw [y, if_neg (by decide)]
        rw [ef, ih (i + 1) u (by omega) hu, zfind, eb]
        simp
      · have eb : gBad sn e c so i = true := by unfold gBad; simp [q, z]
        have ef : mLdF x (rA sn 1) c so i u = 0 := by
          unfold mLdF
          rw [if_pos (ek.mpr q), ew, e3, if_neg z]
          split <;> rfl
        rw [ef, ih (i + 1) 0 (by omega) (Or.inl rfl), zfind, eb]
        simp
    · have eb : gBad sn e c so i = false := by unfold gBad; simp [q]
      have ef : mLdF x (rA sn 1) c so i u = u := by
        unfold mLdF
        rw [if_neg (fun z => q (ek.mp z))]
      rw [ef, ih (i + 1) u (by omega) hu, zfind, eb]
      simp
set_option maxRecDepth 20000 in
theorem qLaid {sn e x : zs} (hs : sOK sn) (hE : qE sn x) {c : Nat} (hc : c < 9) (hw : ∀ k, k < 90 → rF e 1 k = rF x 26 k) : gWets sn e c = mLaid x (rA sn 1) c := by
  unfold gWets mLaid
  refine zfw_cg 10 0 0 (fun so bits _ hso => ?_)
  have h := qLdU hs hE hc (so := so) (by omega) hw (rN sn 3) 0 1 (by omega) (Or.inr rfl)
  rw [if_neg (by decide)] at h
  unfold mLdB mLdU gFit
  rw [← hE.1, h, Nat.or_zero]
  by_cases q : (zfind (gBad sn e c so) 0 (rN sn 3)).isNone = true
  · rw [if_pos q, if_pos q, if_neg (by decide)]
  · rw [if_neg q, if_neg q, if_pos rfl]
set_option maxRecDepth 20000 in
theorem gWets_lt (sn e : zs) (c : Nat) : gWets sn e c < 2 ^ 30 := by
  have key : ∀ (n i a : Nat), i + n ≤ 10 → a < 2 ^ 10 → zfw (fun w bits => if gFit sn e c w = true then bits ||| 1 * 2 ^ w else bits) i n a < 2 ^ 10 := by
    intro n
    induction n with
    | zero => intro i a _ h; exact h
    | succ n ih =>
      intro i a h1 h2
      rw [zfw]
      refine ih (i + 1) _ (by omega) ?_
      split
      · rw [Nat.one_mul]
        exact Nat.or_lt_two_pow h2 (Nat.pow_lt_pow_right (by decide) (by omega))
      · exact h2
  have := key 10 0 0 (by omega) (by decide)
  unfold gWets
  omega
/-! how many stay at worst -/
def cntv (t : Nat) (f : Nat → Nat) (v : Nat) : Nat → Nat
  | 0 => 0
  | i + 1 => cntv t f v i + (if t / 2 ^ i % 2 = 1 ∧ f i = v then 1 else 0)
set_option maxRecDepth 20000 in
theorem cntv_le (t : Nat) (f : Nat → Nat) (v : Nat) : ∀ i, cntv t f v i ≤ i
  | 0 => Nat.le_refl _
  | i + 1 => by
    have := cntv_le t f v i
    rw [cntv]
    split <;> omega
set_option maxRecDepth 20000 in
theorem cntv_mono (t : Nat) (f : Nat → Nat) (v i : Nat) : ∀ n, cntv t f v i ≤ cntv t f v (i + n)
  | 0 => Nat.le_refl _
  | n + 1 => by
    have := cntv_mono t f v i n
    rw [show i + (n + 1) = (i + n) + 1 by omega, cntv]
    omega
set_option maxRecDepth 20000 in
theorem gWorst_L {t d : Nat} {wn : Nat → Nat} (h30 : ∀ j, wn j ≤ 30) : ∀ (n i M : Nat) (e : zs), i + n = 10 → (∀ v, v ≤ 30 → rF e 2 v = nI (cntv t (fun w => wn (w * 9 + d - 1)) v i)) → (∀ v, cntv t (fun w => wn (w * 9 + d - 1)) v i ≤ M) → M ≤ 10 → (M = 0 ∨ ∃ so, so < 10 ∧ t / 2 ^ so % 2 = 1 ∧ M ≤ cntv t (fun w => wn (w * 9 + d - 1)) (wn (so * 9 + d - 1)) 10) →
    ∃ M2, (zfw (gWorstStep t d wn) i n (nI M, e)).1 = nI M2 ∧ M2 ≤ 10 ∧ (∀ v, cntv t (fun w => wn (w * 9 + d - 1)) v 10 ≤ M2) ∧ (M2 = 0 ∨ ∃ so, so < 10 ∧ t / 2 ^ so % 2 = 1 ∧ M2 ≤ cntv t (fun w => wn (w * 9 + d - 1)) (wn (so * 9 + d - 1)) 10) ∧ rF (zfw (gWorstStep t d wn) i n (nI M, e)).2 1 = rF e 1 := by
  intro n
  induction n with
  | zero =>
    intro i M e hi _ h2 h3 h4
    rw [show i = 10 by omega] at h2
    exact ⟨M, rfl, h3, h2, h4, rfl⟩
  | succ n ih =>
    intro i M e hi h1 h2 h3 h4
    rw [zfw]
    by_cases q : t / 2 ^ i % 2 = 1
    · have ec : cntv t (fun w => wn (w * 9 + d - 1)) (wn (i * 9 + d - 1)) (i + 1) = cntv t (fun w => wn (w * 9 + d - 1)) (wn (i * 9 + d - 1)) i + 1 := by
        rw [cntv, if_pos ⟨q, rfl⟩]
      have eo : ∀ v, v ≠ wn (i * 9 + d - 1) → cntv t (fun w => wn (w * 9 + d - 1)) v (i + 1) = cntv t (fun w => wn (w * 9 + d - 1)) v i := fun v hv => by
        rw [cntv, if_neg (fun z => hv z.2.symm), Nat.add_zero]
      have hle := cntv_le t (fun w => wn (w * 9 + d - 1)) (wn (i * 9 + d - 1)) i
      have eu : rF (gUp e (wn (i * 9 + d - 1))) 2 = upd (rF e 2) (wn (i * 9 + d - 1)) (nI (cntv t (fun w => wn (w * 9 + d - 1)) (wn (i * 9 + d - 1)) i + 1)) := by
        unfold gUp
        rw [rF_uF, if_pos rfl, h1 _ (h30 _), nI_add]
      have e1 : gWorstStep t d wn i (nI M, e) = (nI (max M (cntv t (fun w => wn (w * 9 + d - 1)) (wn (i * 9 + d - 1)) i + 1)), gUp e (wn (i * 9 + d - 1))) := by
        unfold gWorstStep
        rw [if_pos q, eu, upd_s]
        refine congrArg (fun z => (z, gUp e (wn (i * 9 + d - 1)))) ?_
        by_cases z : M < cntv t (fun w => wn (w * 9 + d - 1)) (wn (i * 9 + d - 1)) i + 1
        · rw [if_pos (nI_lt z (by omega)), Nat.max_eq_right (by omega)]
        · rw [if_neg (nI_nlt (by omega) (by omega)), Nat.max_eq_left (by omega)]
      rw [e1]
      obtain ⟨M2, r1, r2, r3, r4, r5⟩ := ih (i + 1) (max M (cntv t (fun w => wn (w * 9 + d - 1)) (wn (i * 9 + d - 1)) i + 1)) (gUp e (wn (i * 9 + d - 1))) (by omega) (fun v hv => by
          rw [eu]
          by_cases z : v = wn (i * 9 + d - 1)
          · rw [z, upd_s, ec]
          · rw [upd_n _ _ z, eo v z]; exact h1 v hv)
        (fun v => by
          by_cases z : v = wn (i * 9 + d - 1)
          · rw [z, ec]; exact Nat.le_max_right _ _
          · rw [eo v z]; exact Nat.le_trans (h2 v) (Nat.le_max_left _ _))
        (by omega)
        (by
          by_cases z : M < cntv t (fun w => wn (w * 9 + d - 1)) (wn (i * 9 + d - 1)) i + 1
          · right
            refine ⟨i, by omega, q, ?_⟩
            rw [Nat.max_eq_right (by omega), ← ec]
            have := cntv_mono t (fun w => wn (w * 9 + d - 1)) (wn (i * 9 + d - 1)) (i + 1) (10 - (i + 1))
            rw [show i + 1 + (10 - (i + 1)) = 10 by omega] at this
            exact this
          · rw [Nat.max_eq_left (by omega)]; exact h4)
      exact ⟨M2, r1, r2, r3, r4, r5.trans rfl⟩
    · have eo : ∀ v, cntv t (fun w => wn (w * 9 + d - 1)) v (i + 1) = cntv t (fun w => wn (w * 9 + d - 1)) v i := fun v => by
        rw [cntv, if_neg (fun z => q z.1), Nat.add_zero]
      have e1 : gWorstStep t d wn i (nI M, e) = (nI M, e) := by unfold gWorstStep; rw [if_neg q]
      rw [e1]
      exact ih (i + 1) M e (by omega) (fun v hv => by rw [eo]; exact h1 v hv) (fun v => by rw [eo]; exact h2 v) h3 h4
set_option maxRecDepth 20000 in
theorem gClr_R : ∀ (n i : Nat) (e : zs), (∀ v, rF (zfw gClr i n e) 2 v = if i ≤ v ∧ v < i + n then nI 0 else rF e 2 v) ∧ rF (zfw gClr i n e) 1 = rF e 1 := by
  intro n
  induction n with
  | zero => intro i e; exact ⟨fun v => by rw [if_neg (by omega)]; rfl, rfl⟩
  | succ n ih =>
    intro i e
    obtain ⟨r1, r2⟩ := ih (i + 1) (gClr i e)
    rw [zfw]
    refine ⟨fun v => ?_, r2.trans rfl⟩
    rw [r1 v]
    have e2 : rF (gClr i e) 2 = upd (rF e 2) i (nI 0) := rfl
    rw [e2]
    by_cases z : v = i
    · rw [z, if_neg (by omega), upd_s, if_pos (by omega)]
    · rw [upd_n _ _ z]
      by_cases y : i ≤ v ∧ v < i + (n + 1)
      · rw [if_pos y, if_pos (by omega)]
      · rw [if_neg y, if_neg (by omega)]
set_option maxRecDepth 20000 in
theorem mSm_C {x : zs} {t d so : Nat} {wn : Nat → Nat} (hso : so < 10) (hd : 1 ≤ d ∧ d ≤ 9) (h30 : ∀ j, wn j ≤ 30) (hx : ∀ k, k < 90 → rF x 26 k = nI (wn k)) : ∀ (n i : Nat), i + n ≤ 10 → zfw (mSmF x t (d - 1) so) i n (cntv t (fun w => wn (w * 9 + d - 1)) (wn (so * 9 + d - 1)) i) = cntv t (fun w => wn (w * 9 + d - 1)) (wn (so * 9 + d - 1)) (i + n) := by
  intro n
  induction n with
  | zero => intro i _; rfl
  | succ n ih =>
    intro i hi
    rw [zfw]
    have e : mSmF x t (d - 1) so i (cntv t (fun w => wn (w * 9 + d - 1)) (wn (so * 9 + d - 1)) i) = cntv t (fun w => wn (w * 9 + d - 1)) (wn (so * 9 + d - 1)) (i + 1) := by
      unfold mSmF
      rw [hx _ (by omega), hx _ (by omega), cntv, show 9 * i + (d - 1) = i * 9 + d - 1 by omega, show 9 * so + (d - 1) = so * 9 + d - 1 by omega]
      have h1 := h30 (i * 9 + d - 1)
      have h2 := h30 (so * 9 + d - 1)
      have hb : t / 2 ^ i % 2 = 0 ∨ t / 2 ^ i % 2 = 1 := Nat.mod_two_eq_zero_or_one _
      by_cases z : wn (i * 9 + d - 1) = wn (so * 9 + d - 1)
      · rw [if_pos (by rw [z])]
        rcases hb with y | y
        · rw [y, if_neg (by omega)]
        · rw [y, if_pos ⟨rfl, z⟩]
      · rw [if_neg (fun w => z ((nI_eq (by omega) (by omega)).mp w)), if_neg (fun w => z w.2)]
    rw [e, ih (i + 1) (by omega), show i + 1 + n = i + (n + 1) by omega]
set_option maxRecDepth 20000 in
theorem mWs_R {x : zs} {t d : Nat} : ∀ (n i w : Nat), i + n = 10 → (∀ so, so < i → t / 2 ^ so % 2 = 1 → mSm x t d so ≤ w) → (w = 0 ∨ ∃ so, so < 10 ∧ t / 2 ^ so % 2 = 1 ∧ mSm x t d so = w) → (∀ so, so < 10 → t / 2 ^ so % 2 = 1 → mSm x t d so ≤ zfw (mWsF x t d) i n w) ∧ (zfw (mWsF x t d) i n w = 0 ∨ ∃ so, so < 10 ∧ t / 2 ^ so % 2 = 1 ∧ mSm x t d so = zfw (mWsF x t d) i n w) := by
  intro n
  induction n with
  | zero => intro i w hi h1 h2; exact ⟨fun so hso => h1 so (by omega), h2⟩
  | succ n ih =>
    intro i w hi h1 h2
    rw [zfw]
    by_cases q : t / 2 ^ i % 2 = 1
    · by_cases z : mSm x t d i ≤ w
      · rw [show mWsF x t d i w = w by unfold mWsF; rw [if_pos q, if_pos z]]
        refine ih (i + 1) w (by omega) (fun so hso hb => ?_) h2
        by_cases e : so = i
        · rw [e]; exact z
        · exact h1 so (by omega) hb
      · rw [show mWsF x t d i w = mSm x t d i by unfold mWsF; rw [if_pos q, if_neg z]]
        refine ih (i + 1) _ (by omega) (fun so hso hb => ?_) (Or.inr ⟨i, by omega, q, rfl⟩)
        by_cases e : so = i
        · rw [e]; exact Nat.le_refl _
        · have := h1 so (by omega) hb
          omega
    · rw [show mWsF x t d i w = w by unfold mWsF; rw [if_neg q]]
      refine ih (i + 1) w (by omega) (fun so hso hb => ?_) h2
      by_cases e : so = i
      · rw [e] at hb; exact absurd hb q
      · exact h1 so (by omega) hb
set_option maxRecDepth 20000 in
theorem qWorst {x e : zs} {t d : Nat} {wn : Nat → Nat} (hd : 1 ≤ d ∧ d ≤ 9) (h30 : ∀ j, wn j ≤ 30) (hx : ∀ k, k < 90 → rF x 26 k = nI (wn k)) : (gWorst t d wn e).1 = nI (mWs x t (d - 1)) ∧ mWs x t (d - 1) ≤ 10 ∧ rF (gWorst t d wn e).2 1 = rF e 1 := by
  obtain ⟨c1, c2⟩ := gClr_R 31 0 e
  obtain ⟨M, r1, r2, r3, r4, r5⟩ := gWorst_L (t := t) (d := d) h30 10 0 0 (zfw gClr 0 31 e) rfl (fun v hv => by rw [c1 v, if_pos (by omega)]; rfl) (fun v => Nat.le_refl _) (by omega) (Or.inl rfl)
  obtain ⟨w1, w2⟩ := mWs_R (x := x) (t := t) (d := d - 1) 10 0 0 rfl (fun so hso _ => by omega) (Or.inl rfl)
  have hS : ∀ so, so < 10 → mSm x t (d - 1) so = cntv t (fun w => wn (w * 9 + d - 1)) (wn (so * 9 + d - 1)) 10 := fun so hso => mSm_C hso hd h30 hx 10 0 (by omega)
  have eM : M = mWs x t (d - 1) := by
    refine Nat.le_antisymm ?_ ?_
    · rcases r4 with z | ⟨so, s1, s2, s3⟩
      · omega
      · have := w1 so s1 s2
        rw [hS so s1] at this
        exact Nat.le_trans s3 this
    · rcases w2 with z | ⟨so, s1, s2, s3⟩
      · show zfw (mWsF x t (d - 1)) 0 10 0 ≤ M
        omega
      · show zfw (mWsF x t (d - 1)) 0 10 0 ≤ M
        rw [← s3, hS so s1]
        exact r3 _
  refine ⟨?_, by rw [← eM]; exact r2, r5.trans c2⟩
  rw [← eM]
  exact r1
set_option maxRecDepth 20000 in
theorem qBest {x : zs} {t : Nat} {wn : Nat → Nat} (h30 : ∀ j, wn j ≤ 30) (hx : ∀ k, k < 90 → rF x 26 k = nI (wn k)) : ∀ (n i : Nat) (be : Option Nat) (le : Nat) (e : zs), i + n = 9 → le ≤ 11 → (zfw (gBestStep t wn) (i + 1) n (oI be, nI le, e)).1 = oI (mFlL x t n i be le) ∧ rF (zfw (gBestStep t wn) (i + 1) n (oI be, nI le, e)).2.2 1 = rF e 1 := by
  intro n
  induction n with
  | zero => intro i be le e _ _; exact ⟨rfl, rfl⟩
  | succ n ih =>
    intro i be le e hi hle
    obtain ⟨w1, w2, w3⟩ := qWorst (x := x) (e := e) (t := t) (d := i + 1) ⟨by omega, by omega⟩ h30 hx
    rw [Nat.add_sub_cancel] at w1 w2
    rw [zfw, mFlL]
    by_cases q : le ≤ mWs x t i
    · have e1 : gBestStep t wn (i + 1) (oI be, nI le, e) = (oI be, nI le, (gWorst t (i + 1) wn e).2) := by
        unfold gBestStep
        rw [w1, if_pos (nI_le q (by omega))]
      rw [e1, if_pos q]
      obtain ⟨r1, r2⟩ := ih (i + 1) be le (gWorst t (i + 1) wn e).2 (by omega) hle
      exact ⟨r1, r2.trans w3⟩
    · have e1 : gBestStep t wn (i + 1) (oI be, nI le, e) = (oI (some (i + 1)), nI (mWs x t i), (gWorst t (i + 1) wn e).2) := by
        unfold gBestStep
        rw [w1, if_neg (nI_ge (by omega) (by omega))]
        rfl
      rw [e1, if_neg q]
      obtain ⟨r1, r2⟩ := ih (i + 1) (some (i + 1)) (mWs x t i) (gWorst t (i + 1) wn e).2 (by omega) (by omega)
      exact ⟨r1, r2.trans w3⟩
end
