section
/-! the first best of many -/
def bst (W : Nat → Int32) : Nat → Nat → Int32 → Nat → Int32 × Nat
  | 0, _, mo, be => (mo, be)
  | n + 1, i, mo, be => if W i ≤ mo then bst W n (i + 1) mo be else bst W n (i + 1) (W i) i
set_option maxRecDepth 20000 in
theorem bst_R (W : Nat → Int32) : ∀ (n i : Nat) (mo : Int32) (be : Nat), (∀ j, j < i → W j ≤ mo) → (mo = -1 ∧ be = 0 ∨ be < i ∧ W be = mo ∧ ∀ j, j < be → ¬ mo ≤ W j) →
    (∀ j, j < i + n → W j ≤ (bst W n i mo be).1) ∧ ((bst W n i mo be).1 = -1 ∧ (bst W n i mo be).2 = 0 ∨ (bst W n i mo be).2 < i + n ∧ W (bst W n i mo be).2 = (bst W n i mo be).1 ∧ ∀ j, j < (bst W n i mo be).2 → ¬ (bst W n i mo be).1 ≤ W j) := by
  intro n
  induction n with
  | zero => intro i mo be h1 h2; exact ⟨h1, h2⟩
  | succ n ih =>
    intro i mo be h1 h2
    rw [bst]
    by_cases q : W i ≤ mo
    · rw [if_pos q, show i + (n + 1) = i + 1 + n by omega]
      refine ih (i + 1) mo be (fun j hj => ?_) ?_
      · by_cases e : j = i
        · rw [e]; exact q
        · exact h1 j (by omega)
      · rcases h2 with h | h
        · exact Or.inl h
        · exact Or.inr ⟨by omega, h.2⟩
    · rw [if_neg q, show i + (n + 1) = i + 1 + n by omega]
      have hlt : mo < W i := Int32.not_le.mp q
      refine ih (i + 1) (W i) i (fun j hj => ?_) (Or.inr ⟨by omega, rfl, fun j hj z => q (Int32.le_trans z (h1 j hj))⟩)
      by_cases e : j = i
      · rw [e]; exact Int32.le_refl _
      · exact Int32.le_trans (h1 j (by omega)) (Int32.le_of_lt hlt)
/-! what stays of the model while plans are tried -/
def mP0 (x m : zs) : Prop := (∀ k, rA x k = rA m k) ∧ (∀ k, rN x k = rN m k) ∧ (∀ k, rI x k = rI m k) ∧ (∀ k, k < 17 ∨ 19 < k → rF x k = rF m k)
set_option maxRecDepth 20000 in
theorem mP0_refl (x : zs) : mP0 x x := ⟨fun _ => rfl, fun _ => rfl, fun _ => rfl, fun _ _ => rfl⟩
set_option maxRecDepth 20000 in
theorem mP0_trans {x y z : zs} (h : mP0 x y) (g : mP0 y z) : mP0 x z := ⟨fun k => (h.1 k).trans (g.1 k), fun k => (h.2.1 k).trans (g.2.1 k), fun k => (h.2.2.1 k).trans (g.2.2.1 k), fun k a => (h.2.2.2 k a).trans (g.2.2.2 k a)⟩
set_option maxRecDepth 20000 in
theorem mP0_P {x y : zs} (h : mP0 x y) : mP x y := ⟨h.1, fun k _ _ => h.2.1 k, fun k _ => h.2.2.1 k, fun k hk => h.2.2.2 k (by omega)⟩
set_option maxRecDepth 20000 in
theorem mP0_day (x : zs) : mP0 (mDay x).2 x := ⟨mDay_A x, mDay_N x, mDay_I x, mDay_F' x⟩
set_option maxRecDepth 20000 in
theorem mP0_cut (x : zs) (b k : Nat) (much : Int32) : mP0 (mCut x b k much) x := ⟨mCut_A x b k much, mCut_N x b k much, mCut_I x b k much, mCut_F' x b k much⟩
set_option maxRecDepth 20000 in
theorem mP0_begin (x : zs) : mP0 (mBegin x) x := ⟨fun _ => rfl, fun _ => rfl, fun _ => rfl, qmBegin_F x⟩
set_option maxRecDepth 20000 in
theorem zs_ext {s t : zs} (hN : ∀ k, rN s k = rN t k) (hI : ∀ k, rI s k = rI t k) (hA : ∀ k, rA s k = rA t k) (hF : ∀ k, rF s k = rF t k) : s = t := by
  obtain ⟨a, b, c, d⟩ := s
  obtain ⟨a2, b2, c2, d2⟩ := t
  have e1 : a = a2 := funext hN
  have e2 : b = b2 := funext hI
  have e3 : c = c2 := funext hA
  have e4 : d = d2 := funext hF
  rw [e1, e2, e3, e4]
set_option maxRecDepth 20000 in
theorem mBegin_same {x m : zs} (h : mP0 x m) : mBegin x = mBegin m := by
  refine zs_ext h.2.1 h.2.2.1 h.1 (fun k => ?_)
  by_cases e1 : k = 17
  · subst e1; exact h.2.2.2 14 (by omega)
  · by_cases e2 : k = 18
    · subst e2; exact h.2.2.2 15 (by omega)
    · by_cases e3 : k = 19
      · subst e3; exact h.2.2.2 16 (by omega)
      · rw [qmBegin_F x k (by omega), qmBegin_F m k (by omega)]
        exact h.2.2.2 k (by omega)
set_option maxRecDepth 20000 in
theorem mWorth_P0 (row : Nat) : ∀ (n k : Nat) (sum : Int32) (x : zs), mP0 (mWorth row n k sum x).2 x := by
  intro n
  induction n with
  | zero => intro k sum x; exact mP0_refl x
  | succ n ih =>
    intro k sum x
    unfold mWorth
    split
    · split
      · exact mP0_trans (ih _ _ _) (mP0_day x)
      · exact mP0_refl x
    · split
      · exact mP0_refl x
      · split
        · exact mP0_refl x
        · exact mP0_trans (ih _ _ _) (mP0_trans (mP0_day _) (mP0_cut _ _ _ _))
set_option maxRecDepth 20000 in
theorem mPlanL_B (d : Nat) (m : zs) : ∀ (n i : Nat) (mo : Int32) (be : Nat) (x : zs), mP0 x m → ((mPlanL d n i mo be x).1, (mPlanL d n i mo be x).2.1) = bst (fun r => (mWo d r m).1) n i mo be ∧ mP0 (mPlanL d n i mo be x).2.2 m := by
  intro n
  induction n with
  | zero => intro i mo be x h; exact ⟨rfl, h⟩
  | succ n ih =>
    intro i mo be x h
    have e : mWo d i x = mWo d i m := by unfold mWo; rw [mBegin_same h]
    have h2 : mP0 (mWo d i m).2 m := mP0_trans (mWorth_P0 i d _ _ _) (mP0_begin m)
    rw [mPlanL, bst, e]
    by_cases q : (mWo d i m).1 ≤ mo
    · rw [if_pos q, if_pos q]; exact ih (i + 1) mo be _ h2
    · rw [if_neg q, if_neg q]; exact ih (i + 1) _ i _ h2
set_option maxRecDepth 20000 in
theorem fPlan_B (nw : zs) (d : Nat) : ∀ (n i : Nat) (fo ft : zs), (rI (zfw (fPlanStep nw d) i n (fo, ft)).1 1, rN (zfw (fPlanStep nw d) i n (fo, ft)).1 2) = bst (fun p => (fWorth nw d p 0 d nw).1) n i (rI fo 1) (rN fo 2) := by
  intro n
  induction n with
  | zero => intro i fo ft; rfl
  | succ n ih =>
    intro i fo ft
    rw [zfw, bst]
    by_cases q : (fWorth nw d i 0 d nw).1 ≤ rI fo 1
    · rw [if_pos q]
      have e : fPlanStep nw d i (fo, ft) = (fo, (fWorth nw d i 0 d nw).2) := by unfold fPlanStep; rw [if_pos q]
      rw [e, ih]
    · rw [if_neg q]
      have e : fPlanStep nw d i (fo, ft) = (uN (uI fo 1 (fWorth nw d i 0 d nw).1) 2 i, (fWorth nw d i 0 d nw).2) := by unfold fPlanStep; rw [if_neg q]
      rw [e, ih]
      rfl
/-! a plan of the main part and a row of the model that say the same -/
def pC : Nat → Nat → Nat → zs → Prop
  | 0, _, _, _ => True
  | n + 1, p, r, x => match mLeast x with
    | none => p / 4 ^ n % 4 = 0 ∧ r / 3 ^ n % 3 = 0 ∧ pC n p r (mDay x).2
    | some _ => ∃ k, r / 3 ^ n % 3 < rN x 4 ∧ mTop x (r / 3 ^ n % 3) = some k ∧ p / 4 ^ n % 4 = r / 3 ^ n % 3 + 1 ∧ pC n p r (mDay (mCut x (r / 3 ^ n % 3) k (nI 3))).2
set_option maxRecDepth 20000 in
theorem pC_none {n p r : Nat} {x : zs} (h : mLeast x = none) : pC (n + 1) p r x ↔ p / 4 ^ n % 4 = 0 ∧ r / 3 ^ n % 3 = 0 ∧ pC n p r (mDay x).2 := by
  rw [pC, h]
set_option maxRecDepth 20000 in
theorem pC_some {n p r c : Nat} {x : zs} (h : mLeast x = some c) : pC (n + 1) p r x ↔ ∃ k, r / 3 ^ n % 3 < rN x 4 ∧ mTop x (r / 3 ^ n % 3) = some k ∧ p / 4 ^ n % 4 = r / 3 ^ n % 3 + 1 ∧ pC n p r (mDay (mCut x (r / 3 ^ n % 3) k (nI 3))).2 := by
  rw [pC, h]
set_option maxRecDepth 20000 in
theorem dig_sh (B n a r : Nat) (hB : 0 < B) : (r + a * B ^ (n + 1)) / B ^ n % B = r / B ^ n % B := by
  rw [show r + a * B ^ (n + 1) = r + (a * B) * B ^ n by rw [Nat.pow_succ, Nat.mul_comm (B ^ n) B, Nat.mul_assoc], Nat.add_mul_div_right _ _ (Nat.pow_pos hB), Nat.add_mul_mod_self_right]
set_option maxRecDepth 20000 in
theorem dig_sh2 (B n a r : Nat) : r + a * B ^ (n + 1) = r + (a * B) * B ^ n := by
  rw [Nat.pow_succ, Nat.mul_comm (B ^ n) B, Nat.mul_assoc]
set_option maxRecDepth 20000 in
theorem pC_sh : ∀ (n p r a b : Nat) (x : zs), pC n p r x → pC n (p + a * 4 ^ n) (r + b * 3 ^ n) x := by
  intro n
  induction n with
  | zero => intros; trivial
  | succ n ih =>
    intro p r a b x h
    cases e : mLeast x with
    | none =>
      rw [pC_none e] at h ⊢
      rw [dig_sh 4 n a p (by decide), dig_sh 3 n b r (by decide), dig_sh2 4 n a p, dig_sh2 3 n b r]
      exact ⟨h.1, h.2.1, ih _ _ _ _ _ h.2.2⟩
    | some c =>
      rw [pC_some e] at h ⊢
      obtain ⟨k, h1, h2, h3, h4⟩ := h
      refine ⟨k, ?_⟩
      rw [dig_sh 4 n a p (by decide), dig_sh 3 n b r (by decide), dig_sh2 4 n a p, dig_sh2 3 n b r]
      exact ⟨h1, h2, h3, ih _ _ _ _ _ h4⟩
set_option maxRecDepth 20000 in
theorem pC_lt : ∀ (n p r p2 r2 : Nat) (x : zs), mOK x → pC n p r x → pC n p2 r2 x → (p % 4 ^ n < p2 % 4 ^ n ↔ r % 3 ^ n < r2 % 3 ^ n) := by
  intro n
  induction n with
  | zero => intro p r p2 r2 x _ _ _; simp [Nat.mod_one]
  | succ n ih =>
    intro p r p2 r2 x hx h g
    have hp := Nat.mod_lt p (Nat.pow_pos (n := n) (show 0 < 4 by decide))
    have hp2 := Nat.mod_lt p2 (Nat.pow_pos (n := n) (show 0 < 4 by decide))
    have hr := Nat.mod_lt r (Nat.pow_pos (n := n) (show 0 < 3 by decide))
    have hr2 := Nat.mod_lt r2 (Nat.pow_pos (n := n) (show 0 < 3 by decide))
    rw [Nat.mod_pow_succ, Nat.mod_pow_succ, Nat.mod_pow_succ, Nat.mod_pow_succ]
    cases e : mLeast x with
    | none =>
      rw [pC_none e] at h g
      have := ih p r p2 r2 _ (mDay_ok hx) h.2.2 g.2.2
      rw [h.1, h.2.1, g.1, g.2.1]
      simpa using this
    | some c =>
      rw [pC_some e] at h g
      obtain ⟨k, h1, h2, h3, h4⟩ := h
      obtain ⟨k2, g1, g2, g3, g4⟩ := g
      rw [h3, g3]
      have b1 : r / 3 ^ n % 3 < 3 := Nat.mod_lt _ (by decide)
      have b2 : r2 / 3 ^ n % 3 < 3 := Nat.mod_lt _ (by decide)
      by_cases q : r / 3 ^ n % 3 = r2 / 3 ^ n % 3
      · rw [← q] at g2 g4 ⊢
        have ek : k = k2 := Option.some.inj (h2.symm.trans g2)
        rw [← ek] at g4
        have := ih p r p2 r2 _ (mDay_ok (mCut_ok hx _ _ _)) h4 g4
        omega
      · generalize r / 3 ^ n % 3 = u at *
        generalize r2 / 3 ^ n % 3 = v at *
        generalize p % 4 ^ n = a at *
        generalize p2 % 4 ^ n = a2 at *
        generalize r % 3 ^ n = d at *
        generalize r2 % 3 ^ n = d2 at *
        generalize 4 ^ n = P at *
        generalize 3 ^ n = T at *
        rcases (show u = 0 ∨ u = 1 ∨ u = 2 by omega) with rfl | rfl | rfl <;> rcases (show v = 0 ∨ v = 1 ∨ v = 2 by omega) with rfl | rfl | rfl <;> omega
end
