section
set_option maxRecDepth 20000 in
theorem zfw_cg {α : Type} {F G : Nat → α → α} : ∀ (n i : Nat) (x : α), (∀ k y, i ≤ k → k < i + n → F k y = G k y) → zfw F i n x = zfw G i n x := by
  intro n
  induction n with
  | zero => intro i x _; exact Eq.trans (show zfw F i 0 x = x from rfl) (show x = zfw G i 0 x from rfl)
  | succ n ih =>
    intro i x h
    rw [zfw, zfw, h i x (Nat.le_refl _) (by omega)]
    exact ih (i + 1) _ (fun k y h1 h2 => h k y (by omega) (by omega))
set_option maxRecDepth 20000 in
theorem qQ_cell {s x : zs} (h : qQ s x) {c : Nat} (hc : c < rN x 5) : rF x 17 c = rF s 7 c ∧ rF x 18 c = rF s 8 c ∧ rF x 19 c = rF s 9 c :=
  (h.2.2.2.2.2 _ (h.2.1.2.2.2 c hc).1).1 c (h.2.1.2.2.2 c hc).2
set_option maxRecDepth 20000 in
theorem qLA_eq {s x : zs} (h : qQ s x) : bLightAll s = mLA x := by
  unfold bLightAll mLA
  rw [h.2.2.1.2.1]
  exact zfw_cg _ 0 _ (fun c y _ h2 => by rw [(qQ_cell h (c := c) (by rw [h.2.2.1.2.1]; omega)).1])
/-! what the model keeps while it tries things -/
def mP (x m : zs) : Prop := (∀ k, rA x k = rA m k) ∧ (∀ k, k ≠ 2 → k ≠ 3 → rN x k = rN m k) ∧ (∀ k, k ≠ 27 → rI x k = rI m k) ∧ (∀ k, k < 17 ∨ k = 25 ∨ 33 < k → rF x k = rF m k)
set_option maxRecDepth 20000 in
theorem mP_refl (x : zs) : mP x x := ⟨fun _ => rfl, fun _ _ _ => rfl, fun _ _ => rfl, fun _ _ => rfl⟩
set_option maxRecDepth 20000 in
theorem mP_trans {x y z : zs} (h : mP x y) (g : mP y z) : mP x z := ⟨fun k => (h.1 k).trans (g.1 k), fun k a b => (h.2.1 k a b).trans (g.2.1 k a b), fun k a => (h.2.2.1 k a).trans (g.2.2.1 k a), fun k a => (h.2.2.2 k a).trans (g.2.2.2 k a)⟩
set_option maxRecDepth 20000 in
theorem qmWA_F : ∀ (n i : Nat) (x : zs) (k : Nat), k ≠ 19 → rF (zfw (fun k x => uF x 19 (upd (rF x 19) k (rF x 19 k + mGain x k))) i n x) k = rF x k := fun n i x k hk => (mWA_R n i x).2 k hk
set_option maxRecDepth 20000 in
theorem qmDT_F (b : Nat) (x : zs) (k : Nat) (hk : k ≠ 18) : rF (mDT b x) k = rF x k := by
  unfold mDT
  split
  · rfl
  · unfold mDry; rw [rF_uF, if_neg hk]
set_option maxRecDepth 20000 in
theorem qmDTL_F : ∀ (n i : Nat) (x : zs) (k : Nat), k ≠ 18 → rF (zfw mDT i n x) k = rF x k
  | 0, _, _, _, _ => rfl
  | n + 1, i, x, k, hk => (qmDTL_F n (i + 1) _ k hk).trans (qmDT_F i x k hk)
set_option maxRecDepth 20000 in
theorem qmBP_F (b p : Nat) (x : Nat × Nat × zs) (k : Nat) (hk : k < 17 ∨ 19 < k) : rF (mBP b p x).2.2 k = rF x.2.2 k := by
  unfold mBP
  split
  · rfl
  · split
    · rfl
    · exact qGo_G _ _ _ hk
set_option maxRecDepth 20000 in
theorem qmBPL_F (b : Nat) : ∀ (n i : Nat) (x : Nat × Nat × zs) (k : Nat), k < 17 ∨ 19 < k → rF (zfw (mBP b) i n x).2.2 k = rF x.2.2 k
  | 0, _, _, _, _ => rfl
  | n + 1, i, x, k, hk => (qmBPL_F b n (i + 1) _ k hk).trans (qmBP_F b i x k hk)
set_option maxRecDepth 20000 in
theorem qmBBL_F : ∀ (n i : Nat) (x : Nat × zs) (k : Nat), k < 17 ∨ 19 < k → rF (zfw mBB i n x).2 k = rF x.2 k
  | 0, _, _, _, _ => rfl
  | n + 1, i, x, k, hk => (qmBBL_F n (i + 1) _ k hk).trans (qmBPL_F i _ 0 _ k hk)
set_option maxRecDepth 20000 in
theorem mDay_F' (m : zs) (k : Nat) (hk : k < 17 ∨ 19 < k) : rF (mDay m).2 k = rF m k := (qmDTL_F _ _ _ k (by omega)).trans ((qmBBL_F _ _ _ k hk).trans (qmWA_F _ _ _ k (by omega)))
set_option maxRecDepth 20000 in
theorem mP_day (x : zs) : mP (mDay x).2 x := ⟨mDay_A x, fun k _ _ => mDay_N x k, fun k _ => mDay_I x k, fun k hk => mDay_F' x k (by omega)⟩
set_option maxRecDepth 20000 in
theorem qmDO_F (kd b j : Nat) (x : zs) (k : Nat) (hk : k ≠ 18) : rF (mDO kd b j x) k = rF x k := by
  unfold mDO
  split
  · rfl
  · split
    · split
      · rfl
      · unfold mDry; rw [rF_uF, if_neg hk]
    · rfl
set_option maxRecDepth 20000 in
theorem qmDOL_F (kd b : Nat) : ∀ (n i : Nat) (x : zs) (k : Nat), k ≠ 18 → rF (zfw (mDO kd b) i n x) k = rF x k
  | 0, _, _, _, _ => rfl
  | n + 1, i, x, k, hk => (qmDOL_F kd b n (i + 1) _ k hk).trans (qmDO_F kd b i x k hk)
set_option maxRecDepth 20000 in
theorem mCut_F' (m : zs) (b c : Nat) (much : Int32) (k : Nat) (hk : k < 17 ∨ 19 < k) : rF (mCut m b c much) k = rF m k := ((mC3_R _ _ _).2.2.2.2 k hk).trans (qmDOL_F _ _ _ _ _ k (by omega))
set_option maxRecDepth 20000 in
theorem mP_cut (x : zs) (b k : Nat) (much : Int32) : mP (mCut x b k much) x := ⟨mCut_A x b k much, fun j _ _ => mCut_N x b k much j, fun j _ => mCut_I x b k much j, fun j hj => mCut_F' x b k much j (by omega)⟩
set_option maxRecDepth 20000 in
theorem qmBegin_F (m : zs) (k : Nat) (hk : k < 17 ∨ 19 < k) : rF (mBegin m) k = rF m k := by
  unfold mBegin
  rw [rF_uF, if_neg (by omega), rF_uF, if_neg (by omega), rF_uF, if_neg (by omega)]
set_option maxRecDepth 20000 in
theorem mP_begin (x : zs) : mP (mBegin x) x := ⟨fun _ => rfl, fun _ _ _ => rfl, fun _ _ => rfl, fun k hk => qmBegin_F x k (by omega)⟩
/-! which bay has the least on top -/
set_option maxRecDepth 20000 in
theorem qLeast_L {s x : zs} (h : qQ s x) : ∀ (n i : Nat) (v : Int32) (z : Option Nat), i + n ≤ rN x 4 → (∀ c, z = some c → v = mLTs x c ∧ c < rN x 4 ∧ ∃ t, mTop x c = some t) →
    (zfw (bLOStep s) i n (z, v)).1 = zfw (mLTF x) i n z ∧ (∀ c, zfw (mLTF x) i n z = some c → c < rN x 4 ∧ ∃ t, mTop x c = some t) ∧ (zfw (mLTF x) i n z = none → z = none ∧ ∀ b, i ≤ b → b < i + n → mTop x b = none) := by
  intro n
  induction n with
  | zero => exact fun i v z _ h2 => ⟨rfl, fun c hc => (h2 c hc).2, fun hz => ⟨hz, fun b h1 h2 => by omega⟩⟩
  | succ n ih =>
    intro i v z hi h2
    have h43 : rN x 4 ≤ 3 := by rw [h.2.2.1.1]; exact h.1.2.2.2.2.1
    have hib : i < rN x 4 := by omega
    have et := qTop_eq h hib
    rw [zfw, zfw]
    cases ht : mTop x i with
    | none =>
      rw [ht] at et
      have h10 : rA s 10 i = 0 := by
        by_cases q : rA s 10 i = 0
        · exact q
        · rw [if_neg q] at et; cases et
      have e1 : bLOStep s i (z, v) = (z, v) := by unfold bLOStep; rw [if_pos h10]
      have e2 : mLTF x i z = z := by unfold mLTF; rw [ht]
      rw [e1, e2]
      obtain ⟨r1, r2, r3⟩ := ih (i + 1) v z (by omega) h2
      refine ⟨r1, r2, fun hz => ⟨(r3 hz).1, fun b hb1 hb2 => ?_⟩⟩
      by_cases e : b = i
      · rw [e]; exact ht
      · exact (r3 hz).2 b (by omega) (by omega)
    | some t =>
      obtain ⟨h0, ek, hml, hk5, l, hl1, hl9, e17, e7⟩ := qTop_some h hib ht
      have eL : mLTs x i = nI l := by unfold mLTs; rw [ht]; exact e17
      have fin : ∀ (v2 : Int32) (z2 : Option Nat), bLOStep s i (z, v) = (z2, v2) → mLTF x i z = z2 → (∀ c, z2 = some c → v2 = mLTs x c ∧ c < rN x 4 ∧ ∃ t, mTop x c = some t) → (∃ c, z2 = some c) → (zfw (bLOStep s) (i + 1) n (bLOStep s i (z, v))).1 = zfw (mLTF x) (i + 1) n (mLTF x i z) ∧ (∀ c, zfw (mLTF x) (i + 1) n (mLTF x i z) = some c → c < rN x 4 ∧ ∃ t, mTop x c = some t) ∧ (zfw (mLTF x) (i + 1) n (mLTF x i z) = none → z = none ∧ ∀ b, i ≤ b → b < i + (n + 1) → mTop x b = none) := fun v2 z2 e1 e2 h3 h4 => by
        rw [e1, e2]
        obtain ⟨c, hc⟩ := h4
        obtain ⟨r1, r2, r3⟩ := ih (i + 1) v2 z2 (by omega) h3
        exact ⟨r1, r2, fun hz => by have := (r3 hz).1; rw [this] at hc; cases hc⟩
      cases z with
      | none =>
        refine fin (nI l) (some i) ?_ ?_ ?_ ⟨i, rfl⟩
        · unfold bLOStep
          rw [if_neg h0, ek, e7]
          exact if_neg (fun k => k.1 rfl)
        · unfold mLTF; rw [ht]
        · intro c hc
          cases hc
          exact ⟨eL.symm, hib, t, ht⟩
      | some c =>
        obtain ⟨ev, hc4, t2, ht2⟩ := h2 c rfl
        by_cases q : mLTs x c ≤ mLTs x i
        · refine fin v (some c) ?_ ?_ (fun d hd => h2 d hd) ⟨c, rfl⟩
          · unfold bLOStep
            rw [if_neg h0, ek, e7, ev]
            exact if_pos ⟨nI_m1 (c := c) (by omega), by rw [← eL]; exact q⟩
          · unfold mLTF; rw [ht]; exact if_pos q
        · refine fin (nI l) (some i) ?_ ?_ ?_ ⟨i, rfl⟩
          · unfold bLOStep
            rw [if_neg h0, ek, e7, ev]
            exact if_neg (fun k => q (by rw [eL]; exact k.2))
          · unfold mLTF; rw [ht]; exact if_neg q
          · intro d hd
            cases hd
            exact ⟨eL.symm, hib, t, ht⟩
set_option maxRecDepth 20000 in
theorem qLeast_eq {s x : zs} (h : qQ s x) : bLeastO s = mLeast x ∧ (∀ c, mLeast x = some c → c < rN x 4 ∧ ∃ t, mTop x c = some t) ∧ (mLeast x = none → ∀ b, b < rN x 4 → mTop x b = none) := by
  have r := qLeast_L h (rN x 4) 0 (nI 0) none (by omega) (fun c hc => by cases hc)
  refine ⟨?_, r.2.1, fun hz b hb => (r.2.2 hz).2 b (Nat.zero_le _) (by omega)⟩
  unfold bLeastO
  rw [← h.2.2.1.1]
  exact r.1
end
