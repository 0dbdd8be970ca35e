section
/-! bits of a long -/
def bt (s : Int64) (k : Nat) : Bool := s.toBitVec.getLsbD k
set_option maxRecDepth 20000 in
theorem bt_or (a b : Int64) (k : Nat) : bt (a ||| b) k = (bt a k || bt b k) := by
  show (a.toBitVec ||| b.toBitVec).getLsbD k = _
  rw [BitVec.getLsbD_or]
  rfl
set_option maxRecDepth 20000 in
theorem z63 : ∀ l, l < 64 → (((nI l).toInt64 &&& 63).toBitVec.smod 64).toNat = l := by decide +kernel
set_option maxRecDepth 20000 in
theorem bt_shl (a : Int64) {l k : Nat} (hl : l < 64) (hk : k < 64) : bt (a <<< ((nI l).toInt64 &&& 63)) k = (decide (l ≤ k) && bt a (k - l)) := by
  show (a.toBitVec <<< (((nI l).toInt64 &&& 63).toBitVec.smod 64)).getLsbD k = _
  rw [BitVec.shiftLeft_eq', z63 l hl, BitVec.getLsbD_shiftLeft]
  unfold bt
  by_cases q : l ≤ k
  · simp [hk, q]
  · simp [hk, q]
set_option maxRecDepth 20000 in
theorem bv_and1 (y : BitVec 64) : y &&& 1#64 = 1#64 ↔ y.getLsbD 0 = true := by
  constructor
  · intro h
    have := congrArg (fun z => BitVec.getLsbD z 0) h
    simp only [BitVec.getLsbD_and] at this
    have h1 : (1#64).getLsbD 0 = true := by decide
    rw [h1, Bool.and_true] at this
    exact this
  · intro h
    refine BitVec.eq_of_getLsbD_eq (fun i hi => ?_)
    rw [BitVec.getLsbD_and, BitVec.getLsbD_one]
    by_cases e : i = 0
    · subst e; rw [h]; rfl
    · simp [e]
set_option maxRecDepth 20000 in
theorem hB_bt (s : Int64) {k : Nat} (hk : k < 64) : hB s k = bt s k := by
  have e : (s >>> ((nI k).toInt64 &&& 63)).toBitVec.getLsbD 0 = s.toBitVec.getLsbD k := by
    show (s.toBitVec.sshiftRight' (((nI k).toInt64 &&& 63).toBitVec.smod 64)).getLsbD 0 = _
    rw [BitVec.sshiftRight_eq', z63 k hk, BitVec.getLsbD_sshiftRight]
    simp [hk]
  unfold hB bt
  rw [← e]
  have h1 : ((s >>> ((nI k).toInt64 &&& 63)) &&& 1 = 1) ↔ (s >>> ((nI k).toInt64 &&& 63)).toBitVec.getLsbD 0 = true := by
    rw [← bv_and1]
    exact ⟨fun q => congrArg Int64.toBitVec q, fun q => Int64.toBitVec_inj.mp q⟩
  by_cases q : (s >>> ((nI k).toInt64 &&& 63)).toBitVec.getLsbD 0 = true
  · rw [q]; exact decide_eq_true (h1.mpr q)
  · rw [Bool.not_eq_true] at q
    rw [q]
    refine decide_eq_false (fun z => ?_)
    rw [h1, q] at z
    cases z
/-! sums that some of the carts come to -/
def asg2 : List Nat → Nat → Prop
  | [], k => k = 0
  | x :: L, k => asg2 L k ∨ ∃ k2, k = x + k2 ∧ asg2 L k2
set_option maxRecDepth 20000 in
theorem asg2_mask : ∀ (L : List Nat) (k : Nat), asg2 L k ↔ ∃ p, sub p (full L.length) ∧ SL L p = k
  | [], k => ⟨fun h => ⟨0, sub_0 _, h.symm⟩, fun ⟨p, _, h⟩ => h.symm⟩
  | x :: L, k => by
    have ih := asg2_mask L
    obtain ⟨f1, f2⟩ := full_s L.length
    rw [asg2, List.length_cons]
    constructor
    · rintro (h | ⟨k2, hk, h⟩)
      · obtain ⟨p, h1, h3⟩ := (ih k).mp h
        refine ⟨2 * p, sub_mk (by rw [f1, show 2 * p / 2 = p by omega]; exact h1) (by omega), ?_⟩
        rw [SL, show 2 * p / 2 = p by omega, if_neg (by omega), Nat.zero_add]; exact h3
      · obtain ⟨p, h1, h3⟩ := (ih k2).mp h
        refine ⟨2 * p + 1, sub_mk (by rw [f1, show (2 * p + 1) / 2 = p by omega]; exact h1) (by omega), ?_⟩
        rw [SL, show (2 * p + 1) / 2 = p by omega, if_pos (by omega), hk, h3]
    · rintro ⟨p, h1, h3⟩
      obtain ⟨p1, p2⟩ := sub_half h1
      rw [f1] at p1
      rw [SL] at h3
      rcases Nat.mod_two_eq_zero_or_one p with z | z
      · rw [z, if_neg (by decide), Nat.zero_add] at h3
        exact Or.inl ((ih k).mpr ⟨_, p1, h3⟩)
      · rw [z, if_pos rfl] at h3
        exact Or.inr ⟨SL L (p / 2), h3.symm, (ih _).mpr ⟨_, p1, rfl⟩⟩
def gv2 (s : Int64) (x : Nat) : Int64 := s ||| s <<< ((nI x).toInt64 &&& 63)
set_option maxRecDepth 20000 in
theorem two_fold : ∀ (L : List Nat) (s : Int64) (R : Nat → Prop), (∀ x, x ∈ L → x < 64) → (∀ k, k < 64 → (bt s k = true ↔ R k)) → ∀ k, k < 64 → (bt (L.foldl gv2 s) k = true ↔ ∃ k0 d, R k0 ∧ k = k0 + d ∧ asg2 L d)
  | [], s, R, _, h, k, hk => by
    rw [List.foldl_nil, h k hk]
    exact ⟨fun q => ⟨k, 0, q, rfl, rfl⟩, fun ⟨k0, d, q1, q2, q3⟩ => by rw [q2, show d = 0 from q3]; exact q1⟩
  | x :: L, s, R, hL, h, k, hk => by
    have hx := hL x List.mem_cons_self
    rw [List.foldl_cons, two_fold L (gv2 s x) (fun k => R k ∨ ∃ k2, k = x + k2 ∧ R k2) (fun y hy => hL y (List.mem_cons_of_mem _ hy)) (fun k hk => ?_) k hk]
    · constructor
      · rintro ⟨k0, d, (h1 | ⟨k2, h1, h2⟩), h3, h4⟩
        · exact ⟨k0, d, h1, h3, Or.inl h4⟩
        · exact ⟨k2, x + d, h2, by omega, Or.inr ⟨d, rfl, h4⟩⟩
      · rintro ⟨k0, d, h1, h2, (h3 | ⟨k2, h3, h4⟩)⟩
        · exact ⟨k0, d, Or.inl h1, h2, h3⟩
        · exact ⟨k0 + x, k2, Or.inr ⟨k0, by omega, h1⟩, by omega, h4⟩
    · unfold gv2
      rw [bt_or, bt_shl s hx hk, Bool.or_eq_true, Bool.and_eq_true, decide_eq_true_eq, h k hk]
      refine or_congr Iff.rfl ?_
      constructor
      · rintro ⟨h1, h2⟩
        exact ⟨k - x, by omega, (h (k - x) (by omega)).mp h2⟩
      · rintro ⟨k2, h1, h2⟩
        exact ⟨by omega, (h (k - x) (by omega)).mpr (by rw [show k - x = k2 by omega]; exact h2)⟩
set_option maxRecDepth 20000 in
theorem hSum_R (s : Int64) (f : Nat) : ∀ n, (hSum s f n = none → ∀ j, f ≤ j → j < f + n → hB s j = false) ∧ (∀ k, hSum s f n = some k → f ≤ k ∧ k < f + n ∧ hB s k = true ∧ ∀ j, k < j → j < f + n → hB s j = false)
  | 0 => ⟨fun _ j h1 h2 => by omega, fun k h => by cases h⟩
  | n + 1 => by
    obtain ⟨h1, h2⟩ := hSum_R s f n
    rw [hSum]
    by_cases q : hB s (f + n) = true
    · rw [if_pos q]
      refine ⟨fun z => (by cases z), fun k hk => ?_⟩
      cases hk
      exact ⟨by omega, by omega, q, fun j h3 h4 => by omega⟩
    · rw [if_neg q]
      rw [Bool.not_eq_true] at q
      refine ⟨fun z j h3 h4 => ?_, fun k hk => ?_⟩
      · by_cases e : j = f + n
        · rw [e]; exact q
        · exact h1 z j h3 (by omega)
      · obtain ⟨a, b, c, d⟩ := h2 k hk
        refine ⟨a, by omega, c, fun j h3 h4 => ?_⟩
        by_cases e : j = f + n
        · rw [e]; exact q
        · exact d j h3 (by omega)
set_option maxRecDepth 20000 in
theorem hBest_R (re : Nat → Int64) (A : Nat) : ∀ n, hBest re A n ≤ n ∧ (hBest re A n = 0 ∨ hSum (re (hBest re A n)) (hBest re A n) ((A - hBest re A n) / 2 + 1 - hBest re A n) ≠ none) ∧ ∀ j, hBest re A n < j → j ≤ n → hSum (re j) j ((A - j) / 2 + 1 - j) = none
  | 0 => ⟨Nat.le_refl _, Or.inl rfl, fun j h1 h2 => by omega⟩
  | n + 1 => by
    obtain ⟨h1, h2, h3⟩ := hBest_R re A n
    rw [hBest]
    by_cases q : hSum (re (n + 1)) (n + 1) ((A - (n + 1)) / 2 + 1 - (n + 1)) = none
    · rw [if_pos q]
      refine ⟨by omega, h2, fun j h4 h5 => ?_⟩
      by_cases e : j = n + 1
      · rw [e]; exact q
      · exact h3 j h4 (by omega)
    · rw [if_neg q]
      exact ⟨Nat.le_refl _, Or.inr q, fun j h4 h5 => by omega⟩
/-! three -/
set_option maxRecDepth 20000 in
theorem hStep_cg {l a : Nat} {f g : Nat → Int64} (h : ∀ j, j ≤ a → g j = f j) : hStep l a g = hStep l a f := by
  unfold hStep
  rw [h a (Nat.le_refl _), h (a - l) (Nat.sub_le _ _)]
set_option maxRecDepth 20000 in
theorem hGive_R (l : Nat) : ∀ (n : Nat) (f : Nat → Int64) (a : Nat), hGive l n f a = if a < n then hStep l a f else f a
  | 0, f, a => by rw [if_neg (by omega)]; rfl
  | n + 1, f, a => by
    rw [hGive, hGive_R l n]
    have e : ∀ j, j ≠ n → vp_updL f n (hStep l n f) j = f j := fun j hj => if_neg hj
    by_cases q : a < n
    · rw [if_pos q, if_pos (by omega)]
      exact hStep_cg (fun j hj => e j (by omega))
    · rw [if_neg q]
      by_cases z : a = n
      · rw [z, if_pos (by omega)]; exact if_pos rfl
      · rw [if_neg (by omega), e a z]
set_option maxRecDepth 20000 in
theorem three_fold : ∀ (L : List Nat) (f : Nat → Int64) (R : Nat → Nat → Prop), (∀ x, x ∈ L → x < 64) → (∀ a k, a < 28 → k < 64 → (bt (f a) k = true ↔ R a k)) → ∀ a k, a < 28 → k < 64 → (bt (L.foldl (fun f x => hGive x 28 f) f a) k = true ↔ ∃ a0 k0 da dk, R a0 k0 ∧ a = a0 + da ∧ k = k0 + dk ∧ asg L da dk)
  | [], f, R, _, h, a, k, ha, hk => by
    rw [List.foldl_nil, h a k ha hk]
    exact ⟨fun q => ⟨a, k, 0, 0, q, rfl, rfl, rfl, rfl⟩, fun ⟨a0, k0, da, dk, q1, q2, q3, q4, q5⟩ => by rw [q2, q3, q4, q5]; exact q1⟩
  | x :: L, f, R, hL, h, a, k, ha, hk => by
    have hx := hL x List.mem_cons_self
    rw [List.foldl_cons, three_fold L (hGive x 28 f) (fun a k => R a k ∨ (∃ k2, k = x + k2 ∧ R a k2) ∨ ∃ a2, a = x + a2 ∧ R a2 k) (fun y hy => hL y (List.mem_cons_of_mem _ hy)) (fun a k ha hk => ?_) a k ha hk]
    · constructor
      · rintro ⟨a0, k0, da, dk, (h1 | ⟨k2, h1, h2⟩ | ⟨a2, h1, h2⟩), h3, h4, h5⟩
        · exact ⟨a0, k0, da, dk, h1, h3, h4, Or.inl h5⟩
        · exact ⟨a0, k2, da, x + dk, h2, h3, by omega, Or.inr (Or.inl ⟨dk, rfl, h5⟩)⟩
        · exact ⟨a2, k0, x + da, dk, h2, by omega, h4, Or.inr (Or.inr ⟨da, rfl, h5⟩)⟩
      · rintro ⟨a0, k0, da, dk, h1, h2, h3, (h4 | ⟨k2, h4, h5⟩ | ⟨a2, h4, h5⟩)⟩
        · exact ⟨a0, k0, da, dk, Or.inl h1, h2, h3, h4⟩
        · exact ⟨a0, k0 + x, da, k2, Or.inr (Or.inl ⟨k0, by omega, h1⟩), h2, by omega, h5⟩
        · exact ⟨a0 + x, k0, a2, dk, Or.inr (Or.inr ⟨a0, by omega, h1⟩), by omega, h3, h5⟩
    · rw [hGive_R, if_pos ha]
      unfold hStep
      have key : (bt (f a ||| f a <<< ((nI x).toInt64 &&& 63)) k = true) ↔ (R a k ∨ ∃ k2, k = x + k2 ∧ R a k2) := by
        rw [bt_or, bt_shl _ hx hk, Bool.or_eq_true, Bool.and_eq_true, decide_eq_true_eq, h a k ha hk]
        refine or_congr Iff.rfl ?_
        constructor
        · rintro ⟨h1, h2⟩
          exact ⟨k - x, by omega, (h a (k - x) ha (by omega)).mp h2⟩
        · rintro ⟨k2, h1, h2⟩
          exact ⟨by omega, (h a (k - x) ha (by omega)).mpr (by rw [show k - x = k2 by omega]; exact h2)⟩
      by_cases q : a < x
      · rw [if_pos q, key]
        constructor
        · rintro (z | z)
          · exact Or.inl z
          · exact Or.inr (Or.inl z)
        · rintro (z | z | ⟨a2, z, -⟩)
          · exact Or.inl z
          · exact Or.inr z
          · omega
      · rw [if_neg q, bt_or, Bool.or_eq_true, key, h (a - x) k (by omega) hk]
        constructor
        · rintro ((z | z) | z)
          · exact Or.inl z
          · exact Or.inr (Or.inl z)
          · exact Or.inr (Or.inr ⟨a - x, by omega, z⟩)
        · rintro (z | z | ⟨a2, z, z2⟩)
          · exact Or.inl (Or.inl z)
          · exact Or.inl (Or.inr z)
          · exact Or.inr (by rw [show a - x = a2 by omega]; exact z2)
set_option maxRecDepth 20000 in
theorem asg_swap : ∀ (L : List Nat) (a k : Nat), asg L a k → asg L k a
  | [], a, k, h => ⟨h.2, h.1⟩
  | x :: L, a, k, h => by
    rcases h with h | ⟨k2, h1, h2⟩ | ⟨a2, h1, h2⟩
    · exact Or.inl (asg_swap L a k h)
    · exact Or.inr (Or.inr ⟨k2, h1, asg_swap L _ _ h2⟩)
    · exact Or.inr (Or.inl ⟨a2, h1, asg_swap L _ _ h2⟩)
set_option maxRecDepth 20000 in
theorem asg_co : ∀ (L : List Nat) (a k : Nat), asg L a k → ∃ c, a + k + c = L.sum ∧ asg L a c
  | [], a, k, h => ⟨0, by rw [h.1, h.2]; rfl, h.1, rfl⟩
  | x :: L, a, k, h => by
    rw [List.sum_cons]
    rcases h with h | ⟨k2, h1, h2⟩ | ⟨a2, h1, h2⟩
    · obtain ⟨c, e, h3⟩ := asg_co L a k h
      exact ⟨x + c, by omega, Or.inr (Or.inl ⟨c, rfl, h3⟩)⟩
    · obtain ⟨c, e, h3⟩ := asg_co L a k2 h2
      exact ⟨c, by omega, Or.inl h3⟩
    · obtain ⟨c, e, h3⟩ := asg_co L a2 k h2
      exact ⟨c, by omega, Or.inr (Or.inr ⟨a2, h1, h3⟩)⟩
set_option maxRecDepth 20000 in
theorem sub_diff : ∀ (n s p : Nat), s < 2 ^ n → sub p s → sub (s - p) s := by
  intro n
  induction n with
  | zero => intro s p hs hp; rw [Nat.pow_zero] at hs; rw [show s = 0 by omega, Nat.zero_sub]; exact sub_0 0
  | succ n ih =>
    intro s p hs hp
    obtain ⟨p1, p2⟩ := sub_half hp
    have := sub_le hp
    rw [Nat.pow_succ] at hs
    refine sub_mk ?_ (by omega)
    rw [show (s - p) / 2 = s / 2 - p / 2 by omega]
    exact ih _ _ (by omega) p1
end
