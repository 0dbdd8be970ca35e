section
/-! sets of carts as numbers -/
def sub (p s : Nat) : Prop := p &&& s = p
set_option maxRecDepth 20000 in
theorem and_odd (a b : Nat) : (a &&& b) % 2 = if a % 2 = 1 ∧ b % 2 = 1 then 1 else 0 := by
  have h := Nat.and_mod_two_pow (a := a) (b := b) (n := 1)
  rw [Nat.pow_one] at h
  rw [h]
  rcases Nat.mod_two_eq_zero_or_one a with e | e <;> rcases Nat.mod_two_eq_zero_or_one b with f | f <;> rw [e, f] <;> rfl
set_option maxRecDepth 20000 in
theorem sub_half {p s : Nat} (h : sub p s) : sub (p / 2) (s / 2) ∧ p % 2 ≤ s % 2 := by
  refine ⟨?_, ?_⟩
  · unfold sub at h ⊢
    rw [← Nat.and_div_two, h]
  · have e := and_odd p s
    rw [show p &&& s = p from h] at e
    rw [e]
    split
    · next q => omega
    · omega
set_option maxRecDepth 20000 in
theorem sub_mk {p s : Nat} (h : sub (p / 2) (s / 2)) (h2 : p % 2 ≤ s % 2) : sub p s := by
  unfold sub at h ⊢
  have e1 : (p &&& s) / 2 = p / 2 := by rw [Nat.and_div_two, h]
  have e2 := and_odd p s
  have e3 : (p &&& s) % 2 = p % 2 := by
    rw [e2]
    split
    · next q => omega
    · next q => omega
  omega
set_option maxRecDepth 20000 in
theorem sub_le {p s : Nat} (h : sub p s) : p ≤ s := by
  unfold sub at h
  rw [← h]
  exact Nat.and_le_right
set_option maxRecDepth 20000 in
theorem sub_self (s : Nat) : sub s s := Nat.and_self s
set_option maxRecDepth 20000 in
theorem sub_0 (s : Nat) : sub 0 s := Nat.zero_and s
set_option maxRecDepth 20000 in
theorem and_sub (p s : Nat) : sub (p &&& s) s := by
  unfold sub
  rw [Nat.and_assoc, Nat.and_self]
set_option maxRecDepth 20000 in
/-- the next smaller set is the largest that is smaller -/
theorem sub_next : ∀ (n s p a : Nat), s < 2 ^ n → sub p s → sub a s → a < p → a ≤ (p - 1) &&& s := by
  intro n
  induction n with
  | zero =>
    intro s p a hs hp _ h
    have := sub_le hp
    rw [Nat.pow_zero] at hs
    omega
  | succ n ih =>
    intro s p a hs hp ha h
    obtain ⟨p1, p2⟩ := sub_half hp
    obtain ⟨a1, a2⟩ := sub_half ha
    have e1 : ((p - 1) &&& s) / 2 = (p - 1) / 2 &&& s / 2 := Nat.and_div_two
    have e2 := and_odd (p - 1) s
    rw [Nat.pow_succ] at hs
    rcases Nat.mod_two_eq_zero_or_one p with z | z
    · rw [show (p - 1) / 2 = p / 2 - 1 by omega] at e1
      have h3 := ih (s / 2) (p / 2) (a / 2) (by omega) p1 a1 (by omega)
      rw [← e1] at h3
      have : a % 2 ≤ ((p - 1) &&& s) % 2 := by
        rw [e2]
        split
        · omega
        · next q => omega
      omega
    · rw [show (p - 1) / 2 = p / 2 by omega, show p / 2 &&& s / 2 = p / 2 from p1] at e1
      omega
def SL : List Nat → Nat → Nat
  | [], _ => 0
  | x :: L, p => (if p % 2 = 1 then x else 0) + SL L (p / 2)
set_option maxRecDepth 20000 in
theorem SL_sub : ∀ (L : List Nat) (p s : Nat), sub p s → SL L s = SL L p + SL L (s - p)
  | [], _, _, _ => rfl
  | x :: L, p, s, h => by
    obtain ⟨h1, h2⟩ := sub_half h
    have hle := sub_le h
    have e1 : (s - p) / 2 = s / 2 - p / 2 := by omega
    have e2 : (s - p) % 2 = s % 2 - p % 2 := by omega
    rw [SL, SL, SL, e1, SL_sub L _ _ h1, e2]
    rcases Nat.mod_two_eq_zero_or_one p with z | z <;> rcases Nat.mod_two_eq_zero_or_one s with y | y <;> rw [z, y] <;> simp <;> omega
set_option maxRecDepth 20000 in
theorem SL_0 : ∀ L, SL L 0 = 0
  | [] => rfl
  | x :: L => by rw [SL, Nat.zero_div, SL_0 L]; simp
def full (n : Nat) : Nat := 2 ^ n - 1
set_option maxRecDepth 20000 in
theorem full_s (n : Nat) : full (n + 1) / 2 = full n ∧ full (n + 1) % 2 = 1 := by
  have : 1 ≤ 2 ^ n := Nat.pow_pos (by decide)
  unfold full
  rw [Nat.pow_succ]
  omega
set_option maxRecDepth 20000 in
theorem SL_full : ∀ (L : List Nat), SL L (full L.length) = L.sum
  | [] => rfl
  | x :: L => by
    rw [SL, List.length_cons, (full_s L.length).1, (full_s L.length).2, if_pos rfl, SL_full L, List.sum_cons]
set_option maxRecDepth 20000 in
theorem sub_full {n p : Nat} (h : p < 2 ^ n) : sub p (full n) := Nat.and_two_pow_sub_one_of_lt_two_pow h
/-! who gets what: two of three -/
def asg : List Nat → Nat → Nat → Prop
  | [], a, k => a = 0 ∧ k = 0
  | x :: L, a, k => asg L a k ∨ (∃ k2, k = x + k2 ∧ asg L a k2) ∨ (∃ a2, a = x + a2 ∧ asg L a2 k)
set_option maxRecDepth 20000 in
theorem asg_mask : ∀ (L : List Nat) (a k : Nat), asg L a k ↔ ∃ p q, sub p (full L.length) ∧ sub q (full L.length - p) ∧ SL L p = a ∧ SL L q = k
  | [], a, k => by
    constructor
    · rintro ⟨h1, h2⟩
      exact ⟨0, 0, sub_0 _, sub_0 _, by rw [h1]; rfl, by rw [h2]; rfl⟩
    · rintro ⟨p, q, -, -, h1, h2⟩
      exact ⟨h1.symm, h2.symm⟩
  | x :: L, a, k => by
    have ih := asg_mask L
    obtain ⟨f1, f2⟩ := full_s L.length
    rw [asg, List.length_cons]
    constructor
    · rintro (h | ⟨k2, hk, h⟩ | ⟨a2, ha, h⟩)
      · obtain ⟨p, q, h1, h2, h3, h4⟩ := (ih a k).mp h
        refine ⟨2 * p, 2 * q, sub_mk (by rw [f1, show 2 * p / 2 = p by omega]; exact h1) (by omega), sub_mk ?_ (by omega), ?_, ?_⟩
        · rw [show 2 * q / 2 = q by omega, show (full (L.length + 1) - 2 * p) / 2 = full L.length - p by omega]; exact h2
        · rw [SL, show 2 * p / 2 = p by omega, if_neg (by omega), Nat.zero_add]; exact h3
        · rw [SL, show 2 * q / 2 = q by omega, if_neg (by omega), Nat.zero_add]; exact h4
      · obtain ⟨p, q, h1, h2, h3, h4⟩ := (ih a k2).mp h
        have hp := sub_le h1
        refine ⟨2 * p, 2 * q + 1, sub_mk (by rw [f1, show 2 * p / 2 = p by omega]; exact h1) (by omega), sub_mk ?_ (by omega), ?_, ?_⟩
        · rw [show (2 * q + 1) / 2 = q by omega, show (full (L.length + 1) - 2 * p) / 2 = full L.length - p by omega]; exact h2
        · rw [SL, show 2 * p / 2 = p by omega, if_neg (by omega), Nat.zero_add]; exact h3
        · rw [SL, show (2 * q + 1) / 2 = q by omega, if_pos (by omega), hk, h4]
      · obtain ⟨p, q, h1, h2, h3, h4⟩ := (ih a2 k).mp h
        have hp := sub_le h1
        refine ⟨2 * p + 1, 2 * q, sub_mk (by rw [f1, show (2 * p + 1) / 2 = p by omega]; exact h1) (by omega), sub_mk ?_ (by omega), ?_, ?_⟩
        · rw [show 2 * q / 2 = q by omega, show (full (L.length + 1) - (2 * p + 1)) / 2 = full L.length - p by omega]; exact h2
        · rw [SL, show (2 * p + 1) / 2 = p by omega, if_pos (by omega), ha, h3]
        · rw [SL, show 2 * q / 2 = q by omega, if_neg (by omega), Nat.zero_add]; exact h4
    · rintro ⟨p, q, h1, h2, h3, h4⟩
      obtain ⟨p1, p2⟩ := sub_half h1
      obtain ⟨q1, q2⟩ := sub_half h2
      have hp := sub_le h1
      rw [f1] at p1
      rw [show (full (L.length + 1) - p) / 2 = full L.length - p / 2 by omega] at q1
      rw [SL] at h3 h4
      rcases Nat.mod_two_eq_zero_or_one p with z | z
      · rw [z, if_neg (by decide), Nat.zero_add] at h3
        rcases Nat.mod_two_eq_zero_or_one q with y | y
        · rw [y, if_neg (by decide), Nat.zero_add] at h4
          exact Or.inl ((ih a k).mpr ⟨_, _, p1, q1, h3, h4⟩)
        · rw [y, if_pos rfl] at h4
          exact Or.inr (Or.inl ⟨SL L (q / 2), h4.symm, (ih a _).mpr ⟨_, _, p1, q1, h3, rfl⟩⟩)
      · rw [z, if_pos rfl] at h3
        have y : q % 2 = 0 := by omega
        rw [y, if_neg (by decide), Nat.zero_add] at h4
        exact Or.inr (Or.inr ⟨SL L (p / 2), h3.symm, (ih _ k).mpr ⟨_, _, p1, q1, rfl, h4⟩⟩)
/-! the most that the least can have -/
def isM (S T : Nat → Nat) (s v : Nat) : Prop := (∀ p, sub p s → p ≠ 0 → min (S p) (T (s - p)) ≤ v) ∧ (v = 0 ∨ ∃ p, sub p s ∧ p ≠ 0 ∧ min (S p) (T (s - p)) = v)
end
