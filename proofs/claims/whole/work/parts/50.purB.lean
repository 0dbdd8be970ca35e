section
def gN (k l : Nat) : Nat := if k = 1 then 2 * l else if k = 2 then l + 1 else if k = 3 then 0 else if k = 4 then 2 * l + 1 else l
set_option maxRecDepth 20000 in
theorem kGives_N (k l : Nat) : kGives k (nI l) = nI (gN k l) := by
  unfold kGives gN
  split
  · exact nix_mul
  · split
    · exact nix_add
    · split
      · rfl
      · split
        · rw [nix_mul, nix_add]
        · rfl
set_option maxRecDepth 20000 in
theorem gN_le (k l : Nat) (h : l ≤ 3) : gN k l ≤ 7 := by
  unfold gN
  split
  · omega
  · split
    · omega
    · split
      · omega
      · split <;> omega
set_option maxRecDepth 20000 in
theorem sum_nat {f : Nat → Int32} (hv : qV f) : ∀ (n i a : Nat), ∃ v, v ≤ 9 * n ∧ zfw (fun c x => x + f c) i n (nI a) = nI (a + v) := by
  intro n
  induction n with
  | zero => intro i a; exact ⟨0, by omega, rfl⟩
  | succ n ih =>
    intro i a
    obtain ⟨w, hw, e⟩ := hv i
    obtain ⟨v, h1, h2⟩ := ih (i + 1) (a + w)
    refine ⟨w + v, by omega, ?_⟩
    rw [zfw, e, nI_add, h2, Nat.add_assoc]
set_option maxRecDepth 20000 in
theorem mLA_N {x : zs} (hv : qV (rF x 17)) (h9 : rN x 5 ≤ 9) : ∃ v, v ≤ 81 ∧ mLA x = nI v := by
  obtain ⟨v, h1, h2⟩ := sum_nat hv (rN x 5) 0 0
  exact ⟨v, by omega, by unfold mLA; rw [h2, Nat.zero_add]⟩
set_option maxRecDepth 20000 in
theorem zsum_0 (h : Nat → Nat) : ∀ (n i a : Nat), zfw (fun b x => x + h b) i n a = 0 ↔ a = 0 ∧ ∀ b, i ≤ b → b < i + n → h b = 0 := by
  intro n
  induction n with
  | zero => intro i a; exact ⟨fun q => ⟨q, fun b h1 h2 => by omega⟩, fun q => q.1⟩
  | succ n ih =>
    intro i a
    rw [zfw, ih (i + 1)]
    constructor
    · rintro ⟨h1, h2⟩
      refine ⟨by omega, fun b h3 h4 => ?_⟩
      by_cases e : b = i
      · rw [e]; omega
      · exact h2 b (by omega) (by omega)
    · rintro ⟨h1, h2⟩
      have := h2 i (Nat.le_refl _) (by omega)
      exact ⟨by omega, fun b h3 h4 => h2 b (by omega) (by omega)⟩
set_option maxRecDepth 20000 in
theorem qTop_0 {s x : zs} (h : qQ s x) {b : Nat} (hb : b < rN x 4) : mTop x b = none ↔ rA s 10 b = 0 := by
  rw [qTop_eq h hb]
  by_cases q : rA s 10 b = 0
  · rw [if_pos q]; exact ⟨fun _ => q, fun _ => rfl⟩
  · rw [if_neg q]; exact ⟨fun z => (by cases z), fun z => absurd z q⟩
set_option maxRecDepth 20000 in
theorem qLie_0 {s x : zs} (h : qQ s x) : bLie s = 0 ↔ mLeast x = none := by
  obtain ⟨-, l2, l3⟩ := qLeast_eq h
  unfold bLie
  rw [← h.2.2.1.1, zsum_0]
  constructor
  · rintro ⟨-, h2⟩
    cases e : mLeast x with
    | none => rfl
    | some c =>
      obtain ⟨hc, t, ht⟩ := l2 c e
      have := (qTop_0 h hc).mpr (h2 c (Nat.zero_le _) (by omega))
      rw [ht] at this; cases this
  · intro e
    exact ⟨rfl, fun b _ hb => (qTop_0 h (by omega)).mp (l3 e b (by omega))⟩
def dgo : Nat → Option Nat
  | 0 => none
  | e + 1 => some e
set_option maxRecDepth 20000 in
theorem fDig_g {p d i n : Nat} (h : i + (n + 1) = d) : fDig p d i = dgo (p / 4 ^ n % 4) := by
  have e : 2 ^ (2 * (d - 1 - i)) = 4 ^ n := by
    rw [show d - 1 - i = n by omega, Nat.pow_mul]
  unfold fDig
  rw [e]
  rfl
set_option maxRecDepth 20000 in
theorem mOf_3 (n : Nat) : mOf (3 ^ n) = 3 ^ (n - 1) := by
  unfold mOf
  cases n with
  | zero => rfl
  | succ n =>
    have : 1 ≤ 3 ^ n := Nat.pow_pos (by decide)
    rw [if_neg (by rw [Nat.pow_succ]; omega), Nat.pow_succ, Nat.mul_div_cancel _ (by decide)]
    rfl
set_option maxRecDepth 20000 in
theorem fW_none {nw s : zs} {d p i n : Nat} (h : i + (n + 1) = d) (hd : p / 4 ^ n % 4 = 0) : fWorth nw d p i (n + 1) s = if bLie s = 0 then fWorth nw d p (i + 1) n (bD s) else (-1, s) := by
  rw [fWorth, fDig_g h, hd]
  rfl
set_option maxRecDepth 20000 in
theorem fW_some {nw s : zs} {d p i n b : Nat} (h : i + (n + 1) = d) (hd : p / 4 ^ n % 4 = b + 1) : fWorth nw d p i (n + 1) s = if b < rN s 0 then (if rA s 10 b = 0 then (-1, s) else fWorth nw d p (i + 1) n (bD (bSlice s b (nI 3)))) else (-1, s) := by
  rw [fWorth, fDig_g h, hd]
  rfl
set_option maxRecDepth 20000 in
theorem mW_none {x : zs} {row n : Nat} {sum : Int32} (h : mLeast x = none) : mWorth row (n + 1) (3 ^ n) sum x = if row / 3 ^ n % 3 = 0 then mWorth row n (3 ^ (n - 1)) sum (mDay x).2 else (-1, x) := by
  rw [mWorth, h, mOf_3]
set_option maxRecDepth 20000 in
theorem mW_some {x : zs} {row n c : Nat} {sum : Int32} (h : mLeast x = some c) : mWorth row (n + 1) (3 ^ n) sum x = if rN x 4 ≤ row / 3 ^ n % 3 then (-1, x) else match mTop x (row / 3 ^ n % 3) with
      | none => (-1, x)
      | some c => mWorth row n (3 ^ (n - 1)) (sum + kGives (rA x 10 c) (mLess x c (nI 3))) (mDay (mCut x (row / 3 ^ n % 3) c (nI 3))).2 := by
  rw [mWorth, h, mOf_3]
  rfl
set_option maxRecDepth 20000 in
theorem pW {nw : zs} {d p r : Nat} : ∀ (n i v : Nat) (s x : zs), qQ s x → rI s 3 = rI nw 3 + nI v → i + n = d → pC n p r x → v + 7 * n ≤ 28 → ∃ w, w ≤ 200 ∧ (fWorth nw d p i n s).1 = nI w ∧ (mWorth r n (3 ^ (n - 1)) (nI v) x).1 = nI w := by
  intro n
  induction n with
  | zero =>
    intro i v s x h h3 _ _ hv
    obtain ⟨w, hw, e⟩ := mLA_N h.2.2.2.1 h.2.1.1.2.2.2.2.2
    refine ⟨v + w, by omega, ?_, ?_⟩
    · show rI s 3 - rI nw 3 + bLightAll s = _
      rw [h3, i32_sl, qLA_eq h, e, nI_add]
    · show nI v + mLA x = _
      rw [e, nI_add]
  | succ n ih =>
    intro i v s x h h3 hi hc hv
    cases e : mLeast x with
    | none =>
      rw [pC_none e] at hc
      obtain ⟨d1, d2, -, d4, -⟩ := qQ_day h
      rw [fW_none hi hc.1, if_pos ((qLie_0 h).mpr e), Nat.add_sub_cancel, mW_none e, if_pos hc.2.1]
      exact ih (i + 1) v _ _ d1 (d4.trans h3) (by omega) hc.2.2 (by omega)
    | some c =>
      rw [pC_some e] at hc
      obtain ⟨k, h1, h2, h4, h5⟩ := hc
      obtain ⟨hn0, -, -, hk5, l, hl1, hl9, e17, -⟩ := qTop_some h h1 h2
      obtain ⟨c1, c2, c3, -⟩ := qQ_cut h h1 h2 (mu := 3) (by omega) (Nat.le_refl _)
      obtain ⟨d1, d2, -, d4, -⟩ := qQ_day c1
      have hg : kGives (rA x 10 k) (mLess x k (nI 3)) = nI (gN (rA x 10 k) (min l 3)) := by
        unfold mLess
        rw [e17, qLess_m hl9 (Nat.le_refl _), kGives_N]
      have hg7 := gN_le (rA x 10 k) (min l 3) (Nat.min_le_right _ _)
      rw [fW_some hi h4, if_pos (by rw [← h.2.2.1.1]; exact h1), if_neg hn0, Nat.add_sub_cancel, mW_some e, if_neg (by omega)]
      rw [h2]
      show ∃ w, _ ∧ _ ∧ (mWorth r n (3 ^ (n - 1)) (nI v + kGives (rA x 10 k) (mLess x k (nI 3))) (mDay (mCut x (r / 3 ^ n % 3) k (nI 3))).2).1 = nI w
      rw [hg, nI_add]
      refine ih (i + 1) _ _ _ d1 ?_ (by omega) h5 (by omega)
      rw [d4, c3, h3, hg, Int32.add_assoc, nI_add]
set_option maxRecDepth 20000 in
theorem dig_lt {B n r : Nat} (h : r < B ^ n) : r / B ^ n % B = 0 := by rw [Nat.div_eq_of_lt h, Nat.zero_mod]
set_option maxRecDepth 20000 in
theorem dig_ad {B n r b : Nat} (h : r < B ^ n) (hb : b < B) : (r + b * B ^ n) / B ^ n % B = b := by
  rw [Nat.add_mul_div_right _ _ (by omega), Nat.div_eq_of_lt h, Nat.zero_add, Nat.mod_eq_of_lt hb]
set_option maxRecDepth 20000 in
theorem pow_ad {B n r b : Nat} (h : r < B ^ n) (hb : b < B) : r + b * B ^ n < B ^ (n + 1) := by
  rw [Nat.pow_succ]
  have h1 : (b + 1) * B ^ n ≤ B * B ^ n := Nat.mul_le_mul_right _ hb
  rw [Nat.add_mul, Nat.one_mul] at h1
  rw [Nat.mul_comm (B ^ n) B]
  omega
set_option maxRecDepth 20000 in
theorem pV_c {nw : zs} {d p : Nat} : ∀ (n i : Nat) (s x : zs), qQ s x → i + n = d → (fWorth nw d p i n s).1 ≠ -1 → ∃ r, r < 3 ^ n ∧ pC n p r x := by
  intro n
  induction n with
  | zero => intro i s x _ _ _; exact ⟨0, by decide, trivial⟩
  | succ n ih =>
    intro i s x h hi hw
    cases hd : p / 4 ^ n % 4 with
    | zero =>
      rw [fW_none hi hd] at hw
      by_cases q : bLie s = 0
      · rw [if_pos q] at hw
        obtain ⟨r, hr, hc⟩ := ih (i + 1) _ _ (qQ_day h).1 (by omega) hw
        refine ⟨r, by rw [Nat.pow_succ]; omega, (pC_none ((qLie_0 h).mp q)).mpr ⟨hd, dig_lt hr, hc⟩⟩
      · rw [if_neg q] at hw; exact absurd rfl hw
    | succ b =>
      have hb3 : b < 3 := by have := Nat.mod_lt (p / 4 ^ n) (show 0 < 4 by decide); omega
      rw [fW_some hi hd] at hw
      by_cases q1 : b < rN s 0
      · rw [if_pos q1] at hw
        by_cases q2 : rA s 10 b = 0
        · rw [if_pos q2] at hw; exact absurd rfl hw
        · rw [if_neg q2] at hw
          have hb : b < rN x 4 := by rw [h.2.2.1.1]; exact q1
          cases ht : mTop x b with
          | none => exact absurd ((qTop_0 h hb).mp ht) q2
          | some k =>
            have c1 := (qQ_cut h hb ht (mu := 3) (by omega) (Nat.le_refl _)).1
            obtain ⟨r, hr, hc⟩ := ih (i + 1) _ _ (qQ_day c1).1 (by omega) hw
            have hs := pC_sh n p r 0 b _ hc
            rw [Nat.zero_mul, Nat.add_zero] at hs
            refine ⟨r + b * 3 ^ n, pow_ad hr hb3, ?_⟩
            cases e : mLeast x with
            | none => rw [(qLeast_eq h).2.2 e b hb] at ht; cases ht
            | some c =>
              refine (pC_some e).mpr ⟨k, ?_⟩
              rw [dig_ad hr hb3]
              exact ⟨hb, ht, hd, hs⟩
      · rw [if_neg q1] at hw; exact absurd rfl hw
set_option maxRecDepth 20000 in
theorem pV_m {r : Nat} : ∀ (n : Nat) (sum : Int32) (s x : zs), qQ s x → (mWorth r n (3 ^ (n - 1)) sum x).1 ≠ -1 → ∃ p, p < 4 ^ n ∧ pC n p r x := by
  intro n
  induction n with
  | zero => intro sum s x _ _; exact ⟨0, by decide, trivial⟩
  | succ n ih =>
    intro sum s x h hw
    rw [Nat.add_sub_cancel] at hw
    cases e : mLeast x with
    | none =>
      rw [mW_none e] at hw
      by_cases q : r / 3 ^ n % 3 = 0
      · rw [if_pos q] at hw
        obtain ⟨p, hp, hc⟩ := ih _ _ _ (qQ_day h).1 hw
        exact ⟨p, by rw [Nat.pow_succ]; omega, (pC_none e).mpr ⟨dig_lt hp, q, hc⟩⟩
      · rw [if_neg q] at hw; exact absurd rfl hw
    | some c =>
      rw [mW_some e] at hw
      by_cases q : rN x 4 ≤ r / 3 ^ n % 3
      · rw [if_pos q] at hw; exact absurd rfl hw
      · rw [if_neg q] at hw
        cases ht : mTop x (r / 3 ^ n % 3) with
        | none => rw [ht] at hw; exact absurd rfl hw
        | some k =>
          rw [ht] at hw
          have hb : r / 3 ^ n % 3 < rN x 4 := by omega
          have hb3 : r / 3 ^ n % 3 < 3 := Nat.mod_lt _ (by decide)
          have c1 := (qQ_cut h hb ht (mu := 3) (by omega) (Nat.le_refl _)).1
          obtain ⟨p, hp, hc⟩ := ih _ _ _ (qQ_day c1).1 hw
          have hs := pC_sh n p r (r / 3 ^ n % 3 + 1) 0 _ hc
          rw [Nat.zero_mul, Nat.add_zero] at hs
          refine ⟨p + (r / 3 ^ n % 3 + 1) * 4 ^ n, pow_ad hp (by omega), (pC_some e).mpr ⟨k, hb, ht, dig_ad hp (by omega), hs⟩⟩
set_option maxRecDepth 20000 in
theorem pV_e : ∀ (n : Nat) (s x : zs), qQ s x → ∃ p r, p < 4 ^ n ∧ r < 3 ^ n ∧ pC n p r x := by
  intro n
  induction n with
  | zero => intro s x _; exact ⟨0, 0, by decide, by decide, trivial⟩
  | succ n ih =>
    intro s x h
    cases e : mLeast x with
    | none =>
      obtain ⟨p, r, hp, hr, hc⟩ := ih _ _ (qQ_day h).1
      exact ⟨p, r, by rw [Nat.pow_succ]; omega, by rw [Nat.pow_succ]; omega, (pC_none e).mpr ⟨dig_lt hp, dig_lt hr, hc⟩⟩
    | some b =>
      obtain ⟨hb, k, ht⟩ := (qLeast_eq h).2.1 b e
      have hb3 : b < 3 := by have := h.2.1.1.2.2.2.2.1; omega
      have c1 := (qQ_cut h hb ht (mu := 3) (by omega) (Nat.le_refl _)).1
      obtain ⟨p, r, hp, hr, hc⟩ := ih _ _ (qQ_day c1).1
      have hs := pC_sh n p r (b + 1) b _ hc
      refine ⟨p + (b + 1) * 4 ^ n, r + b * 3 ^ n, pow_ad hp (by omega), pow_ad hr hb3, (pC_some e).mpr ⟨k, ?_⟩⟩
      rw [dig_ad hr hb3, dig_ad hp (by omega)]
      exact ⟨hb, ht, rfl, hs⟩
set_option maxRecDepth 20000 in
theorem pChos {p r : Nat} : ∀ (q n : Nat) (t : Option Nat) (x : zs), pC n p r x → q ≤ n → ∃ o y, mChos r q (3 ^ (n - 1)) t x = some (o, y) ∧ (q = 0 → o = t) ∧ (0 < q → o = dgo (p / 4 ^ (n - q) % 4)) ∧ mP0 y x := by
  intro q
  induction q with
  | zero => intro n t x _ _; exact ⟨t, x, rfl, fun _ => rfl, fun z => by omega, mP0_refl x⟩
  | succ q ih =>
    intro n t x h hq
    obtain ⟨n, rfl⟩ : ∃ n2, n = n2 + 1 := ⟨n - 1, by omega⟩
    rw [Nat.add_sub_cancel, mChos, mOf_3, show n + 1 - (q + 1) = n - q by omega]
    cases e : mLeast x with
    | none =>
      have hc := (pC_none e).mp h
      obtain ⟨o, y, y1, y2, y3, y4⟩ := ih n none _ hc.2.2 (by omega)
      refine ⟨o, y, y1, fun z => by omega, fun _ => ?_, mP0_trans y4 (mP0_day x)⟩
      by_cases z : q = 0
      · rw [y2 z, z, Nat.sub_zero, hc.1]; rfl
      · exact y3 (by omega)
    | some c =>
      obtain ⟨k, h1, h2, h3, h4⟩ := (pC_some e).mp h
      obtain ⟨o, y, y1, y2, y3, y4⟩ := ih n (some (r / 3 ^ n % 3)) _ h4 (by omega)
      refine ⟨o, y, ?_, fun z => by omega, fun _ => ?_, mP0_trans y4 (mP0_trans (mP0_day _) (mP0_cut _ _ _ _))⟩
      · show (match mTop x (r / 3 ^ n % 3) with | none => _ | some c => _) = _
        rw [h2]
        exact y1
      · by_cases z : q = 0
        · rw [y2 z, z, Nat.sub_zero, h3]; rfl
        · exact y3 (by omega)
set_option maxRecDepth 20000 in
theorem nI_nm1 {w : Nat} (h : w ≤ 200) : ¬ nI w ≤ -1 := by
  intro q
  have h1 : (nI w).toInt ≤ (-1 : Int32).toInt := Int32.le_iff_toInt_le.mp q
  rw [nI_toInt (by omega)] at h1
  have h2 : (-1 : Int32).toInt = -1 := by decide
  omega
set_option maxRecDepth 20000 in
theorem mP3_pow {d : Nat} (h : d ≤ 4) : mP3 d 1 = 3 ^ d := by
  rcases (show d = 0 ∨ d = 1 ∨ d = 2 ∨ d = 3 ∨ d = 4 by omega) with rfl | rfl | rfl | rfl | rfl <;> decide
set_option maxRecDepth 20000 in
theorem qPlan {nw m fo ft : zs} (h : qQ nw (mBegin m)) {d : Nat} (h1 : 1 ≤ d) (h4 : d ≤ 4) : rI (fPlan nw fo ft d).1 1 = (mPlanL d (mP3 d 1) 0 (-1) 0 m).1 ∧ rN (fPlan nw fo ft d).1 2 < 256 ∧ mP0 (mPlanL d (mP3 d 1) 0 (-1) 0 m).2.2 m ∧ pC d (rN (fPlan nw fo ft d).1 2) (mPlanL d (mP3 d 1) 0 (-1) 0 m).2.1 (mBegin m) := by
  have hx := h.2.1.1
  obtain ⟨b1, b2⟩ := mPlanL_B d m (3 ^ d) 0 (-1) 0 m (mP0_refl m)
  have b3 := fPlan_B nw d (4 ^ d) 0 (uN (uI fo 1 (-1)) 2 0) ft
  have eP : fPlan nw fo ft d = zfw (fPlanStep nw d) 0 (4 ^ d) (uN (uI fo 1 (-1)) 2 0, ft) := by
    unfold fPlan
    rw [Nat.one_mul, Nat.pow_mul]
  rw [← eP] at b3
  rw [mP3_pow h4]
  have i3 : rI (uN (uI fo 1 (-1)) 2 0) 1 = -1 := rfl
  have i2 : rN (uN (uI fo 1 (-1)) 2 0) 2 = 0 := rfl
  rw [i3, i2] at b3
  have hWm : ∀ r, (mWo d r m).1 = (mWorth r d (3 ^ (d - 1)) (nI 0) (mBegin m)).1 := fun r => by unfold mWo; rw [mP3_pow (by omega)]
  have c1 := bst_R (fun p => (fWorth nw d p 0 d nw).1) (4 ^ d) 0 (-1) 0 (fun j hj => by omega) (Or.inl ⟨rfl, rfl⟩)
  have c2 := bst_R (fun r => (mWo d r m).1) (3 ^ d) 0 (-1) 0 (fun j hj => by omega) (Or.inl ⟨rfl, rfl⟩)
  rw [← b3] at c1
  rw [← b1] at c2
  obtain ⟨c1a, c1b⟩ := c1
  obtain ⟨c2a, c2b⟩ := c2
  rw [Nat.zero_add] at c1a c1b c2a c2b
  have hval : ∀ p r, pC d p r (mBegin m) → ∃ w, w ≤ 200 ∧ (fWorth nw d p 0 d nw).1 = nI w ∧ (mWo d r m).1 = nI w := fun p r hc => by
    rw [hWm]
    exact pW d 0 0 nw (mBegin m) h (by rw [i32_add0]) (Nat.zero_add _) hc (by omega)
  obtain ⟨p0, r0, hp0, hr0, hc0⟩ := pV_e d nw (mBegin m) h
  obtain ⟨w0, hw0, v1, v2⟩ := hval p0 r0 hc0
  have n1 : ¬ rI (fPlan nw fo ft d).1 1 = -1 := fun e => nI_nm1 hw0 (by rw [← v1, ← e]; exact c1a p0 hp0)
  have n2 : ¬ (mPlanL d (3 ^ d) 0 (-1) 0 m).1 = -1 := fun e => nI_nm1 hw0 (by rw [← v2, ← e]; exact c2a r0 hr0)
  have d1 := c1b.resolve_left (fun z => n1 z.1)
  have d2 := c2b.resolve_left (fun z => n2 z.1)
  obtain ⟨d1a, d1b, d1c⟩ := d1
  obtain ⟨d2a, d2b, d2c⟩ := d2
  generalize rI (fPlan nw fo ft d).1 1 = M at *
  generalize rN (fPlan nw fo ft d).1 2 = B at *
  generalize (mPlanL d (3 ^ d) 0 (-1) 0 m).1 = M2 at *
  generalize (mPlanL d (3 ^ d) 0 (-1) 0 m).2.1 = B2 at *
  have d1b' : (fWorth nw d B 0 d nw).1 = M := d1b
  have d2b' : (mWo d B2 m).1 = M2 := d2b
  obtain ⟨r, hr, hcr⟩ := pV_c d 0 nw (mBegin m) h (Nat.zero_add _) (show (fWorth nw d B 0 d nw).1 ≠ -1 by rw [d1b']; exact n1)
  obtain ⟨p, hp, hcp⟩ := pV_m d (nI 0) nw (mBegin m) h (show (mWorth B2 d (3 ^ (d - 1)) (nI 0) (mBegin m)).1 ≠ -1 by rw [← hWm, d2b']; exact n2)
  obtain ⟨w1, -, w1a, w1b⟩ := hval B r hcr
  obtain ⟨w2, -, w2a, w2b⟩ := hval p B2 hcp
  have le1 : M ≤ M2 := by
    have := c2a r hr
    rw [← d1b', w1a, ← w1b]; exact this
  have le2 : M2 ≤ M := by
    have := c1a p hp
    rw [← d2b', w2b, ← w2a]; exact this
  have eM : M = M2 := Int32.le_antisymm le1 le2
  have g1 : ¬ p < B := fun z => d1c p z (by
    show M ≤ (fWorth nw d p 0 d nw).1
    rw [w2a, ← w2b, d2b', eM]; exact Int32.le_refl _)
  have g2 : ¬ r < B2 := fun z => d2c r z (by
    show M2 ≤ (mWo d r m).1
    rw [w1b, ← w1a, d1b', eM]; exact Int32.le_refl _)
  have ho := pC_lt d p B2 B r (mBegin m) hx hcp hcr
  rw [Nat.mod_eq_of_lt hp, Nat.mod_eq_of_lt d1a, Nat.mod_eq_of_lt d2a, Nat.mod_eq_of_lt hr] at ho
  have er : r = B2 := by
    have : ¬ B2 < r := fun z => g1 (ho.mpr z)
    omega
  have h256 : 4 ^ d ≤ 256 := by
    rcases (show d = 1 ∨ d = 2 ∨ d = 3 ∨ d = 4 by omega) with rfl | rfl | rfl | rfl <;> decide
  exact ⟨eM, by omega, b2, er ▸ hcr⟩
end
