section
/-! the model's sums and leasts -/
def mQ (x m : zs) : Prop := (∀ k, rA x k = rA m k) ∧ (∀ k, rN x k = rN m k) ∧ (∀ k, rI x k = rI m k) ∧ (∀ k, k < 21 ∨ 23 < k → rF x k = rF m k)
set_option maxRecDepth 20000 in
theorem mQ_refl (x : zs) : mQ x x := ⟨fun _ => rfl, fun _ => rfl, fun _ => rfl, fun _ _ => rfl⟩
set_option maxRecDepth 20000 in
theorem mQ_trans {x y z : zs} (h : mQ x y) (g : mQ y z) : mQ x z := ⟨fun k => (h.1 k).trans (g.1 k), fun k => (h.2.1 k).trans (g.2.1 k), fun k => (h.2.2.1 k).trans (g.2.2.1 k), fun k a => (h.2.2.2 k a).trans (g.2.2.2 k a)⟩
set_option maxRecDepth 20000 in
theorem mQ_P {x y : zs} (h : mQ x y) : mP x y := ⟨h.1, fun k _ _ => h.2.1 k, fun k _ => h.2.2.1 k, fun k hk => h.2.2.2 k (by omega)⟩
set_option maxRecDepth 20000 in
theorem mQ_uF (x : zs) (k : Nat) (f : Nat → Int32) (hk : k = 21 ∨ k = 22 ∨ k = 23) : mQ (uF x k f) x := ⟨fun _ => rfl, fun _ => rfl, fun _ => rfl, fun j hj => by rw [rF_uF, if_neg (by omega)]⟩
set_option maxRecDepth 20000 in
theorem mSumK_R {l : Nat → Nat} (s : Nat) : ∀ (n i a : Nat) (x : zs), rF x 21 s = nI a → (∀ c, i ≤ c → c < i + n → rF x 14 c = nI (l c)) → rF (zfw (mSumK s) i n x) 21 = upd (rF x 21) s (nI (a + SL (qL l i n) (s / 2 ^ i))) ∧ rF (zfw (mSumK s) i n x) 22 = rF x 22 ∧ mQ (zfw (mSumK s) i n x) x := by
  intro n
  induction n with
  | zero =>
    intro i a x h _
    refine ⟨?_, rfl, mQ_refl x⟩
    show rF x 21 = upd (rF x 21) s (nI a)
    funext c
    by_cases e : c = s
    · rw [e, upd_s, h]
    · rw [upd_n _ _ e]
  | succ n ih =>
    intro i a x h hl
    have e1 : mSumK s i x = uF x 21 (upd (rF x 21) s (nI (a + if s / 2 ^ i % 2 = 1 then l i else 0))) := by
      unfold mSumK
      rw [h, hl i (Nat.le_refl _) (by omega)]
      split
      · rw [nI_add]
      · rw [nI_add]
    rw [zfw, e1]
    obtain ⟨r1, r2, r3⟩ := ih (i + 1) (a + if s / 2 ^ i % 2 = 1 then l i else 0) (uF x 21 (upd (rF x 21) s (nI (a + if s / 2 ^ i % 2 = 1 then l i else 0)))) (by rw [rF_uF, if_pos rfl, upd_s]) (fun c h1 h2 => by rw [rF_uF, if_neg (by decide)]; exact hl c (by omega) (by omega))
    refine ⟨?_, r2, mQ_trans r3 (mQ_uF x 21 _ (Or.inl rfl))⟩
    rw [r1, rF_uF, if_pos rfl, qL, SL, Nat.div_div_eq_div_mul, ← Nat.pow_succ, Nat.add_assoc]
    funext c
    by_cases e : c = s
    · rw [e, upd_s, upd_s]
    · rw [upd_n _ _ e, upd_n _ _ e, upd_n _ _ e]
set_option maxRecDepth 20000 in
theorem mSumS_R {l : Nat → Nat} {x : zs} (s : Nat) (hl : ∀ c, c < rN x 5 → rF x 14 c = nI (l c)) : rF (mSumS s x) 21 = upd (rF x 21) s (nI (SL (qL l 0 (rN x 5)) s)) ∧ rF (mSumS s x) 22 = upd (rF x 22) s (nI (SL (qL l 0 (rN x 5)) s)) ∧ mQ (mSumS s x) x := by
  obtain ⟨r1, r2, r3⟩ := mSumK_R (l := l) s (rN x 5) 0 0 (uF x 21 (upd (rF x 21) s (nI 0))) (by rw [rF_uF, if_pos rfl, upd_s]) (fun c _ h2 => by rw [rF_uF, if_neg (by decide)]; exact hl c (by omega))
  rw [Nat.pow_zero, Nat.div_one, Nat.zero_add, rF_uF, if_pos rfl] at r1
  have e1 : ∀ v, upd (upd (rF x 21) s (nI 0)) s v = upd (rF x 21) s v := fun v => by
    funext c
    by_cases e : c = s
    · rw [e, upd_s, upd_s]
    · rw [upd_n _ _ e, upd_n _ _ e, upd_n _ _ e]
  rw [e1] at r1
  unfold mSumS
  refine ⟨?_, ?_, ?_⟩
  · rw [rF_uF, if_neg (by decide), r1]
  · rw [rF_uF, if_pos rfl, r1, upd_s]
  · exact mQ_trans (mQ_uF _ 22 _ (Or.inr (Or.inl rfl))) (mQ_trans r3 (mQ_uF x 21 _ (Or.inl rfl)))
set_option maxRecDepth 20000 in
theorem mSums_R {l : Nat → Nat} : ∀ (n i : Nat) (x : zs), (∀ c, c < rN x 5 → rF x 14 c = nI (l c)) → (∀ s, rF (zfw mSumS i n x) 21 s = if i ≤ s ∧ s < i + n then nI (SL (qL l 0 (rN x 5)) s) else rF x 21 s) ∧ (∀ s, rF (zfw mSumS i n x) 22 s = if i ≤ s ∧ s < i + n then nI (SL (qL l 0 (rN x 5)) s) else rF x 22 s) ∧ mQ (zfw mSumS i n x) x := by
  intro n
  induction n with
  | zero => intro i x _; exact ⟨fun s => by rw [if_neg (by omega)]; rfl, fun s => by rw [if_neg (by omega)]; rfl, mQ_refl x⟩
  | succ n ih =>
    intro i x hl
    obtain ⟨q1, q2, q3⟩ := mSumS_R (l := l) i hl
    obtain ⟨r1, r2, r3⟩ := ih (i + 1) (mSumS i x) (fun c hc => by rw [q3.2.2.2 14 (by omega)]; exact hl c (by rw [← q3.2.1 5]; exact hc))
    rw [q3.2.1 5] at r1 r2
    rw [zfw]
    refine ⟨fun s => ?_, fun s => ?_, mQ_trans r3 q3⟩
    · rw [r1 s, q1]
      by_cases e : s = i
      · rw [if_neg (by omega), if_pos (by omega), e, upd_s]
      · rw [upd_n _ _ e]
        by_cases q : i ≤ s ∧ s < i + (n + 1)
        · rw [if_pos q, if_pos (by omega)]
        · rw [if_neg q, if_neg (by omega)]
    · rw [r2 s, q2]
      by_cases e : s = i
      · rw [if_neg (by omega), if_pos (by omega), e, upd_s]
      · rw [upd_n _ _ e]
        by_cases q : i ≤ s ∧ s < i + (n + 1)
        · rw [if_pos q, if_pos (by omega)]
        · rw [if_neg q, if_neg (by omega)]
set_option maxRecDepth 20000 in
theorem mPtS_N {x : zs} {s p a b be : Nat} (h1 : rF x 21 p = nI a) (h2 : rF x 22 (s - p) = nI b) (ha : a < 2 ^ 31) (hb : b < 2 ^ 31) (hbe : be < 2 ^ 31) : mPtS x s p (nI be) = nI (max be (min a b)) := by
  unfold mPtS
  rw [h1, h2]
  have e : (if nI b ≤ nI a then nI b else nI a) = nI (min a b) := by
    by_cases q : b ≤ a
    · rw [if_pos ((nI_leI hb ha).mpr q), Nat.min_eq_right q]
    · rw [if_neg (fun z => q ((nI_leI hb ha).mp z)), Nat.min_eq_left (by omega)]
  rw [e]
  by_cases q : min a b ≤ be
  · rw [if_pos ((nI_leI (by omega) hbe).mpr q), Nat.max_eq_left q]
  · rw [if_neg (fun z => q ((nI_leI (by omega) hbe).mp z)), Nat.max_eq_right (by omega)]
set_option maxRecDepth 20000 in
theorem mPt_R {x : zs} {S T : Nat → Nat} {s : Nat} (h1 : ∀ p, p ≤ s → rF x 21 p = nI (S p) ∧ S p < 2 ^ 31) (h2 : ∀ p, p ≤ s → rF x 22 p = nI (T p) ∧ T p < 2 ^ 31) : ∀ (n p be : Nat), sub p s → p < n → be < 2 ^ 31 → ∃ v, mPt x s n p (nI be) = nI v ∧ v < 2 ^ 31 ∧ be ≤ v ∧ (∀ a, sub a s → a ≠ 0 → a ≤ p → min (S a) (T (s - a)) ≤ v) ∧ (v = be ∨ ∃ a, sub a s ∧ a ≠ 0 ∧ min (S a) (T (s - a)) = v) := by
  intro n
  induction n with
  | zero => intro p be _ h _; omega
  | succ n ih =>
    intro p be hp hn hbe
    rw [mPt]
    by_cases e : p = 0
    · rw [if_pos e]
      exact ⟨be, rfl, hbe, Nat.le_refl _, fun a _ h3 h4 => by omega, Or.inl rfl⟩
    · have hps := sub_le hp
      have b1 := h1 p hps
      have b2 := h2 (s - p) (by omega)
      have hnx : (p - 1) &&& s ≤ p - 1 := Nat.and_le_left
      rw [if_neg e, mPtS_N b1.1 b2.1 b1.2 b2.2 hbe]
      obtain ⟨v, v1, v2, v3, v4, v5⟩ := ih ((p - 1) &&& s) (max be (min (S p) (T (s - p)))) (and_sub _ _) (by omega) (by omega)
      refine ⟨v, v1, v2, Nat.le_trans (Nat.le_max_left _ _) v3, fun a ha h3 h4 => ?_, ?_⟩
      · by_cases q : a = p
        · rw [q]; exact Nat.le_trans (Nat.le_max_right _ _) v3
        · exact v4 a ha h3 (sub_next s s p a Nat.lt_two_pow_self hp ha (by omega))
      · rcases v5 with z | z
        · by_cases q : min (S p) (T (s - p)) ≤ be
          · left; omega
          · right; exact ⟨p, hp, e, by omega⟩
        · exact Or.inr z
set_option maxRecDepth 20000 in
theorem mMoF_R {S T : Nat → Nat} {P : Nat} : ∀ (n i : Nat) (x : zs), i + n = P → (∀ p, p < P → rF x 21 p = nI (S p) ∧ S p < 2 ^ 31) → (∀ p, p < P → rF x 22 p = nI (T p) ∧ T p < 2 ^ 31) → (∀ s, s < i → ∃ v, rF x 23 s = nI v ∧ v < 2 ^ 31 ∧ isM S T s v) → (∀ s, s < P → ∃ v, rF (zfw mMoF i n x) 23 s = nI v ∧ v < 2 ^ 31 ∧ isM S T s v) ∧ rF (zfw mMoF i n x) 21 = rF x 21 ∧ mQ (zfw mMoF i n x) x := by
  intro n
  induction n with
  | zero => intro i x hi _ _ h; exact ⟨fun s hs => h s (by omega), rfl, mQ_refl x⟩
  | succ n ih =>
    intro i x hi h1 h2 h3
    obtain ⟨v, v1, v2, v3, v4, v5⟩ := mPt_R (x := x) (S := S) (T := T) (s := i) (fun p hp => h1 p (by omega)) (fun p hp => h2 p (by omega)) (i + 1) i 0 (sub_self i) (by omega) (by decide)
    have e1 : mMoF i x = uF x 23 (upd (rF x 23) i (nI v)) := by unfold mMoF; rw [v1]
    rw [zfw, e1]
    obtain ⟨r1, r2, r3⟩ := ih (i + 1) (uF x 23 (upd (rF x 23) i (nI v))) (by omega) h1 h2 (fun s hs => by
      rw [rF_uF, if_pos rfl]
      by_cases e : s = i
      · rw [e, upd_s]
        refine ⟨v, rfl, v2, fun a ha h => v4 a ha h (sub_le ha), ?_⟩
        rcases v5 with z | z
        · exact Or.inl z
        · exact Or.inr z
      · rw [upd_n _ _ e]; exact h3 s (by omega))
    exact ⟨r1, r2, mQ_trans r3 (mQ_uF x 23 _ (Or.inr (Or.inr rfl)))⟩
set_option maxRecDepth 20000 in
theorem mRound_R {S T : Nat → Nat} {P : Nat} {x : zs} (h1 : ∀ p, p < P → rF x 21 p = nI (S p) ∧ S p < 2 ^ 31) (h2 : ∀ p, p < P → rF x 22 p = nI (T p) ∧ T p < 2 ^ 31) : (∃ U : Nat → Nat, ∀ s, s < P → rF (mRound P x) 22 s = nI (U s) ∧ U s < 2 ^ 31 ∧ isM S T s (U s)) ∧ rF (mRound P x) 21 = rF x 21 ∧ mQ (mRound P x) x := by
  obtain ⟨r1, r2, r3⟩ := mMoF_R (S := S) (T := T) (P := P) P 0 x (Nat.zero_add _) h1 h2 (fun s hs => by omega)
  unfold mRound
  refine ⟨⟨fun s => (rF (zfw mMoF 0 P x) 23 s).toNatClampNeg, fun s hs => ?_⟩, ?_, mQ_trans (mQ_uF _ 22 _ (Or.inr (Or.inl rfl))) r3⟩
  · obtain ⟨v, v1, v2, v3⟩ := r1 s hs
    rw [rF_uF, if_pos rfl]
    show rF (zfw mMoF 0 P x) 23 s = nI (rF (zfw mMoF 0 P x) 23 s).toNatClampNeg ∧ (rF (zfw mMoF 0 P x) 23 s).toNatClampNeg < 2 ^ 31 ∧ isM S T s (rF (zfw mMoF 0 P x) 23 s).toNatClampNeg
    rw [v1, nI_clamp v2]
    exact ⟨rfl, v2, v3⟩
  · rw [rF_uF, if_neg (by decide), r2]
set_option maxRecDepth 20000 in
theorem SL_le : ∀ (L : List Nat) (p : Nat), (∀ x, x ∈ L → x ≤ 9) → SL L p ≤ 9 * L.length
  | [], _, _ => Nat.le_refl _
  | x :: L, p, h => by
    have h1 := SL_le L (p / 2) (fun y hy => h y (List.mem_cons_of_mem _ hy))
    have h2 := h x List.mem_cons_self
    rw [SL, List.length_cons]
    split <;> omega
set_option maxRecDepth 20000 in
/-- what the model shares among two and three -/
theorem mShare_R {m : zs} {l : Nat → Nat} (h9 : rN m 5 ≤ 9) (hl : ∀ c, c < rN m 5 → rF m 14 c = nI (l c)) (hl9 : ∀ c, l c ≤ 9) : (∃ v, mShare m 2 = nI v ∧ isM (SL (qL l 0 (rN m 5))) (SL (qL l 0 (rN m 5))) (full (rN m 5)) v) ∧ (∃ T v, mShare m 3 = nI v ∧ isM (SL (qL l 0 (rN m 5))) T (full (rN m 5)) v ∧ ∀ s, s ≤ full (rN m 5) → isM (SL (qL l 0 (rN m 5))) (SL (qL l 0 (rN m 5))) s (T s)) ∧ mQ (mShS m 2) m ∧ mQ (mShS m 3) m := by
  have hP : 0 < 2 ^ rN m 5 := Nat.pow_pos (by decide)
  have hS : ∀ p, SL (qL l 0 (rN m 5)) p < 2 ^ 31 := fun p => by
    have := SL_le (qL l 0 (rN m 5)) p (fun x hx => by
      obtain ⟨c, -, -, e⟩ := (qL_mem l x _ _).mp hx
      rw [← e]; exact hl9 c)
    rw [qL_len] at this
    omega
  obtain ⟨r1, r2, r3⟩ := mSums_R (l := l) (2 ^ rN m 5) 0 m hl
  have s1 : ∀ p, p < 2 ^ rN m 5 → rF (zfw mSumS 0 (2 ^ rN m 5) m) 21 p = nI (SL (qL l 0 (rN m 5)) p) ∧ SL (qL l 0 (rN m 5)) p < 2 ^ 31 := fun p hp => ⟨by rw [r1 p, if_pos (by omega)], hS p⟩
  have s2 : ∀ p, p < 2 ^ rN m 5 → rF (zfw mSumS 0 (2 ^ rN m 5) m) 22 p = nI (SL (qL l 0 (rN m 5)) p) ∧ SL (qL l 0 (rN m 5)) p < 2 ^ 31 := fun p hp => ⟨by rw [r2 p, if_pos (by omega)], hS p⟩
  obtain ⟨⟨U, u1⟩, u2, u3⟩ := mRound_R s1 s2
  obtain ⟨⟨V, v1⟩, v2, v3⟩ := mRound_R (S := SL (qL l 0 (rN m 5))) (T := U) (fun p hp => by rw [u2]; exact s1 p hp) (fun p hp => ⟨(u1 p hp).1, (u1 p hp).2.1⟩)
  have e2 : mShS m 2 = mRound (2 ^ rN m 5) (zfw mSumS 0 (2 ^ rN m 5) m) := by unfold mShS; rw [Nat.one_mul]; rfl
  have e3 : mShS m 3 = mRound (2 ^ rN m 5) (mRound (2 ^ rN m 5) (zfw mSumS 0 (2 ^ rN m 5) m)) := by unfold mShS; rw [Nat.one_mul]; rfl
  refine ⟨⟨U (full (rN m 5)), ?_, (u1 _ (by unfold full; omega)).2.2⟩, ⟨U, V (full (rN m 5)), ?_, (v1 _ (by unfold full; omega)).2.2, fun s hs => (u1 s (by unfold full at hs; omega)).2.2⟩, ?_, ?_⟩
  · unfold mShare
    rw [e2, Nat.one_mul]
    exact (u1 _ (by omega)).1
  · unfold mShare
    rw [e3, Nat.one_mul]
    exact (v1 _ (by omega)).1
  · rw [e2]; exact mQ_trans u3 r3
  · rw [e3]; exact mQ_trans v3 (mQ_trans u3 r3)
end
