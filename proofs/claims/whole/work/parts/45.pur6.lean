section
set_option maxRecDepth 20000 in
theorem qTop_eq {s x : zs} (h : qQ s x) {b : Nat} (hb : b < rN x 4) : mTop x b = if rA s 10 b = 0 then none else some (rA s 11 (b * 3 + rA s 10 b - 1)) := by
  rw [mTop_L x b h.2.2.2.1, ← (h.2.2.2.2.2 b hb).2, sl_last]
set_option maxRecDepth 20000 in
theorem qTop_some {s x : zs} (h : qQ s x) {b k : Nat} (hb : b < rN x 4) (hk : mTop x b = some k) : ¬ rA s 10 b = 0 ∧ rA s 11 (b * 3 + rA s 10 b - 1) = k ∧ k ∈ ml x b ∧ k < rN x 5 ∧ ∃ n, 1 ≤ n ∧ n ≤ 9 ∧ rF x 17 k = nI n ∧ rF s 7 k = nI n := by
  have e := qTop_eq h hb
  rw [hk] at e
  have hin : k ∈ ma x b := last_in (by rw [← mTop_L x b h.2.2.2.1]; exact hk)
  have hml := ma_in hin
  by_cases q : rA s 10 b = 0
  · rw [if_pos q] at e; cases e
  · rw [if_neg q] at e
    obtain ⟨n, hn, en⟩ := h.2.2.2.1 k
    have hn0 : n ≠ 0 := fun z => by
      have := (List.mem_filter.mp hin).2
      rw [z, nI_0] at en
      simp [qa, en] at this
    refine ⟨q, (Option.some.inj e).symm, hml, (h.2.1.2.2.1 b k hb hml).1, n, by omega, hn, en, ?_⟩
    rw [← ((h.2.2.2.2.2 b hb).1 k hml).1]; exact en
set_option maxRecDepth 20000 in
theorem qLess_c {l mu : Nat} (hl : l ≤ 9) (hm : mu ≤ 3) : (if nI l < nI mu then nI l else nI mu) = nI (min l mu) := by
  by_cases q : l < mu
  · rw [if_pos (nI_lt q (by omega)), Nat.min_eq_left (by omega)]
  · rw [if_neg (nI_nlt (by omega) (by omega)), Nat.min_eq_right (by omega)]
set_option maxRecDepth 20000 in
theorem qLess_m {l mu : Nat} (hl : l ≤ 9) (hm : mu ≤ 3) : (if nI l ≤ nI mu then nI l else nI mu) = nI (min l mu) := by
  by_cases q : l ≤ mu
  · rw [if_pos (nI_le q (by omega)), Nat.min_eq_left q]
  · rw [if_neg (nI_ge (by omega) (by omega)), Nat.min_eq_right (by omega)]
/-! the model's cut, read -/
set_option maxRecDepth 20000 in
theorem mC3_R (y : zs) (k : Nat) (less : Int32) : (∀ c, rF (mC3 y k less) 17 c = if c = k then rF y 17 k - less else rF y 17 c) ∧ (∀ j c, j = 18 ∨ j = 19 → rF (mC3 y k less) j c = if c = k ∧ rF y 17 k - less = 0 then nI 0 else rF y j c) ∧ (∀ j, rA (mC3 y k less) j = rA y j) ∧ (∀ j, rN (mC3 y k less) j = rN y j) ∧ (∀ j, j < 17 ∨ 19 < j → rF (mC3 y k less) j = rF y j) := by
  have e17 : rF (mC2 y k less) 17 = upd (rF y 17) k (rF y 17 k - less) := rfl
  have eo : ∀ j, j ≠ 17 → rF (mC2 y k less) j = rF y j := fun j hj => by unfold mC2; rw [rF_uF, if_neg hj]
  unfold mC3
  rw [e17, upd_s]
  by_cases q : rF y 17 k - less = 0
  · rw [if_pos q]
    refine ⟨fun c => ?_, fun j c hj => ?_, fun _ => rfl, fun _ => rfl, fun j hj => ?_⟩
    · rw [qGo_F _ _ _ (Or.inl rfl), e17]
      by_cases e : c = k
      · rw [e, upd_s, if_pos rfl, q, nI_0]
      · rw [upd_n _ _ e, upd_n _ _ e, if_neg e]
    · rw [qGo_F _ _ _ (Or.inr hj), eo j (by omega)]
      by_cases e : c = k
      · rw [e, upd_s, if_pos ⟨rfl, q⟩]
      · rw [upd_n _ _ e, if_neg (fun z => e z.1)]
    · rw [qGo_G _ _ _ hj, eo j (by omega)]
  · rw [if_neg q]
    refine ⟨fun c => ?_, fun j c hj => ?_, fun _ => rfl, fun _ => rfl, fun j hj => eo j (by omega)⟩
    · rw [e17]
      by_cases e : c = k
      · rw [e, upd_s, if_pos rfl]
      · rw [upd_n _ _ e, if_neg e]
    · rw [eo j (by omega), if_neg (fun z => q z.2)]
set_option maxRecDepth 20000 in
theorem mDO_n {kd : Nat} (h : ¬ kd = 3) (b j : Nat) (x : zs) : mDO kd b j x = x := by
  unfold mDO
  split
  · rfl
  · rw [if_neg h]
set_option maxRecDepth 20000 in
theorem mDO_3 (b j : Nat) (x : zs) : mDO 3 b j x = if j = b then x else mDT j x := by
  unfold mDO mDT
  split
  · split <;> rfl
  · rw [if_pos rfl]
set_option maxRecDepth 20000 in
theorem mDOs_n {kd : Nat} (h : ¬ kd = 3) (b : Nat) : ∀ (n i : Nat) (x : zs), zfw (mDO kd b) i n x = x
  | 0, _, _ => rfl
  | n + 1, i, x => by rw [zfw, mDO_n h]; exact mDOs_n h b n (i + 1) x
set_option maxRecDepth 20000 in
theorem mDOs_R (b : Nat) : ∀ (n i : Nat) (x : zs), qM x → qV (rF x 17) → qV (rF x 18) → i + n ≤ rN x 4 →
    (∀ b2 c, b2 < rN x 4 → c ∈ ml x b2 → rF (zfw (mDO 3 b) i n x) 18 c = if i ≤ b2 ∧ b2 < i + n ∧ b2 ≠ b then dDry (rF x 18) (ma x b2).getLast? c else rF x 18 c) ∧ (∀ j, j ≠ 18 → rF (zfw (mDO 3 b) i n x) j = rF x j) ∧ qV (rF (zfw (mDO 3 b) i n x) 18) := by
  intro n
  induction n with
  | zero => exact fun i x _ _ hw _ => ⟨fun b c _ _ => by rw [if_neg (by omega)]; rfl, fun _ _ => rfl, hw⟩
  | succ n ih =>
    intro i x hM hv hw hi
    have hib : i < rN x 4 := by omega
    rw [zfw, mDO_3]
    by_cases eb : i = b
    · rw [if_pos eb]
      obtain ⟨r1, r2, r3⟩ := ih (i + 1) x hM hv hw (by omega)
      refine ⟨fun b2 c hb hc => ?_, r2, r3⟩
      rw [r1 b2 c hb hc]
      by_cases q : i ≤ b2 ∧ b2 < i + (n + 1) ∧ b2 ≠ b
      · rw [if_pos q, if_pos (by omega)]
      · rw [if_neg q, if_neg (by omega)]
    · rw [if_neg eb]
      have hD := mDT_R i x hv
      have e17 : rF (mDT i x) 17 = rF x 17 := hD.2 17 (by decide)
      have hM2 : qM (mDT i x) := qM_of hM (mDT_A i x) (fun k _ => mDT_N i x k)
      obtain ⟨r1, r2, r3⟩ := ih (i + 1) (mDT i x) hM2 (by rw [e17]; exact hv) (mDT_V hv hw).2 (by rw [mDT_N]; omega)
      refine ⟨fun b2 c hb hc => ?_, fun j hj => by rw [r2 j hj, hD.2 j hj], r3⟩
      rw [r1 b2 c (by rw [mDT_N]; exact hb) (by rw [ml_of (mDT_A i x)]; exact hc), ma_congr (mDT_A i x) (fun c _ => by rw [e17])]
      by_cases e : b2 = i
      · subst e
        rw [if_neg (by omega), if_pos (by omega)]
        exact hD.1 c
      · have hnot : (ma x i).getLast? ≠ some c := fun q => e (qM_home hM hb hib hc (ma_in (last_in q)))
        have e1 : rF (mDT i x) 18 c = rF x 18 c := by rw [hD.1 c, dDry_n hnot]
        by_cases q : i ≤ b2 ∧ b2 < i + (n + 1) ∧ b2 ≠ b
        · rw [if_pos q, if_pos (by omega), dDry_congr e1]
        · rw [if_neg q, if_neg (by omega), e1]
/-! the main part's slice, read, down to the drying -/
set_option maxRecDepth 20000 in
theorem snoc_take {L : List Nat} {k : Nat} (h : L.getLast? = some k) : L.take (L.length - 1) ++ [k] = L ∧ L.drop (L.length - 1) = [k] := by
  obtain ⟨A, e⟩ := List.getLast?_eq_some_iff.mp h
  subst e
  rw [List.length_append, List.length_singleton, Nat.add_sub_cancel]
  rw [List.take_left', List.drop_left'] <;> first | rfl | exact ⟨rfl, rfl⟩
set_option maxRecDepth 20000 in
theorem bSl2_R {s : zs} {b k : Nat} {much l2 : Int32} (hk : ¬ rA s 10 b = 0) (hl : (sl s b).getLast? = some k) (ek : rA s 11 (b * 3 + rA s 10 b - 1) = k) (h2 : rF s 7 k - bLess s b much = l2) : (∀ c, rF (bSl2 s b much) 7 c = if c = k then l2 else rF s 7 c) ∧ (∀ j c, j = 8 ∨ j = 9 → rF (bSl2 s b much) j c = if c = k ∧ l2 = 0 then nI 0 else rF s j c) ∧ (∀ j, j ≠ 10 → rA (bSl2 s b much) j = rA s j) ∧ (∀ j, rI (bSl2 s b much) j = rI s j) ∧ sl (bSl2 s b much) b = (if l2 = 0 then (sl s b).take ((sl s b).length - 1) else sl s b) ∧ ∀ b2, b2 ≠ b → sl (bSl2 s b much) b2 = sl s b2 := by
  have hs1 : ∀ b2, sl (bSl1 s b much) b2 = sl s b2 := fun _ => rfl
  have e7 : rF (bSl1 s b much) 7 = upd (rF s 7) k l2 := by
    unfold bSl1
    rw [rF_uF, if_pos rfl, ek, h2]
  have eo : ∀ j, j ≠ 7 → rF (bSl1 s b much) j = rF s j := fun j hj => by unfold bSl1; rw [rF_uF, if_neg hj]
  have hst := snoc_take hl
  unfold bSl2
  rw [ek, e7, upd_s]
  by_cases q : l2 = 0
  · rw [if_pos q, if_pos q]
    have hR := bLoseFrom_R (bSl1 s b much) b (rA s 10 b - 1) (by show rA s 10 b - 1 ≤ rA s 10 b; omega)
    rw [hs1 b, show rA s 10 b - 1 = (sl s b).length - 1 by rw [sl_len]] at hR
    rw [show rA s 10 b - 1 = (sl s b).length - 1 by rw [sl_len]]
    obtain ⟨r1, r2, r3, r4, r5, r6, r7⟩ := hR
    rw [hst.2] at r1
    refine ⟨fun c => ?_, fun j c hj => ?_, r2, r5, r6, r7⟩
    · rw [r1 7 c (Or.inl rfl), e7]
      by_cases e : c = k
      · rw [if_pos (by simp [e]), if_pos e, q, nI_0]
      · rw [if_neg (by simp [e]), if_neg e, upd_n _ _ e]
    · rw [r1 j c (Or.inr hj), eo j (by omega)]
      by_cases e : c = k
      · rw [if_pos (by simp [e]), if_pos ⟨e, q⟩]
      · rw [if_neg (by simp [e]), if_neg (fun z => e z.1)]
  · rw [if_neg q, if_neg q]
    refine ⟨fun c => ?_, fun j c hj => by rw [eo j (by omega), if_neg (fun z => q z.2)], fun _ _ => rfl, fun _ => rfl, rfl, fun _ _ => rfl⟩
    rw [e7]
    by_cases e : c = k
    · rw [e, upd_s, if_pos rfl]
    · rw [upd_n _ _ e, if_neg e]
end
