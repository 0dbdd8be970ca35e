section
/-! how the model's rows stand, and how they stand to the main part's -/
def qM (x : zs) : Prop := mOK x ∧ (∀ b, b < rN x 4 → (ml x b).Nodup) ∧ (∀ b c, b < rN x 4 → c ∈ ml x b → c < rN x 5 ∧ rA x 11 c = b) ∧ (∀ c, c < rN x 5 → rA x 11 c < rN x 4 ∧ c ∈ ml x (rA x 11 c))
def qS (s x : zs) : Prop := rN x 4 = rN s 0 ∧ rN x 5 = rN s 1 ∧ ∀ c, c < rN x 5 → rA x 10 c = rA s 5 c ∧ rA x 11 c = rA s 6 c
def qB (b : Nat) (s x : zs) : Prop := (∀ c, c ∈ ml x b → rF x 17 c = rF s 7 c ∧ rF x 18 c = rF s 8 c ∧ rF x 19 c = rF s 9 c) ∧ sl s b = ma x b
set_option maxRecDepth 20000 in
theorem ml_of {x y : zs} (hA : ∀ k, rA y k = rA x k) (b : Nat) : ml y b = ml x b := by
  unfold ml
  rw [hA 12, hA 13]
set_option maxRecDepth 20000 in
theorem qM_of {x y : zs} (h : qM x) (hA : ∀ k, rA y k = rA x k) (hN : ∀ k, k < 6 → rN y k = rN x k) : qM y := by
  obtain ⟨h1, h2, h3, h4⟩ := h
  refine ⟨?_, ?_, ?_, ?_⟩
  · obtain ⟨a, b, c, d, e, f⟩ := h1
    exact ⟨by rw [hA]; exact a, by rw [hA]; exact b, by rw [hA]; exact c, by rw [hA]; exact d, by rw [hN 4 (by decide)]; exact e, by rw [hN 5 (by decide)]; exact f⟩
  · intro b hb
    rw [ml_of hA]
    exact h2 b (by rw [← hN 4 (by decide)]; exact hb)
  · intro b c hb hc
    rw [ml_of hA] at hc
    rw [hN 5 (by decide), hA 11]
    exact h3 b c (by rw [← hN 4 (by decide)]; exact hb) hc
  · intro c hc
    rw [hN 5 (by decide)] at hc
    rw [hN 4 (by decide), hA 11, ml_of hA]
    exact h4 c hc
set_option maxRecDepth 20000 in
theorem qM_home {x : zs} (h : qM x) {b b2 c : Nat} (hb : b < rN x 4) (hb2 : b2 < rN x 4) (h1 : c ∈ ml x b) (h2 : c ∈ ml x b2) : b = b2 := (h.2.2.1 b c hb h1).2.symm.trans (h.2.2.1 b2 c hb2 h2).2
set_option maxRecDepth 20000 in
theorem ma_in {x : zs} {b c : Nat} (h : c ∈ ma x b) : c ∈ ml x b := (List.mem_filter.mp h).1
set_option maxRecDepth 20000 in
theorem lostM_in {x : zs} {b c : Nat} (h : c ∈ lostM x b) : c ∈ ma x b := (List.dropWhile_sublist _).subset h
set_option maxRecDepth 20000 in
theorem ma_congr {x y : zs} {b : Nat} (hA : ∀ k, rA y k = rA x k) (h : ∀ c, c ∈ ml x b → rF y 17 c = rF x 17 c) : ma y b = ma x b := by
  unfold ma
  rw [ml_of hA]
  exact List.filter_congr (fun c hc => by unfold qa; rw [h c hc])
set_option maxRecDepth 20000 in
theorem dropWhile_congr' {p q : Nat → Bool} : ∀ (L : List Nat), (∀ c, c ∈ L → p c = q c) → L.dropWhile p = L.dropWhile q
  | [], _ => rfl
  | a :: L, h => by
    rw [List.dropWhile_cons, List.dropWhile_cons, h a List.mem_cons_self, dropWhile_congr' L (fun c hc => h c (List.mem_cons_of_mem _ hc))]
set_option maxRecDepth 20000 in
theorem dLost_congr {m m2 : Nat → Int32} {L : List Nat} (h : ∀ c, c ∈ L → m c = m2 c) : dLost m L = dLost m2 L := dropWhile_congr' L (fun c hc => by unfold dT; rw [h c hc])
set_option maxRecDepth 20000 in
theorem dKeep_congr {m m2 : Nat → Int32} {L : List Nat} (h : ∀ c, c ∈ L → m c = m2 c) : dKeep m L = dKeep m2 L := by
  have e1 := dKL m L
  have e2 := dKL m2 L
  rw [← dLost_congr h] at e2
  exact List.append_cancel_right (e1.trans e2.symm)
set_option maxRecDepth 20000 in
theorem qV_gos {x : zs} {D : List Nat} (k : Nat) (hk : k = 17 ∨ k = 18 ∨ k = 19) (h : qV (rF x k)) : qV (rF (D.foldl mGo x) k) := fun c => by
  rw [mGos_F k hk]
  split
  · exact ⟨0, by omega, rfl⟩
  · exact h c
def sumL (d : Nat → Nat) : Nat → Nat → Nat → Nat
  | _, 0, k => k
  | i, n + 1, k => sumL d (i + 1) n (k + d i)
theorem sumL_congr {d e : Nat → Nat} : ∀ (n i k : Nat), (∀ b, i ≤ b → b < i + n → d b = e b) → sumL d i n k = sumL e i n k
  | 0, _, _, _ => rfl
  | n + 1, i, k, h => by
    rw [sumL, sumL, h i (Nat.le_refl _) (by omega)]
    exact sumL_congr n (i + 1) _ (fun b h1 h2 => h b (by omega) (by omega))
set_option maxRecDepth 20000 in
/-- the bays burn, one behind the other -/
theorem mBBs_R : ∀ (n i k : Nat) (x : zs), qM x → qV (rF x 17) → i + n ≤ rN x 4 →
    (zfw mBB i n (k, x)).1 = sumL (fun b => (lostM x b).length) i n k ∧ (∀ j b c, j = 17 ∨ j = 18 ∨ j = 19 → b < rN x 4 → c ∈ ml x b → rF (zfw mBB i n (k, x)).2 j c = if i ≤ b ∧ b < i + n ∧ c ∈ lostM x b then nI 0 else rF x j c) ∧ (∀ j, j < 17 ∨ 19 < j → rF (zfw mBB i n (k, x)).2 j = rF x j)
  := by
  intro n
  induction n with
  | zero => exact fun i k x _ _ _ => ⟨rfl, fun j b c _ _ _ => by rw [if_neg (by omega)]; rfl, fun _ _ => rfl⟩
  | succ n ih =>
    intro i k x hM hv hi
    have hib : i < rN x 4 := by omega
    have hO := mGos_O (lostM x i) x
    have hM2 : qM ((lostM x i).foldl mGo x) := qM_of hM hO.1 (fun k _ => hO.2.1 k)
    have hl : ∀ b, b < rN x 4 → b ≠ i → lostM ((lostM x i).foldl mGo x) b = lostM x b := fun b hb hne => by
      have hnot : ∀ c, c ∈ ml x b → c ∉ lostM x i := fun c hc q => hne (qM_home hM hb hib hc (ma_in (lostM_in q)))
      show dLost (rF ((lostM x i).foldl mGo x) 19) (ma ((lostM x i).foldl mGo x) b) = dLost (rF x 19) (ma x b)
      rw [ma_congr hO.1 (fun c hc => by rw [mGos_F 17 (Or.inl rfl), if_neg (hnot c hc)])]
      exact dLost_congr (fun c hc => by rw [mGos_F 19 (Or.inr (Or.inr rfl))]; exact if_neg (hnot c (ma_in hc)))
    rw [zfw, sumL, mBB_eq i k x (hM.2.1 i hib) hv]
    obtain ⟨r1, r2, r3⟩ := ih (i + 1) (k + (lostM x i).length) _ hM2 (qV_gos 17 (Or.inl rfl) hv) (by rw [hO.2.1 4]; omega)
    refine ⟨?_, ?_, ?_⟩
    · rw [r1]
      exact sumL_congr n (i + 1) _ (fun b h1 h2 => by rw [hl b (by omega) (by omega)])
    · intro j b c hj hb hc
      rw [r2 j b c hj (by rw [hO.2.1 4]; exact hb) (by rw [ml_of hO.1]; exact hc), mGos_F j hj]
      by_cases e : b = i
      · subst e
        rw [if_neg (by omega)]
        by_cases q : c ∈ lostM x b
        · rw [if_pos q, if_pos ⟨Nat.le_refl _, by omega, q⟩]
        · rw [if_neg q, if_neg (fun z => q z.2.2)]
      · rw [hl b hb e]
        have hnot : c ∉ lostM x i := fun q => e (qM_home hM hb hib hc (ma_in (lostM_in q)))
        rw [if_neg hnot]
        by_cases q : i ≤ b ∧ b < i + (n + 1) ∧ c ∈ lostM x b
        · rw [if_pos q, if_pos ⟨by omega, by omega, q.2.2⟩]
        · rw [if_neg q, if_neg (fun z => q ⟨by omega, by omega, z.2.2⟩)]
    · intro j hj
      rw [r3 j hj, hO.2.2.2 j hj]
/-! the tops dry -/
set_option maxRecDepth 20000 in
theorem mTopL_L (x : zs) (b : Nat) (hv : qV (rF x 17)) : ∀ n, mTopL x b n = ((qL (fun p => rA x 13 (4 * b + p)) 0 n).filter (qa (rF x 17))).getLast?
  | 0 => rfl
  | n + 1 => by
    rw [mTopL, qL_split _ n 1 0, Nat.zero_add, List.filter_append]
    show _ = (_ ++ List.filter _ [rA x 13 (4 * b + n)]).getLast?
    by_cases q : rF x 17 (rA x 13 (4 * b + n)) = 0
    · rw [if_pos ((qV_le hv _).mpr q), mTopL_L x b hv n, List.filter_cons, if_neg (by simp [qa, q]), List.filter_nil, List.append_nil]
    · rw [if_neg (fun z => q ((qV_le hv _).mp z)), List.filter_cons, if_pos (by simp [qa, q]), List.filter_nil]
      simp
set_option maxRecDepth 20000 in
theorem mTop_L (x : zs) (b : Nat) (hv : qV (rF x 17)) : mTop x b = (ma x b).getLast? := mTopL_L x b hv _
set_option maxRecDepth 20000 in
theorem last_in {L : List Nat} {c : Nat} (h : L.getLast? = some c) : c ∈ L := List.mem_of_getLast? h
set_option maxRecDepth 20000 in
theorem dDry_n {w : Nat → Int32} {o : Option Nat} {c : Nat} (h : o ≠ some c) : dDry w o c = w c := by
  unfold dDry
  cases o with
  | none => rfl
  | some t => exact if_neg (fun e => h (by rw [e]))
set_option maxRecDepth 20000 in
theorem dDry_congr {w w2 : Nat → Int32} {o : Option Nat} {c : Nat} (h : w c = w2 c) : dDry w o c = dDry w2 o c := by
  unfold dDry
  cases o with
  | none => exact h
  | some t =>
    show (if _ then _ else _) = (if _ then _ else _)
    by_cases e : c = t
    · subst e; rw [if_pos rfl, if_pos rfl, h]
    · rw [if_neg e, if_neg e, h]
set_option maxRecDepth 20000 in
theorem mDT_R (b : Nat) (x : zs) (hv : qV (rF x 17)) : (∀ c, rF (mDT b x) 18 c = dDry (rF x 18) (ma x b).getLast? c) ∧ (∀ k, k ≠ 18 → rF (mDT b x) k = rF x k) := by
  unfold mDT
  rw [mTop_L x b hv]
  cases h : (ma x b).getLast? with
  | none => exact ⟨fun _ => rfl, fun _ _ => rfl⟩
  | some t =>
    refine ⟨fun c => ?_, fun k hk => by show rF (mDry x t) k = _; rw [mDry, rF_uF, if_neg hk]⟩
    show rF (mDry x t) 18 c = if _ then _ else _
    rw [mDry, rF_uF, if_pos rfl]
    by_cases e : c = t
    · rw [if_pos e, e, upd_s]
    · rw [if_neg e, upd_n _ _ e]
set_option maxRecDepth 20000 in
theorem mDTs_R : ∀ (n i : Nat) (x : zs), qM x → qV (rF x 17) → i + n ≤ rN x 4 →
    (∀ b c, b < rN x 4 → c ∈ ml x b → rF (zfw mDT i n x) 18 c = if i ≤ b ∧ b < i + n then dDry (rF x 18) (ma x b).getLast? c else rF x 18 c) ∧ (∀ j, j ≠ 18 → rF (zfw mDT i n x) j = rF x j)
  := by
  intro n
  induction n with
  | zero => exact fun i x _ _ _ => ⟨fun b c _ _ => by rw [if_neg (by omega)]; rfl, fun _ _ => rfl⟩
  | succ n ih =>
    intro i x hM hv hi
    have hib : i < rN x 4 := by omega
    have hD := mDT_R i x hv
    have e17 : rF (mDT i x) 17 = rF x 17 := hD.2 17 (by decide)
    have hM2 : qM (mDT i x) := qM_of hM (mDT_A i x) (fun k _ => mDT_N i x k)
    obtain ⟨r1, r2⟩ := ih (i + 1) (mDT i x) hM2 (by rw [e17]; exact hv) (by rw [mDT_N]; omega)
    rw [zfw]
    refine ⟨fun b c hb hc => ?_, fun j hj => by rw [r2 j hj, hD.2 j hj]⟩
    rw [r1 b c (by rw [mDT_N]; exact hb) (by rw [ml_of (mDT_A i x)]; exact hc), ma_congr (mDT_A i x) (fun c _ => by rw [e17])]
    by_cases e : b = i
    · subst e
      rw [if_neg (by omega), if_pos (by omega)]
      exact hD.1 c
    · have hnot : (ma x i).getLast? ≠ some c := fun q => e (qM_home hM hb hib hc (ma_in (last_in q)))
      have e1 : rF (mDT i x) 18 c = rF x 18 c := by rw [hD.1 c, dDry_n hnot]
      by_cases q : i ≤ b ∧ b < i + (n + 1)
      · rw [if_pos q, if_pos (by omega), dDry_congr e1]
      · rw [if_neg q, if_neg (by omega), e1]
end
