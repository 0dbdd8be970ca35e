section
/-! what is taken out of a bay, and what is left -/
def tk (t : Nat) : List Nat → Nat → List Nat
  | [], _ => []
  | c :: L, i => if t / 2 ^ i % 2 = 1 then c :: tk t L (i + 1) else tk t L (i + 1)
def kpt (t : Nat) : List Nat → Nat → List Nat
  | [], _ => []
  | c :: L, i => if t / 2 ^ i % 2 = 1 then kpt t L (i + 1) else c :: kpt t L (i + 1)
set_option maxRecDepth 20000 in
theorem tk_in {t c : Nat} : ∀ (L : List Nat) (i : Nat), c ∈ tk t L i → c ∈ L
  | [], _, h => h
  | a :: L, i, h => by
    rw [tk] at h
    split at h
    · rcases List.mem_cons.mp h with e | e
      · rw [e]; exact List.mem_cons_self
      · exact List.mem_cons_of_mem _ (tk_in L (i + 1) e)
    · exact List.mem_cons_of_mem _ (tk_in L (i + 1) h)
set_option maxRecDepth 20000 in
theorem kpt_len (t : Nat) : ∀ (L : List Nat) (i : Nat), (kpt t L i).length ≤ L.length
  | [], _ => Nat.le_refl _
  | a :: L, i => by
    have h := kpt_len t L (i + 1)
    rw [kpt, List.length_cons]
    split
    · omega
    · rw [List.length_cons]; omega
set_option maxRecDepth 20000 in
theorem kpt_f (t : Nat) : ∀ (L : List Nat) (i : Nat), L.Nodup → kpt t L i = L.filter (fun c => !decide (c ∈ tk t L i))
  | [], _, _ => rfl
  | a :: L, i, h => by
    obtain ⟨h1, h2⟩ := List.nodup_cons.mp h
    have hf : ∀ c, c ∈ L → c ≠ a := fun c hc e => h1 (e ▸ hc)
    rw [kpt, tk]
    by_cases q : t / 2 ^ i % 2 = 1
    · rw [if_pos q, if_pos q, kpt_f t L (i + 1) h2, List.filter_cons, if_neg (by simp)]
      refine List.filter_congr (fun c hc => ?_)
      simp [hf c hc]
    · rw [if_neg q, if_neg q, kpt_f t L (i + 1) h2, List.filter_cons, if_pos (by simp; exact fun z => h1 (tk_in L (i + 1) z))]
set_option maxRecDepth 20000 in
theorem bTake_L (b t : Nat) : ∀ (n i k : Nat) (s : zs), k ≤ i →
    (∀ f c, f = 7 ∨ f = 8 ∨ f = 9 → rF (zfw (bTakeStep b t) i n (k, s)).2 f c = if c ∈ tk t (qL (fun p => rA s 11 (b * 3 + p)) i n) i then nI 0 else rF s f c) ∧
    (zfw (bTakeStep b t) i n (k, s)).1 = k + (kpt t (qL (fun p => rA s 11 (b * 3 + p)) i n) i).length ∧
    qL (fun p => rA (zfw (bTakeStep b t) i n (k, s)).2 11 (b * 3 + p)) k (kpt t (qL (fun p => rA s 11 (b * 3 + p)) i n) i).length = kpt t (qL (fun p => rA s 11 (b * 3 + p)) i n) i ∧
    (∀ j, j < b * 3 + k ∨ b * 3 + (i + n) ≤ j → rA (zfw (bTakeStep b t) i n (k, s)).2 11 j = rA s 11 j) ∧
    (∀ j, j ≠ 11 → rA (zfw (bTakeStep b t) i n (k, s)).2 j = rA s j) ∧ (∀ j, rN (zfw (bTakeStep b t) i n (k, s)).2 j = rN s j) := by
  intro n
  induction n with
  | zero => intro i k s _; exact ⟨fun f c _ => by simp [qL, tk, zfw], rfl, rfl, fun _ _ => rfl, fun _ _ => rfl, fun _ => rfl⟩
  | succ n ih =>
    intro i k s hk
    rw [zfw, qL, tk, kpt]
    by_cases q : t / 2 ^ i % 2 = 1
    · have e : bTakeStep b t i (k, s) = (k, bLose s (rA s 11 (b * 3 + i))) := by unfold bTakeStep; rw [if_pos q]
      rw [e, if_pos q, if_pos q]
      obtain ⟨r1, r2, r3, r4, r5, r6⟩ := ih (i + 1) k (bLose s (rA s 11 (b * 3 + i))) (by omega)
      refine ⟨fun f c hf => ?_, r2, r3, fun j hj => (r4 j (by omega)).trans rfl, fun j hj => (r5 j hj).trans rfl, fun j => (r6 j).trans rfl⟩
      rw [r1 f c hf]
      have e2 : rF (bLose s (rA s 11 (b * 3 + i))) f = upd (rF s f) (rA s 11 (b * 3 + i)) (nI 0) := by rcases hf with e | e | e <;> subst e <;> rfl
      show (if c ∈ tk t (qL (fun p => rA s 11 (b * 3 + p)) (i + 1) n) (i + 1) then _ else _) = _
      rw [e2]
      by_cases z : c ∈ tk t (qL (fun p => rA s 11 (b * 3 + p)) (i + 1) n) (i + 1)
      · rw [if_pos z, if_pos (List.mem_cons_of_mem _ z)]
      · rw [if_neg z]
        by_cases y : c = rA s 11 (b * 3 + i)
        · rw [y, upd_s, if_pos List.mem_cons_self]
        · rw [upd_n _ _ y, if_neg (by simp [y, z])]
    · have e : bTakeStep b t i (k, s) = (k + 1, uA s 11 (updN (rA s 11) (b * 3 + k) (rA s 11 (b * 3 + i)))) := by unfold bTakeStep; rw [if_neg q]
      rw [e, if_neg q, if_neg q]
      have e11 : rA (uA s 11 (updN (rA s 11) (b * 3 + k) (rA s 11 (b * 3 + i)))) 11 = updN (rA s 11) (b * 3 + k) (rA s 11 (b * 3 + i)) := by rw [rA_uA, if_pos rfl]
      have eq : qL (fun p => rA (uA s 11 (updN (rA s 11) (b * 3 + k) (rA s 11 (b * 3 + i)))) 11 (b * 3 + p)) (i + 1) n = qL (fun p => rA s 11 (b * 3 + p)) (i + 1) n := qL_congr n (i + 1) (fun p h1 _ => by rw [e11, updN_n _ _ (by omega)])
      obtain ⟨r1, r2, r3, r4, r5, r6⟩ := ih (i + 1) (k + 1) (uA s 11 (updN (rA s 11) (b * 3 + k) (rA s 11 (b * 3 + i)))) (by omega)
      rw [eq] at r1 r2 r3
      refine ⟨fun f c hf => (r1 f c hf).trans rfl, ?_, ?_, fun j hj => ?_, fun j hj => (r5 j hj).trans (by rw [rA_uA, if_neg hj]), fun j => (r6 j).trans rfl⟩
      · rw [r2, List.length_cons]; omega
      · rw [List.length_cons, qL, r3]
        refine congrArg (· :: _) ?_
        show rA (zfw (bTakeStep b t) (i + 1) n (k + 1, _)).2 11 (b * 3 + k) = _
        rw [r4 (b * 3 + k) (by omega), e11, updN_s]
      · rw [r4 j (by omega), e11, updN_n _ _ (by omega)]
set_option maxRecDepth 20000 in
theorem bTake_R (s : zs) (b t : Nat) : (∀ f c, f = 7 ∨ f = 8 ∨ f = 9 → rF (bTake s b t) f c = if c ∈ tk t (sl s b) 0 then nI 0 else rF s f c) ∧ sl (bTake s b t) b = kpt t (sl s b) 0 ∧ rA (bTake s b t) 5 = rA s 5 ∧ rA (bTake s b t) 6 = rA s 6 ∧ (∀ j, rN (bTake s b t) j = rN s j) := by
  obtain ⟨r1, r2, r3, r4, r5, r6⟩ := bTake_L b t (rA s 10 b) 0 0 s (Nat.le_refl _)
  unfold bTake bTakeEnd
  refine ⟨r1, ?_, ?_, ?_, r6⟩
  · show qL (fun p => rA (zfw (bTakeStep b t) 0 (rA s 10 b) (0, s)).2 11 (b * 3 + p)) 0 (updN (rA (zfw (bTakeStep b t) 0 (rA s 10 b) (0, s)).2 10) b (zfw (bTakeStep b t) 0 (rA s 10 b) (0, s)).1 b) = kpt t (qL (fun p => rA s 11 (b * 3 + p)) 0 (rA s 10 b)) 0
    rw [updN_s, r2, Nat.zero_add]
    exact r3
  · rw [rA_uA, if_neg (by decide)]; exact r5 5 (by decide)
  · rw [rA_uA, if_neg (by decide)]; exact r5 6 (by decide)
/-! the model: the so-manieth cart that is there -/
def ma0 (x : zs) (b : Nat) : List Nat := (ml x b).filter (qa (rF x 14))
set_option maxRecDepth 20000 in
theorem mAtL_L {x : zs} {b : Nat} (hv : qV (rF x 14)) : ∀ (n i q : Nat), mAtL x b i n q = ((qL (fun p => rA x 13 (4 * b + p)) i n).filter (qa (rF x 14)))[q]? := by
  intro n
  induction n with
  | zero => intro i q; rfl
  | succ n ih =>
    intro i q
    rw [mAtL, qL]
    by_cases e : rF x 14 (rA x 13 (4 * b + i)) = 0
    · rw [if_pos ((qV_le hv _).mpr e), List.filter_cons, if_neg (by simp [qa, e])]
      exact ih (i + 1) q
    · have ef : List.filter (qa (rF x 14)) (rA x 13 (4 * b + i) :: qL (fun p => rA x 13 (4 * b + p)) (i + 1) n) = rA x 13 (4 * b + i) :: List.filter (qa (rF x 14)) (qL (fun p => rA x 13 (4 * b + p)) (i + 1) n) := by rw [List.filter_cons, if_pos (by simp [qa, e])]
      rw [if_neg (fun z => e ((qV_le hv _).mp z)), ef]
      cases q with
      | zero => rfl
      | succ q =>
        rw [if_neg (by omega), Nat.add_sub_cancel, ih (i + 1) q, List.getElem?_cons_succ]
set_option maxRecDepth 20000 in
theorem mAt_L {x : zs} {b : Nat} (hv : qV (rF x 14)) (q : Nat) : mAt x b q = (ma0 x b)[q]? := mAtL_L hv _ 0 q
set_option maxRecDepth 20000 in
theorem mCnt_L {f : Nat → Int32} {h : Nat → Nat} (hv : qV f) : ∀ (n i a : Nat), zfw (fun p x => if f (h p) ≤ 0 then x + 0 else x + 1) i n a = a + ((qL h i n).filter (qa f)).length := by
  intro n
  induction n with
  | zero => intro i a; rfl
  | succ n ih =>
    intro i a
    rw [zfw, qL, List.filter_cons]
    by_cases e : f (h i) = 0
    · rw [if_pos ((qV_le hv _).mpr e), if_neg (by simp [qa, e]), ih, Nat.add_zero]
    · rw [if_neg (fun z => e ((qV_le hv _).mp z)), if_pos (by simp [qa, e]), ih, List.length_cons]
      omega
set_option maxRecDepth 20000 in
theorem mMany_L {x : zs} {b : Nat} (hv : qV (rF x 14)) : mMany x b = (ma0 x b).length := by
  unfold mMany mMF
  rw [mCnt_L (f := rF x 14) (h := fun p => rA x 13 (4 * b + p)) hv, Nat.zero_add]
  rfl
set_option maxRecDepth 20000 in
theorem mCF_L {x : zs} {b : Nat} (hv : qV (rF x 17)) : zfw (mCF b x) 0 (rA x 12 b) 0 = (ma x b).length := by
  unfold mCF
  rw [mCnt_L (f := rF x 17) (h := fun p => rA x 13 (4 * b + p)) hv, Nat.zero_add]
  rfl
set_option maxRecDepth 20000 in
theorem mCG_L {x : zs} {b : Nat} (hv : qV (rF x 17)) : ∀ (n i k : Nat), ((qL (fun p => rA x 13 (4 * b + p)) i n).filter (qa (rF x 17))).length ≤ k → zfw (mCG b x) i n (nI k) = nI (k - ((qL (fun p => rA x 13 (4 * b + p)) i n).filter (qa (rF x 17))).length) := by
  intro n
  induction n with
  | zero => intro i k _; rfl
  | succ n ih =>
    intro i k hk
    rw [qL, List.filter_cons] at hk ⊢
    rw [zfw]
    by_cases e : rF x 17 (rA x 13 (4 * b + i)) = 0
    · rw [if_neg (by simp [qa, e])] at hk ⊢
      rw [show mCG b x i (nI k) = nI k by unfold mCG; rw [if_pos ((qV_le hv _).mpr e), i32_sub0]]
      exact ih (i + 1) k hk
    · rw [if_pos (by simp [qa, e]), List.length_cons] at hk ⊢
      rw [show mCG b x i (nI k) = nI (k - 1) by unfold mCG; rw [if_neg (fun z => e ((qV_le hv _).mp z))]; exact nix_sub (by omega), ih (i + 1) (k - 1) (by omega)]
      exact congrArg nI (by omega)
/-! ten days of one bay -/
set_option maxRecDepth 20000 in
theorem qSL {b : Nat} : ∀ (n i : Nat) (s x : zs), qM x → qS s x → qV (rF x 17) → qV (rF x 18) → b < rN x 4 → qB b s x → ((fSL b n s).1 = true ↔ (ma (zfw (fun _ x => (mDay x).2) i n x) b).length = (ma x b).length) ∧ (ma (zfw (fun _ x => (mDay x).2) i n x) b).length ≤ (ma x b).length ∧ qV (rF (zfw (fun _ x => (mDay x).2) i n x) 17) ∧ mP0 (zfw (fun _ x => (mDay x).2) i n x) x := by
  intro n
  induction n with
  | zero => intro i s x _ _ hv _ _ _; exact ⟨⟨fun _ => rfl, fun _ => rfl⟩, Nat.le_refl _, hv, mP0_refl x⟩
  | succ n ih =>
    intro i s x hM hS hv hw hb h
    have h4 : rN (mWA x) 4 = rN x 4 := mWA_N _ 0 x 4
    obtain ⟨d1, d2⟩ := qB_day hM hS hv hw hb h
    have hM2 : qM (mDay x).2 := qM_of hM (mDay_A x) (fun k _ => mDay_N x k)
    have hS2 : qS (bBD s b) (mDay x).2 := qS_of hS (fun k _ => bBD_N s b k) (bBD_A s b 5 (by decide)) (bBD_A s b 6 (by decide)) (mDay_A x) (fun k _ => mDay_N x k)
    have hV2 := mBBs_V (rN x 4) 0 0 (mWA x) (qM_WA hM) (by rw [mWA_V.1]; exact hv) (by rw [mWA_V.2]; exact hw) (by rw [h4]; omega)
    have hV3 := mDTs_V (rN (zfw mBB 0 (rN x 4) (0, mWA x)).2 4) 0 _ hV2.1 hV2.2
    have hlen : (ma (mDay x).2 b).length + bBurnN (bWarm s b) b = (ma x b).length := by
      rw [← d1.2, ← h.2]
      obtain ⟨b1, -, -, -, -, b6, -⟩ := bBurn_R (bWarm s b) b
      have e1 : sl (bBD s b) b = dKeep (rF (bWarm s b) 9) (sl (bWarm s b) b) := by unfold bBD; rw [(bDry_R _ b).2.2.2 b, b6]
      rw [e1, b1, ← List.length_append, dKL, bWarm_sl]
    obtain ⟨r1, r2, r3, r4⟩ := ih (i + 1) (bBD s b) (mDay x).2 hM2 hS2 hV3.1 hV3.2 (by rw [mDay_N]; exact hb) d1
    rw [zfw, fSL]
    refine ⟨?_, by omega, r3, mP0_trans r4 (mP0_day x)⟩
    by_cases q : bBurnN (bWarm s b) b = 0
    · rw [if_pos q]
      show (fSL b n (bBD s b)).1 = true ↔ _
      rw [r1]
      omega
    · rw [if_neg q]
      constructor
      · intro z; cases z
      · intro z; omega
end
