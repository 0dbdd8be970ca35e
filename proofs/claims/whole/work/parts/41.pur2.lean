section
theorem bBurn_R (s : zs) (b : Nat) : bBurnN s b = (dLost (rF s 9) (sl s b)).length ∧ (∀ k c, k = 7 ∨ k = 8 ∨ k = 9 → rF (bBurnS s b) k c = if c ∈ dLost (rF s 9) (sl s b) then nI 0 else rF s k c) ∧ (∀ k, k ≠ 10 → rA (bBurnS s b) k = rA s k) ∧ (∀ k, rN (bBurnS s b) k = rN s k) ∧ (∀ k, rI (bBurnS s b) k = rI s k) ∧ sl (bBurnS s b) b = dKeep (rF s 9) (sl s b) ∧ ∀ b2, b2 ≠ b → sl (bBurnS s b) b2 = sl s b2 := by
  have hz := zfind_L (rF s 9) (fun p => rA s 11 (b * 3 + p)) (rA s 10 b) 0
  have hKL := dKL (rF s 9) (sl s b)
  unfold bBurnN bBurnS
  cases h : zfind (bBurnP s b) 0 (rA s 10 b) with
  | none =>
    have e : dLost (rF s 9) (sl s b) = [] := hz.1 h
    rw [e] at hKL ⊢
    rw [List.append_nil] at hKL
    refine ⟨rfl, fun k c _ => ?_, fun _ _ => rfl, fun _ => rfl, fun _ => rfl, hKL.symm, fun _ _ => rfl⟩
    simp
  | some p =>
    have hlt := zfind_lt _ _ _ h
    have e : dLost (rF s 9) (sl s b) = qL (fun p => rA s 11 (b * 3 + p)) p (0 + rA s 10 b - p) := hz.2 p h
    have hR := bLoseFrom_R s b p (by omega)
    have el : (dLost (rF s 9) (sl s b)).length = rA s 10 b - p := by rw [e, qL_len]; omega
    have e2 : dKeep (rF s 9) (sl s b) ++ dLost (rF s 9) (sl s b) = (sl s b).take p ++ (sl s b).drop p := by rw [hKL, List.take_append_drop]
    have e3 := List.append_inj' e2 (by rw [el, List.length_drop, sl_len])
    refine ⟨?_, fun k c hk => ?_, hR.2.1, hR.2.2.2.1, hR.2.2.2.2.1, ?_, hR.2.2.2.2.2.2⟩
    · rw [el]
    · rw [e3.2]; exact hR.1 k c hk
    · rw [e3.1]; exact hR.2.2.2.2.2.1
/-! drying the top -/
def dDry (w : Nat → Int32) (o : Option Nat) (c : Nat) : Int32 := match o with
  | none => w c
  | some t => if c = t then w t - (if w t ≤ 0 then nI 0 else nI 1) else w c
theorem i32_sub0 (x : Int32) : x - nI 0 = x := by rw [nI_0]; simp
theorem sl_last (s : zs) (b : Nat) : (sl s b).getLast? = if rA s 10 b = 0 then none else some (rA s 11 (b * 3 + rA s 10 b - 1)) := by
  unfold sl
  cases h : rA s 10 b with
  | zero => rfl
  | succ n =>
    rw [qL_last, if_neg (by omega)]
    exact congrArg (fun t => some (rA s 11 t)) (by omega)
theorem bDry_R (s : zs) (b : Nat) : (∀ c, rF (bDry s b) 8 c = dDry (rF s 8) (sl s b).getLast? c) ∧ (∀ k, k ≠ 8 → rF (bDry s b) k = rF s k) ∧ (∀ k, rI (bDry s b) k = rI s k) ∧ ∀ b2, sl (bDry s b) b2 = sl s b2 := by
  rw [sl_last]
  unfold bDry
  by_cases h : rA s 10 b = 0
  · rw [if_pos h, if_pos h]
    exact ⟨fun _ => rfl, fun _ _ => rfl, fun _ => rfl, fun _ => rfl⟩
  · rw [if_neg h, if_neg h]
    by_cases q : rF s 8 (rA s 11 (b * 3 + rA s 10 b - 1)) ≤ 0
    · rw [if_pos q]
      refine ⟨fun c => ?_, fun _ _ => rfl, fun _ => rfl, fun _ => rfl⟩
      show _ = if _ then _ else _
      rw [if_pos q, i32_sub0]
      split
      · subst_vars; rfl
      · rfl
    · rw [if_neg q]
      refine ⟨fun c => ?_, fun k hk => by rw [rF_uF, if_neg hk], fun _ => rfl, fun _ => rfl⟩
      show _ = if _ then _ else _
      rw [rF_uF, if_pos rfl, if_neg q]
      by_cases e : c = rA s 11 (b * 3 + rA s 10 b - 1)
      · rw [if_pos e, e, upd_s]
      · rw [if_neg e, upd_n _ _ e]
/-! the model's carts that go -/
theorem qGo_F (x : zs) (a k : Nat) (hk : k = 17 ∨ k = 18 ∨ k = 19) : rF (mGo x a) k = upd (rF x k) a (nI 0) := by rcases hk with e | e | e <;> subst e <;> rfl
theorem qGo_G (x : zs) (a k : Nat) (hk : k < 17 ∨ 19 < k) : rF (mGo x a) k = rF x k := by
  unfold mGo
  rw [rF_uF, if_neg (by omega), rF_uF, if_neg (by omega), rF_uF, if_neg (by omega)]
theorem mGos_F (k : Nat) (hk : k = 17 ∨ k = 18 ∨ k = 19) : ∀ (D : List Nat) (s : zs) (c : Nat), rF (D.foldl mGo s) k c = if c ∈ D then nI 0 else rF s k c
  | [], _, _ => by simp
  | a :: D, s, c => by
    rw [List.foldl_cons, mGos_F k hk D]
    by_cases h1 : c ∈ D
    · rw [if_pos h1, if_pos (List.mem_cons_of_mem _ h1)]
    · rw [if_neg h1, qGo_F _ _ _ hk]
      by_cases h2 : c = a
      · subst h2; rw [upd_s, if_pos List.mem_cons_self]
      · rw [upd_n _ _ h2, if_neg (by simp [h1, h2])]
theorem mGos_O (D : List Nat) : ∀ (s : zs), (∀ k, rA (D.foldl mGo s) k = rA s k) ∧ (∀ k, rN (D.foldl mGo s) k = rN s k) ∧ (∀ k, rI (D.foldl mGo s) k = rI s k) ∧ ∀ k, k < 17 ∨ 19 < k → rF (D.foldl mGo s) k = rF s k := by
  induction D with
  | nil => intro s; exact ⟨fun _ => rfl, fun _ => rfl, fun _ => rfl, fun _ _ => rfl⟩
  | cons a D ih =>
    intro s
    rw [List.foldl_cons]
    exact ⟨fun k => ((ih _).1 k).trans rfl, fun k => ((ih _).2.1 k).trans rfl, fun k => ((ih _).2.2.1 k).trans rfl, fun k hk => ((ih _).2.2.2 k hk).trans (qGo_G _ _ _ hk)⟩
theorem qV_upd0 {f : Nat → Int32} (h : qV f) (a : Nat) : qV (upd f a (nI 0)) := fun c => by
  by_cases e : c = a
  · subst e; exact ⟨0, by omega, upd_s _ _ _⟩
  · rw [upd_n _ _ e]; exact h c
def mBc (c : Nat) (x : Nat × Nat × zs) : Nat × Nat × zs := if mU x.2.2 x.1 c = 0 then (0, x.2.1, x.2.2) else if rF x.2.2 17 c ≤ 0 then (1, x.2.1, x.2.2) else (1, x.2.1 + 1, mGo x.2.2 c)
theorem mBP_L (b : Nat) : ∀ (n i : Nat) (x : Nat × Nat × zs), zfw (mBP b) i n x = (qL (fun p => rA x.2.2 13 (4 * b + p)) i n).foldl (fun x c => mBc c x) x
  | 0, _, _ => rfl
  | n + 1, i, x => by
    rw [zfw, mBP_L b n (i + 1), mBP_A]
    rfl
theorem mBurn1 : ∀ (M : List Nat) (n : Nat) (x : zs), M.Nodup → qV (rF x 17) → M.foldl (fun x c => mBc c x) (1, n, x) = (1, n + (M.filter (qa (rF x 17))).length, (M.filter (qa (rF x 17))).foldl mGo x)
  | [], _, _, _, _ => rfl
  | c :: R, n, x, hn, hv => by
    obtain ⟨h1, h2⟩ := List.nodup_cons.mp hn
    rw [List.foldl_cons]
    by_cases q : rF x 17 c = 0
    · have e : mBc c (1, n, x) = (1, n, x) := by
        unfold mBc
        rw [if_neg (by simp [mU]), if_pos ((qV_le hv c).mpr q)]
      rw [e, mBurn1 R n x h2 hv, List.filter_cons, if_neg (by simp [qa, q])]
    · have e : mBc c (1, n, x) = (1, n + 1, mGo x c) := by
        unfold mBc
        rw [if_neg (by simp [mU]), if_neg (fun z => q ((qV_le hv c).mp z))]
      have e17 : rF (mGo x c) 17 = upd (rF x 17) c (nI 0) := rfl
      have ef : R.filter (qa (rF (mGo x c) 17)) = R.filter (qa (rF x 17)) := List.filter_congr (fun a ha => by
        unfold qa
        rw [e17, upd_n _ _ (show a ≠ c from fun z => h1 (by rw [← z]; exact ha))])
      rw [e, mBurn1 R (n + 1) (mGo x c) h2 (e17 ▸ qV_upd0 hv c), ef, List.filter_cons, if_pos (by simp [qa, q]), List.length_cons, List.foldl_cons]
      rw [show n + 1 + (R.filter (qa (rF x 17))).length = n + ((R.filter (qa (rF x 17))).length + 1) by omega]
theorem mBurn0 : ∀ (M : List Nat) (n : Nat) (x : zs), M.Nodup → qV (rF x 17) → (M.foldl (fun x c => mBc c x) (0, n, x)).2 = (n + (dLost (rF x 19) (M.filter (qa (rF x 17)))).length, (dLost (rF x 19) (M.filter (qa (rF x 17)))).foldl mGo x)
  | [], _, _, _, _ => rfl
  | c :: R, n, x, hn, hv => by
    obtain ⟨h1, h2⟩ := List.nodup_cons.mp hn
    rw [List.foldl_cons]
    by_cases q : rF x 17 c = 0
    · have e : mBc c (0, n, x) = (0, n, x) := by
        unfold mBc
        rw [if_pos (by rw [mU, if_pos rfl, if_pos ((qV_le hv c).mpr q)])]
      rw [e, mBurn0 R n x h2 hv, List.filter_cons, if_neg (by simp [qa, q])]
    · have ql : ¬ rF x 17 c ≤ 0 := fun z => q ((qV_le hv c).mp z)
      rw [List.filter_cons, if_pos (by simp [qa, q])]
      by_cases w : rF x 19 c < nI 30
      · have e : mBc c (0, n, x) = (0, n, x) := by
          unfold mBc
          rw [if_pos (by rw [mU, if_pos rfl, if_neg ql, if_pos w])]
        have e2 : dLost (rF x 19) (c :: R.filter (qa (rF x 17))) = dLost (rF x 19) (R.filter (qa (rF x 17))) := by
          unfold dLost
          rw [List.dropWhile_cons, if_pos (by simp [dT, w])]
        rw [e, mBurn0 R n x h2 hv, e2]
      · have e : mBc c (0, n, x) = (1, n + 1, mGo x c) := by
          unfold mBc
          rw [if_neg (by rw [mU, if_pos rfl, if_neg ql, if_neg w]; decide), if_neg ql]
        have e2 : dLost (rF x 19) (c :: R.filter (qa (rF x 17))) = c :: R.filter (qa (rF x 17)) := by
          unfold dLost
          rw [List.dropWhile_cons, if_neg (by simp [dT, w])]
        have e17 : rF (mGo x c) 17 = upd (rF x 17) c (nI 0) := rfl
        have ef : R.filter (qa (rF (mGo x c) 17)) = R.filter (qa (rF x 17)) := List.filter_congr (fun a ha => by
          unfold qa
          rw [e17, upd_n _ _ (show a ≠ c from fun z => h1 (by rw [← z]; exact ha))])
        rw [e, mBurn1 R (n + 1) (mGo x c) h2 (e17 ▸ qV_upd0 hv c), ef, e2, List.length_cons, List.foldl_cons]
        rw [show n + 1 + (R.filter (qa (rF x 17))).length = n + ((R.filter (qa (rF x 17))).length + 1) by omega]
def lostM (x : zs) (b : Nat) : List Nat := dLost (rF x 19) (ma x b)
theorem mBB_eq (b n : Nat) (x : zs) (hn : (ml x b).Nodup) (hv : qV (rF x 17)) : mBB b (n, x) = (n + (lostM x b).length, (lostM x b).foldl mGo x) := by
  have h := mBurn0 (ml x b) n x hn hv
  have e : zfw (mBP b) 0 (rA x 12 b) (0, n, x) = (ml x b).foldl (fun x c => mBc c x) (0, n, x) := mBP_L b _ 0 (0, n, x)
  show ((zfw (mBP b) 0 (rA x 12 b) (0, n, x)).2.1, (zfw (mBP b) 0 (rA x 12 b) (0, n, x)).2.2) = _
  rw [e]
  exact h
end
