def mWx (s : Nat) (x : zs) : zs := uI (uI x 27 (nI (nxt s))) 27 (nI (nxt (nxt s)))
def mWb (s : Nat) (x : zs) : Nat := nxt (nxt s) / 65536 % rN x 4
def mWmu (s : Nat) : Nat := 1 + nxt s / 65536 % 3
def mWg (s : Nat) (g : Int32) (x : zs) : Int32 := match mTop (mWx s x) (mWb s x) with | none => g + nI 0 | some k => g + kGives (rA (mWx s x) 10 k) (mLess (mWx s x) k (nI (mWmu s)))
def mWc (s : Nat) (x : zs) : zs := match mTop (mWx s x) (mWb s x) with | none => mWx s x | some k => mCut (mWx s x) (mWb s x) k (nI (mWmu s))
def mWin : Nat → Nat → Int32 → Int32 → zs → Nat × Int32 × Int32 × zs
  | 0, s, g, z, x => (s, g, z, x)
  | n + 1, s, g, z, x => mWin n (nxt (nxt s)) (mWg s g x) (z + nI (mDay (mWc s x)).1) (mDay (mWc s x)).2
def mWinV (q : Nat) (r : Nat × Int32 × Int32 × zs) : Int32 := if q = 0 then r.2.1 else if q = 1 then r.2.2.1 else nI r.1
theorem mWx_A (s : Nat) (x : zs) (k : Nat) : rA (mWx s x) k = rA x k := by simp only [mWx, rA, uI]
theorem mWx_N (s : Nat) (x : zs) (k : Nat) : rN (mWx s x) k = rN x k := by simp only [mWx, rN, uI]
theorem mWx_27 (s : Nat) (x : zs) : rI (mWx s x) 27 = nI (nxt (nxt s)) := by rw [mWx, rI_uI, if_pos rfl]
theorem mWc_A (s : Nat) (x : zs) (k : Nat) : rA (mWc s x) k = rA x k := by
  unfold mWc
  split
  · exact mWx_A s x k
  · exact (mCut_A _ _ _ _ _).trans (mWx_A s x k)
theorem mWc_N (s : Nat) (x : zs) (k : Nat) : rN (mWc s x) k = rN x k := by
  unfold mWc
  split
  · exact mWx_N s x k
  · exact (mCut_N _ _ _ _ _).trans (mWx_N s x k)
theorem mWc_ok {s : Nat} {x : zs} (h : mOK x) : mOK (mWc s x) := mOK_of h (mWc_A s x) (fun k _ => mWc_N s x k)
theorem mWc_hp {s : Nat} {x : zs} (h : mHP x) : mHP (mWc s x) := mHP_of h (mWc_A s x) (mWc_N s x 5)
theorem mWc_none {s : Nat} {x : zs} (h : mTop (mWx s x) (mWb s x) = none) : mWc s x = mWx s x := by unfold mWc; rw [h]
theorem mWc_some {s k : Nat} {x : zs} (h : mTop (mWx s x) (mWb s x) = some k) : mWc s x = mCut (mWx s x) (mWb s x) k (nI (mWmu s)) := by unfold mWc; rw [h]
theorem mWg_none {s : Nat} {x : zs} {g : Int32} (h : mTop (mWx s x) (mWb s x) = none) : mWg s g x = g + nI 0 := by unfold mWg; rw [h]
theorem mWg_some {s k : Nat} {x : zs} {g : Int32} (h : mTop (mWx s x) (mWb s x) = some k) : mWg s g x = g + kGives (rA (mWx s x) 10 k) (mLess (mWx s x) k (nI (mWmu s))) := by unfold mWg; rw [h]
theorem mWA_I : ∀ (n i : Nat) (x : zs) (k : Nat), rI (zfw (fun k x => uF x 19 (upd (rF x 19) k (rF x 19 k + mGain x k))) i n x) k = rI x k
  | 0, _, _, _ => rfl
  | n + 1, i, x, k => (mWA_I n (i + 1) _ k).trans rfl
theorem mDT_I (b : Nat) (x : zs) (k : Nat) : rI (mDT b x) k = rI x k := by unfold mDT; split <;> rfl
theorem mDTL_I : ∀ (n i : Nat) (x : zs) (k : Nat), rI (zfw mDT i n x) k = rI x k
  | 0, _, _, _ => rfl
  | n + 1, i, x, k => (mDTL_I n (i + 1) _ k).trans (mDT_I _ _ _)
theorem mBP_I (b p : Nat) (x : Nat × Nat × zs) (k : Nat) : rI (mBP b p x).2.2 k = rI x.2.2 k := by unfold mBP; split; rfl; split <;> rfl
theorem mBPL_I (b : Nat) : ∀ (n i : Nat) (x : Nat × Nat × zs) (k : Nat), rI (zfw (mBP b) i n x).2.2 k = rI x.2.2 k
  | 0, _, _, _ => rfl
  | n + 1, i, x, k => (mBPL_I b n (i + 1) _ k).trans (mBP_I _ _ _ _)
theorem mBBL_I : ∀ (n i : Nat) (x : Nat × zs) (k : Nat), rI (zfw mBB i n x).2 k = rI x.2 k
  | 0, _, _, _ => rfl
  | n + 1, i, x, k => (mBBL_I n (i + 1) _ k).trans (mBPL_I i _ 0 _ k)
theorem mDay_I (m : zs) (k : Nat) : rI (mDay m).2 k = rI m k := (mDTL_I _ _ _ k).trans ((mBBL_I _ _ _ k).trans (mWA_I _ _ _ k))
theorem mDO_I (kd b j : Nat) (x : zs) (k : Nat) : rI (mDO kd b j x) k = rI x k := by unfold mDO; split; rfl; split; split <;> rfl; rfl
theorem mDOL_I (kd b : Nat) : ∀ (n i : Nat) (x : zs) (k : Nat), rI (zfw (mDO kd b) i n x) k = rI x k
  | 0, _, _, _ => rfl
  | n + 1, i, x, k => (mDOL_I kd b n (i + 1) _ k).trans (mDO_I _ _ _ _ _)
theorem mC3_I (x : zs) (k : Nat) (less : Int32) (j : Nat) : rI (mC3 x k less) j = rI x j := by unfold mC3; split <;> rfl
theorem mCut_I (m : zs) (b k : Nat) (much : Int32) (j : Nat) : rI (mCut m b k much) j = rI m j := (mC3_I _ _ _ _).trans (mDOL_I _ _ _ _ _ _)
theorem mWc_27 (s : Nat) (x : zs) : rI (mWc s x) 27 = nI (nxt (nxt s)) := by
  unfold mWc
  split
  · exact mWx_27 s x
  · exact (mCut_I _ _ _ _ _).trans (mWx_27 s x)
