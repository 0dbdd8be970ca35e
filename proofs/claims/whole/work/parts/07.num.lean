theorem zinc_i {x : Int32} : x + Int32.ofInt 1 = x + nI 1 := by rw [zk_1]
theorem nix_incs {a : Nat} (d : Nat) {e : Int} (h : Int32.ofInt e = nI d) : nI a + Int32.ofInt e = nI (a + d) := by rw [h, nI_add]
theorem z31 : ∀ k, k < 32 → ((nI k &&& 31).toBitVec.smod 32).toNat = k := by decide +kernel
theorem nix_shr {a k : Nat} (ha : a < 2 ^ 31) (hk : k < 32) : nI a >>> (nI k &&& 31) = nI (a / 2 ^ k) := pk_shrN ha _ k (z31 k hk)
theorem nix_shl {a k : Nat} (hk : k < 32) (h : a * 2 ^ k < 2 ^ 32) : nI a <<< (nI k &&& 31) = nI (a * 2 ^ k) := pk_shlN _ k (z31 k hk) h
theorem nix_and1 {a : Nat} : nI a &&& nI 1 = nI (a % 2) := by
  apply Int32.toBitVec_inj.mp
  show BitVec.ofNat 32 a &&& BitVec.ofNat 32 1 = BitVec.ofNat 32 (a % 2)
  apply BitVec.eq_of_toNat_eq
  simp only [BitVec.toNat_and, BitVec.toNat_ofNat]
  rw [show (1 % 2 ^ 32) = 2 ^ 1 - 1 from rfl, Nat.and_two_pow_sub_one_eq_mod]
  omega
theorem nix_or {a b : Nat} : nI a ||| nI b = nI (a ||| b) := by
  apply Int32.toBitVec_inj.mp
  show BitVec.ofNat 32 a ||| BitVec.ofNat 32 b = BitVec.ofNat 32 (a ||| b)
  apply BitVec.eq_of_toNat_eq
  simp only [BitVec.toNat_or, BitVec.toNat_ofNat]
  rw [Nat.or_mod_two_pow]
theorem zsw_out (lo hi : Nat) {x : Int32} (h : ∀ j, lo ≤ j → j ≤ hi → ¬ x = nI j) (hh : hi < 2 ^ 31 := by decide) : x.toInt < (lo : Int) ∨ (hi : Int) < x.toInt := by
  rcases Int.lt_or_le x.toInt lo with q | q
  · exact Or.inl q
  · rcases Int.lt_or_le (hi : Int) x.toInt with q2 | q2
    · exact Or.inr q2
    · obtain ⟨j, hj⟩ := Int.eq_ofNat_of_zero_le (show 0 ≤ x.toInt by omega)
      refine absurd ?_ (h j (by omega) (by omega))
      apply Int32.toInt_inj.mp
      rw [nI_toInt (by omega), hj]
def zfw {α : Type} (F : Nat → α → α) : Nat → Nat → α → α
  | _, 0, x => x
  | i, n + 1, x => zfw F (i + 1) n (F i x)
