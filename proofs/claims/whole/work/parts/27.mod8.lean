theorem nix_and {a b : Nat} : nI a &&& nI b = nI (a &&& b) := by
  apply Int32.toBitVec_inj.mp
  show BitVec.ofNat 32 a &&& BitVec.ofNat 32 b = BitVec.ofNat 32 (a &&& b)
  apply BitVec.eq_of_toNat_eq
  simp only [BitVec.toNat_and, BitVec.toNat_ofNat]
  rw [Nat.and_mod_two_pow]
def mSumK (s k : Nat) (x : zs) : zs := uF x 21 (upd (rF x 21) s (rF x 21 s + (if s / 2 ^ k % 2 = 1 then rF x 14 k else nI 0)))
def mSumS (s : Nat) (x : zs) : zs := uF (zfw (mSumK s) 0 (rN x 5) (uF x 21 (upd (rF x 21) s (nI 0)))) 22 (upd (rF x 22) s (rF (zfw (mSumK s) 0 (rN x 5) (uF x 21 (upd (rF x 21) s (nI 0)))) 21 s))
theorem mSumKL (s : Nat) : ∀ (n i : Nat) (x : zs), (∀ k, rA (zfw (mSumK s) i n x) k = rA x k) ∧ (∀ k, rN (zfw (mSumK s) i n x) k = rN x k) ∧ rF (zfw (mSumK s) i n x) 22 = rF x 22
  | 0, _, _ => ⟨fun _ => rfl, fun _ => rfl, rfl⟩
  | n + 1, i, x => by
    have h := mSumKL s n (i + 1) (mSumK s i x)
    exact ⟨fun k => (h.1 k).trans rfl, fun k => (h.2.1 k).trans rfl, h.2.2.trans rfl⟩
theorem mSumS_A (s : Nat) (x : zs) (k : Nat) : rA (mSumS s x) k = rA x k := ((mSumKL s _ 0 _).1 k).trans rfl
theorem mSumS_N (s : Nat) (x : zs) (k : Nat) : rN (mSumS s x) k = rN x k := ((mSumKL s _ 0 _).2.1 k).trans rfl
def mPtS (x : zs) (s p : Nat) (be : Int32) : Int32 := if (if rF x 22 (s - p) ≤ rF x 21 p then rF x 22 (s - p) else rF x 21 p) ≤ be then be else (if rF x 22 (s - p) ≤ rF x 21 p then rF x 22 (s - p) else rF x 21 p)
def mPt (x : zs) (s : Nat) : Nat → Nat → Int32 → Int32
  | 0, _, be => be
  | n + 1, p, be => if p = 0 then be else mPt x s n ((p - 1) &&& s) (mPtS x s p be)
def mMoF (s : Nat) (x : zs) : zs := uF x 23 (upd (rF x 23) s (mPt x s (s + 1) s (nI 0)))
def mRound (P : Nat) (x : zs) : zs := uF (zfw mMoF 0 P x) 22 (rF (zfw mMoF 0 P x) 23)
theorem mMoL_A : ∀ (n i : Nat) (x : zs) (k : Nat), rA (zfw mMoF i n x) k = rA x k
  | 0, _, _, _ => rfl
  | n + 1, i, x, k => (mMoL_A n (i + 1) _ k).trans rfl
theorem mMoL_N : ∀ (n i : Nat) (x : zs) (k : Nat), rN (zfw mMoF i n x) k = rN x k
  | 0, _, _, _ => rfl
  | n + 1, i, x, k => (mMoL_N n (i + 1) _ k).trans rfl
def mShS (m : zs) (q : Nat) : zs := zfw (fun _ x => mRound (1 * 2 ^ rN m 5) x) 1 (q - 1) (zfw mSumS 0 (1 * 2 ^ rN m 5) m)
def mShare (m : zs) (q : Nat) : Int32 := rF (mShS m q) 22 (1 * 2 ^ rN m 5 - 1)
theorem zpow9 {k : Nat} (h : k ≤ 9) : 1 * 2 ^ k ≤ 512 ∧ 1 ≤ 1 * 2 ^ k := by
  have := Nat.pow_le_pow_right (n := 2) (by decide) h
  have h2 : 0 < 2 ^ k := Nat.two_pow_pos k
  omega
set_option maxRecDepth 20000 in
set_option maxHeartbeats 1000000 in
theorem lpm_sk (G : zG) (pg nw kp sn ks fo ft fe gt mx : zs) (re : Nat → Int64) (hh : Int64) (q P : Nat) (hP : P ≤ 512 ∧ 1 ≤ P) (R : Option Value) (g2 : zh) (s : Nat) (hs : s < P) : ∀ (n i : Nat) (x : zs), mOK x → i + n = rN x 5 → (∀ y, y = zfw (mSumK s) i n x → zS G mX8_shareOf 69 [some (.ref 49), some (.int (nI q)), some (.int (nI P)), some (.int (nI s)), none, none, none, none, none] [] (wW pg nw kp sn ks fo ft fe gt mx re y hh) R g2) → zS G mX8_shareOf 24 [some (.ref 49), some (.int (nI q)), some (.int (nI P)), some (.int (nI s)), some (.int (nI i)), none, none, none, none] [] (wW pg nw kp sn ks fo ft fe gt mx re x hh) R (g2) := by
  intro n
  induction n with
  | zero =>
    intro i x hx hi hk
    obtain ⟨o13, o12, o11, o10, o4, o5⟩ := id hx
    refine z_iload iX8_shareOf_24 rfl ?_
    refine z_aload_n iX8_shareOf_26 rfl ?_
    refine z_getf iX8_shareOf_27 fX8_113 (wm) (mF_5 _ _) (by decide) ?_
    refine zn_ge iX8_shareOf_30 (by omega) (by omega) (fun q30 => ?_) (fun q30 => absurd q30 (by omega))
    refine z_weak ?_ (hk _ rfl)
    exact zle_w (by simp [zle, zf3] <;> rfl)
  | succ n ih =>
    intro i x hx hi hk
    obtain ⟨o13, o12, o11, o10, o4, o5⟩ := id hx
    refine z_iload iX8_shareOf_24 rfl ?_
    refine z_aload_n iX8_shareOf_26 rfl ?_
    refine z_getf iX8_shareOf_27 fX8_113 (wm) (mF_5 _ _) (by decide) ?_
    refine zn_ge iX8_shareOf_30 (by omega) (by omega) (fun q30 => absurd q30 (by omega)) (fun q30 => ?_)
    refine z_aload_n iX8_shareOf_33 rfl ?_
    refine z_getf iX8_shareOf_34 fX8_43 (wm) (mF_21 _ _) (by decide) ?_
    refine z_iload_n iX8_shareOf_37 rfl ?_
    refine z_dup2 iX8_shareOf_38 rfl rfl ?_
    refine z_iaload iX8_shareOf_39 (wm21) rfl (by omega) (by decide) (by decide) ?_
    refine z_iload_n iX8_shareOf_40 rfl ?_
    refine z_iload iX8_shareOf_41 rfl ?_
    refine z_ishr iX8_shareOf_43 ?_
    refine z_top (nix_shr (by omega) (by omega)) ?_
    refine z_iconst iX8_shareOf_44 zk_1 ?_
    refine z_iand iX8_shareOf_45 ?_
    refine z_top nix_and1 ?_
    refine z_iconst iX8_shareOf_46 zk_1 ?_
    refine zn_ne iX8_shareOf_47 (by omega) (by omega) (fun q47 => ?_) (fun q47 => ?_)
    · refine z_iconst iX8_shareOf_60 zk_0 ?_
      refine z_iadd iX8_shareOf_61 ?_
      refine z_iastore iX8_shareOf_62 (wm21) rfl (by omega) (by decide) (by decide) (by decide) ?_
      rw [wm_21]
      refine z_iinc iX8_shareOf_63 rfl nix_inc rfl (by decide) ?_
      refine z_goto iX8_shareOf_66 ?_
      first
        | (have e1 : mSumK s i x = uF x 21 (upd (rF x 21) s (rF x 21 s + (rF x 14 i))) := by rw [mSumK, if_pos q47]
           have k1 := ih (i + 1) (mSumK s i x) hx (by show _ = rN x 5; omega) (by rw [zfw] at hk; exact hk)
           rw [e1] at k1
           exact k1)
        | (have e1 : mSumK s i x = uF x 21 (upd (rF x 21) s (rF x 21 s + (nI 0))) := by rw [mSumK, if_neg q47]
           have k1 := ih (i + 1) (mSumK s i x) hx (by show _ = rN x 5; omega) (by rw [zfw] at hk; exact hk)
           rw [e1] at k1
           exact k1)
    · refine z_aload_n iX8_shareOf_50 rfl ?_
      refine z_getf iX8_shareOf_51 fX8_25 (wm) (mF_14 _ _) (by decide) ?_
      refine z_iload iX8_shareOf_54 rfl ?_
      refine z_iaload iX8_shareOf_56 (wm14) rfl (by omega) (by decide) (by decide) ?_
      refine z_goto iX8_shareOf_57 ?_
      refine z_iadd iX8_shareOf_61 ?_
      refine z_iastore iX8_shareOf_62 (wm21) rfl (by omega) (by decide) (by decide) (by decide) ?_
      rw [wm_21]
      refine z_iinc iX8_shareOf_63 rfl nix_inc rfl (by decide) ?_
      refine z_goto iX8_shareOf_66 ?_
      first
        | (have e1 : mSumK s i x = uF x 21 (upd (rF x 21) s (rF x 21 s + (rF x 14 i))) := by rw [mSumK, if_pos q47]
           have k1 := ih (i + 1) (mSumK s i x) hx (by show _ = rN x 5; omega) (by rw [zfw] at hk; exact hk)
           rw [e1] at k1
           exact k1)
        | (have e1 : mSumK s i x = uF x 21 (upd (rF x 21) s (rF x 21 s + (nI 0))) := by rw [mSumK, if_neg q47]
           have k1 := ih (i + 1) (mSumK s i x) hx (by show _ = rN x 5; omega) (by rw [zfw] at hk; exact hk)
           rw [e1] at k1
           exact k1)
set_option maxRecDepth 20000 in
set_option maxHeartbeats 1000000 in
theorem lpm_ss (G : zG) (pg nw kp sn ks fo ft fe gt mx : zs) (re : Nat → Int64) (hh : Int64) (q P : Nat) (hP : P ≤ 512 ∧ 1 ≤ P) (R : Option Value) (g2 : zh) : ∀ (n i : Nat) (x : zs), mOK x → i + n = P → (∀ y, y = zfw mSumS i n x → zS G mX8_shareOf 87 [some (.ref 49), some (.int (nI q)), some (.int (nI P)), none, none, none, none, none, none] [] (wW pg nw kp sn ks fo ft fe gt mx re y hh) R g2) → zS G mX8_shareOf 9 [some (.ref 49), some (.int (nI q)), some (.int (nI P)), some (.int (nI i)), none, none, none, none, none] [] (wW pg nw kp sn ks fo ft fe gt mx re x hh) R (g2) := by
  intro n
  induction n with
  | zero =>
    intro i x hx hi hk
    refine z_iload_n iX8_shareOf_9 rfl ?_
    refine z_iload_n iX8_shareOf_10 rfl ?_
    refine zn_ge iX8_shareOf_11 (by omega) (by omega) (fun q11 => ?_) (fun q11 => absurd q11 (by omega))
    refine z_weak ?_ (hk _ rfl)
    exact zle_w (by simp [zle, zf3] <;> rfl)
  | succ n ih =>
    intro i x hx hi hk
    refine z_iload_n iX8_shareOf_9 rfl ?_
    refine z_iload_n iX8_shareOf_10 rfl ?_
    refine zn_ge iX8_shareOf_11 (by omega) (by omega) (fun q11 => absurd q11 (by omega)) (fun q11 => ?_)
    refine z_aload_n iX8_shareOf_14 rfl ?_
    refine z_getf iX8_shareOf_15 fX8_43 (wm) (mF_21 _ _) (by decide) ?_
    refine z_iload_n iX8_shareOf_18 rfl ?_
    refine z_iconst iX8_shareOf_19 zk_0 ?_
    refine z_iastore iX8_shareOf_20 (wm21) rfl (by omega) (by decide) (by decide) (by decide) ?_
    rw [wm_21]
    refine z_iconst iX8_shareOf_21 zk_0 ?_
    refine z_istore iX8_shareOf_22 rfl (by decide) ?_
    refine lpm_sk G pg nw kp sn ks fo ft fe gt mx re hh q P hP R g2 i (by omega) _ 0 _ hx (Nat.zero_add _) (fun y e => ?_)
    subst e
    have e22 := (mSumKL i (rN x 5) 0 (uF x 21 (upd (rF x 21) i (nI 0)))).2.2
    refine z_aload_n iX8_shareOf_69 rfl ?_
    refine z_getf iX8_shareOf_70 fX8_46 (wm) (mF_22 _ _) (by decide) ?_
    refine z_iload_n iX8_shareOf_73 rfl ?_
    refine z_aload_n iX8_shareOf_74 rfl ?_
    refine z_getf iX8_shareOf_75 fX8_43 (wm) (mF_21 _ _) (by decide) ?_
    refine z_iload_n iX8_shareOf_78 rfl ?_
    refine z_iaload iX8_shareOf_79 (wm21) rfl (by omega) (by decide) (by decide) ?_
    refine z_iastore iX8_shareOf_80 (wm22) rfl (by omega) (by decide) (by decide) (by decide) ?_
    rw [wm_22]
    refine z_iinc iX8_shareOf_81 rfl nix_inc rfl (by decide) ?_
    refine z_goto iX8_shareOf_84 ?_
    have k1 := ih (i + 1) (mSumS i x) (mOK_of hx (mSumS_A i x) (fun k _ => mSumS_N i x k)) (by omega) (by rw [zfw] at hk; exact hk)
    refine z_heap (g2 := wW pg nw kp sn ks fo ft fe gt mx re (mSumS i x) hh) ?_ (z_weak ?_ k1)
    · exact congrArg (fun t => wW pg nw kp sn ks fo ft fe gt mx re (uF _ 22 (upd t i _)) hh) e22
    · exact zle_w (by simp [zle, zf3] <;> rfl)
set_option maxRecDepth 20000 in
set_option maxHeartbeats 1000000 in
theorem lpm_pt (G : zG) (pg nw kp sn ks fo ft fe gt mx : zs) (re : Nat → Int64) (hh : Int64) (q P : Nat) (hP : P ≤ 512 ∧ 1 ≤ P) (R : Option Value) (g2 : zh) (n0 s : Nat) (hs : s < P) (x : zs) : ∀ (n p : Nat) (be : Int32), p < n → p ≤ s → (∀ y, y = mPt x s n p be → zS G mX8_shareOf 181 [some (.ref 49), some (.int (nI q)), some (.int (nI P)), some (.int (nI n0)), some (.int (nI s)), some (.int y), none, none, none] [] (wW pg nw kp sn ks fo ft fe gt mx re x hh) R g2) → zS G mX8_shareOf 110 [some (.ref 49), some (.int (nI q)), some (.int (nI P)), some (.int (nI n0)), some (.int (nI s)), some (.int be), some (.int (nI p)), none, none] [] (wW pg nw kp sn ks fo ft fe gt mx re x hh) R g2 := by
  intro n
  induction n with
  | zero => intro p be h; exact absurd h (Nat.not_lt_zero _)
  | succ n ih =>
    intro p be hn hps hk
    by_cases hp0 : p = 0
    · skip
      refine z_iload iX8_shareOf_110 rfl ?_
      refine zn_if_le iX8_shareOf_112 (by omega) (fun q112 => ?_) (fun q112 => absurd hp0 (by omega))
      refine z_weak ?_ (hk be (by rw [mPt, if_pos hp0]))
      exact zle_w (by simp [zle, zf3] <;> rfl)
    · have a1 : (p - 1) &&& s ≤ p - 1 := Nat.and_le_left
      have a2 : (p - 1) &&& s ≤ s := Nat.and_le_right
      refine z_iload iX8_shareOf_110 rfl ?_
      refine zn_if_le iX8_shareOf_112 (by omega) (fun q112 => absurd q112 (by omega)) (fun q112 => ?_)
      refine z_aload_n iX8_shareOf_115 rfl ?_
      refine z_getf iX8_shareOf_116 fX8_46 (wm) (mF_22 _ _) (by decide) ?_
      refine z_iload iX8_shareOf_119 rfl ?_
      refine z_iload iX8_shareOf_121 rfl ?_
      refine z_isub iX8_shareOf_123 ?_
      refine z_top (nix_sub (by omega)) ?_
      refine z_iaload iX8_shareOf_124 (wm22) rfl (by omega) (by decide) (by decide) ?_
      refine z_istore iX8_shareOf_125 rfl (by decide) ?_
      refine z_aload_n iX8_shareOf_127 rfl ?_
      refine z_getf iX8_shareOf_128 fX8_43 (wm) (mF_21 _ _) (by decide) ?_
      refine z_iload iX8_shareOf_131 rfl ?_
      refine z_iaload iX8_shareOf_133 (wm21) rfl (by omega) (by decide) (by decide) ?_
      refine z_iload iX8_shareOf_134 rfl ?_
      refine z_icmp_ge iX8_shareOf_136 (fun q136 => ?_) (fun q136 => ?_)
      · refine z_iload iX8_shareOf_149 rfl ?_
        refine z_istore iX8_shareOf_151 rfl (by decide) ?_
        refine z_iload iX8_shareOf_153 rfl ?_
        refine z_iload iX8_shareOf_155 rfl ?_
        refine z_icmp_le iX8_shareOf_157 (fun q157 => ?_) (fun q157 => ?_)
        · refine z_iload iX8_shareOf_165 rfl ?_
          refine z_istore iX8_shareOf_167 rfl (by decide) ?_
          refine z_iload iX8_shareOf_169 rfl ?_
          refine z_iconst iX8_shareOf_171 zk_1 ?_
          refine z_isub iX8_shareOf_172 ?_
          refine z_top (nix_sub (by omega)) ?_
          refine z_iload iX8_shareOf_173 rfl ?_
          refine z_iand iX8_shareOf_175 ?_
          refine z_top nix_and ?_
          refine z_istore iX8_shareOf_176 rfl (by decide) ?_
          refine z_goto iX8_shareOf_178 ?_
          first
            | (have e1 : mPtS x s p be = be := by rw [mPtS, if_pos q136, if_pos q157]
               have k1 := ih ((p - 1) &&& s) (mPtS x s p be) (by omega) (by omega) (by rw [mPt, if_neg hp0] at hk; exact hk)
               rw [e1] at k1
               refine z_weak ?_ k1
               exact zle_w (by simp [zle, zf3] <;> rfl))
            | (have e1 : mPtS x s p be = rF x 22 (s - p) := by rw [mPtS, if_pos q136, if_neg q157]
               have k1 := ih ((p - 1) &&& s) (mPtS x s p be) (by omega) (by omega) (by rw [mPt, if_neg hp0] at hk; exact hk)
               rw [e1] at k1
               refine z_weak ?_ k1
               exact zle_w (by simp [zle, zf3] <;> rfl))
            | (have e1 : mPtS x s p be = be := by rw [mPtS, if_neg q136, if_pos q157]
               have k1 := ih ((p - 1) &&& s) (mPtS x s p be) (by omega) (by omega) (by rw [mPt, if_neg hp0] at hk; exact hk)
               rw [e1] at k1
               refine z_weak ?_ k1
               exact zle_w (by simp [zle, zf3] <;> rfl))
            | (have e1 : mPtS x s p be = rF x 21 p := by rw [mPtS, if_neg q136, if_neg q157]
               have k1 := ih ((p - 1) &&& s) (mPtS x s p be) (by omega) (by omega) (by rw [mPt, if_neg hp0] at hk; exact hk)
               rw [e1] at k1
               refine z_weak ?_ k1
               exact zle_w (by simp [zle, zf3] <;> rfl))
        · refine z_iload iX8_shareOf_160 rfl ?_
          refine z_goto iX8_shareOf_162 ?_
          refine z_istore iX8_shareOf_167 rfl (by decide) ?_
          refine z_iload iX8_shareOf_169 rfl ?_
          refine z_iconst iX8_shareOf_171 zk_1 ?_
          refine z_isub iX8_shareOf_172 ?_
          refine z_top (nix_sub (by omega)) ?_
          refine z_iload iX8_shareOf_173 rfl ?_
          refine z_iand iX8_shareOf_175 ?_
          refine z_top nix_and ?_
          refine z_istore iX8_shareOf_176 rfl (by decide) ?_
          refine z_goto iX8_shareOf_178 ?_
          first
            | (have e1 : mPtS x s p be = be := by rw [mPtS, if_pos q136, if_pos q157]
               have k1 := ih ((p - 1) &&& s) (mPtS x s p be) (by omega) (by omega) (by rw [mPt, if_neg hp0] at hk; exact hk)
               rw [e1] at k1
               refine z_weak ?_ k1
               exact zle_w (by simp [zle, zf3] <;> rfl))
            | (have e1 : mPtS x s p be = rF x 22 (s - p) := by rw [mPtS, if_pos q136, if_neg q157]
               have k1 := ih ((p - 1) &&& s) (mPtS x s p be) (by omega) (by omega) (by rw [mPt, if_neg hp0] at hk; exact hk)
               rw [e1] at k1
               refine z_weak ?_ k1
               exact zle_w (by simp [zle, zf3] <;> rfl))
            | (have e1 : mPtS x s p be = be := by rw [mPtS, if_neg q136, if_pos q157]
               have k1 := ih ((p - 1) &&& s) (mPtS x s p be) (by omega) (by omega) (by rw [mPt, if_neg hp0] at hk; exact hk)
               rw [e1] at k1
               refine z_weak ?_ k1
               exact zle_w (by simp [zle, zf3] <;> rfl))
            | (have e1 : mPtS x s p be = rF x 21 p := by rw [mPtS, if_neg q136, if_neg q157]
               have k1 := ih ((p - 1) &&& s) (mPtS x s p be) (by omega) (by omega) (by rw [mPt, if_neg hp0] at hk; exact hk)
               rw [e1] at k1
               refine z_weak ?_ k1
               exact zle_w (by simp [zle, zf3] <;> rfl))
      · refine z_aload_n iX8_shareOf_139 rfl ?_
        refine z_getf iX8_shareOf_140 fX8_43 (wm) (mF_21 _ _) (by decide) ?_
        refine z_iload iX8_shareOf_143 rfl ?_
        refine z_iaload iX8_shareOf_145 (wm21) rfl (by omega) (by decide) (by decide) ?_
        refine z_goto iX8_shareOf_146 ?_
        refine z_istore iX8_shareOf_151 rfl (by decide) ?_
        refine z_iload iX8_shareOf_153 rfl ?_
        refine z_iload iX8_shareOf_155 rfl ?_
        refine z_icmp_le iX8_shareOf_157 (fun q157 => ?_) (fun q157 => ?_)
        · refine z_iload iX8_shareOf_165 rfl ?_
          refine z_istore iX8_shareOf_167 rfl (by decide) ?_
          refine z_iload iX8_shareOf_169 rfl ?_
          refine z_iconst iX8_shareOf_171 zk_1 ?_
          refine z_isub iX8_shareOf_172 ?_
          refine z_top (nix_sub (by omega)) ?_
          refine z_iload iX8_shareOf_173 rfl ?_
          refine z_iand iX8_shareOf_175 ?_
          refine z_top nix_and ?_
          refine z_istore iX8_shareOf_176 rfl (by decide) ?_
          refine z_goto iX8_shareOf_178 ?_
          first
            | (have e1 : mPtS x s p be = be := by rw [mPtS, if_pos q136, if_pos q157]
               have k1 := ih ((p - 1) &&& s) (mPtS x s p be) (by omega) (by omega) (by rw [mPt, if_neg hp0] at hk; exact hk)
               rw [e1] at k1
               refine z_weak ?_ k1
               exact zle_w (by simp [zle, zf3] <;> rfl))
            | (have e1 : mPtS x s p be = rF x 22 (s - p) := by rw [mPtS, if_pos q136, if_neg q157]
               have k1 := ih ((p - 1) &&& s) (mPtS x s p be) (by omega) (by omega) (by rw [mPt, if_neg hp0] at hk; exact hk)
               rw [e1] at k1
               refine z_weak ?_ k1
               exact zle_w (by simp [zle, zf3] <;> rfl))
            | (have e1 : mPtS x s p be = be := by rw [mPtS, if_neg q136, if_pos q157]
               have k1 := ih ((p - 1) &&& s) (mPtS x s p be) (by omega) (by omega) (by rw [mPt, if_neg hp0] at hk; exact hk)
               rw [e1] at k1
               refine z_weak ?_ k1
               exact zle_w (by simp [zle, zf3] <;> rfl))
            | (have e1 : mPtS x s p be = rF x 21 p := by rw [mPtS, if_neg q136, if_neg q157]
               have k1 := ih ((p - 1) &&& s) (mPtS x s p be) (by omega) (by omega) (by rw [mPt, if_neg hp0] at hk; exact hk)
               rw [e1] at k1
               refine z_weak ?_ k1
               exact zle_w (by simp [zle, zf3] <;> rfl))
        · refine z_iload iX8_shareOf_160 rfl ?_
          refine z_goto iX8_shareOf_162 ?_
          refine z_istore iX8_shareOf_167 rfl (by decide) ?_
          refine z_iload iX8_shareOf_169 rfl ?_
          refine z_iconst iX8_shareOf_171 zk_1 ?_
          refine z_isub iX8_shareOf_172 ?_
          refine z_top (nix_sub (by omega)) ?_
          refine z_iload iX8_shareOf_173 rfl ?_
          refine z_iand iX8_shareOf_175 ?_
          refine z_top nix_and ?_
          refine z_istore iX8_shareOf_176 rfl (by decide) ?_
          refine z_goto iX8_shareOf_178 ?_
          first
            | (have e1 : mPtS x s p be = be := by rw [mPtS, if_pos q136, if_pos q157]
               have k1 := ih ((p - 1) &&& s) (mPtS x s p be) (by omega) (by omega) (by rw [mPt, if_neg hp0] at hk; exact hk)
               rw [e1] at k1
               refine z_weak ?_ k1
               exact zle_w (by simp [zle, zf3] <;> rfl))
            | (have e1 : mPtS x s p be = rF x 22 (s - p) := by rw [mPtS, if_pos q136, if_neg q157]
               have k1 := ih ((p - 1) &&& s) (mPtS x s p be) (by omega) (by omega) (by rw [mPt, if_neg hp0] at hk; exact hk)
               rw [e1] at k1
               refine z_weak ?_ k1
               exact zle_w (by simp [zle, zf3] <;> rfl))
            | (have e1 : mPtS x s p be = be := by rw [mPtS, if_neg q136, if_pos q157]
               have k1 := ih ((p - 1) &&& s) (mPtS x s p be) (by omega) (by omega) (by rw [mPt, if_neg hp0] at hk; exact hk)
               rw [e1] at k1
               refine z_weak ?_ k1
               exact zle_w (by simp [zle, zf3] <;> rfl))
            | (have e1 : mPtS x s p be = rF x 21 p := by rw [mPtS, if_neg q136, if_neg q157]
               have k1 := ih ((p - 1) &&& s) (mPtS x s p be) (by omega) (by omega) (by rw [mPt, if_neg hp0] at hk; exact hk)
               rw [e1] at k1
               refine z_weak ?_ k1
               exact zle_w (by simp [zle, zf3] <;> rfl))
set_option maxRecDepth 20000 in
set_option maxHeartbeats 1000000 in
theorem lpm_mo (G : zG) (pg nw kp sn ks fo ft fe gt mx : zs) (re : Nat → Int64) (hh : Int64) (q P : Nat) (hP : P ≤ 512 ∧ 1 ≤ P) (R : Option Value) (g2 : zh) (n0 : Nat) : ∀ (n i : Nat) (x : zs), i + n = P → (∀ y, y = zfw mMoF i n x → zS G mX8_shareOf 196 [some (.ref 49), some (.int (nI q)), some (.int (nI P)), some (.int (nI n0)), none, none, none, none, none] [] (wW pg nw kp sn ks fo ft fe gt mx re y hh) R g2) → zS G mX8_shareOf 97 [some (.ref 49), some (.int (nI q)), some (.int (nI P)), some (.int (nI n0)), some (.int (nI i)), none, none, none, none] [] (wW pg nw kp sn ks fo ft fe gt mx re x hh) R (g2) := by
  intro n
  induction n with
  | zero =>
    intro i x hi hk
    refine z_iload iX8_shareOf_97 rfl ?_
    refine z_iload_n iX8_shareOf_99 rfl ?_
    refine zn_ge iX8_shareOf_100 (by omega) (by omega) (fun q100 => ?_) (fun q100 => absurd q100 (by omega))
    refine z_weak ?_ (hk _ rfl)
    exact zle_w (by simp [zle, zf3] <;> rfl)
  | succ n ih =>
    intro i x hi hk
    refine z_iload iX8_shareOf_97 rfl ?_
    refine z_iload_n iX8_shareOf_99 rfl ?_
    refine zn_ge iX8_shareOf_100 (by omega) (by omega) (fun q100 => absurd q100 (by omega)) (fun q100 => ?_)
    refine z_iconst iX8_shareOf_103 zk_0 ?_
    refine z_istore iX8_shareOf_104 rfl (by decide) ?_
    refine z_iload iX8_shareOf_106 rfl ?_
    refine z_istore iX8_shareOf_108 rfl (by decide) ?_
    refine lpm_pt G pg nw kp sn ks fo ft fe gt mx re hh q P hP R g2 n0 i (by omega) x (i + 1) i (nI 0) (by omega) (Nat.le_refl _) (fun y e => ?_)
    subst e
    refine z_aload_n iX8_shareOf_181 rfl ?_
    refine z_getf iX8_shareOf_182 fX8_49 (wm) (mF_23 _ _) (by decide) ?_
    refine z_iload iX8_shareOf_185 rfl ?_
    refine z_iload iX8_shareOf_187 rfl ?_
    refine z_iastore iX8_shareOf_189 (wm23) rfl (by omega) (by decide) (by decide) (by decide) ?_
    rw [wm_23]
    refine z_iinc iX8_shareOf_190 rfl nix_inc rfl (by decide) ?_
    refine z_goto iX8_shareOf_193 ?_
    refine z_weak ?_ (ih (i + 1) (mMoF i x) (by omega) (by rw [zfw] at hk; exact hk))
    exact zle_w (by simp [zle, zf3] <;> rfl)
set_option maxRecDepth 20000 in
set_option maxHeartbeats 1000000 in
theorem lpm_ro (G : zG) (pg nw kp sn ks fo ft fe gt mx : zs) (re : Nat → Int64) (hh : Int64) (q P : Nat) (hP : P ≤ 512 ∧ 1 ≤ P) (hq : q ≤ 3) : ∀ (n i : Nat) (x : zs), 1 ≤ i → i + n = q → zS G mX8_shareOf 89 [some (.ref 49), some (.int (nI q)), some (.int (nI P)), some (.int (nI i)), none, none, none, none, none] [] (wW pg nw kp sn ks fo ft fe gt mx re x hh) (some (.int (rF (zfw (fun _ x => mRound P x) i n x) 22 (P - 1)))) (wW pg nw kp sn ks fo ft fe gt mx re (zfw (fun _ x => mRound P x) i n x) hh) := by
  intro n
  induction n with
  | zero =>
    intro i x h1 hi
    refine z_iload_n iX8_shareOf_89 rfl ?_
    refine z_iload_n iX8_shareOf_90 rfl ?_
    refine zn_ge iX8_shareOf_91 (by omega) (by omega) (fun q91 => ?_) (fun q91 => absurd q91 (by omega))
    refine z_aload_n iX8_shareOf_213 rfl ?_
    refine z_getf iX8_shareOf_214 fX8_46 (wm) (mF_22 _ _) (by decide) ?_
    refine z_iload_n iX8_shareOf_217 rfl ?_
    refine z_iconst iX8_shareOf_218 zk_1 ?_
    refine z_isub iX8_shareOf_219 ?_
    refine z_top (nix_sub (by omega)) ?_
    refine z_iaload iX8_shareOf_220 (wm22) rfl (by omega) (by decide) (by decide) ?_
    exact z_ireturn iX8_shareOf_221 (rfl) (rfl)
  | succ n ih =>
    intro i x h1 hi
    refine z_iload_n iX8_shareOf_89 rfl ?_
    refine z_iload_n iX8_shareOf_90 rfl ?_
    refine zn_ge iX8_shareOf_91 (by omega) (by omega) (fun q91 => absurd q91 (by omega)) (fun q91 => ?_)
    refine z_iconst iX8_shareOf_94 zk_0 ?_
    refine z_istore iX8_shareOf_95 rfl (by decide) ?_
    refine lpm_mo G pg nw kp sn ks fo ft fe gt mx re hh q P hP _ _ i P 0 x (Nat.zero_add _) (fun y e => ?_)
    subst e
    refine z_aload_n iX8_shareOf_196 rfl ?_
    refine z_getf iX8_shareOf_197 fX8_49 (wm) (mF_23 _ _) (by decide) ?_
    refine z_aload_n iX8_shareOf_200 rfl ?_
    refine z_getf iX8_shareOf_201 fX8_46 (wm) (mF_22 _ _) (by decide) ?_
    refine z_csv (y1 := mX8_copy) iX8_shareOf_204 lX8_131 kX8_copy rfl (c_mcopy G _ 63 62 512 _ _ wm23 wm22 (by decide) (by decide) (by decide) (by decide)) rfl rfl (Nat.le_of_ble_eq_true rfl) ?_
    rw [wm_22]
    refine z_iinc iX8_shareOf_207 rfl nix_inc rfl (by decide) ?_
    refine z_goto iX8_shareOf_210 ?_
    exact ih (i + 1) (mRound P x) (by omega) (by omega)
set_option maxRecDepth 20000 in
set_option maxHeartbeats 1000000 in
theorem cm_shareOf (G : zG) (pg nw kp sn ks fo ft fe gt mx : zs) (re : Nat → Int64) (m : zs) (hh : Int64) (hm : mOK m) (q : Nat) (h1 : 1 ≤ q) (h3 : q ≤ 3) : zK G mX8_shareOf [.ref 49, .int (nI q)] (wW pg nw kp sn ks fo ft fe gt mx re m hh) (some (.int (mShare m q))) (wW pg nw kp sn ks fo ft fe gt mx re (mShS m q) hh) := by
  obtain ⟨o13, o12, o11, o10, o4, o5⟩ := id hm
  refine zK_of 7 rfl (by decide) trivial (Nat.le_of_ble_eq_true rfl) rfl ?_
  refine z_iconst iX8_shareOf_0 zk_1 ?_
  refine z_aload_n iX8_shareOf_1 rfl ?_
  refine z_getf iX8_shareOf_2 fX8_113 (wm) (mF_5 _ _) (by decide) ?_
  refine z_ishl iX8_shareOf_5 ?_
  refine z_top (nix_shl (by omega) (zp1 (by omega))) ?_
  refine z_istore_n iX8_shareOf_6 rfl (by decide) ?_
  refine z_iconst iX8_shareOf_7 zk_0 ?_
  refine z_istore_n iX8_shareOf_8 rfl (by decide) ?_
  refine lpm_ss G pg nw kp sn ks fo ft fe gt mx re hh q _ (zpow9 o5) _ _ _ 0 m hm (Nat.zero_add _) (fun y e => ?_)
  subst e
  refine z_iconst iX8_shareOf_87 zk_1 ?_
  refine z_istore_n iX8_shareOf_88 rfl (by decide) ?_
  exact lpm_ro G pg nw kp sn ks fo ft fe gt mx re hh q _ (zpow9 o5) h3 (q - 1) 1 _ (Nat.le_refl _) (by omega)
