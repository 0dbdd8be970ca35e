theorem zne {x : Int32} {k : Nat} (h : ¬ x = nI k) (j : Int) (hj : j = (k : Int)) (hk : k < 2 ^ 31 := by decide) : ¬ j = x.toInt := fun e => h (Int32.toInt_inj.mp (by rw [nI_toInt hk, ← hj]; exact e.symm))
theorem znen {x k : Nat} (hx : x < 2 ^ 31) (h : ¬ x = k) (j : Int) (hj : j = (k : Int)) : ¬ j = (nI x).toInt := fun e => h (by rw [nI_toInt hx] at e; omega)
theorem n44_59 : ¬ nI 44 = nI 59 := by decide +kernel
theorem n59_44 : ¬ nI 59 = nI 44 := by decide +kernel
theorem nix_and3 {a : Nat} : nI a &&& nI 3 = nI (a % 4) := by
  apply Int32.toBitVec_inj.mp
  show BitVec.ofNat 32 a &&& BitVec.ofNat 32 3 = BitVec.ofNat 32 (a % 4)
  apply BitVec.eq_of_toNat_eq
  simp only [BitVec.toNat_and, BitVec.toNat_ofNat]
  rw [show (3 % 2 ^ 32) = 2 ^ 2 - 1 from rfl, Nat.and_two_pow_sub_one_eq_mod]
  omega
theorem zp1 {k : Nat} (h : k < 31) : 1 * 2 ^ k < 2 ^ 32 := by
  have := Nat.pow_lt_pow_right (a := 2) (by decide) h
  omega
def oI : Option Nat → Int32
  | none => -1
  | some b => nI b
def kOf (c : Int32) : Option Nat := if c = nI 97 then some 4 else if c = nI 99 then some 2 else if c = nI 109 then some 3 else if c = nI 111 then some 1 else if c = nI 115 then some 0 else none
theorem kOf_le {c : Int32} {k : Nat} (h : kOf c = some k) : k ≤ 4 := by
  unfold kOf at h
  repeat' split at h
  all_goals first | (cases h; decide) | cases h
def kIsA (k q : Nat) : Bool := decide (k = q) || (decide (q = 0) || (decide (k = 4) && decide (q = 1)))
set_option maxRecDepth 20000 in
set_option maxHeartbeats 1000000 in
theorem c_ofLetter (G : zG) (g : zh) (c : Int32) : zK G mX3_ofLetter [.int c] g (some (.int (oI (kOf c)))) g := by
  refine zK_of 0 rfl (by decide) trivial (Nat.le_of_ble_eq_true rfl) rfl ?_
  refine z_iload_n iX3_ofLetter_0 rfl ?_
  by_cases c1_97 : c = nI 97
  · refine z_lookup (off := 59) (tgt := 60) iX3_ofLetter_1 (by decide +kernel) (by rw [c1_97]; decide +kernel) (by decide) ?_
    refine z_iconst iX3_ofLetter_60 zk_4 ?_
    exact z_ireturn iX3_ofLetter_61 (by simp only [kOf]; simp [*, oI] <;> rfl) (rfl)
  by_cases c1_99 : c = nI 99
  · refine z_lookup (off := 55) (tgt := 56) iX3_ofLetter_1 (by decide +kernel) (by rw [c1_99]; decide +kernel) (by decide) ?_
    refine z_iconst iX3_ofLetter_56 zk_2 ?_
    exact z_ireturn iX3_ofLetter_57 (by simp only [kOf]; simp [*, oI] <;> rfl) (rfl)
  by_cases c1_109 : c = nI 109
  · refine z_lookup (off := 57) (tgt := 58) iX3_ofLetter_1 (by decide +kernel) (by rw [c1_109]; decide +kernel) (by decide) ?_
    refine z_iconst iX3_ofLetter_58 zk_3 ?_
    exact z_ireturn iX3_ofLetter_59 (by simp only [kOf]; simp [*, oI] <;> rfl) (rfl)
  by_cases c1_111 : c = nI 111
  · refine z_lookup (off := 53) (tgt := 54) iX3_ofLetter_1 (by decide +kernel) (by rw [c1_111]; decide +kernel) (by decide) ?_
    refine z_iconst iX3_ofLetter_54 zk_1 ?_
    exact z_ireturn iX3_ofLetter_55 (by simp only [kOf]; simp [*, oI] <;> rfl) (rfl)
  by_cases c1_115 : c = nI 115
  · refine z_lookup (off := 51) (tgt := 52) iX3_ofLetter_1 (by decide +kernel) (by rw [c1_115]; decide +kernel) (by decide) ?_
    refine z_iconst iX3_ofLetter_52 zk_0 ?_
    exact z_ireturn iX3_ofLetter_53 (by simp only [kOf]; simp [*, oI] <;> rfl) (rfl)
  refine z_lookup (off := 61) (tgt := 62) iX3_ofLetter_1 (by decide +kernel) (by simp [Op.lookupswitch.offset, zne c1_97 97 rfl, zne c1_99 99 rfl, zne c1_109 109 rfl, zne c1_111 111 rfl, zne c1_115 115 rfl]) (by decide) ?_
  refine z_iconst iX3_ofLetter_62 zk_m1 ?_
  exact z_ireturn iX3_ofLetter_63 (by simp only [kOf]; simp [*, oI] <;> rfl) (rfl)
set_option maxRecDepth 20000 in
set_option maxHeartbeats 1000000 in
theorem c_isA (G : zG) (g : zh) (k q : Nat) (hk : k < 2 ^ 31) (hq : q < 2 ^ 31) : zK G mX3_isA [.int (nI k), .int (nI q)] g (some (.int (zbo (kIsA k q)))) g := by
  refine zK_of 0 rfl (by decide) (zbo_n _) (Nat.le_of_ble_eq_true rfl) rfl ?_
  refine z_iload_n iX3_isA_0 rfl ?_
  refine z_iload_n iX3_isA_1 rfl ?_
  refine zn_eq iX3_isA_2 (by omega) (by omega) (fun q2 => ?_) (fun q2 => ?_)
  · refine z_iconst iX3_isA_19 zk_1 ?_
    refine z_goto iX3_isA_20 ?_
    exact z_ireturn iX3_isA_24 (by first | exact zbo_t (by simp [kIsA, *] <;> omega) | exact zbo_f (by simp [kIsA, *] <;> omega)) (rfl)
  · refine z_iload_n iX3_isA_5 rfl ?_
    refine zn_if_eq iX3_isA_6 (by omega) (fun q6 => ?_) (fun q6 => ?_)
    · refine z_iconst iX3_isA_19 zk_1 ?_
      refine z_goto iX3_isA_20 ?_
      exact z_ireturn iX3_isA_24 (by first | exact zbo_t (by simp [kIsA, *] <;> omega) | exact zbo_f (by simp [kIsA, *] <;> omega)) (rfl)
    · refine z_iload_n iX3_isA_9 rfl ?_
      refine z_iconst iX3_isA_10 zk_4 ?_
      refine zn_ne iX3_isA_11 (by omega) (by omega) (fun q11 => ?_) (fun q11 => ?_)
      · refine z_iconst iX3_isA_23 zk_0 ?_
        exact z_ireturn iX3_isA_24 (by first | exact zbo_t (by simp [kIsA, *] <;> omega) | exact zbo_f (by simp [kIsA, *] <;> omega)) (rfl)
      · refine z_iload_n iX3_isA_14 rfl ?_
        refine z_iconst iX3_isA_15 zk_1 ?_
        refine zn_ne iX3_isA_16 (by omega) (by omega) (fun q16 => ?_) (fun q16 => ?_)
        · refine z_iconst iX3_isA_23 zk_0 ?_
          exact z_ireturn iX3_isA_24 (by first | exact zbo_t (by simp [kIsA, *] <;> omega) | exact zbo_f (by simp [kIsA, *] <;> omega)) (rfl)
        · refine z_iconst iX3_isA_19 zk_1 ?_
          refine z_goto iX3_isA_20 ?_
          exact z_ireturn iX3_isA_24 (by first | exact zbo_t (by simp [kIsA, *] <;> omega) | exact zbo_f (by simp [kIsA, *] <;> omega)) (rfl)
def pAdd (s : zs) (c : Int32) : zs := uN (uF s 0 (upd (rF s 0) (rN s 1) c)) 1 (rN s 1 + 1)
set_option maxRecDepth 20000 in
set_option maxHeartbeats 1000000 in
theorem c_pAppend (G : zG) (g : zh) (a : Nat) (ha : a < 900) (s : zs) (hz : rN s 1 ≤ 38) (h : rN s 1 < 38) (c : Int32) : zK G mX4_append [.ref a, .int c] (sP g a s) none (sP g a (pAdd s c)) := by
  refine zK_of 0 rfl (by decide) trivial (Nat.le_of_ble_eq_true rfl) rfl ?_
  refine z_aload_n iX4_append_0 rfl ?_
  refine z_getf iX4_append_1 fX4_15 (sP_o _ _ _) (PF_1 _ _) (by omega) ?_
  refine z_bipush iX4_append_4 zb_38 ?_
  refine zn_ge iX4_append_6 (by omega) (by omega) (fun q6 => absurd q6 (by omega)) (fun q6 => ?_)
  refine z_aload_n iX4_append_9 rfl ?_
  refine z_getf iX4_append_10 fX4_11 (sP_o _ _ _) (PF_0 _ _) (by omega) ?_
  refine z_aload_n iX4_append_13 rfl ?_
  refine z_getf iX4_append_14 fX4_15 (sP_o _ _ _) (PF_1 _ _) (by omega) ?_
  refine z_iload_n iX4_append_17 rfl ?_
  refine z_iastore iX4_append_18 (sP_0 _ _ _) rfl (by omega) (by decide) (by omega) (by decide) ?_
  rw [sP_w0]
  refine z_aload_n iX4_append_19 rfl ?_
  refine z_dup iX4_append_20 rfl ?_
  refine z_getf iX4_append_21 fX4_15 (sP_o _ _ _) (PF_1 _ _) (by omega) ?_
  refine z_iconst iX4_append_24 zk_1 ?_
  refine z_iadd iX4_append_25 ?_
  refine z_top nix_add ?_
  refine z_putf iX4_append_26 fX4_15 (sP_o _ _ _) rfl rfl (Nat.le_of_ble_eq_true rfl) (by omega) ?_
  rw [sP_w1]
  exact z_return iX4_append_29 (rfl)
def pDue (p : Nat) (c : Int32) (b h : Nat) : Bool := if p % 4 = 0 then decide (kOf c ≠ none) else if p % 4 = 1 then decide (¬ c < nI 49 ∧ ¬ nI 57 < c) else if p % 4 = 2 then decide (¬ c < nI 48 ∧ ¬ nI 57 < c) else decide ((c = nI 44 ∧ h < 3) ∨ (c = nI 59 ∧ b < 3))
theorem oI_m1 {z : Option Nat} (h : ∀ k, z = some k → k < 2 ^ 31) : oI z = -1 ↔ z = none := by
  cases z with
  | none => simp [oI]
  | some k => simp [oI, nI_m1 (h k rfl)]
theorem kOf_m1 (c : Int32) : oI (kOf c) = -1 ↔ kOf c = none := oI_m1 (fun k hk => by have := kOf_le hk; omega)
set_option maxRecDepth 20000 in
set_option maxHeartbeats 1000000 in
theorem c_isDue (G : zG) (g : zh) (p : Nat) (c : Int32) (b h : Nat) (hp : p < 2 ^ 31) (hb : b < 2 ^ 31) (hh : h < 2 ^ 31) : zK G mX4_isDue [.int (nI p), .int c, .int (nI b), .int (nI h)] g (some (.int (zbo (pDue p c b h)))) g := by
  refine zK_of 0 rfl (by decide) (zbo_n _) (Nat.le_of_ble_eq_true rfl) rfl ?_
  refine z_iload_n iX4_isDue_0 rfl ?_
  refine z_iconst iX4_isDue_1 zk_3 ?_
  refine z_iand iX4_isDue_2 ?_
  refine z_top nix_and3 ?_
  by_cases c3_0 : p % 4 = 0
  · refine z_tabIn (off := 25) (tgt := 28) iX4_isDue_3 (by rw [c3_0]; decide +kernel) (by rw [c3_0]; decide +kernel) (by rw [c3_0]; decide +kernel) (by decide) ?_
    refine z_iload_n iX4_isDue_28 rfl ?_
    refine z_csi (y1 := mX3_ofLetter) iX4_isDue_29 lX4_23 kX3_ofLetter rfl (c_ofLetter G g c) rfl rfl (Nat.le_of_ble_eq_true rfl) ?_
    refine z_iconst iX4_isDue_32 zk_m1 ?_
    refine z_icmp_eq iX4_isDue_33 (fun q33 => ?_) (fun q33 => ?_)
    · try rw [kOf_m1] at q33
      refine z_iconst iX4_isDue_40 zk_0 ?_
      exact z_ireturn iX4_isDue_41 (by first | exact absurd (q81.symm.trans q92) n44_59 | exact zbo_t (by simp [pDue, *, n44_59, n59_44] <;> omega) | exact zbo_f (by simp [pDue, *, n44_59, n59_44] <;> omega)) (rfl)
    · rw [kOf_m1] at q33
      refine z_iconst iX4_isDue_36 zk_1 ?_
      refine z_goto iX4_isDue_37 ?_
      exact z_ireturn iX4_isDue_41 (by first | exact absurd (q81.symm.trans q92) n44_59 | exact zbo_t (by simp [pDue, *, n44_59, n59_44] <;> omega) | exact zbo_f (by simp [pDue, *, n44_59, n59_44] <;> omega)) (rfl)
  by_cases c3_1 : p % 4 = 1
  · refine z_tabIn (off := 39) (tgt := 42) iX4_isDue_3 (by rw [c3_1]; decide +kernel) (by rw [c3_1]; decide +kernel) (by rw [c3_1]; decide +kernel) (by decide) ?_
    refine z_iload_n iX4_isDue_42 rfl ?_
    refine z_bipush iX4_isDue_43 zb_49 ?_
    refine z_icmp_lt iX4_isDue_45 (fun q45 => ?_) (fun q45 => ?_)
    · refine z_iconst iX4_isDue_58 zk_0 ?_
      exact z_ireturn iX4_isDue_59 (by first | exact absurd (q81.symm.trans q92) n44_59 | exact zbo_t (by simp [pDue, *, n44_59, n59_44] <;> omega) | exact zbo_f (by simp [pDue, *, n44_59, n59_44] <;> omega)) (rfl)
    · refine z_iload_n iX4_isDue_48 rfl ?_
      refine z_bipush iX4_isDue_49 zb_57 ?_
      refine z_icmp_gt iX4_isDue_51 (fun q51 => ?_) (fun q51 => ?_)
      · refine z_iconst iX4_isDue_58 zk_0 ?_
        exact z_ireturn iX4_isDue_59 (by first | exact absurd (q81.symm.trans q92) n44_59 | exact zbo_t (by simp [pDue, *, n44_59, n59_44] <;> omega) | exact zbo_f (by simp [pDue, *, n44_59, n59_44] <;> omega)) (rfl)
      · refine z_iconst iX4_isDue_54 zk_1 ?_
        refine z_goto iX4_isDue_55 ?_
        exact z_ireturn iX4_isDue_59 (by first | exact absurd (q81.symm.trans q92) n44_59 | exact zbo_t (by simp [pDue, *, n44_59, n59_44] <;> omega) | exact zbo_f (by simp [pDue, *, n44_59, n59_44] <;> omega)) (rfl)
  by_cases c3_2 : p % 4 = 2
  · refine z_tabIn (off := 57) (tgt := 60) iX4_isDue_3 (by rw [c3_2]; decide +kernel) (by rw [c3_2]; decide +kernel) (by rw [c3_2]; decide +kernel) (by decide) ?_
    refine z_iload_n iX4_isDue_60 rfl ?_
    refine z_bipush iX4_isDue_61 zb_48 ?_
    refine z_icmp_lt iX4_isDue_63 (fun q63 => ?_) (fun q63 => ?_)
    · refine z_iconst iX4_isDue_76 zk_0 ?_
      exact z_ireturn iX4_isDue_77 (by first | exact absurd (q81.symm.trans q92) n44_59 | exact zbo_t (by simp [pDue, *, n44_59, n59_44] <;> omega) | exact zbo_f (by simp [pDue, *, n44_59, n59_44] <;> omega)) (rfl)
    · refine z_iload_n iX4_isDue_66 rfl ?_
      refine z_bipush iX4_isDue_67 zb_57 ?_
      refine z_icmp_gt iX4_isDue_69 (fun q69 => ?_) (fun q69 => ?_)
      · refine z_iconst iX4_isDue_76 zk_0 ?_
        exact z_ireturn iX4_isDue_77 (by first | exact absurd (q81.symm.trans q92) n44_59 | exact zbo_t (by simp [pDue, *, n44_59, n59_44] <;> omega) | exact zbo_f (by simp [pDue, *, n44_59, n59_44] <;> omega)) (rfl)
      · refine z_iconst iX4_isDue_72 zk_1 ?_
        refine z_goto iX4_isDue_73 ?_
        exact z_ireturn iX4_isDue_77 (by first | exact absurd (q81.symm.trans q92) n44_59 | exact zbo_t (by simp [pDue, *, n44_59, n59_44] <;> omega) | exact zbo_f (by simp [pDue, *, n44_59, n59_44] <;> omega)) (rfl)
  refine z_tabOut (tgt := 78) iX4_isDue_3 (by rw [nI_toInt (by omega)]; omega) (by decide) ?_
  refine z_iload_n iX4_isDue_78 rfl ?_
  refine z_bipush iX4_isDue_79 zb_44 ?_
  refine z_icmp_ne iX4_isDue_81 (fun q81 => ?_) (fun q81 => ?_)
  · refine z_iload_n iX4_isDue_89 rfl ?_
    refine z_bipush iX4_isDue_90 zb_59 ?_
    refine z_icmp_ne iX4_isDue_92 (fun q92 => ?_) (fun q92 => ?_)
    · refine z_iconst iX4_isDue_104 zk_0 ?_
      exact z_ireturn iX4_isDue_105 (by first | exact absurd (q81.symm.trans q92) n44_59 | exact zbo_t (by simp [pDue, *, n44_59, n59_44] <;> omega) | exact zbo_f (by simp [pDue, *, n44_59, n59_44] <;> omega)) (rfl)
    · refine z_iload_n iX4_isDue_95 rfl ?_
      refine z_iconst iX4_isDue_96 zk_3 ?_
      refine zn_ge iX4_isDue_97 (by omega) (by omega) (fun q97 => ?_) (fun q97 => ?_)
      · refine z_iconst iX4_isDue_104 zk_0 ?_
        exact z_ireturn iX4_isDue_105 (by first | exact absurd (q81.symm.trans q92) n44_59 | exact zbo_t (by simp [pDue, *, n44_59, n59_44] <;> omega) | exact zbo_f (by simp [pDue, *, n44_59, n59_44] <;> omega)) (rfl)
      · refine z_iconst iX4_isDue_100 zk_1 ?_
        refine z_goto iX4_isDue_101 ?_
        exact z_ireturn iX4_isDue_105 (by first | exact absurd (q81.symm.trans q92) n44_59 | exact zbo_t (by simp [pDue, *, n44_59, n59_44] <;> omega) | exact zbo_f (by simp [pDue, *, n44_59, n59_44] <;> omega)) (rfl)
  · refine z_iload_n iX4_isDue_84 rfl ?_
    refine z_iconst iX4_isDue_85 zk_3 ?_
    refine zn_lt iX4_isDue_86 (by omega) (by omega) (fun q86 => ?_) (fun q86 => ?_)
    · refine z_iconst iX4_isDue_100 zk_1 ?_
      refine z_goto iX4_isDue_101 ?_
      exact z_ireturn iX4_isDue_105 (by first | exact absurd (q81.symm.trans q92) n44_59 | exact zbo_t (by simp [pDue, *, n44_59, n59_44] <;> omega) | exact zbo_f (by simp [pDue, *, n44_59, n59_44] <;> omega)) (rfl)
    · refine z_iload_n iX4_isDue_89 rfl ?_
      refine z_bipush iX4_isDue_90 zb_59 ?_
      refine z_icmp_ne iX4_isDue_92 (fun q92 => ?_) (fun q92 => ?_)
      · refine z_iconst iX4_isDue_104 zk_0 ?_
        exact z_ireturn iX4_isDue_105 (by first | exact absurd (q81.symm.trans q92) n44_59 | exact zbo_t (by simp [pDue, *, n44_59, n59_44] <;> omega) | exact zbo_f (by simp [pDue, *, n44_59, n59_44] <;> omega)) (rfl)
      · refine z_iload_n iX4_isDue_95 rfl ?_
        refine z_iconst iX4_isDue_96 zk_3 ?_
        refine zn_ge iX4_isDue_97 (by omega) (by omega) (fun q97 => ?_) (fun q97 => ?_)
        · refine z_iconst iX4_isDue_104 zk_0 ?_
          exact z_ireturn iX4_isDue_105 (by first | exact absurd (q81.symm.trans q92) n44_59 | exact zbo_t (by simp [pDue, *, n44_59, n59_44] <;> omega) | exact zbo_f (by simp [pDue, *, n44_59, n59_44] <;> omega)) (rfl)
        · refine z_iconst iX4_isDue_100 zk_1 ?_
          refine z_goto iX4_isDue_101 ?_
          exact z_ireturn iX4_isDue_105 (by first | exact absurd (q81.symm.trans q92) n44_59 | exact zbo_t (by simp [pDue, *, n44_59, n59_44] <;> omega) | exact zbo_f (by simp [pDue, *, n44_59, n59_44] <;> omega)) (rfl)
def pNext (c : Int32) (x : Nat × Nat) : Nat × Nat := if c = nI 44 then (x.1, x.2 + 1) else if c = nI 59 then (x.1 + 1, 1) else x
def pFaultL (f : Nat → Int32) : Nat → Nat → Nat × Nat → Nat
  | i, 0, _ => i
  | i, n + 1, x => if pDue i (f i) x.1 x.2 = true then pFaultL f (i + 1) n (pNext (f i) x) else i
def pFault (s : zs) : Nat := pFaultL (rF s 0) 0 (rN s 1) (1, 1)
theorem pNext_le {c : Int32} {x : Nat × Nat} {i : Nat} (h : x.1 ≤ i ∧ x.2 ≤ i) (hi : 1 ≤ i) : (pNext c x).1 ≤ i + 1 ∧ (pNext c x).2 ≤ i + 1 := by
  unfold pNext
  split
  · exact ⟨by omega, by show x.2 + 1 ≤ _; omega⟩
  · split
    · exact ⟨by show x.1 + 1 ≤ _; omega, by show 1 ≤ _; omega⟩
    · omega
set_option maxRecDepth 20000 in
set_option maxHeartbeats 1000000 in
theorem lp_fault (G : zG) (g : zh) (a : Nat) (ha : a < 900) (s : zs) (hz : rN s 1 ≤ 38) : ∀ (n i : Nat) (x : Nat × Nat), i + n = rN s 1 → (x.1 ≤ i + 1 ∧ x.2 ≤ i + 1) → zS G mX4_firstFault 6 [some (.ref a), some (.int (nI x.1)), some (.int (nI x.2)), some (.int (nI i)), none] [] (sP g a s) (some (.int (nI (pFaultL (rF s 0) i n x)))) (sP g a s) := by
  intro n
  induction n with
  | zero =>
    intro i x hi hx
    refine z_iload_n iX4_firstFault_6 rfl ?_
    refine z_aload_n iX4_firstFault_7 rfl ?_
    refine z_getf iX4_firstFault_8 fX4_15 (sP_o _ _ _) (PF_1 _ _) (by omega) ?_
    refine zn_ge iX4_firstFault_11 (by omega) (by omega) (fun q11 => ?_) (fun q11 => absurd q11 (by omega))
    refine z_aload_n iX4_firstFault_66 rfl ?_
    refine z_getf iX4_firstFault_67 fX4_15 (sP_o _ _ _) (PF_1 _ _) (by omega) ?_
    exact z_ireturn iX4_firstFault_70 (by rw [← hi]; rfl) (rfl)
  | succ n ih =>
    intro i x hi hx
    refine z_iload_n iX4_firstFault_6 rfl ?_
    refine z_aload_n iX4_firstFault_7 rfl ?_
    refine z_getf iX4_firstFault_8 fX4_15 (sP_o _ _ _) (PF_1 _ _) (by omega) ?_
    refine zn_ge iX4_firstFault_11 (by omega) (by omega) (fun q11 => absurd q11 (by omega)) (fun q11 => ?_)
    refine z_aload_n iX4_firstFault_14 rfl ?_
    refine z_getf iX4_firstFault_15 fX4_11 (sP_o _ _ _) (PF_0 _ _) (by omega) ?_
    refine z_iload_n iX4_firstFault_18 rfl ?_
    refine z_iaload iX4_firstFault_19 (sP_0 _ _ _) rfl (by omega) (by decide) (by omega) ?_
    refine z_istore iX4_firstFault_20 rfl (by decide) ?_
    refine z_iload_n iX4_firstFault_22 rfl ?_
    refine z_iload iX4_firstFault_23 rfl ?_
    refine z_iload_n iX4_firstFault_25 rfl ?_
    refine z_iload_n iX4_firstFault_26 rfl ?_
    refine z_csi (y1 := mX4_isDue) iX4_firstFault_27 lX4_19 kX4_isDue rfl (c_isDue G _ i _ x.1 x.2 (by omega) (by omega) (by omega)) rfl rfl (Nat.le_of_ble_eq_true rfl) ?_
    refine zb_if_ne iX4_firstFault_30 (fun q30 => ?_) (fun q30 => ?_)
    · refine z_iload iX4_firstFault_35 rfl ?_
      refine z_bipush iX4_firstFault_37 zb_44 ?_
      refine z_icmp_ne iX4_firstFault_39 (fun q39 => ?_) (fun q39 => ?_)
      · refine z_iload iX4_firstFault_48 rfl ?_
        refine z_bipush iX4_firstFault_50 zb_59 ?_
        refine z_icmp_ne iX4_firstFault_52 (fun q52 => ?_) (fun q52 => ?_)
        · refine z_iinc iX4_firstFault_60 rfl nix_inc rfl (by decide) ?_
          refine z_goto iX4_firstFault_63 ?_
          first
            | (have e1 : pNext (rF s 0 i) x = (x.1, x.2 + 1) := by rw [pNext, if_pos q39]
               have k1 := ih (i + 1) (pNext (rF s 0 i) x) (by omega) (pNext_le hx (by omega))
               rw [e1] at k1
               rw [pFaultL, if_pos q30, e1]
               refine z_weak ?_ k1
               exact zle_w (by simp [zle]))
            | (have e1 : pNext (rF s 0 i) x = (x.1 + 1, 1) := by rw [pNext, if_neg q39, if_pos q52]
               have k1 := ih (i + 1) (pNext (rF s 0 i) x) (by omega) (pNext_le hx (by omega))
               rw [e1] at k1
               rw [pFaultL, if_pos q30, e1]
               refine z_weak ?_ k1
               exact zle_w (by simp [zle]))
            | (have e1 : pNext (rF s 0 i) x = x := by rw [pNext, if_neg q39, if_neg q52]
               have k1 := ih (i + 1) (pNext (rF s 0 i) x) (by omega) (pNext_le hx (by omega))
               rw [e1] at k1
               rw [pFaultL, if_pos q30, e1]
               refine z_weak ?_ k1
               exact zle_w (by simp [zle]))
        · refine z_iinc iX4_firstFault_55 rfl nix_inc rfl (by decide) ?_
          refine z_iconst iX4_firstFault_58 zk_1 ?_
          refine z_istore_n iX4_firstFault_59 rfl (by decide) ?_
          refine z_iinc iX4_firstFault_60 rfl nix_inc rfl (by decide) ?_
          refine z_goto iX4_firstFault_63 ?_
          first
            | (have e1 : pNext (rF s 0 i) x = (x.1, x.2 + 1) := by rw [pNext, if_pos q39]
               have k1 := ih (i + 1) (pNext (rF s 0 i) x) (by omega) (pNext_le hx (by omega))
               rw [e1] at k1
               rw [pFaultL, if_pos q30, e1]
               refine z_weak ?_ k1
               exact zle_w (by simp [zle]))
            | (have e1 : pNext (rF s 0 i) x = (x.1 + 1, 1) := by rw [pNext, if_neg q39, if_pos q52]
               have k1 := ih (i + 1) (pNext (rF s 0 i) x) (by omega) (pNext_le hx (by omega))
               rw [e1] at k1
               rw [pFaultL, if_pos q30, e1]
               refine z_weak ?_ k1
               exact zle_w (by simp [zle]))
            | (have e1 : pNext (rF s 0 i) x = x := by rw [pNext, if_neg q39, if_neg q52]
               have k1 := ih (i + 1) (pNext (rF s 0 i) x) (by omega) (pNext_le hx (by omega))
               rw [e1] at k1
               rw [pFaultL, if_pos q30, e1]
               refine z_weak ?_ k1
               exact zle_w (by simp [zle]))
      · refine z_iinc iX4_firstFault_42 rfl nix_inc rfl (by decide) ?_
        refine z_goto iX4_firstFault_45 ?_
        refine z_iinc iX4_firstFault_60 rfl nix_inc rfl (by decide) ?_
        refine z_goto iX4_firstFault_63 ?_
        first
          | (have e1 : pNext (rF s 0 i) x = (x.1, x.2 + 1) := by rw [pNext, if_pos q39]
             have k1 := ih (i + 1) (pNext (rF s 0 i) x) (by omega) (pNext_le hx (by omega))
             rw [e1] at k1
             rw [pFaultL, if_pos q30, e1]
             refine z_weak ?_ k1
             exact zle_w (by simp [zle]))
          | (have e1 : pNext (rF s 0 i) x = (x.1 + 1, 1) := by rw [pNext, if_neg q39, if_pos q52]
             have k1 := ih (i + 1) (pNext (rF s 0 i) x) (by omega) (pNext_le hx (by omega))
             rw [e1] at k1
             rw [pFaultL, if_pos q30, e1]
             refine z_weak ?_ k1
             exact zle_w (by simp [zle]))
          | (have e1 : pNext (rF s 0 i) x = x := by rw [pNext, if_neg q39, if_neg q52]
             have k1 := ih (i + 1) (pNext (rF s 0 i) x) (by omega) (pNext_le hx (by omega))
             rw [e1] at k1
             rw [pFaultL, if_pos q30, e1]
             refine z_weak ?_ k1
             exact zle_w (by simp [zle]))
    · refine z_iload_n iX4_firstFault_33 rfl ?_
      exact z_ireturn iX4_firstFault_34 (by rw [pFaultL, if_neg (by rw [q30]; decide)]) (rfl)
set_option maxRecDepth 20000 in
set_option maxHeartbeats 1000000 in
theorem c_pFault (G : zG) (g : zh) (a : Nat) (ha : a < 900) (s : zs) (hz : rN s 1 ≤ 38) : zK G mX4_firstFault [.ref a] (sP g a s) (some (.int (nI (pFault s)))) (sP g a s) := by
  refine zK_of 4 rfl (by decide) trivial (Nat.le_of_ble_eq_true rfl) rfl ?_
  refine z_iconst iX4_firstFault_0 zk_1 ?_
  refine z_istore_n iX4_firstFault_1 rfl (by decide) ?_
  refine z_iconst iX4_firstFault_2 zk_1 ?_
  refine z_istore_n iX4_firstFault_3 rfl (by decide) ?_
  refine z_iconst iX4_firstFault_4 zk_0 ?_
  refine z_istore_n iX4_firstFault_5 rfl (by decide) ?_
  exact lp_fault G g a ha s hz _ 0 (1, 1) (Nat.zero_add _) ⟨Nat.le_refl _, Nat.le_refl _⟩
def pSecond (s : zs) : Bool := (zfind (fun p => decide (rF s 0 p = nI 59)) 0 (rN s 1)).isSome
set_option maxRecDepth 20000 in
set_option maxHeartbeats 1000000 in
theorem lp_second (G : zG) (g : zh) (a : Nat) (ha : a < 900) (s : zs) (hz : rN s 1 ≤ 38) : ∀ (n i : Nat) (z : Option Nat), i + n = rN s 1 → zfind (fun p => decide (rF s 0 p = nI 59)) i n = z → zS G mX4_hasSecondBay 2 [some (.ref a), some (.int (nI i))] [] (sP g a s) (some (.int (zbo z.isSome))) (sP g a s) := by
  intro n
  induction n with
  | zero =>
    intro i z hi hzz
    cases hzz
    refine z_iload_n iX4_hasSecondBay_2 rfl ?_
    refine z_aload_n iX4_hasSecondBay_3 rfl ?_
    refine z_getf iX4_hasSecondBay_4 fX4_15 (sP_o _ _ _) (PF_1 _ _) (by omega) ?_
    refine zn_ge iX4_hasSecondBay_7 (by omega) (by omega) (fun q7 => ?_) (fun q7 => absurd q7 (by omega))
    refine z_iconst iX4_hasSecondBay_29 zk_0 ?_
    exact z_ireturn iX4_hasSecondBay_30 (rfl) (rfl)
  | succ n ih =>
    intro i z hi hzz
    refine z_iload_n iX4_hasSecondBay_2 rfl ?_
    refine z_aload_n iX4_hasSecondBay_3 rfl ?_
    refine z_getf iX4_hasSecondBay_4 fX4_15 (sP_o _ _ _) (PF_1 _ _) (by omega) ?_
    refine zn_ge iX4_hasSecondBay_7 (by omega) (by omega) (fun q7 => absurd q7 (by omega)) (fun q7 => ?_)
    refine z_aload_n iX4_hasSecondBay_10 rfl ?_
    refine z_getf iX4_hasSecondBay_11 fX4_11 (sP_o _ _ _) (PF_0 _ _) (by omega) ?_
    refine z_iload_n iX4_hasSecondBay_14 rfl ?_
    refine z_iaload iX4_hasSecondBay_15 (sP_0 _ _ _) rfl (by omega) (by decide) (by omega) ?_
    refine z_bipush iX4_hasSecondBay_16 zb_59 ?_
    refine z_icmp_ne iX4_hasSecondBay_18 (fun q18 => ?_) (fun q18 => ?_)
    · refine z_iinc iX4_hasSecondBay_23 rfl nix_inc rfl (by decide) ?_
      refine z_goto iX4_hasSecondBay_26 ?_
      unfold zfind at hzz
      rw [if_neg (by simp [q18])] at hzz
      exact ih (i + 1) z (by omega) hzz
    · unfold zfind at hzz
      rw [if_pos (by simp [q18])] at hzz
      subst hzz
      refine z_iconst iX4_hasSecondBay_21 zk_1 ?_
      exact z_ireturn iX4_hasSecondBay_22 (rfl) (rfl)
set_option maxRecDepth 20000 in
set_option maxHeartbeats 1000000 in
theorem c_pSecond (G : zG) (g : zh) (a : Nat) (ha : a < 900) (s : zs) (hz : rN s 1 ≤ 38) : zK G mX4_hasSecondBay [.ref a] (sP g a s) (some (.int (zbo (pSecond s)))) (sP g a s) := by
  refine zK_of 1 rfl (by decide) (zbo_n _) (Nat.le_of_ble_eq_true rfl) rfl ?_
  refine z_iconst iX4_hasSecondBay_0 zk_0 ?_
  refine z_istore_n iX4_hasSecondBay_1 rfl (by decide) ?_
  exact lp_second G g a ha s hz _ 0 _ (Nat.zero_add _) rfl
theorem pFaultL_le (f : Nat → Int32) : ∀ (n i : Nat) (x : Nat × Nat), pFaultL f i n x ≤ i + n
  | 0, i, x => Nat.le_refl _
  | n + 1, i, x => by
    unfold pFaultL
    split
    · have := pFaultL_le f n (i + 1) (pNext (f i) x)
      omega
    · omega
theorem pFault_le (s : zs) : pFault s ≤ rN s 1 := by
  have := pFaultL_le (rF s 0) (rN s 1) 0 (1, 1)
  unfold pFault
  omega
def pWhole (s : zs) : Bool := decide (rN s 1 % 4 = 3) && (decide (pFault s = rN s 1) && pSecond s)
set_option maxRecDepth 20000 in
set_option maxHeartbeats 1000000 in
theorem c_pWhole (G : zG) (g : zh) (a : Nat) (ha : a < 900) (s : zs) (hz : rN s 1 ≤ 38) : zK G mX4_isWhole [.ref a] (sP g a s) (some (.int (zbo (pWhole s)))) (sP g a s) := by
  have hf := pFault_le s
  refine zK_of 0 rfl (by decide) (zbo_n _) (Nat.le_of_ble_eq_true rfl) rfl ?_
  refine z_aload_n iX4_isWhole_0 rfl ?_
  refine z_getf iX4_isWhole_1 fX4_15 (sP_o _ _ _) (PF_1 _ _) (by omega) ?_
  refine z_iconst iX4_isWhole_4 zk_3 ?_
  refine z_iand iX4_isWhole_5 ?_
  refine z_top nix_and3 ?_
  refine z_iconst iX4_isWhole_6 zk_3 ?_
  refine zn_ne iX4_isWhole_7 (by omega) (by omega) (fun q7 => ?_) (fun q7 => ?_)
  · refine z_iconst iX4_isWhole_32 zk_0 ?_
    exact z_ireturn iX4_isWhole_33 (by first | exact zbo_t (by simp [pWhole, *]) | exact zbo_f (by simp [pWhole, *])) (rfl)
  · refine z_aload_n iX4_isWhole_10 rfl ?_
    refine z_cvi (y1 := mX4_firstFault) iX4_isWhole_11 lX4_29 kX4_firstFault rfl (c_pFault G g a ha s hz) (sP_o _ _ _) rfl rfl rfl (Nat.le_of_ble_eq_true rfl) (by omega) ?_
    refine z_aload_n iX4_isWhole_14 rfl ?_
    refine z_getf iX4_isWhole_15 fX4_15 (sP_o _ _ _) (PF_1 _ _) (by omega) ?_
    refine zn_ne iX4_isWhole_18 (by omega) (by omega) (fun q18 => ?_) (fun q18 => ?_)
    · refine z_iconst iX4_isWhole_32 zk_0 ?_
      exact z_ireturn iX4_isWhole_33 (by first | exact zbo_t (by simp [pWhole, *]) | exact zbo_f (by simp [pWhole, *])) (rfl)
    · refine z_aload_n iX4_isWhole_21 rfl ?_
      refine z_cvi (y1 := mX4_hasSecondBay) iX4_isWhole_22 lX4_33 kX4_hasSecondBay rfl (c_pSecond G g a ha s hz) (sP_o _ _ _) rfl rfl rfl (Nat.le_of_ble_eq_true rfl) (by omega) ?_
      refine zb_if_eq iX4_isWhole_25 (fun q25 => ?_) (fun q25 => ?_)
      · refine z_iconst iX4_isWhole_32 zk_0 ?_
        exact z_ireturn iX4_isWhole_33 (by first | exact zbo_t (by simp [pWhole, *]) | exact zbo_f (by simp [pWhole, *])) (rfl)
      · refine z_iconst iX4_isWhole_28 zk_1 ?_
        refine z_goto iX4_isWhole_29 ?_
        exact z_ireturn iX4_isWhole_33 (by first | exact zbo_t (by simp [pWhole, *]) | exact zbo_f (by simp [pWhole, *])) (rfl)
def sAdd (s : zs) (c d : Nat) (w : Int32) : zs := uN (uF (uA (uA s 0 (updN (rA s 0) (rN s 3) c)) 1 (updN (rA s 1) (rN s 3) d)) 2 (upd (rF s 2) (rN s 3) w)) 3 (rN s 3 + 1)
set_option maxRecDepth 20000 in
set_option maxHeartbeats 1000000 in
theorem c_sAppend (G : zG) (g : zh) (a : Nat) (ha : a < 900) (s : zs) (h : rN s 3 < 6) (c d : Nat) (w : Int32) : zK G mX5_append [.ref a, .int (nI c), .int (nI d), .int w] (sS g a s) none (sS g a (sAdd s c d w)) := by
  refine zK_of 0 rfl (by decide) trivial (Nat.le_of_ble_eq_true rfl) rfl ?_
  refine z_aload_n iX5_append_0 rfl ?_
  refine z_getf iX5_append_1 fX5_19 (sS_o _ _ _) (SF_3 _ _) (by omega) ?_
  refine z_bipush iX5_append_4 zb_6 ?_
  refine zn_ge iX5_append_6 (by omega) (by omega) (fun q6 => absurd q6 (by omega)) (fun q6 => ?_)
  refine z_aload_n iX5_append_9 rfl ?_
  refine z_getf iX5_append_10 fX5_9 (sS_o _ _ _) (SF_0 _ _) (by omega) ?_
  refine z_aload_n iX5_append_13 rfl ?_
  refine z_getf iX5_append_14 fX5_19 (sS_o _ _ _) (SF_3 _ _) (by omega) ?_
  refine z_iload_n iX5_append_17 rfl ?_
  refine z_iastore iX5_append_18 (sS_0 _ _ _) rfl h (by decide) (by omega) (by decide) ?_
  rw [upd_nI, sS_w0]
  refine z_aload_n iX5_append_19 rfl ?_
  refine z_getf iX5_append_20 fX5_13 (sS_o _ _ _) (SF_1 _ _) (by omega) ?_
  refine z_aload_n iX5_append_23 rfl ?_
  refine z_getf iX5_append_24 fX5_19 (sS_o _ _ _) (SF_3 _ _) (by omega) ?_
  refine z_iload_n iX5_append_27 rfl ?_
  refine z_iastore iX5_append_28 (sS_1 _ _ _) rfl h (by decide) (by omega) (by decide) ?_
  rw [upd_nI, sS_w1]
  refine z_aload_n iX5_append_29 rfl ?_
  refine z_getf iX5_append_30 fX5_16 (sS_o _ _ _) (SF_2 _ _) (by omega) ?_
  refine z_aload_n iX5_append_33 rfl ?_
  refine z_getf iX5_append_34 fX5_19 (sS_o _ _ _) (SF_3 _ _) (by omega) ?_
  refine z_iload_n iX5_append_37 rfl ?_
  refine z_iastore iX5_append_38 (sS_2 _ _ _) rfl h (by decide) (by omega) (by decide) ?_
  rw [sS_w2]
  refine z_aload_n iX5_append_39 rfl ?_
  refine z_dup iX5_append_40 rfl ?_
  refine z_getf iX5_append_41 fX5_19 (sS_o _ _ _) (SF_3 _ _) (by omega) ?_
  refine z_iconst iX5_append_44 zk_1 ?_
  refine z_iadd iX5_append_45 ?_
  refine z_top nix_add ?_
  refine z_putf iX5_append_46 fX5_19 (sS_o _ _ _) rfl rfl (Nat.le_of_ble_eq_true rfl) (by omega) ?_
  rw [sS_w3]
  exact z_return iX5_append_49 (rfl)
theorem vB3 {G : zG} {pg nw kp sn ks fo ft fe gt mx : zs} {re : Nat → Int64} {m : zs} {hh : Int64} {y : zY} {as : List Value} {r : Option Value} {t : zs} (h : zK G y as (sB (wW pg nw kp sn ks fo ft fe gt mx re m hh) 3 nw) r (sB (wW pg nw kp sn ks fo ft fe gt mx re m hh) 3 t)) : zK G y as (wW pg nw kp sn ks fo ft fe gt mx re m hh) r (wW pg t kp sn ks fo ft fe gt mx re m hh) := by
  rw [wW_B3, wW_B3] at h
  exact h
theorem vB11 {G : zG} {pg nw kp sn ks fo ft fe gt mx : zs} {re : Nat → Int64} {m : zs} {hh : Int64} {y : zY} {as : List Value} {r : Option Value} {t : zs} (h : zK G y as (sB (wW pg nw kp sn ks fo ft fe gt mx re m hh) 11 kp) r (sB (wW pg nw kp sn ks fo ft fe gt mx re m hh) 11 t)) : zK G y as (wW pg nw kp sn ks fo ft fe gt mx re m hh) r (wW pg nw t sn ks fo ft fe gt mx re m hh) := by
  rw [wW_B11, wW_B11] at h
  exact h
theorem vB28 {G : zG} {pg nw kp sn ks fo ft fe gt mx : zs} {re : Nat → Int64} {m : zs} {hh : Int64} {y : zY} {as : List Value} {r : Option Value} {t : zs} (h : zK G y as (sB (wW pg nw kp sn ks fo ft fe gt mx re m hh) 28 ft) r (sB (wW pg nw kp sn ks fo ft fe gt mx re m hh) 28 t)) : zK G y as (wW pg nw kp sn ks fo ft fe gt mx re m hh) r (wW pg nw kp sn ks fo t fe gt mx re m hh) := by
  rw [wW_B28, wW_B28] at h
  exact h
theorem vB37 {G : zG} {pg nw kp sn ks fo ft fe gt mx : zs} {re : Nat → Int64} {m : zs} {hh : Int64} {y : zY} {as : List Value} {r : Option Value} {t : zs} (h : zK G y as (sB (wW pg nw kp sn ks fo ft fe gt mx re m hh) 37 gt) r (sB (wW pg nw kp sn ks fo ft fe gt mx re m hh) 37 t)) : zK G y as (wW pg nw kp sn ks fo ft fe gt mx re m hh) r (wW pg nw kp sn ks fo ft fe t mx re m hh) := by
  rw [wW_B37, wW_B37] at h
  exact h
theorem vS19 {G : zG} {pg nw kp sn ks fo ft fe gt mx : zs} {re : Nat → Int64} {m : zs} {hh : Int64} {y : zY} {as : List Value} {r : Option Value} {t : zs} (h : zK G y as (sS (wW pg nw kp sn ks fo ft fe gt mx re m hh) 19 sn) r (sS (wW pg nw kp sn ks fo ft fe gt mx re m hh) 19 t)) : zK G y as (wW pg nw kp sn ks fo ft fe gt mx re m hh) r (wW pg nw kp t ks fo ft fe gt mx re m hh) := by
  rw [wW_S19, wW_S19] at h
  exact h
theorem vS23 {G : zG} {pg nw kp sn ks fo ft fe gt mx : zs} {re : Nat → Int64} {m : zs} {hh : Int64} {y : zY} {as : List Value} {r : Option Value} {t : zs} (h : zK G y as (sS (wW pg nw kp sn ks fo ft fe gt mx re m hh) 23 ks) r (sS (wW pg nw kp sn ks fo ft fe gt mx re m hh) 23 t)) : zK G y as (wW pg nw kp sn ks fo ft fe gt mx re m hh) r (wW pg nw kp sn t fo ft fe gt mx re m hh) := by
  rw [wW_S23, wW_S23] at h
  exact h
theorem vP1 {G : zG} {pg nw kp sn ks fo ft fe gt mx : zs} {re : Nat → Int64} {m : zs} {hh : Int64} {y : zY} {as : List Value} {r : Option Value} {t : zs} (h : zK G y as (sP (wW pg nw kp sn ks fo ft fe gt mx re m hh) 1 pg) r (sP (wW pg nw kp sn ks fo ft fe gt mx re m hh) 1 t)) : zK G y as (wW pg nw kp sn ks fo ft fe gt mx re m hh) r (wW t nw kp sn ks fo ft fe gt mx re m hh) := by
  rw [wW_P1, wW_P1] at h
  exact h
set_option maxRecDepth 20000 in
set_option maxHeartbeats 1000000 in
theorem c_copy28_3 (G : zG) (pg nw kp sn ks fo ft fe gt mx : zs) (re : Nat → Int64) (m : zs) (hh : Int64) : zK G mX0_copyFrom [.ref 28, .ref 3] (wW pg nw kp sn ks fo ft fe gt mx re m hh) none (wW pg nw kp sn ks fo nw fe gt mx re m hh) := by
  refine zK_of 0 rfl (by decide) trivial (Nat.le_of_ble_eq_true rfl) rfl ?_
  refine z_aload_n iX0_copyFrom_0 rfl ?_
  refine z_aload_n iX0_copyFrom_1 rfl ?_
  refine z_getf iX0_copyFrom_2 fX0_33 (w3_o) (BF_0 _ _) (by decide) ?_
  refine z_putf iX0_copyFrom_5 fX0_33 (w28_o) rfl rfl (Nat.le_of_ble_eq_true rfl) (by decide) ?_
  rw [w28_w0]
  refine z_aload_n iX0_copyFrom_8 rfl ?_
  refine z_aload_n iX0_copyFrom_9 rfl ?_
  refine z_getf iX0_copyFrom_10 fX0_37 (w3_o) (BF_1 _ _) (by decide) ?_
  refine z_putf iX0_copyFrom_13 fX0_37 (w28_o) rfl rfl (Nat.le_of_ble_eq_true rfl) (by decide) ?_
  rw [w28_w1]
  refine z_aload_n iX0_copyFrom_16 rfl ?_
  refine z_aload_n iX0_copyFrom_17 rfl ?_
  refine z_getf iX0_copyFrom_18 fX0_40 (w3_o) (BF_2 _ _) (by decide) ?_
  refine z_putf iX0_copyFrom_21 fX0_40 (w28_o) rfl rfl (Nat.le_of_ble_eq_true rfl) (by decide) ?_
  rw [w28_w2]
  refine z_aload_n iX0_copyFrom_24 rfl ?_
  refine z_aload_n iX0_copyFrom_25 rfl ?_
  refine z_getf iX0_copyFrom_26 fX0_43 (w3_o) (BF_3 _ _) (by decide) ?_
  refine z_putf iX0_copyFrom_29 fX0_43 (w28_o) rfl rfl (Nat.le_of_ble_eq_true rfl) (by decide) ?_
  rw [w28_w3]
  refine z_aload_n iX0_copyFrom_32 rfl ?_
  refine z_aload_n iX0_copyFrom_33 rfl ?_
  refine z_getf iX0_copyFrom_34 fX0_46 (w3_o) (BF_4 _ _) (by decide) ?_
  refine z_putf iX0_copyFrom_37 fX0_46 (w28_o) rfl rfl (Nat.le_of_ble_eq_true rfl) (by decide) ?_
  rw [w28_w4]
  refine z_aload_n iX0_copyFrom_40 rfl ?_
  refine z_getf iX0_copyFrom_41 fX0_9 (w3_o) (BF_5 _ _) (by decide) ?_
  refine z_iconst iX0_copyFrom_44 zk_0 ?_
  refine z_aload_n iX0_copyFrom_45 rfl ?_
  refine z_getf iX0_copyFrom_46 fX0_9 (w28_o) (BF_5 _ _) (by decide) ?_
  refine z_iconst iX0_copyFrom_49 zk_0 ?_
  refine z_bipush iX0_copyFrom_50 zb_9 ?_
  refine z_acopy iX0_copyFrom_52 lX0_49 (w3_5) (w28_5) rfl rfl rfl (by decide) (by decide) (by decide) (by decide) (by decide) (Nat.le_of_ble_eq_true rfl) ?_
  rw [w28_w5]
  refine z_aload_n iX0_copyFrom_55 rfl ?_
  refine z_getf iX0_copyFrom_56 fX0_15 (w3_o) (BF_6 _ _) (by decide) ?_
  refine z_iconst iX0_copyFrom_59 zk_0 ?_
  refine z_aload_n iX0_copyFrom_60 rfl ?_
  refine z_getf iX0_copyFrom_61 fX0_15 (w28_o) (BF_6 _ _) (by decide) ?_
  refine z_iconst iX0_copyFrom_64 zk_0 ?_
  refine z_bipush iX0_copyFrom_65 zb_9 ?_
  refine z_acopy iX0_copyFrom_67 lX0_49 (w3_6) (w28_6) rfl rfl rfl (by decide) (by decide) (by decide) (by decide) (by decide) (Nat.le_of_ble_eq_true rfl) ?_
  rw [w28_w6]
  refine z_aload_n iX0_copyFrom_70 rfl ?_
  refine z_getf iX0_copyFrom_71 fX0_18 (w3_o) (BF_7 _ _) (by decide) ?_
  refine z_iconst iX0_copyFrom_74 zk_0 ?_
  refine z_aload_n iX0_copyFrom_75 rfl ?_
  refine z_getf iX0_copyFrom_76 fX0_18 (w28_o) (BF_7 _ _) (by decide) ?_
  refine z_iconst iX0_copyFrom_79 zk_0 ?_
  refine z_bipush iX0_copyFrom_80 zb_9 ?_
  refine z_acopy iX0_copyFrom_82 lX0_49 (w3_7) (w28_7) rfl rfl rfl (by decide) (by decide) (by decide) (by decide) (by decide) (Nat.le_of_ble_eq_true rfl) ?_
  rw [w28_w7]
  refine z_aload_n iX0_copyFrom_85 rfl ?_
  refine z_getf iX0_copyFrom_86 fX0_21 (w3_o) (BF_8 _ _) (by decide) ?_
  refine z_iconst iX0_copyFrom_89 zk_0 ?_
  refine z_aload_n iX0_copyFrom_90 rfl ?_
  refine z_getf iX0_copyFrom_91 fX0_21 (w28_o) (BF_8 _ _) (by decide) ?_
  refine z_iconst iX0_copyFrom_94 zk_0 ?_
  refine z_bipush iX0_copyFrom_95 zb_9 ?_
  refine z_acopy iX0_copyFrom_97 lX0_49 (w3_8) (w28_8) rfl rfl rfl (by decide) (by decide) (by decide) (by decide) (by decide) (Nat.le_of_ble_eq_true rfl) ?_
  rw [w28_w8]
  refine z_aload_n iX0_copyFrom_100 rfl ?_
  refine z_getf iX0_copyFrom_101 fX0_24 (w3_o) (BF_9 _ _) (by decide) ?_
  refine z_iconst iX0_copyFrom_104 zk_0 ?_
  refine z_aload_n iX0_copyFrom_105 rfl ?_
  refine z_getf iX0_copyFrom_106 fX0_24 (w28_o) (BF_9 _ _) (by decide) ?_
  refine z_iconst iX0_copyFrom_109 zk_0 ?_
  refine z_bipush iX0_copyFrom_110 zb_9 ?_
  refine z_acopy iX0_copyFrom_112 lX0_49 (w3_9) (w28_9) rfl rfl rfl (by decide) (by decide) (by decide) (by decide) (by decide) (Nat.le_of_ble_eq_true rfl) ?_
  rw [w28_w9]
  refine z_aload_n iX0_copyFrom_115 rfl ?_
  refine z_getf iX0_copyFrom_116 fX0_27 (w3_o) (BF_10 _ _) (by decide) ?_
  refine z_iconst iX0_copyFrom_119 zk_0 ?_
  refine z_aload_n iX0_copyFrom_120 rfl ?_
  refine z_getf iX0_copyFrom_121 fX0_27 (w28_o) (BF_10 _ _) (by decide) ?_
  refine z_iconst iX0_copyFrom_124 zk_0 ?_
  refine z_iconst iX0_copyFrom_125 zk_3 ?_
  refine z_acopy iX0_copyFrom_126 lX0_49 (w3_10) (w28_10) rfl rfl rfl (by decide) (by decide) (by decide) (by decide) (by decide) (Nat.le_of_ble_eq_true rfl) ?_
  rw [w28_w10]
  refine z_aload_n iX0_copyFrom_129 rfl ?_
  refine z_getf iX0_copyFrom_130 fX0_30 (w3_o) (BF_11 _ _) (by decide) ?_
  refine z_iconst iX0_copyFrom_133 zk_0 ?_
  refine z_aload_n iX0_copyFrom_134 rfl ?_
  refine z_getf iX0_copyFrom_135 fX0_30 (w28_o) (BF_11 _ _) (by decide) ?_
  refine z_iconst iX0_copyFrom_138 zk_0 ?_
  refine z_bipush iX0_copyFrom_139 zb_9 ?_
  refine z_acopy iX0_copyFrom_141 lX0_49 (w3_11) (w28_11) rfl rfl rfl (by decide) (by decide) (by decide) (by decide) (by decide) (Nat.le_of_ble_eq_true rfl) ?_
  rw [w28_w11]
  exact z_return iX0_copyFrom_144 (rfl)
set_option maxRecDepth 20000 in
set_option maxHeartbeats 1000000 in
theorem c_copy37_3 (G : zG) (pg nw kp sn ks fo ft fe gt mx : zs) (re : Nat → Int64) (m : zs) (hh : Int64) : zK G mX0_copyFrom [.ref 37, .ref 3] (wW pg nw kp sn ks fo ft fe gt mx re m hh) none (wW pg nw kp sn ks fo ft fe nw mx re m hh) := by
  refine zK_of 0 rfl (by decide) trivial (Nat.le_of_ble_eq_true rfl) rfl ?_
  refine z_aload_n iX0_copyFrom_0 rfl ?_
  refine z_aload_n iX0_copyFrom_1 rfl ?_
  refine z_getf iX0_copyFrom_2 fX0_33 (w3_o) (BF_0 _ _) (by decide) ?_
  refine z_putf iX0_copyFrom_5 fX0_33 (w37_o) rfl rfl (Nat.le_of_ble_eq_true rfl) (by decide) ?_
  rw [w37_w0]
  refine z_aload_n iX0_copyFrom_8 rfl ?_
  refine z_aload_n iX0_copyFrom_9 rfl ?_
  refine z_getf iX0_copyFrom_10 fX0_37 (w3_o) (BF_1 _ _) (by decide) ?_
  refine z_putf iX0_copyFrom_13 fX0_37 (w37_o) rfl rfl (Nat.le_of_ble_eq_true rfl) (by decide) ?_
  rw [w37_w1]
  refine z_aload_n iX0_copyFrom_16 rfl ?_
  refine z_aload_n iX0_copyFrom_17 rfl ?_
  refine z_getf iX0_copyFrom_18 fX0_40 (w3_o) (BF_2 _ _) (by decide) ?_
  refine z_putf iX0_copyFrom_21 fX0_40 (w37_o) rfl rfl (Nat.le_of_ble_eq_true rfl) (by decide) ?_
  rw [w37_w2]
  refine z_aload_n iX0_copyFrom_24 rfl ?_
  refine z_aload_n iX0_copyFrom_25 rfl ?_
  refine z_getf iX0_copyFrom_26 fX0_43 (w3_o) (BF_3 _ _) (by decide) ?_
  refine z_putf iX0_copyFrom_29 fX0_43 (w37_o) rfl rfl (Nat.le_of_ble_eq_true rfl) (by decide) ?_
  rw [w37_w3]
  refine z_aload_n iX0_copyFrom_32 rfl ?_
  refine z_aload_n iX0_copyFrom_33 rfl ?_
  refine z_getf iX0_copyFrom_34 fX0_46 (w3_o) (BF_4 _ _) (by decide) ?_
  refine z_putf iX0_copyFrom_37 fX0_46 (w37_o) rfl rfl (Nat.le_of_ble_eq_true rfl) (by decide) ?_
  rw [w37_w4]
  refine z_aload_n iX0_copyFrom_40 rfl ?_
  refine z_getf iX0_copyFrom_41 fX0_9 (w3_o) (BF_5 _ _) (by decide) ?_
  refine z_iconst iX0_copyFrom_44 zk_0 ?_
  refine z_aload_n iX0_copyFrom_45 rfl ?_
  refine z_getf iX0_copyFrom_46 fX0_9 (w37_o) (BF_5 _ _) (by decide) ?_
  refine z_iconst iX0_copyFrom_49 zk_0 ?_
  refine z_bipush iX0_copyFrom_50 zb_9 ?_
  refine z_acopy iX0_copyFrom_52 lX0_49 (w3_5) (w37_5) rfl rfl rfl (by decide) (by decide) (by decide) (by decide) (by decide) (Nat.le_of_ble_eq_true rfl) ?_
  rw [w37_w5]
  refine z_aload_n iX0_copyFrom_55 rfl ?_
  refine z_getf iX0_copyFrom_56 fX0_15 (w3_o) (BF_6 _ _) (by decide) ?_
  refine z_iconst iX0_copyFrom_59 zk_0 ?_
  refine z_aload_n iX0_copyFrom_60 rfl ?_
  refine z_getf iX0_copyFrom_61 fX0_15 (w37_o) (BF_6 _ _) (by decide) ?_
  refine z_iconst iX0_copyFrom_64 zk_0 ?_
  refine z_bipush iX0_copyFrom_65 zb_9 ?_
  refine z_acopy iX0_copyFrom_67 lX0_49 (w3_6) (w37_6) rfl rfl rfl (by decide) (by decide) (by decide) (by decide) (by decide) (Nat.le_of_ble_eq_true rfl) ?_
  rw [w37_w6]
  refine z_aload_n iX0_copyFrom_70 rfl ?_
  refine z_getf iX0_copyFrom_71 fX0_18 (w3_o) (BF_7 _ _) (by decide) ?_
  refine z_iconst iX0_copyFrom_74 zk_0 ?_
  refine z_aload_n iX0_copyFrom_75 rfl ?_
  refine z_getf iX0_copyFrom_76 fX0_18 (w37_o) (BF_7 _ _) (by decide) ?_
  refine z_iconst iX0_copyFrom_79 zk_0 ?_
  refine z_bipush iX0_copyFrom_80 zb_9 ?_
  refine z_acopy iX0_copyFrom_82 lX0_49 (w3_7) (w37_7) rfl rfl rfl (by decide) (by decide) (by decide) (by decide) (by decide) (Nat.le_of_ble_eq_true rfl) ?_
  rw [w37_w7]
  refine z_aload_n iX0_copyFrom_85 rfl ?_
  refine z_getf iX0_copyFrom_86 fX0_21 (w3_o) (BF_8 _ _) (by decide) ?_
  refine z_iconst iX0_copyFrom_89 zk_0 ?_
  refine z_aload_n iX0_copyFrom_90 rfl ?_
  refine z_getf iX0_copyFrom_91 fX0_21 (w37_o) (BF_8 _ _) (by decide) ?_
  refine z_iconst iX0_copyFrom_94 zk_0 ?_
  refine z_bipush iX0_copyFrom_95 zb_9 ?_
  refine z_acopy iX0_copyFrom_97 lX0_49 (w3_8) (w37_8) rfl rfl rfl (by decide) (by decide) (by decide) (by decide) (by decide) (Nat.le_of_ble_eq_true rfl) ?_
  rw [w37_w8]
  refine z_aload_n iX0_copyFrom_100 rfl ?_
  refine z_getf iX0_copyFrom_101 fX0_24 (w3_o) (BF_9 _ _) (by decide) ?_
  refine z_iconst iX0_copyFrom_104 zk_0 ?_
  refine z_aload_n iX0_copyFrom_105 rfl ?_
  refine z_getf iX0_copyFrom_106 fX0_24 (w37_o) (BF_9 _ _) (by decide) ?_
  refine z_iconst iX0_copyFrom_109 zk_0 ?_
  refine z_bipush iX0_copyFrom_110 zb_9 ?_
  refine z_acopy iX0_copyFrom_112 lX0_49 (w3_9) (w37_9) rfl rfl rfl (by decide) (by decide) (by decide) (by decide) (by decide) (Nat.le_of_ble_eq_true rfl) ?_
  rw [w37_w9]
  refine z_aload_n iX0_copyFrom_115 rfl ?_
  refine z_getf iX0_copyFrom_116 fX0_27 (w3_o) (BF_10 _ _) (by decide) ?_
  refine z_iconst iX0_copyFrom_119 zk_0 ?_
  refine z_aload_n iX0_copyFrom_120 rfl ?_
  refine z_getf iX0_copyFrom_121 fX0_27 (w37_o) (BF_10 _ _) (by decide) ?_
  refine z_iconst iX0_copyFrom_124 zk_0 ?_
  refine z_iconst iX0_copyFrom_125 zk_3 ?_
  refine z_acopy iX0_copyFrom_126 lX0_49 (w3_10) (w37_10) rfl rfl rfl (by decide) (by decide) (by decide) (by decide) (by decide) (Nat.le_of_ble_eq_true rfl) ?_
  rw [w37_w10]
  refine z_aload_n iX0_copyFrom_129 rfl ?_
  refine z_getf iX0_copyFrom_130 fX0_30 (w3_o) (BF_11 _ _) (by decide) ?_
  refine z_iconst iX0_copyFrom_133 zk_0 ?_
  refine z_aload_n iX0_copyFrom_134 rfl ?_
  refine z_getf iX0_copyFrom_135 fX0_30 (w37_o) (BF_11 _ _) (by decide) ?_
  refine z_iconst iX0_copyFrom_138 zk_0 ?_
  refine z_bipush iX0_copyFrom_139 zb_9 ?_
  refine z_acopy iX0_copyFrom_141 lX0_49 (w3_11) (w37_11) rfl rfl rfl (by decide) (by decide) (by decide) (by decide) (by decide) (Nat.le_of_ble_eq_true rfl) ?_
  rw [w37_w11]
  exact z_return iX0_copyFrom_144 (rfl)
set_option maxRecDepth 20000 in
set_option maxHeartbeats 1000000 in
theorem c_copy11_3 (G : zG) (pg nw kp sn ks fo ft fe gt mx : zs) (re : Nat → Int64) (m : zs) (hh : Int64) : zK G mX0_copyFrom [.ref 11, .ref 3] (wW pg nw kp sn ks fo ft fe gt mx re m hh) none (wW pg nw nw sn ks fo ft fe gt mx re m hh) := by
  refine zK_of 0 rfl (by decide) trivial (Nat.le_of_ble_eq_true rfl) rfl ?_
  refine z_aload_n iX0_copyFrom_0 rfl ?_
  refine z_aload_n iX0_copyFrom_1 rfl ?_
  refine z_getf iX0_copyFrom_2 fX0_33 (w3_o) (BF_0 _ _) (by decide) ?_
  refine z_putf iX0_copyFrom_5 fX0_33 (w11_o) rfl rfl (Nat.le_of_ble_eq_true rfl) (by decide) ?_
  rw [w11_w0]
  refine z_aload_n iX0_copyFrom_8 rfl ?_
  refine z_aload_n iX0_copyFrom_9 rfl ?_
  refine z_getf iX0_copyFrom_10 fX0_37 (w3_o) (BF_1 _ _) (by decide) ?_
  refine z_putf iX0_copyFrom_13 fX0_37 (w11_o) rfl rfl (Nat.le_of_ble_eq_true rfl) (by decide) ?_
  rw [w11_w1]
  refine z_aload_n iX0_copyFrom_16 rfl ?_
  refine z_aload_n iX0_copyFrom_17 rfl ?_
  refine z_getf iX0_copyFrom_18 fX0_40 (w3_o) (BF_2 _ _) (by decide) ?_
  refine z_putf iX0_copyFrom_21 fX0_40 (w11_o) rfl rfl (Nat.le_of_ble_eq_true rfl) (by decide) ?_
  rw [w11_w2]
  refine z_aload_n iX0_copyFrom_24 rfl ?_
  refine z_aload_n iX0_copyFrom_25 rfl ?_
  refine z_getf iX0_copyFrom_26 fX0_43 (w3_o) (BF_3 _ _) (by decide) ?_
  refine z_putf iX0_copyFrom_29 fX0_43 (w11_o) rfl rfl (Nat.le_of_ble_eq_true rfl) (by decide) ?_
  rw [w11_w3]
  refine z_aload_n iX0_copyFrom_32 rfl ?_
  refine z_aload_n iX0_copyFrom_33 rfl ?_
  refine z_getf iX0_copyFrom_34 fX0_46 (w3_o) (BF_4 _ _) (by decide) ?_
  refine z_putf iX0_copyFrom_37 fX0_46 (w11_o) rfl rfl (Nat.le_of_ble_eq_true rfl) (by decide) ?_
  rw [w11_w4]
  refine z_aload_n iX0_copyFrom_40 rfl ?_
  refine z_getf iX0_copyFrom_41 fX0_9 (w3_o) (BF_5 _ _) (by decide) ?_
  refine z_iconst iX0_copyFrom_44 zk_0 ?_
  refine z_aload_n iX0_copyFrom_45 rfl ?_
  refine z_getf iX0_copyFrom_46 fX0_9 (w11_o) (BF_5 _ _) (by decide) ?_
  refine z_iconst iX0_copyFrom_49 zk_0 ?_
  refine z_bipush iX0_copyFrom_50 zb_9 ?_
  refine z_acopy iX0_copyFrom_52 lX0_49 (w3_5) (w11_5) rfl rfl rfl (by decide) (by decide) (by decide) (by decide) (by decide) (Nat.le_of_ble_eq_true rfl) ?_
  rw [w11_w5]
  refine z_aload_n iX0_copyFrom_55 rfl ?_
  refine z_getf iX0_copyFrom_56 fX0_15 (w3_o) (BF_6 _ _) (by decide) ?_
  refine z_iconst iX0_copyFrom_59 zk_0 ?_
  refine z_aload_n iX0_copyFrom_60 rfl ?_
  refine z_getf iX0_copyFrom_61 fX0_15 (w11_o) (BF_6 _ _) (by decide) ?_
  refine z_iconst iX0_copyFrom_64 zk_0 ?_
  refine z_bipush iX0_copyFrom_65 zb_9 ?_
  refine z_acopy iX0_copyFrom_67 lX0_49 (w3_6) (w11_6) rfl rfl rfl (by decide) (by decide) (by decide) (by decide) (by decide) (Nat.le_of_ble_eq_true rfl) ?_
  rw [w11_w6]
  refine z_aload_n iX0_copyFrom_70 rfl ?_
  refine z_getf iX0_copyFrom_71 fX0_18 (w3_o) (BF_7 _ _) (by decide) ?_
  refine z_iconst iX0_copyFrom_74 zk_0 ?_
  refine z_aload_n iX0_copyFrom_75 rfl ?_
  refine z_getf iX0_copyFrom_76 fX0_18 (w11_o) (BF_7 _ _) (by decide) ?_
  refine z_iconst iX0_copyFrom_79 zk_0 ?_
  refine z_bipush iX0_copyFrom_80 zb_9 ?_
  refine z_acopy iX0_copyFrom_82 lX0_49 (w3_7) (w11_7) rfl rfl rfl (by decide) (by decide) (by decide) (by decide) (by decide) (Nat.le_of_ble_eq_true rfl) ?_
  rw [w11_w7]
  refine z_aload_n iX0_copyFrom_85 rfl ?_
  refine z_getf iX0_copyFrom_86 fX0_21 (w3_o) (BF_8 _ _) (by decide) ?_
  refine z_iconst iX0_copyFrom_89 zk_0 ?_
  refine z_aload_n iX0_copyFrom_90 rfl ?_
  refine z_getf iX0_copyFrom_91 fX0_21 (w11_o) (BF_8 _ _) (by decide) ?_
  refine z_iconst iX0_copyFrom_94 zk_0 ?_
  refine z_bipush iX0_copyFrom_95 zb_9 ?_
  refine z_acopy iX0_copyFrom_97 lX0_49 (w3_8) (w11_8) rfl rfl rfl (by decide) (by decide) (by decide) (by decide) (by decide) (Nat.le_of_ble_eq_true rfl) ?_
  rw [w11_w8]
  refine z_aload_n iX0_copyFrom_100 rfl ?_
  refine z_getf iX0_copyFrom_101 fX0_24 (w3_o) (BF_9 _ _) (by decide) ?_
  refine z_iconst iX0_copyFrom_104 zk_0 ?_
  refine z_aload_n iX0_copyFrom_105 rfl ?_
  refine z_getf iX0_copyFrom_106 fX0_24 (w11_o) (BF_9 _ _) (by decide) ?_
  refine z_iconst iX0_copyFrom_109 zk_0 ?_
  refine z_bipush iX0_copyFrom_110 zb_9 ?_
  refine z_acopy iX0_copyFrom_112 lX0_49 (w3_9) (w11_9) rfl rfl rfl (by decide) (by decide) (by decide) (by decide) (by decide) (Nat.le_of_ble_eq_true rfl) ?_
  rw [w11_w9]
  refine z_aload_n iX0_copyFrom_115 rfl ?_
  refine z_getf iX0_copyFrom_116 fX0_27 (w3_o) (BF_10 _ _) (by decide) ?_
  refine z_iconst iX0_copyFrom_119 zk_0 ?_
  refine z_aload_n iX0_copyFrom_120 rfl ?_
  refine z_getf iX0_copyFrom_121 fX0_27 (w11_o) (BF_10 _ _) (by decide) ?_
  refine z_iconst iX0_copyFrom_124 zk_0 ?_
  refine z_iconst iX0_copyFrom_125 zk_3 ?_
  refine z_acopy iX0_copyFrom_126 lX0_49 (w3_10) (w11_10) rfl rfl rfl (by decide) (by decide) (by decide) (by decide) (by decide) (Nat.le_of_ble_eq_true rfl) ?_
  rw [w11_w10]
  refine z_aload_n iX0_copyFrom_129 rfl ?_
  refine z_getf iX0_copyFrom_130 fX0_30 (w3_o) (BF_11 _ _) (by decide) ?_
  refine z_iconst iX0_copyFrom_133 zk_0 ?_
  refine z_aload_n iX0_copyFrom_134 rfl ?_
  refine z_getf iX0_copyFrom_135 fX0_30 (w11_o) (BF_11 _ _) (by decide) ?_
  refine z_iconst iX0_copyFrom_138 zk_0 ?_
  refine z_bipush iX0_copyFrom_139 zb_9 ?_
  refine z_acopy iX0_copyFrom_141 lX0_49 (w3_11) (w11_11) rfl rfl rfl (by decide) (by decide) (by decide) (by decide) (by decide) (Nat.le_of_ble_eq_true rfl) ?_
  rw [w11_w11]
  exact z_return iX0_copyFrom_144 (rfl)
set_option maxRecDepth 20000 in
set_option maxHeartbeats 1000000 in
theorem c_copy3_11 (G : zG) (pg nw kp sn ks fo ft fe gt mx : zs) (re : Nat → Int64) (m : zs) (hh : Int64) : zK G mX0_copyFrom [.ref 3, .ref 11] (wW pg nw kp sn ks fo ft fe gt mx re m hh) none (wW pg kp kp sn ks fo ft fe gt mx re m hh) := by
  refine zK_of 0 rfl (by decide) trivial (Nat.le_of_ble_eq_true rfl) rfl ?_
  refine z_aload_n iX0_copyFrom_0 rfl ?_
  refine z_aload_n iX0_copyFrom_1 rfl ?_
  refine z_getf iX0_copyFrom_2 fX0_33 (w11_o) (BF_0 _ _) (by decide) ?_
  refine z_putf iX0_copyFrom_5 fX0_33 (w3_o) rfl rfl (Nat.le_of_ble_eq_true rfl) (by decide) ?_
  rw [w3_w0]
  refine z_aload_n iX0_copyFrom_8 rfl ?_
  refine z_aload_n iX0_copyFrom_9 rfl ?_
  refine z_getf iX0_copyFrom_10 fX0_37 (w11_o) (BF_1 _ _) (by decide) ?_
  refine z_putf iX0_copyFrom_13 fX0_37 (w3_o) rfl rfl (Nat.le_of_ble_eq_true rfl) (by decide) ?_
  rw [w3_w1]
  refine z_aload_n iX0_copyFrom_16 rfl ?_
  refine z_aload_n iX0_copyFrom_17 rfl ?_
  refine z_getf iX0_copyFrom_18 fX0_40 (w11_o) (BF_2 _ _) (by decide) ?_
  refine z_putf iX0_copyFrom_21 fX0_40 (w3_o) rfl rfl (Nat.le_of_ble_eq_true rfl) (by decide) ?_
  rw [w3_w2]
  refine z_aload_n iX0_copyFrom_24 rfl ?_
  refine z_aload_n iX0_copyFrom_25 rfl ?_
  refine z_getf iX0_copyFrom_26 fX0_43 (w11_o) (BF_3 _ _) (by decide) ?_
  refine z_putf iX0_copyFrom_29 fX0_43 (w3_o) rfl rfl (Nat.le_of_ble_eq_true rfl) (by decide) ?_
  rw [w3_w3]
  refine z_aload_n iX0_copyFrom_32 rfl ?_
  refine z_aload_n iX0_copyFrom_33 rfl ?_
  refine z_getf iX0_copyFrom_34 fX0_46 (w11_o) (BF_4 _ _) (by decide) ?_
  refine z_putf iX0_copyFrom_37 fX0_46 (w3_o) rfl rfl (Nat.le_of_ble_eq_true rfl) (by decide) ?_
  rw [w3_w4]
  refine z_aload_n iX0_copyFrom_40 rfl ?_
  refine z_getf iX0_copyFrom_41 fX0_9 (w11_o) (BF_5 _ _) (by decide) ?_
  refine z_iconst iX0_copyFrom_44 zk_0 ?_
  refine z_aload_n iX0_copyFrom_45 rfl ?_
  refine z_getf iX0_copyFrom_46 fX0_9 (w3_o) (BF_5 _ _) (by decide) ?_
  refine z_iconst iX0_copyFrom_49 zk_0 ?_
  refine z_bipush iX0_copyFrom_50 zb_9 ?_
  refine z_acopy iX0_copyFrom_52 lX0_49 (w11_5) (w3_5) rfl rfl rfl (by decide) (by decide) (by decide) (by decide) (by decide) (Nat.le_of_ble_eq_true rfl) ?_
  rw [w3_w5]
  refine z_aload_n iX0_copyFrom_55 rfl ?_
  refine z_getf iX0_copyFrom_56 fX0_15 (w11_o) (BF_6 _ _) (by decide) ?_
  refine z_iconst iX0_copyFrom_59 zk_0 ?_
  refine z_aload_n iX0_copyFrom_60 rfl ?_
  refine z_getf iX0_copyFrom_61 fX0_15 (w3_o) (BF_6 _ _) (by decide) ?_
  refine z_iconst iX0_copyFrom_64 zk_0 ?_
  refine z_bipush iX0_copyFrom_65 zb_9 ?_
  refine z_acopy iX0_copyFrom_67 lX0_49 (w11_6) (w3_6) rfl rfl rfl (by decide) (by decide) (by decide) (by decide) (by decide) (Nat.le_of_ble_eq_true rfl) ?_
  rw [w3_w6]
  refine z_aload_n iX0_copyFrom_70 rfl ?_
  refine z_getf iX0_copyFrom_71 fX0_18 (w11_o) (BF_7 _ _) (by decide) ?_
  refine z_iconst iX0_copyFrom_74 zk_0 ?_
  refine z_aload_n iX0_copyFrom_75 rfl ?_
  refine z_getf iX0_copyFrom_76 fX0_18 (w3_o) (BF_7 _ _) (by decide) ?_
  refine z_iconst iX0_copyFrom_79 zk_0 ?_
  refine z_bipush iX0_copyFrom_80 zb_9 ?_
  refine z_acopy iX0_copyFrom_82 lX0_49 (w11_7) (w3_7) rfl rfl rfl (by decide) (by decide) (by decide) (by decide) (by decide) (Nat.le_of_ble_eq_true rfl) ?_
  rw [w3_w7]
  refine z_aload_n iX0_copyFrom_85 rfl ?_
  refine z_getf iX0_copyFrom_86 fX0_21 (w11_o) (BF_8 _ _) (by decide) ?_
  refine z_iconst iX0_copyFrom_89 zk_0 ?_
  refine z_aload_n iX0_copyFrom_90 rfl ?_
  refine z_getf iX0_copyFrom_91 fX0_21 (w3_o) (BF_8 _ _) (by decide) ?_
  refine z_iconst iX0_copyFrom_94 zk_0 ?_
  refine z_bipush iX0_copyFrom_95 zb_9 ?_
  refine z_acopy iX0_copyFrom_97 lX0_49 (w11_8) (w3_8) rfl rfl rfl (by decide) (by decide) (by decide) (by decide) (by decide) (Nat.le_of_ble_eq_true rfl) ?_
  rw [w3_w8]
  refine z_aload_n iX0_copyFrom_100 rfl ?_
  refine z_getf iX0_copyFrom_101 fX0_24 (w11_o) (BF_9 _ _) (by decide) ?_
  refine z_iconst iX0_copyFrom_104 zk_0 ?_
  refine z_aload_n iX0_copyFrom_105 rfl ?_
  refine z_getf iX0_copyFrom_106 fX0_24 (w3_o) (BF_9 _ _) (by decide) ?_
  refine z_iconst iX0_copyFrom_109 zk_0 ?_
  refine z_bipush iX0_copyFrom_110 zb_9 ?_
  refine z_acopy iX0_copyFrom_112 lX0_49 (w11_9) (w3_9) rfl rfl rfl (by decide) (by decide) (by decide) (by decide) (by decide) (Nat.le_of_ble_eq_true rfl) ?_
  rw [w3_w9]
  refine z_aload_n iX0_copyFrom_115 rfl ?_
  refine z_getf iX0_copyFrom_116 fX0_27 (w11_o) (BF_10 _ _) (by decide) ?_
  refine z_iconst iX0_copyFrom_119 zk_0 ?_
  refine z_aload_n iX0_copyFrom_120 rfl ?_
  refine z_getf iX0_copyFrom_121 fX0_27 (w3_o) (BF_10 _ _) (by decide) ?_
  refine z_iconst iX0_copyFrom_124 zk_0 ?_
  refine z_iconst iX0_copyFrom_125 zk_3 ?_
  refine z_acopy iX0_copyFrom_126 lX0_49 (w11_10) (w3_10) rfl rfl rfl (by decide) (by decide) (by decide) (by decide) (by decide) (Nat.le_of_ble_eq_true rfl) ?_
  rw [w3_w10]
  refine z_aload_n iX0_copyFrom_129 rfl ?_
  refine z_getf iX0_copyFrom_130 fX0_30 (w11_o) (BF_11 _ _) (by decide) ?_
  refine z_iconst iX0_copyFrom_133 zk_0 ?_
  refine z_aload_n iX0_copyFrom_134 rfl ?_
  refine z_getf iX0_copyFrom_135 fX0_30 (w3_o) (BF_11 _ _) (by decide) ?_
  refine z_iconst iX0_copyFrom_138 zk_0 ?_
  refine z_bipush iX0_copyFrom_139 zb_9 ?_
  refine z_acopy iX0_copyFrom_141 lX0_49 (w11_11) (w3_11) rfl rfl rfl (by decide) (by decide) (by decide) (by decide) (by decide) (Nat.le_of_ble_eq_true rfl) ?_
  rw [w3_w11]
  exact z_return iX0_copyFrom_144 (rfl)
set_option maxRecDepth 20000 in
set_option maxHeartbeats 1000000 in
theorem c_copy19_23 (G : zG) (pg nw kp sn ks fo ft fe gt mx : zs) (re : Nat → Int64) (m : zs) (hh : Int64) : zK G mX5_copyFrom [.ref 19, .ref 23] (wW pg nw kp sn ks fo ft fe gt mx re m hh) none (wW pg nw kp ks ks fo ft fe gt mx re m hh) := by
  refine zK_of 0 rfl (by decide) trivial (Nat.le_of_ble_eq_true rfl) rfl ?_
  refine z_aload_n iX5_copyFrom_0 rfl ?_
  refine z_aload_n iX5_copyFrom_1 rfl ?_
  refine z_getf iX5_copyFrom_2 fX5_19 (w23_o) (SF_3 _ _) (by decide) ?_
  refine z_putf iX5_copyFrom_5 fX5_19 (w19_o) rfl rfl (Nat.le_of_ble_eq_true rfl) (by decide) ?_
  rw [w19_w3]
  refine z_aload_n iX5_copyFrom_8 rfl ?_
  refine z_getf iX5_copyFrom_9 fX5_9 (w23_o) (SF_0 _ _) (by decide) ?_
  refine z_iconst iX5_copyFrom_12 zk_0 ?_
  refine z_aload_n iX5_copyFrom_13 rfl ?_
  refine z_getf iX5_copyFrom_14 fX5_9 (w19_o) (SF_0 _ _) (by decide) ?_
  refine z_iconst iX5_copyFrom_17 zk_0 ?_
  refine z_bipush iX5_copyFrom_18 zb_6 ?_
  refine z_acopy iX5_copyFrom_20 lX5_23 (w23_0) (w19_0) rfl rfl rfl (by decide) (by decide) (by decide) (by decide) (by decide) (Nat.le_of_ble_eq_true rfl) ?_
  rw [w19_w0]
  refine z_aload_n iX5_copyFrom_23 rfl ?_
  refine z_getf iX5_copyFrom_24 fX5_13 (w23_o) (SF_1 _ _) (by decide) ?_
  refine z_iconst iX5_copyFrom_27 zk_0 ?_
  refine z_aload_n iX5_copyFrom_28 rfl ?_
  refine z_getf iX5_copyFrom_29 fX5_13 (w19_o) (SF_1 _ _) (by decide) ?_
  refine z_iconst iX5_copyFrom_32 zk_0 ?_
  refine z_bipush iX5_copyFrom_33 zb_6 ?_
  refine z_acopy iX5_copyFrom_35 lX5_23 (w23_1) (w19_1) rfl rfl rfl (by decide) (by decide) (by decide) (by decide) (by decide) (Nat.le_of_ble_eq_true rfl) ?_
  rw [w19_w1]
  refine z_aload_n iX5_copyFrom_38 rfl ?_
  refine z_getf iX5_copyFrom_39 fX5_16 (w23_o) (SF_2 _ _) (by decide) ?_
  refine z_iconst iX5_copyFrom_42 zk_0 ?_
  refine z_aload_n iX5_copyFrom_43 rfl ?_
  refine z_getf iX5_copyFrom_44 fX5_16 (w19_o) (SF_2 _ _) (by decide) ?_
  refine z_iconst iX5_copyFrom_47 zk_0 ?_
  refine z_bipush iX5_copyFrom_48 zb_6 ?_
  refine z_acopy iX5_copyFrom_50 lX5_23 (w23_2) (w19_2) rfl rfl rfl (by decide) (by decide) (by decide) (by decide) (by decide) (Nat.le_of_ble_eq_true rfl) ?_
  rw [w19_w2]
  exact z_return iX5_copyFrom_53 (rfl)
set_option maxRecDepth 20000 in
set_option maxHeartbeats 1000000 in
theorem c_copy23_19 (G : zG) (pg nw kp sn ks fo ft fe gt mx : zs) (re : Nat → Int64) (m : zs) (hh : Int64) : zK G mX5_copyFrom [.ref 23, .ref 19] (wW pg nw kp sn ks fo ft fe gt mx re m hh) none (wW pg nw kp sn sn fo ft fe gt mx re m hh) := by
  refine zK_of 0 rfl (by decide) trivial (Nat.le_of_ble_eq_true rfl) rfl ?_
  refine z_aload_n iX5_copyFrom_0 rfl ?_
  refine z_aload_n iX5_copyFrom_1 rfl ?_
  refine z_getf iX5_copyFrom_2 fX5_19 (w19_o) (SF_3 _ _) (by decide) ?_
  refine z_putf iX5_copyFrom_5 fX5_19 (w23_o) rfl rfl (Nat.le_of_ble_eq_true rfl) (by decide) ?_
  rw [w23_w3]
  refine z_aload_n iX5_copyFrom_8 rfl ?_
  refine z_getf iX5_copyFrom_9 fX5_9 (w19_o) (SF_0 _ _) (by decide) ?_
  refine z_iconst iX5_copyFrom_12 zk_0 ?_
  refine z_aload_n iX5_copyFrom_13 rfl ?_
  refine z_getf iX5_copyFrom_14 fX5_9 (w23_o) (SF_0 _ _) (by decide) ?_
  refine z_iconst iX5_copyFrom_17 zk_0 ?_
  refine z_bipush iX5_copyFrom_18 zb_6 ?_
  refine z_acopy iX5_copyFrom_20 lX5_23 (w19_0) (w23_0) rfl rfl rfl (by decide) (by decide) (by decide) (by decide) (by decide) (Nat.le_of_ble_eq_true rfl) ?_
  rw [w23_w0]
  refine z_aload_n iX5_copyFrom_23 rfl ?_
  refine z_getf iX5_copyFrom_24 fX5_13 (w19_o) (SF_1 _ _) (by decide) ?_
  refine z_iconst iX5_copyFrom_27 zk_0 ?_
  refine z_aload_n iX5_copyFrom_28 rfl ?_
  refine z_getf iX5_copyFrom_29 fX5_13 (w23_o) (SF_1 _ _) (by decide) ?_
  refine z_iconst iX5_copyFrom_32 zk_0 ?_
  refine z_bipush iX5_copyFrom_33 zb_6 ?_
  refine z_acopy iX5_copyFrom_35 lX5_23 (w19_1) (w23_1) rfl rfl rfl (by decide) (by decide) (by decide) (by decide) (by decide) (Nat.le_of_ble_eq_true rfl) ?_
  rw [w23_w1]
  refine z_aload_n iX5_copyFrom_38 rfl ?_
  refine z_getf iX5_copyFrom_39 fX5_16 (w19_o) (SF_2 _ _) (by decide) ?_
  refine z_iconst iX5_copyFrom_42 zk_0 ?_
  refine z_aload_n iX5_copyFrom_43 rfl ?_
  refine z_getf iX5_copyFrom_44 fX5_16 (w23_o) (SF_2 _ _) (by decide) ?_
  refine z_iconst iX5_copyFrom_47 zk_0 ?_
  refine z_bipush iX5_copyFrom_48 zb_6 ?_
  refine z_acopy iX5_copyFrom_50 lX5_23 (w19_2) (w23_2) rfl rfl rfl (by decide) (by decide) (by decide) (by decide) (by decide) (Nat.le_of_ble_eq_true rfl) ?_
  rw [w23_w2]
  exact z_return iX5_copyFrom_53 (rfl)
