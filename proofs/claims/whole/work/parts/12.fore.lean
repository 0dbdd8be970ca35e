theorem zf3 : ((3 : Fin 4) : Nat) = 3 := rfl
theorem bLoseFrom_10 (s : zs) (b q : Nat) : rA (bLoseFrom s b q) 10 = updN (rA s 10) b q := rfl
theorem bDayStep_ok {b : Nat} {x : Nat × zs} (h : bOK x.2) : bOK (bDayStep b x).2 := bDry_ok (bBurnS_ok (bWarm_ok h b) b) b
theorem bDayStep_N {b : Nat} {x : Nat × zs} (k : Nat) : rN (bDayStep b x).2 k = rN x.2 k := (bDry_N _ _ _).trans ((bBurnS_N _ _ _).trans (bWarm_N _ _ _ _ _))
theorem bDayL_ok : ∀ (n i : Nat) (x : Nat × zs), bOK x.2 → bOK (zfw bDayStep i n x).2
  | 0, _, _, h => h
  | n + 1, i, x, h => bDayL_ok n (i + 1) _ (bDayStep_ok h)
theorem bDayL_N : ∀ (n i : Nat) (x : Nat × zs) (k : Nat), rN (zfw bDayStep i n x).2 k = rN x.2 k
  | 0, _, _, _ => rfl
  | n + 1, i, x, k => (bDayL_N n (i + 1) _ k).trans (bDayStep_N k)
def bD (s : zs) : zs := bDayEnd (bDay s)
theorem bD_ok {s : zs} (h : bOK s) : bOK (bD s) := by
  have h1 := bDayL_ok (rN s 0) 0 (0, s) h
  exact h1
theorem bD_N (s : zs) {k : Nat} (hk : k ≠ 2) : rN (bD s) k = rN s k := by
  have h1 := bDayL_N (rN s 0) 0 (0, s) k
  show rN (uI (uN (bDay s).2 2 _) 4 _) k = _
  rw [rN_uI, rN_uN, if_neg hk]
  exact h1
theorem bDryBut_ok {s : zs} (h : bOK s) (b : Nat) : bOK (bDryBut s b) := bOK_of h (bDryBut_A b _ 0 s) (bDryBut_N b _ 0 s)
theorem bSl3_ok {s : zs} (h : bOK s) (b : Nat) (much : Int32) : bOK (bSl3 s b much) := by
  unfold bSl3
  split
  · exact bDryBut_ok (bSl2_ok h b much) b
  · exact bSl2_ok h b much
theorem bSl3_N (s : zs) (b : Nat) (much : Int32) (k : Nat) : rN (bSl3 s b much) k = rN s k := by
  unfold bSl3
  split
  · exact (bDryBut_N b _ 0 _ k).trans (bSl2_N s b much k)
  · exact bSl2_N s b much k
theorem bSlice_ok {s : zs} (h : bOK s) (b : Nat) (much : Int32) : bOK (bSlice s b much) := by
  unfold bSlice
  split
  · exact h
  · exact bSl3_ok h b much
theorem bSlice_N (s : zs) (b : Nat) (much : Int32) (k : Nat) : rN (bSlice s b much) k = rN s k := by
  unfold bSlice
  split
  · rfl
  · exact bSl3_N s b much k
theorem bTakeL_ok (b t : Nat) : ∀ (n i : Nat) (x : Nat × zs), bOK x.2 → bOK (zfw (bTakeStep b t) i n x).2
  | 0, _, _, h => h
  | n + 1, i, x, h => bTakeL_ok b t n (i + 1) _ (bTakeStep_ok h)
theorem bTakeL_le (b t : Nat) : ∀ (n i : Nat) (x : Nat × zs), (zfw (bTakeStep b t) i n x).1 ≤ x.1 + n
  | 0, _, _ => Nat.le_refl _
  | n + 1, i, x => Nat.le_trans (bTakeL_le b t n (i + 1) _) (by have := bTakeStep_le (b := b) (t := t) (p := i) (x := x); omega)
theorem bTake_ok {s : zs} (h : bOK s) (b t : Nat) : bOK (bTake s b t) := by
  obtain ⟨h11, h10, h6, h5, h0, h1⟩ := bTakeL_ok b t (rA s 10 b) 0 (0, s) h
  refine ⟨h11, fun j => ?_, h6, h5, h0, h1⟩
  show updN _ _ _ j ≤ 3
  unfold updN
  split
  · have h2 := bTakeL_le b t (rA s 10 b) 0 (0, s)
    have h3 := h.2.1 b
    have h4 : (0, s).1 = 0 := rfl
    omega
  · exact h10 j
def bLOStep (s : zs) (b : Nat) (x : Option Nat × Int32) : Option Nat × Int32 := if rA s 10 b = 0 then x else if ¬ oI x.1 = -1 ∧ x.2 ≤ rF s 7 (rA s 11 (b * 3 + rA s 10 b - 1)) then x else (some b, rF s 7 (rA s 11 (b * 3 + rA s 10 b - 1)))
def bLeastO (s : zs) : Option Nat := (zfw (bLOStep s) 0 (rN s 0) (none, nI 0)).1
theorem bLeast_O (s : zs) : bLeast s = oI (bLeastO s) := by
  have key : ∀ (n i : Nat) (x : Option Nat × Int32), zfw (bLeastStep s) i n (oI x.1, x.2) = (oI (zfw (bLOStep s) i n x).1, (zfw (bLOStep s) i n x).2) := by
    intro n
    induction n with
    | zero => intro i x; rfl
    | succ n ih =>
      intro i x
      have e : bLeastStep s i (oI x.1, x.2) = (oI (bLOStep s i x).1, (bLOStep s i x).2) := by
        unfold bLeastStep bLOStep
        split
        · rfl
        · split <;> rfl
      show zfw (bLeastStep s) (i + 1) n (bLeastStep s i (oI x.1, x.2)) = _
      rw [e, ih]
      rfl
  have h := key (rN s 0) 0 (none, nI 0)
  unfold bLeast bLeastO
  exact congrArg Prod.fst h
theorem bLeastO_lt {s : zs} {b : Nat} (h : bLeastO s = some b) : b < rN s 0 ∧ ¬ rA s 10 b = 0 := by
  have key : ∀ (n i : Nat) (x : Option Nat × Int32), (∀ b, x.1 = some b → b < i ∧ ¬ rA s 10 b = 0) → ∀ b, (zfw (bLOStep s) i n x).1 = some b → b < i + n ∧ ¬ rA s 10 b = 0 := by
    intro n
    induction n with
    | zero => intro i x hx b hb; exact hx b hb
    | succ n ih =>
      intro i x hx b hb
      have h2 := ih (i + 1) (bLOStep s i x) (fun c hc => by
        unfold bLOStep at hc
        split at hc
        · obtain ⟨a1, a2⟩ := hx c hc; exact ⟨by omega, a2⟩
        · split at hc
          · obtain ⟨a1, a2⟩ := hx c hc; exact ⟨by omega, a2⟩
          · cases hc
            exact ⟨by omega, by assumption⟩) b hb
      exact ⟨by omega, h2.2⟩
  have := key (rN s 0) 0 (none, nI 0) (fun c hc => by cases hc) b h
  exact ⟨by omega, this.2⟩
theorem oI_none : oI none = -1 := rfl
theorem oI_some (b : Nat) : oI (some b) = nI b := rfl
def fFed (much : Int32) : Nat → Int32 × zs → Bool × zs
  | 0, x => (decide (much ≤ x.1), x.2)
  | n + 1, x => if much ≤ x.1 then (true, x.2) else match bLeastO x.2 with
    | none => (false, x.2)
    | some b => fFed much n (x.1 + bGive x.2 b (nI 1), bSlice x.2 b (nI 1))
set_option maxRecDepth 20000 in
set_option maxHeartbeats 1000000 in
theorem lp_fed (G : zG) (pg nw kp sn ks fo fe gt mx : zs) (re : Nat → Int64) (m : zs) (hh : Int64) (much : Int32) : ∀ (n i : Nat) (x : Int32 × zs), bOK x.2 → i + n = 81 → zS G mX2_isFed 4 [some (.ref 27), some (.int much), some (.int x.1), some (.int (nI i)), none] [] (wW pg nw kp sn ks fo x.2 fe gt mx re m hh) (some (.int (zbo (fFed much n x).1))) (wW pg nw kp sn ks fo (fFed much n x).2 fe gt mx re m hh) := by
  intro n
  induction n with
  | zero =>
    intro i x hs hi
    refine z_iload_n iX2_isFed_4 rfl ?_
    refine z_bipush iX2_isFed_5 zb_81 ?_
    refine zn_ge iX2_isFed_7 (by omega) (by omega) (fun q7 => ?_) (fun q7 => absurd q7 (by omega))
    refine z_iload_n iX2_isFed_51 rfl ?_
    refine z_iload_n iX2_isFed_52 rfl ?_
    refine z_icmp_lt iX2_isFed_53 (fun q53 => ?_) (fun q53 => ?_)
    · refine z_iconst iX2_isFed_60 zk_0 ?_
      exact z_ireturn iX2_isFed_61 (by first | exact zbo_f (decide_eq_false (Int32.not_le.mpr q53)) | exact zbo_t (decide_eq_true (Int32.not_lt.mp q53))) (rfl)
    · refine z_iconst iX2_isFed_56 zk_1 ?_
      refine z_goto iX2_isFed_57 ?_
      exact z_ireturn iX2_isFed_61 (by first | exact zbo_f (decide_eq_false (Int32.not_le.mpr q53)) | exact zbo_t (decide_eq_true (Int32.not_lt.mp q53))) (rfl)
  | succ n ih =>
    intro i x hs hi
    obtain ⟨h11, h10, h6, h5, h0, h1⟩ := id hs
    by_cases hm : much ≤ x.1
    · skip
      refine z_iload_n iX2_isFed_4 rfl ?_
      refine z_bipush iX2_isFed_5 zb_81 ?_
      refine zn_ge iX2_isFed_7 (by omega) (by omega) (fun q7 => absurd q7 (by omega)) (fun q7 => ?_)
      refine z_iload_n iX2_isFed_10 rfl ?_
      refine z_iload_n iX2_isFed_11 rfl ?_
      refine z_icmp_ge iX2_isFed_12 (fun q12 => ?_) (fun q12 => absurd hm q12)
      refine z_iload_n iX2_isFed_51 rfl ?_
      refine z_iload_n iX2_isFed_52 rfl ?_
      refine z_icmp_lt iX2_isFed_53 (fun q53 => absurd q53 (Int32.not_lt.mpr hm)) (fun q53 => ?_)
      refine z_iconst iX2_isFed_56 zk_1 ?_
      refine z_goto iX2_isFed_57 ?_
      exact z_ireturn iX2_isFed_61 (by rw [fFed, if_pos hm]; rfl) (by rw [fFed, if_pos hm])
    · cases hb : bLeastO x.2 with
      | none =>
        have e1 : fFed much (n + 1) x = (false, x.2) := by rw [fFed, if_neg hm, hb]
        refine z_iload_n iX2_isFed_4 rfl ?_
        refine z_bipush iX2_isFed_5 zb_81 ?_
        refine zn_ge iX2_isFed_7 (by omega) (by omega) (fun q7 => absurd q7 (by omega)) (fun q7 => ?_)
        refine z_iload_n iX2_isFed_10 rfl ?_
        refine z_iload_n iX2_isFed_11 rfl ?_
        refine z_icmp_ge iX2_isFed_12 (fun q12 => absurd q12 hm) (fun q12 => ?_)
        refine z_aload_n iX2_isFed_15 rfl ?_
        refine z_getf iX2_isFed_16 fX2_12 (wf) (fF_0 _) (by decide) ?_
        refine z_cvi (y1 := mX0_bayOfLeastLight) iX2_isFed_19 lX2_30 kX0_bayOfLeastLight rfl (vB28 (c_least G _ 28 (by decide) _ hs)) (w28_o) rfl rfl rfl (Nat.le_of_ble_eq_true rfl) (by decide) ?_
        rw [bLeast_O, hb, oI_none]
        refine z_istore iX2_isFed_22 rfl (by decide) ?_
        refine z_iload iX2_isFed_24 rfl ?_
        refine z_iconst iX2_isFed_26 zk_m1 ?_
        refine z_icmp_ne iX2_isFed_27 (fun q27 => absurd rfl q27) (fun q27 => ?_)
        refine z_iconst iX2_isFed_30 zk_0 ?_
        exact z_ireturn iX2_isFed_31 (by rw [e1]; rfl) (by rw [e1])
      | some b =>
        have hb3 : b < 3 := by have := (bLeastO_lt hb).1; omega
        have e1 : fFed much (n + 1) x = fFed much n (x.1 + bGive x.2 b (nI 1), bSlice x.2 b (nI 1)) := by rw [fFed, if_neg hm, hb]
        refine z_iload_n iX2_isFed_4 rfl ?_
        refine z_bipush iX2_isFed_5 zb_81 ?_
        refine zn_ge iX2_isFed_7 (by omega) (by omega) (fun q7 => absurd q7 (by omega)) (fun q7 => ?_)
        refine z_iload_n iX2_isFed_10 rfl ?_
        refine z_iload_n iX2_isFed_11 rfl ?_
        refine z_icmp_ge iX2_isFed_12 (fun q12 => absurd q12 hm) (fun q12 => ?_)
        refine z_aload_n iX2_isFed_15 rfl ?_
        refine z_getf iX2_isFed_16 fX2_12 (wf) (fF_0 _) (by decide) ?_
        refine z_cvi (y1 := mX0_bayOfLeastLight) iX2_isFed_19 lX2_30 kX0_bayOfLeastLight rfl (vB28 (c_least G _ 28 (by decide) _ hs)) (w28_o) rfl rfl rfl (Nat.le_of_ble_eq_true rfl) (by decide) ?_
        rw [bLeast_O, hb, oI_some]
        refine z_istore iX2_isFed_22 rfl (by decide) ?_
        refine z_iload iX2_isFed_24 rfl ?_
        refine z_iconst iX2_isFed_26 zk_m1 ?_
        refine z_icmp_ne iX2_isFed_27 (fun q27 => ?_) (fun q27 => absurd q27 (nI_m1 (by omega)))
        refine z_iload_n iX2_isFed_32 rfl ?_
        refine z_aload_n iX2_isFed_33 rfl ?_
        refine z_getf iX2_isFed_34 fX2_12 (wf) (fF_0 _) (by decide) ?_
        refine z_iload iX2_isFed_37 rfl ?_
        refine z_iconst iX2_isFed_39 zk_1 ?_
        refine z_cvi (y1 := mX0_slice) iX2_isFed_40 lX2_33 kX0_slice rfl (vB28 (c_slice G _ 28 (by decide) _ hs b hb3 _)) (w28_o) rfl rfl rfl (Nat.le_of_ble_eq_true rfl) (by decide) ?_
        refine z_iadd iX2_isFed_43 ?_
        refine z_istore_n iX2_isFed_44 rfl (by decide) ?_
        refine z_iinc iX2_isFed_45 rfl nix_inc rfl (by decide) ?_
        refine z_goto iX2_isFed_48 ?_
        have k1 := ih (i + 1) (x.1 + bGive x.2 b (nI 1), bSlice x.2 b (nI 1)) (bSlice_ok hs b (nI 1)) (by omega)
        rw [e1]
        refine z_weak ?_ k1
        exact zle_w (by simp [zle, zf3])
set_option maxRecDepth 20000 in
set_option maxHeartbeats 1000000 in
theorem c_isFed (G : zG) (pg nw kp sn ks fo ft fe gt mx : zs) (re : Nat → Int64) (m : zs) (hh : Int64) (hs : bOK ft) (much : Int32) : zK G mX2_isFed [.ref 27, .int much] (wW pg nw kp sn ks fo ft fe gt mx re m hh) (some (.int (zbo (fFed much 81 (nI 0, ft)).1))) (wW pg nw kp sn ks fo (fFed much 81 (nI 0, ft)).2 fe gt mx re m hh) := by
  refine zK_of 3 rfl (by decide) (zbo_n _) (Nat.le_of_ble_eq_true rfl) rfl ?_
  refine z_iconst iX2_isFed_0 zk_0 ?_
  refine z_istore_n iX2_isFed_1 rfl (by decide) ?_
  refine z_iconst iX2_isFed_2 zk_0 ?_
  refine z_istore_n iX2_isFed_3 rfl (by decide) ?_
  exact lp_fed G pg nw kp sn ks fo fe gt mx re m hh much 81 0 (nI 0, ft) hs rfl
theorem fFed_ok (much : Int32) : ∀ (n : Nat) (x : Int32 × zs), bOK x.2 → bOK (fFed much n x).2
  | 0, _, h => h
  | n + 1, x, h => by
    unfold fFed
    split
    · exact h
    · split
      · exact h
      · exact fFed_ok much n _ (bSlice_ok h _ _)
def fLasts (much : Int32) : Nat → Nat → zs → Nat × zs
  | i, 0, x => (i, x)
  | i, n + 1, x => if (fFed much 81 (nI 0, x)).1 = true then fLasts much (i + 1) n (bD (fFed much 81 (nI 0, x)).2) else (i, (fFed much 81 (nI 0, x)).2)
set_option maxRecDepth 20000 in
set_option maxHeartbeats 1000000 in
theorem lp_lasts (G : zG) (pg nw kp sn ks fo fe gt mx : zs) (re : Nat → Int64) (m : zs) (hh : Int64) (much : Int32) : ∀ (n i : Nat) (x : zs), bOK x → i + n = 100 → zS G mX2_daysItLasts 10 [some (.ref 27), some (.ref 3), some (.int much), some (.int (nI i))] [] (wW pg nw kp sn ks fo x fe gt mx re m hh) (some (.int (nI (fLasts much i n x).1))) (wW pg nw kp sn ks fo (fLasts much i n x).2 fe gt mx re m hh) := by
  intro n
  induction n with
  | zero =>
    intro i x hs hi
    refine z_iload_n iX2_daysItLasts_10 rfl ?_
    refine z_bipush iX2_daysItLasts_11 zb_100 ?_
    refine zn_ge iX2_daysItLasts_13 (by omega) (by omega) (fun q13 => ?_) (fun q13 => absurd q13 (by omega))
    refine z_bipush iX2_daysItLasts_40 zb_100 ?_
    exact z_ireturn iX2_daysItLasts_42 (by rw [← hi]; rfl) (rfl)
  | succ n ih =>
    intro i x hs hi
    have hf := fFed_ok much 81 (nI 0, x) hs
    refine z_iload_n iX2_daysItLasts_10 rfl ?_
    refine z_bipush iX2_daysItLasts_11 zb_100 ?_
    refine zn_ge iX2_daysItLasts_13 (by omega) (by omega) (fun q13 => absurd q13 (by omega)) (fun q13 => ?_)
    refine z_aload_n iX2_daysItLasts_16 rfl ?_
    refine z_iload_n iX2_daysItLasts_17 rfl ?_
    refine z_cvi (y1 := mX2_isFed) iX2_daysItLasts_18 lX2_22 kX2_isFed rfl (c_isFed G pg nw kp sn ks fo x fe gt mx re m hh hs much) (wf) rfl rfl rfl (Nat.le_of_ble_eq_true rfl) (by decide) ?_
    refine zb_if_ne iX2_daysItLasts_21 (fun q21 => ?_) (fun q21 => ?_)
    · refine z_aload_n iX2_daysItLasts_26 rfl ?_
      refine z_getf iX2_daysItLasts_27 fX2_12 (wf) (fF_0 _) (by decide) ?_
      refine z_cvi (y1 := mX0_passDay) iX2_daysItLasts_30 lX2_26 kX0_passDay rfl (vB28 (c_passDay G _ 28 (by decide) _ hf)) (w28_o) rfl rfl rfl (Nat.le_of_ble_eq_true rfl) (by decide) ?_
      refine z_pop iX2_daysItLasts_33 rfl ?_
      refine z_iinc iX2_daysItLasts_34 rfl nix_inc rfl (by decide) ?_
      refine z_goto iX2_daysItLasts_37 ?_
      rw [fLasts, if_pos q21]
      exact ih (i + 1) _ (bD_ok hf) (by omega)
    · refine z_iload_n iX2_daysItLasts_24 rfl ?_
      exact z_ireturn iX2_daysItLasts_25 (by rw [fLasts, if_neg (by rw [q21]; decide)]) (by rw [fLasts, if_neg (by rw [q21]; decide)])
set_option maxRecDepth 20000 in
set_option maxHeartbeats 1000000 in
theorem c_lasts (G : zG) (pg nw kp sn ks fo ft fe gt mx : zs) (re : Nat → Int64) (m : zs) (hh : Int64) (hs : bOK nw) (much : Int32) : zK G mX2_daysItLasts [.ref 27, .ref 3, .int much] (wW pg nw kp sn ks fo ft fe gt mx re m hh) (some (.int (nI (fLasts much 0 100 nw).1))) (wW pg nw kp sn ks fo (fLasts much 0 100 nw).2 fe gt mx re m hh) := by
  refine zK_of 1 rfl (by decide) trivial (Nat.le_of_ble_eq_true rfl) rfl ?_
  refine z_aload_n iX2_daysItLasts_0 rfl ?_
  refine z_getf iX2_daysItLasts_1 fX2_12 (wf) (fF_0 _) (by decide) ?_
  refine z_aload_n iX2_daysItLasts_4 rfl ?_
  refine z_cvv (y1 := mX0_copyFrom) iX2_daysItLasts_5 lX2_18 kX0_copyFrom rfl (c_copy28_3 G pg nw kp sn ks fo ft fe gt mx re m hh) (w28_o) rfl rfl rfl (Nat.le_of_ble_eq_true rfl) (by decide) ?_
  refine z_iconst iX2_daysItLasts_8 zk_0 ?_
  refine z_istore_n iX2_daysItLasts_9 rfl (by decide) ?_
  exact lp_lasts G pg nw kp sn ks fo fe gt mx re m hh much 100 0 nw hs rfl
def fDig (plan days day : Nat) : Option Nat := match plan / 2 ^ (2 * (days - 1 - day)) % 4 with
  | 0 => none
  | d + 1 => some d
theorem fDig_I (plan days day : Nat) : nI (plan / 2 ^ (2 * (days - 1 - day)) % 4) - nI 1 = oI (fDig plan days day) := by
  unfold fDig
  split
  · rename_i h; rw [h]; decide +kernel
  · rename_i d h; rw [h]; exact nI_pred d
theorem fDig_lt {plan days day b : Nat} (h : fDig plan days day = some b) : b < 3 := by
  unfold fDig at h
  split at h
  · cases h
  · rename_i d hd; cases h; omega
theorem m1_lt {k : Nat} (h : k < 2 ^ 31) : (-1 : Int32) < nI k := by
  rw [Int32.lt_iff_toInt_lt, nI_toInt h]
  have h2 : (-1 : Int32).toInt = -1 := by decide +kernel
  omega
set_option maxRecDepth 20000 in
set_option maxHeartbeats 1000000 in
theorem c_bayIn (G : zG) (g : zh) (plan days day : Nat) (hp : plan < 2 ^ 31) (hd : day < days) (h4 : days ≤ 4) : zK G mX2_bayIn [.int (nI plan), .int (nI days), .int (nI day)] g (some (.int (oI (fDig plan days day)))) g := by
  refine zK_of 0 rfl (by decide) trivial (Nat.le_of_ble_eq_true rfl) rfl ?_
  refine z_iload_n iX2_bayIn_0 rfl ?_
  refine z_iconst iX2_bayIn_1 zk_2 ?_
  refine z_iload_n iX2_bayIn_2 rfl ?_
  refine z_iconst iX2_bayIn_3 zk_1 ?_
  refine z_isub iX2_bayIn_4 ?_
  refine z_top (nix_sub (by omega)) ?_
  refine z_iload_n iX2_bayIn_5 rfl ?_
  refine z_isub iX2_bayIn_6 ?_
  refine z_top (nix_sub (by omega)) ?_
  refine z_imul iX2_bayIn_7 ?_
  refine z_top nix_mul ?_
  refine z_ishr iX2_bayIn_8 ?_
  refine z_top (nix_shr (by omega) (by omega)) ?_
  refine z_iconst iX2_bayIn_9 zk_3 ?_
  refine z_iand iX2_bayIn_10 ?_
  refine z_top nix_and3 ?_
  refine z_iconst iX2_bayIn_11 zk_1 ?_
  refine z_isub iX2_bayIn_12 ?_
  exact z_ireturn iX2_bayIn_13 (fDig_I _ _ _) (rfl)
def fWorth (nw : zs) (days plan : Nat) : Nat → Nat → zs → Int32 × zs
  | _, 0, x => (rI x 3 - rI nw 3 + bLightAll x, x)
  | i, n + 1, x => match fDig plan days i with
    | none => if bLie x = 0 then fWorth nw days plan (i + 1) n (bD x) else (-1, x)
    | some b => if b < rN x 0 then (if rA x 10 b = 0 then (-1, x) else fWorth nw days plan (i + 1) n (bD (bSlice x b (nI 3)))) else (-1, x)
theorem bLieL_le {s : zs} (h : bOK s) : ∀ (n i x : Nat), zfw (fun b x => x + rA s 10 b) i n x ≤ x + 3 * n
  | 0, _, _ => Nat.le_refl _
  | n + 1, i, x => by
    have h1 := bLieL_le h n (i + 1) (x + rA s 10 i)
    have h2 := h.2.1 i
    show zfw _ (i + 1) n (x + rA s 10 i) ≤ _
    omega
theorem bLie_le {s : zs} (h : bOK s) : bLie s ≤ 9 := by
  have h1 := bLieL_le h (rN s 0) 0 0
  have h2 := h.2.2.2.2.1
  unfold bLie
  omega
set_option maxRecDepth 20000 in
set_option maxHeartbeats 1000000 in
theorem lp_worth (G : zG) (pg nw kp sn ks fo fe gt mx : zs) (re : Nat → Int64) (m : zs) (hh : Int64) (days plan : Nat) (hp : plan < 2 ^ 31) (h4 : days ≤ 4) : ∀ (n i : Nat) (x : zs), bOK x → i + n = days → zS G mX2_worthOf 11 [some (.ref 27), some (.ref 3), some (.int (nI days)), some (.int (nI plan)), some (.int (nI i)), none] [] (wW pg nw kp sn ks fo x fe gt mx re m hh) (some (.int (fWorth nw days plan i n x).1)) (wW pg nw kp sn ks fo (fWorth nw days plan i n x).2 fe gt mx re m hh) := by
  intro n
  induction n with
  | zero =>
    intro i x hs hi
    refine z_iload iX2_worthOf_11 rfl ?_
    refine z_iload_n iX2_worthOf_13 rfl ?_
    refine zn_ge iX2_worthOf_14 (by omega) (by omega) (fun q14 => ?_) (fun q14 => absurd q14 (by omega))
    refine z_aload_n iX2_worthOf_105 rfl ?_
    refine z_getf iX2_worthOf_106 fX2_12 (wf) (fF_0 _) (by decide) ?_
    refine z_getf iX2_worthOf_109 fX2_62 (w28_o) (BF_3 _ _) (by decide) ?_
    refine z_aload_n iX2_worthOf_112 rfl ?_
    refine z_getf iX2_worthOf_113 fX2_62 (w3_o) (BF_3 _ _) (by decide) ?_
    refine z_isub iX2_worthOf_116 ?_
    refine z_aload_n iX2_worthOf_117 rfl ?_
    refine z_getf iX2_worthOf_118 fX2_12 (wf) (fF_0 _) (by decide) ?_
    refine z_cvi (y1 := mX0_lightOfAll) iX2_worthOf_121 lX2_65 kX0_lightOfAll rfl (vB28 (c_LightAll G _ 28 (by decide) _ hs)) (w28_o) rfl rfl rfl (Nat.le_of_ble_eq_true rfl) (by decide) ?_
    refine z_iadd iX2_worthOf_124 ?_
    exact z_ireturn iX2_worthOf_125 (rfl) (rfl)
  | succ n ih =>
    intro i x hs hi
    obtain ⟨h11, h10, h6, h5, h0, h1⟩ := id hs
    have hl := bLie_le hs
    cases hd : fDig plan days i with
    | none =>
      have e1 : fWorth nw days plan i (n + 1) x = if bLie x = 0 then fWorth nw days plan (i + 1) n (bD x) else (-1, x) := by rw [fWorth, hd]
      refine z_iload iX2_worthOf_11 rfl ?_
      refine z_iload_n iX2_worthOf_13 rfl ?_
      refine zn_ge iX2_worthOf_14 (by omega) (by omega) (fun q14 => absurd q14 (by omega)) (fun q14 => ?_)
      refine z_iload_n iX2_worthOf_17 rfl ?_
      refine z_iload_n iX2_worthOf_18 rfl ?_
      refine z_iload iX2_worthOf_19 rfl ?_
      refine z_csi (y1 := mX2_bayIn) iX2_worthOf_21 lX2_48 kX2_bayIn rfl (c_bayIn G _ plan days i hp (by omega) h4) rfl rfl (Nat.le_of_ble_eq_true rfl) ?_
      rw [hd, oI_none]
      refine z_istore iX2_worthOf_24 rfl (by decide) ?_
      refine z_iload iX2_worthOf_26 rfl ?_
      refine z_aload_n iX2_worthOf_28 rfl ?_
      refine z_getf iX2_worthOf_29 fX2_12 (wf) (fF_0 _) (by decide) ?_
      refine z_getf iX2_worthOf_32 fX2_52 (w28_o) (BF_0 _ _) (by decide) ?_
      refine z_icmp_lt iX2_worthOf_35 (fun q35 => ?_) (fun q35 => absurd (m1_lt (by omega)) q35)
      refine z_iload iX2_worthOf_40 rfl ?_
      refine z_iconst iX2_worthOf_42 zk_m1 ?_
      refine z_icmp_ne iX2_worthOf_43 (fun q43 => absurd rfl q43) (fun q43 => ?_)
      refine z_aload_n iX2_worthOf_46 rfl ?_
      refine z_getf iX2_worthOf_47 fX2_12 (wf) (fF_0 _) (by decide) ?_
      refine z_cvi (y1 := mX0_howManyLie) iX2_worthOf_50 lX2_55 kX0_howManyLie rfl (vB28 (c_Lie G _ 28 (by decide) _ hs)) (w28_o) rfl rfl rfl (Nat.le_of_ble_eq_true rfl) (by decide) ?_
      refine zn_if_le iX2_worthOf_53 (by omega) (fun q53 => ?_) (fun q53 => ?_)
      · refine z_iload iX2_worthOf_74 rfl ?_
        refine z_iconst iX2_worthOf_76 zk_m1 ?_
        refine z_icmp_eq iX2_worthOf_77 (fun q77 => ?_) (fun q77 => absurd rfl q77)
        refine z_aload_n iX2_worthOf_91 rfl ?_
        refine z_getf iX2_worthOf_92 fX2_12 (wf) (fF_0 _) (by decide) ?_
        refine z_cvi (y1 := mX0_passDay) iX2_worthOf_95 lX2_26 kX0_passDay rfl (vB28 (c_passDay G _ 28 (by decide) _ hs)) (w28_o) rfl rfl rfl (Nat.le_of_ble_eq_true rfl) (by decide) ?_
        refine z_pop iX2_worthOf_98 rfl ?_
        refine z_iinc iX2_worthOf_99 rfl nix_inc rfl (by decide) ?_
        refine z_goto iX2_worthOf_102 ?_
        rw [e1, if_pos q53]
        refine z_weak ?_ (ih (i + 1) _ (bD_ok hs) (by omega))
        exact zle_w (by simp [zle, zf3])
      · refine z_goto iX2_worthOf_56 ?_
        refine z_iconst iX2_worthOf_72 zk_m1 ?_
        exact z_ireturn iX2_worthOf_73 (by rw [e1, if_neg (by omega)]) (by rw [e1, if_neg (by omega)])
    | some b =>
      have hb3 := fDig_lt hd
      have e1 : fWorth nw days plan i (n + 1) x = if b < rN x 0 then (if rA x 10 b = 0 then (-1, x) else fWorth nw days plan (i + 1) n (bD (bSlice x b (nI 3)))) else (-1, x) := by rw [fWorth, hd]
      refine z_iload iX2_worthOf_11 rfl ?_
      refine z_iload_n iX2_worthOf_13 rfl ?_
      refine zn_ge iX2_worthOf_14 (by omega) (by omega) (fun q14 => absurd q14 (by omega)) (fun q14 => ?_)
      refine z_iload_n iX2_worthOf_17 rfl ?_
      refine z_iload_n iX2_worthOf_18 rfl ?_
      refine z_iload iX2_worthOf_19 rfl ?_
      refine z_csi (y1 := mX2_bayIn) iX2_worthOf_21 lX2_48 kX2_bayIn rfl (c_bayIn G _ plan days i hp (by omega) h4) rfl rfl (Nat.le_of_ble_eq_true rfl) ?_
      rw [hd, oI_some]
      refine z_istore iX2_worthOf_24 rfl (by decide) ?_
      refine z_iload iX2_worthOf_26 rfl ?_
      refine z_aload_n iX2_worthOf_28 rfl ?_
      refine z_getf iX2_worthOf_29 fX2_12 (wf) (fF_0 _) (by decide) ?_
      refine z_getf iX2_worthOf_32 fX2_52 (w28_o) (BF_0 _ _) (by decide) ?_
      refine zn_lt iX2_worthOf_35 (by omega) (by omega) (fun q35 => ?_) (fun q35 => ?_)
      · refine z_iload iX2_worthOf_40 rfl ?_
        refine z_iconst iX2_worthOf_42 zk_m1 ?_
        refine z_icmp_ne iX2_worthOf_43 (fun q43 => ?_) (fun q43 => absurd q43 (nI_m1 (by omega)))
        refine z_aload_n iX2_worthOf_59 rfl ?_
        refine z_getf iX2_worthOf_60 fX2_12 (wf) (fF_0 _) (by decide) ?_
        refine z_getf iX2_worthOf_63 fX2_58 (w28_o) (BF_10 _ _) (by decide) ?_
        refine z_iload iX2_worthOf_66 rfl ?_
        refine z_iaload iX2_worthOf_68 (w28_10) rfl (by omega) (by decide) (by decide) ?_
        have h12 := h10 b
        refine zn_if_ne iX2_worthOf_69 (by omega) (fun q69 => ?_) (fun q69 => ?_)
        · refine z_iload iX2_worthOf_74 rfl ?_
          refine z_iconst iX2_worthOf_76 zk_m1 ?_
          refine z_icmp_eq iX2_worthOf_77 (fun q77 => absurd q77 (nI_m1 (by omega))) (fun q77 => ?_)
          refine z_aload_n iX2_worthOf_80 rfl ?_
          refine z_getf iX2_worthOf_81 fX2_12 (wf) (fF_0 _) (by decide) ?_
          refine z_iload iX2_worthOf_84 rfl ?_
          refine z_iconst iX2_worthOf_86 zk_3 ?_
          refine z_cvi (y1 := mX0_slice) iX2_worthOf_87 lX2_33 kX0_slice rfl (vB28 (c_slice G _ 28 (by decide) _ hs b hb3 _)) (w28_o) rfl rfl rfl (Nat.le_of_ble_eq_true rfl) (by decide) ?_
          refine z_pop iX2_worthOf_90 rfl ?_
          refine z_aload_n iX2_worthOf_91 rfl ?_
          refine z_getf iX2_worthOf_92 fX2_12 (wf) (fF_0 _) (by decide) ?_
          refine z_cvi (y1 := mX0_passDay) iX2_worthOf_95 lX2_26 kX0_passDay rfl (vB28 (c_passDay G _ 28 (by decide) _ (bSlice_ok hs b (nI 3)))) (w28_o) rfl rfl rfl (Nat.le_of_ble_eq_true rfl) (by decide) ?_
          refine z_pop iX2_worthOf_98 rfl ?_
          refine z_iinc iX2_worthOf_99 rfl nix_inc rfl (by decide) ?_
          refine z_goto iX2_worthOf_102 ?_
          rw [e1, if_pos q35, if_neg q69]
          refine z_weak ?_ (ih (i + 1) _ (bD_ok (bSlice_ok hs b (nI 3))) (by omega))
          exact zle_w (by simp [zle, zf3])
        · refine z_iconst iX2_worthOf_72 zk_m1 ?_
          exact z_ireturn iX2_worthOf_73 (by rw [e1, if_pos q35, if_pos q69]) (by rw [e1, if_pos q35, if_pos q69])
      · refine z_iconst iX2_worthOf_38 zk_m1 ?_
        exact z_ireturn iX2_worthOf_39 (by rw [e1, if_neg (by omega)]) (by rw [e1, if_neg (by omega)])
set_option maxRecDepth 20000 in
set_option maxHeartbeats 1000000 in
theorem c_worthOf (G : zG) (pg nw kp sn ks fo ft fe gt mx : zs) (re : Nat → Int64) (m : zs) (hh : Int64) (hs : bOK nw) (days plan : Nat) (hp : plan < 2 ^ 31) (h4 : days ≤ 4) : zK G mX2_worthOf [.ref 27, .ref 3, .int (nI days), .int (nI plan)] (wW pg nw kp sn ks fo ft fe gt mx re m hh) (some (.int (fWorth nw days plan 0 days nw).1)) (wW pg nw kp sn ks fo (fWorth nw days plan 0 days nw).2 fe gt mx re m hh) := by
  refine zK_of 2 rfl (by decide) trivial (Nat.le_of_ble_eq_true rfl) rfl ?_
  refine z_aload_n iX2_worthOf_0 rfl ?_
  refine z_getf iX2_worthOf_1 fX2_12 (wf) (fF_0 _) (by decide) ?_
  refine z_aload_n iX2_worthOf_4 rfl ?_
  refine z_cvv (y1 := mX0_copyFrom) iX2_worthOf_5 lX2_18 kX0_copyFrom rfl (c_copy28_3 G pg nw kp sn ks fo ft fe gt mx re m hh) (w28_o) rfl rfl rfl (Nat.le_of_ble_eq_true rfl) (by decide) ?_
  refine z_iconst iX2_worthOf_8 zk_0 ?_
  refine z_istore iX2_worthOf_9 rfl (by decide) ?_
  exact lp_worth G pg nw kp sn ks fo fe gt mx re m hh days plan hp h4 days 0 nw hs (Nat.zero_add _)
def fPlanStep (nw : zs) (days p : Nat) (x : zs × zs) : zs × zs := (if (fWorth nw days p 0 days nw).1 ≤ rI x.1 1 then x.1 else uN (uI x.1 1 (fWorth nw days p 0 days nw).1) 2 p, (fWorth nw days p 0 days nw).2)
def fPlan (nw fo ft : zs) (days : Nat) : zs × zs := zfw (fPlanStep nw days) 0 (1 * 2 ^ (2 * days)) (uN (uI fo 1 (-1)) 2 0, ft)
theorem zpow4 {days : Nat} (h : days ≤ 4) : 1 * 2 ^ (2 * days) ≤ 256 := by
  have := Nat.pow_le_pow_right (n := 2) (by decide) (show 2 * days ≤ 8 by omega)
  omega
set_option maxRecDepth 20000 in
set_option maxHeartbeats 1000000 in
theorem lp_plan (G : zG) (pg nw kp sn ks fe gt mx : zs) (re : Nat → Int64) (m : zs) (hh : Int64) (hs : bOK nw) (days : Nat) (h4 : days ≤ 4) (P : Nat) (hP : 1 * 2 ^ (2 * days) = P) (hP2 : P ≤ 256) : ∀ (n i : Nat) (x : zs × zs), i + n = P → zS G mX2_makePlan 12 [some (.ref 27), some (.ref 3), some (.int (nI days)), some (.int (nI i)), none] [] (wW pg nw kp sn ks x.1 x.2 fe gt mx re m hh) none (wW pg nw kp sn ks (zfw (fPlanStep nw days) i n x).1 (zfw (fPlanStep nw days) i n x).2 fe gt mx re m hh) := by
  intro n
  induction n with
  | zero =>
    intro i x hi
    refine z_iload_n iX2_makePlan_12 rfl ?_
    refine z_iconst iX2_makePlan_13 zk_1 ?_
    refine z_iconst iX2_makePlan_14 zk_2 ?_
    refine z_iload_n iX2_makePlan_15 rfl ?_
    refine z_imul iX2_makePlan_16 ?_
    refine z_top nix_mul ?_
    refine z_ishl iX2_makePlan_17 ?_
    refine z_top ((nix_shl (by omega) (zp1 (by omega))).trans (congrArg nI hP)) ?_
    refine zn_ge iX2_makePlan_18 (by omega) (by omega) (fun q18 => ?_) (fun q18 => absurd q18 (by omega))
    exact z_return iX2_makePlan_56 (rfl)
  | succ n ih =>
    intro i x hi
    refine z_iload_n iX2_makePlan_12 rfl ?_
    refine z_iconst iX2_makePlan_13 zk_1 ?_
    refine z_iconst iX2_makePlan_14 zk_2 ?_
    refine z_iload_n iX2_makePlan_15 rfl ?_
    refine z_imul iX2_makePlan_16 ?_
    refine z_top nix_mul ?_
    refine z_ishl iX2_makePlan_17 ?_
    refine z_top ((nix_shl (by omega) (zp1 (by omega))).trans (congrArg nI hP)) ?_
    refine zn_ge iX2_makePlan_18 (by omega) (by omega) (fun q18 => absurd q18 (by omega)) (fun q18 => ?_)
    refine z_aload_n iX2_makePlan_21 rfl ?_
    refine z_aload_n iX2_makePlan_22 rfl ?_
    refine z_iload_n iX2_makePlan_23 rfl ?_
    refine z_iload_n iX2_makePlan_24 rfl ?_
    refine z_cvi (y1 := mX2_worthOf) iX2_makePlan_25 lX2_44 kX2_worthOf rfl (c_worthOf G pg nw kp sn ks x.1 x.2 fe gt mx re m hh hs days i (by omega) h4) (wf) rfl rfl rfl (Nat.le_of_ble_eq_true rfl) (by decide) ?_
    refine z_istore iX2_makePlan_28 rfl (by decide) ?_
    refine z_iload iX2_makePlan_30 rfl ?_
    refine z_aload_n iX2_makePlan_32 rfl ?_
    refine z_getf iX2_makePlan_33 fX2_37 (wf) (fF_1 _) (by decide) ?_
    refine z_icmp_le iX2_makePlan_36 (fun q36 => ?_) (fun q36 => ?_)
    · refine z_iinc iX2_makePlan_50 rfl nix_inc rfl (by decide) ?_
      refine z_goto iX2_makePlan_53 ?_
      first
        | (have k1 := ih (i + 1) (fPlanStep nw days i x) (by omega)
           rw [zfw]
           have e1 : fPlanStep nw days i x = (x.1, (fWorth nw days i 0 days nw).2) := by rw [fPlanStep, if_pos q36]
           rw [e1] at k1 ⊢
           refine z_weak ?_ k1
           exact zle_w (by simp [zle, zf3]))
        | (have k1 := ih (i + 1) (fPlanStep nw days i x) (by omega)
           rw [zfw]
           have e1 : fPlanStep nw days i x = (uN (uI x.1 1 (fWorth nw days i 0 days nw).1) 2 i, (fWorth nw days i 0 days nw).2) := by rw [fPlanStep, if_neg q36]
           rw [e1] at k1 ⊢
           refine z_weak ?_ k1
           exact zle_w (by simp [zle, zf3]))
    · refine z_aload_n iX2_makePlan_39 rfl ?_
      refine z_iload iX2_makePlan_40 rfl ?_
      refine z_putf iX2_makePlan_42 fX2_37 (wf) rfl rfl (Nat.le_of_ble_eq_true rfl) (by decide) ?_
      rw [wf_1]
      refine z_aload_n iX2_makePlan_45 rfl ?_
      refine z_iload_n iX2_makePlan_46 rfl ?_
      refine z_putf iX2_makePlan_47 fX2_41 (wf) rfl rfl (Nat.le_of_ble_eq_true rfl) (by decide) ?_
      rw [wf_2]
      refine z_iinc iX2_makePlan_50 rfl nix_inc rfl (by decide) ?_
      refine z_goto iX2_makePlan_53 ?_
      first
        | (have k1 := ih (i + 1) (fPlanStep nw days i x) (by omega)
           rw [zfw]
           have e1 : fPlanStep nw days i x = (x.1, (fWorth nw days i 0 days nw).2) := by rw [fPlanStep, if_pos q36]
           rw [e1] at k1 ⊢
           refine z_weak ?_ k1
           exact zle_w (by simp [zle, zf3]))
        | (have k1 := ih (i + 1) (fPlanStep nw days i x) (by omega)
           rw [zfw]
           have e1 : fPlanStep nw days i x = (uN (uI x.1 1 (fWorth nw days i 0 days nw).1) 2 i, (fWorth nw days i 0 days nw).2) := by rw [fPlanStep, if_neg q36]
           rw [e1] at k1 ⊢
           refine z_weak ?_ k1
           exact zle_w (by simp [zle, zf3]))
set_option maxRecDepth 20000 in
set_option maxHeartbeats 1000000 in
theorem c_makePlan (G : zG) (pg nw kp sn ks fo ft fe gt mx : zs) (re : Nat → Int64) (m : zs) (hh : Int64) (hs : bOK nw) (days : Nat) (h4 : days ≤ 4) : zK G mX2_makePlan [.ref 27, .ref 3, .int (nI days)] (wW pg nw kp sn ks fo ft fe gt mx re m hh) none (wW pg nw kp sn ks (fPlan nw fo ft days).1 (fPlan nw fo ft days).2 fe gt mx re m hh) := by
  refine zK_of 2 rfl (by decide) trivial (Nat.le_of_ble_eq_true rfl) rfl ?_
  refine z_aload_n iX2_makePlan_0 rfl ?_
  refine z_iconst iX2_makePlan_1 zk_m1 ?_
  refine z_putf iX2_makePlan_2 fX2_37 (wf) rfl rfl (Nat.le_of_ble_eq_true rfl) (by decide) ?_
  rw [wf_1]
  refine z_aload_n iX2_makePlan_5 rfl ?_
  refine z_iconst iX2_makePlan_6 zk_0 ?_
  refine z_putf iX2_makePlan_7 fX2_41 (wf) rfl rfl (Nat.le_of_ble_eq_true rfl) (by decide) ?_
  rw [wf_2]
  refine z_iconst iX2_makePlan_10 zk_0 ?_
  refine z_istore_n iX2_makePlan_11 rfl (by decide) ?_
  exact lp_plan G pg nw kp sn ks fe gt mx re m hh hs days h4 _ rfl (zpow4 h4) _ 0 (uN (uI fo 1 (-1)) 2 0, ft) (Nat.zero_add _)
def fPB (fo : zs) (days day : Nat) : Option Nat := if day < days then fDig (rN fo 2) days day else none
set_option maxRecDepth 20000 in
set_option maxHeartbeats 1000000 in
theorem c_plannedBay (G : zG) (pg nw kp sn ks fo ft fe gt mx : zs) (re : Nat → Int64) (m : zs) (hh : Int64) (days day : Nat) (hp : rN fo 2 < 2 ^ 31) (h4 : days ≤ 4) (hd : day < 4) : zK G mX2_plannedBay [.ref 27, .int (nI days), .int (nI day)] (wW pg nw kp sn ks fo ft fe gt mx re m hh) (some (.int (oI (fPB fo days day)))) (wW pg nw kp sn ks fo ft fe gt mx re m hh) := by
  refine zK_of 0 rfl (by decide) trivial (Nat.le_of_ble_eq_true rfl) rfl ?_
  refine z_iload_n iX2_plannedBay_0 rfl ?_
  refine z_iload_n iX2_plannedBay_1 rfl ?_
  refine zn_lt iX2_plannedBay_2 (by omega) (by omega) (fun q2 => ?_) (fun q2 => ?_)
  · refine z_aload_n iX2_plannedBay_9 rfl ?_
    refine z_getf iX2_plannedBay_10 fX2_41 (wf) (fF_2 _) (by decide) ?_
    refine z_iload_n iX2_plannedBay_13 rfl ?_
    refine z_iload_n iX2_plannedBay_14 rfl ?_
    refine z_csi (y1 := mX2_bayIn) iX2_plannedBay_15 lX2_48 kX2_bayIn rfl (c_bayIn G _ _ days day hp (by omega) h4) rfl rfl (Nat.le_of_ble_eq_true rfl) ?_
    exact z_ireturn iX2_plannedBay_18 (by first | rw [fPB, if_pos q2] | rw [fPB, if_neg (by omega), oI_none]) (rfl)
  · refine z_iconst iX2_plannedBay_5 zk_m1 ?_
    refine z_goto iX2_plannedBay_6 ?_
    exact z_ireturn iX2_plannedBay_18 (by first | rw [fPB, if_pos q2] | rw [fPB, if_neg (by omega), oI_none]) (rfl)
def fSL (b : Nat) : Nat → zs → Bool × zs
  | 0, x => (true, x)
  | n + 1, x => if bBurnN (bWarm x b) b = 0 then fSL b n (bDry (bBurnS (bWarm x b) b) b) else (false, bBurnS (bWarm x b) b)
theorem bBurnN_le {s : zs} (h : bOK s) (b : Nat) : bBurnN s b ≤ 3 := by
  have h1 := h.2.1 b
  unfold bBurnN
  split <;> omega
set_option maxRecDepth 20000 in
set_option maxHeartbeats 1000000 in
theorem lp_sw (G : zG) (pg nw kp sn ks fo fe gt mx : zs) (re : Nat → Int64) (m : zs) (hh : Int64) (b t : Nat) (hb : b < 3) : ∀ (n i : Nat) (x : zs), bOK x → i + n = 10 → zS G mX2_isSafeWithout 20 [some (.ref 27), some (.ref 3), some (.int (nI b)), some (.int (nI t)), some (.int (nI i))] [] (wW pg nw kp sn ks fo x fe gt mx re m hh) (some (.int (zbo (fSL b n x).1))) (wW pg nw kp sn ks fo (fSL b n x).2 fe gt mx re m hh) := by
  intro n
  induction n with
  | zero =>
    intro i x hs hi
    refine z_iload iX2_isSafeWithout_20 rfl ?_
    refine z_bipush iX2_isSafeWithout_22 zb_10 ?_
    refine zn_ge iX2_isSafeWithout_24 (by omega) (by omega) (fun q24 => ?_) (fun q24 => absurd q24 (by omega))
    refine z_iconst iX2_isSafeWithout_62 zk_1 ?_
    exact z_ireturn iX2_isSafeWithout_63 (zbo_t rfl) (rfl)
  | succ n ih =>
    intro i x hs hi
    have k1 := bWarm_ok hs b
    have k2 := bBurnS_ok k1 b
    have k3 := bBurnN_le k1 b
    refine z_iload iX2_isSafeWithout_20 rfl ?_
    refine z_bipush iX2_isSafeWithout_22 zb_10 ?_
    refine zn_ge iX2_isSafeWithout_24 (by omega) (by omega) (fun q24 => absurd q24 (by omega)) (fun q24 => ?_)
    refine z_aload_n iX2_isSafeWithout_27 rfl ?_
    refine z_getf iX2_isSafeWithout_28 fX2_12 (wf) (fF_0 _) (by decide) ?_
    refine z_iload_n iX2_isSafeWithout_31 rfl ?_
    refine z_cvv (y1 := mX0_warmBay) iX2_isSafeWithout_32 lX2_79 kX0_warmBay rfl (vB28 (c_warmBay G _ 28 (by decide) _ hs b hb)) (w28_o) rfl rfl rfl (Nat.le_of_ble_eq_true rfl) (by decide) ?_
    refine z_aload_n iX2_isSafeWithout_35 rfl ?_
    refine z_getf iX2_isSafeWithout_36 fX2_12 (wf) (fF_0 _) (by decide) ?_
    refine z_iload_n iX2_isSafeWithout_39 rfl ?_
    refine z_cvi (y1 := mX0_burnBay) iX2_isSafeWithout_40 lX2_83 kX0_burnBay rfl (vB28 (c_burnBay G _ 28 (by decide) _ k1 b hb)) (w28_o) rfl rfl rfl (Nat.le_of_ble_eq_true rfl) (by decide) ?_
    refine zn_if_le iX2_isSafeWithout_43 (by omega) (fun q43 => ?_) (fun q43 => ?_)
    · refine z_aload_n iX2_isSafeWithout_48 rfl ?_
      refine z_getf iX2_isSafeWithout_49 fX2_12 (wf) (fF_0 _) (by decide) ?_
      refine z_iload_n iX2_isSafeWithout_52 rfl ?_
      refine z_cvv (y1 := mX0_dryTop) iX2_isSafeWithout_53 lX2_87 kX0_dryTop rfl (vB28 (c_dryTop G _ 28 (by decide) _ k2 b hb)) (w28_o) rfl rfl rfl (Nat.le_of_ble_eq_true rfl) (by decide) ?_
      refine z_iinc iX2_isSafeWithout_56 rfl nix_inc rfl (by decide) ?_
      refine z_goto iX2_isSafeWithout_59 ?_
      rw [fSL, if_pos q43]
      exact ih (i + 1) _ (bDry_ok k2 b) (by omega)
    · refine z_iconst iX2_isSafeWithout_46 zk_0 ?_
      exact z_ireturn iX2_isSafeWithout_47 (zbo_f (by rw [fSL, if_neg (by omega)])) (by rw [fSL, if_neg (by omega)])
set_option maxRecDepth 20000 in
set_option maxHeartbeats 1000000 in
theorem c_safeW (G : zG) (pg nw kp sn ks fo ft fe gt mx : zs) (re : Nat → Int64) (m : zs) (hh : Int64) (hs : bOK nw) (b t : Nat) (hb : b < 3) (ht : t < 2 ^ 30) : zK G mX2_isSafeWithout [.ref 27, .ref 3, .int (nI b), .int (nI t)] (wW pg nw kp sn ks fo ft fe gt mx re m hh) (some (.int (zbo (fSL b 10 (bTake nw b t)).1))) (wW pg nw kp sn ks fo (fSL b 10 (bTake nw b t)).2 fe gt mx re m hh) := by
  refine zK_of 1 rfl (by decide) (zbo_n _) (Nat.le_of_ble_eq_true rfl) rfl ?_
  refine z_aload_n iX2_isSafeWithout_0 rfl ?_
  refine z_getf iX2_isSafeWithout_1 fX2_12 (wf) (fF_0 _) (by decide) ?_
  refine z_aload_n iX2_isSafeWithout_4 rfl ?_
  refine z_cvv (y1 := mX0_copyFrom) iX2_isSafeWithout_5 lX2_18 kX0_copyFrom rfl (c_copy28_3 G pg nw kp sn ks fo ft fe gt mx re m hh) (w28_o) rfl rfl rfl (Nat.le_of_ble_eq_true rfl) (by decide) ?_
  refine z_aload_n iX2_isSafeWithout_8 rfl ?_
  refine z_getf iX2_isSafeWithout_9 fX2_12 (wf) (fF_0 _) (by decide) ?_
  refine z_iload_n iX2_isSafeWithout_12 rfl ?_
  refine z_iload_n iX2_isSafeWithout_13 rfl ?_
  refine z_cvv (y1 := mX0_takeOut) iX2_isSafeWithout_14 lX2_75 kX0_takeOut rfl (vB28 (c_takeOut G _ 28 (by decide) _ hs b t hb ht)) (w28_o) rfl rfl rfl (Nat.le_of_ble_eq_true rfl) (by decide) ?_
  refine z_iconst iX2_isSafeWithout_17 zk_0 ?_
  refine z_istore iX2_isSafeWithout_18 rfl (by decide) ?_
  exact lp_sw G pg nw kp sn ks fo fe gt mx re m hh b t hb 10 0 _ (bTake_ok hs b t) rfl
def fSafeStep (nw : zs) (b t : Nat) (x : Nat × Int32 × zs) : Nat × Int32 × zs := if x.2.1 ≤ bLightSome nw b t then x else if (fSL b 10 (bTake nw b t)).1 = true then (t, bLightSome nw b t, (fSL b 10 (bTake nw b t)).2) else (x.1, x.2.1, (fSL b 10 (bTake nw b t)).2)
def fSafe (nw ft : zs) (b : Nat) : Nat × Int32 × zs := zfw (fSafeStep nw b) 0 (1 * 2 ^ rA nw 10 b) (0, nI 28, ft)
theorem zpow3 {k : Nat} (h : k ≤ 3) : 1 * 2 ^ k ≤ 8 := by
  have := Nat.pow_le_pow_right (n := 2) (by decide) h
  omega
set_option maxRecDepth 20000 in
set_option maxHeartbeats 1000000 in
theorem lp_safe (G : zG) (pg nw kp sn ks fo fe gt mx : zs) (re : Nat → Int64) (m : zs) (hh : Int64) (hs : bOK nw) (b : Nat) (hb : b < 3) (P : Nat) (hP : 1 * 2 ^ rA nw 10 b = P) (hP2 : P ≤ 8) : ∀ (n i : Nat) (x : Nat × Int32 × zs), i + n = P → zS G mX2_safe 9 [some (.ref 27), some (.ref 3), some (.int (nI b)), some (.int (nI x.1)), some (.int x.2.1), some (.int (nI i)), none] [] (wW pg nw kp sn ks fo x.2.2 fe gt mx re m hh) (some (.int (nI (zfw (fSafeStep nw b) i n x).1))) (wW pg nw kp sn ks fo (zfw (fSafeStep nw b) i n x).2.2 fe gt mx re m hh) := by
  have hh2 := hs.2.1 b
  intro n
  induction n with
  | zero =>
    intro i x hi
    refine z_iload iX2_safe_9 rfl ?_
    refine z_iconst iX2_safe_11 zk_1 ?_
    refine z_aload_n iX2_safe_12 rfl ?_
    refine z_getf iX2_safe_13 fX2_58 (w3_o) (BF_10 _ _) (by decide) ?_
    refine z_iload_n iX2_safe_16 rfl ?_
    refine z_iaload iX2_safe_17 (w3_10) rfl (by omega) (by decide) (by decide) ?_
    refine z_ishl iX2_safe_18 ?_
    refine z_top ((nix_shl (by omega) (zp1 (by omega))).trans (congrArg nI hP)) ?_
    refine zn_ge iX2_safe_19 (by omega) (by omega) (fun q19 => ?_) (fun q19 => absurd q19 (by omega))
    refine z_iload_n iX2_safe_62 rfl ?_
    exact z_ireturn iX2_safe_63 (rfl) (rfl)
  | succ n ih =>
    intro i x hi
    refine z_iload iX2_safe_9 rfl ?_
    refine z_iconst iX2_safe_11 zk_1 ?_
    refine z_aload_n iX2_safe_12 rfl ?_
    refine z_getf iX2_safe_13 fX2_58 (w3_o) (BF_10 _ _) (by decide) ?_
    refine z_iload_n iX2_safe_16 rfl ?_
    refine z_iaload iX2_safe_17 (w3_10) rfl (by omega) (by decide) (by decide) ?_
    refine z_ishl iX2_safe_18 ?_
    refine z_top ((nix_shl (by omega) (zp1 (by omega))).trans (congrArg nI hP)) ?_
    refine zn_ge iX2_safe_19 (by omega) (by omega) (fun q19 => absurd q19 (by omega)) (fun q19 => ?_)
    refine z_aload_n iX2_safe_22 rfl ?_
    refine z_iload_n iX2_safe_23 rfl ?_
    refine z_iload iX2_safe_24 rfl ?_
    refine z_cvi (y1 := mX0_lightOfSome) iX2_safe_26 lX2_68 kX0_lightOfSome rfl (vB3 (c_lightSome G _ 3 (by decide) _ hs b i hb (by omega))) (w3_o) rfl rfl rfl (Nat.le_of_ble_eq_true rfl) (by decide) ?_
    refine z_istore iX2_safe_29 rfl (by decide) ?_
    refine z_iload iX2_safe_31 rfl ?_
    refine z_iload iX2_safe_33 rfl ?_
    refine z_icmp_ge iX2_safe_35 (fun q35 => ?_) (fun q35 => ?_)
    · refine z_iinc iX2_safe_56 rfl nix_inc rfl (by decide) ?_
      refine z_goto iX2_safe_59 ?_
      first
        | (have k1 := ih (i + 1) (fSafeStep nw b i x) (by omega)
           rw [zfw]
           have e1 : fSafeStep nw b i x = x := by rw [fSafeStep, if_pos q35]
           rw [e1] at k1 ⊢
           refine z_weak ?_ k1
           exact zle_w (by simp [zle, zf3]))
        | (have k1 := ih (i + 1) (fSafeStep nw b i x) (by omega)
           rw [zfw]
           have e1 : fSafeStep nw b i x = (i, bLightSome nw b i, (fSL b 10 (bTake nw b i)).2) := by rw [fSafeStep, if_neg q35, if_pos q46]
           rw [e1] at k1 ⊢
           refine z_weak ?_ k1
           exact zle_w (by simp [zle, zf3]))
        | (have k1 := ih (i + 1) (fSafeStep nw b i x) (by omega)
           rw [zfw]
           have e1 : fSafeStep nw b i x = (x.1, x.2.1, (fSL b 10 (bTake nw b i)).2) := by rw [fSafeStep, if_neg q35, if_neg (by rw [q46]; decide)]
           rw [e1] at k1 ⊢
           refine z_weak ?_ k1
           exact zle_w (by simp [zle, zf3]))
    · refine z_aload_n iX2_safe_38 rfl ?_
      refine z_aload_n iX2_safe_39 rfl ?_
      refine z_iload_n iX2_safe_40 rfl ?_
      refine z_iload iX2_safe_41 rfl ?_
      refine z_cvi (y1 := mX2_isSafeWithout) iX2_safe_43 lX2_71 kX2_isSafeWithout rfl (c_safeW G pg nw kp sn ks fo x.2.2 fe gt mx re m hh hs b i hb (by omega)) (wf) rfl rfl rfl (Nat.le_of_ble_eq_true rfl) (by decide) ?_
      refine zb_if_eq iX2_safe_46 (fun q46 => ?_) (fun q46 => ?_)
      · refine z_iinc iX2_safe_56 rfl nix_inc rfl (by decide) ?_
        refine z_goto iX2_safe_59 ?_
        first
          | (have k1 := ih (i + 1) (fSafeStep nw b i x) (by omega)
             rw [zfw]
             have e1 : fSafeStep nw b i x = x := by rw [fSafeStep, if_pos q35]
             rw [e1] at k1 ⊢
             refine z_weak ?_ k1
             exact zle_w (by simp [zle, zf3]))
          | (have k1 := ih (i + 1) (fSafeStep nw b i x) (by omega)
             rw [zfw]
             have e1 : fSafeStep nw b i x = (i, bLightSome nw b i, (fSL b 10 (bTake nw b i)).2) := by rw [fSafeStep, if_neg q35, if_pos q46]
             rw [e1] at k1 ⊢
             refine z_weak ?_ k1
             exact zle_w (by simp [zle, zf3]))
          | (have k1 := ih (i + 1) (fSafeStep nw b i x) (by omega)
             rw [zfw]
             have e1 : fSafeStep nw b i x = (x.1, x.2.1, (fSL b 10 (bTake nw b i)).2) := by rw [fSafeStep, if_neg q35, if_neg (by rw [q46]; decide)]
             rw [e1] at k1 ⊢
             refine z_weak ?_ k1
             exact zle_w (by simp [zle, zf3]))
      · refine z_iload iX2_safe_49 rfl ?_
        refine z_istore iX2_safe_51 rfl (by decide) ?_
        refine z_iload iX2_safe_53 rfl ?_
        refine z_istore_n iX2_safe_55 rfl (by decide) ?_
        refine z_iinc iX2_safe_56 rfl nix_inc rfl (by decide) ?_
        refine z_goto iX2_safe_59 ?_
        first
          | (have k1 := ih (i + 1) (fSafeStep nw b i x) (by omega)
             rw [zfw]
             have e1 : fSafeStep nw b i x = x := by rw [fSafeStep, if_pos q35]
             rw [e1] at k1 ⊢
             refine z_weak ?_ k1
             exact zle_w (by simp [zle, zf3]))
          | (have k1 := ih (i + 1) (fSafeStep nw b i x) (by omega)
             rw [zfw]
             have e1 : fSafeStep nw b i x = (i, bLightSome nw b i, (fSL b 10 (bTake nw b i)).2) := by rw [fSafeStep, if_neg q35, if_pos q46]
             rw [e1] at k1 ⊢
             refine z_weak ?_ k1
             exact zle_w (by simp [zle, zf3]))
          | (have k1 := ih (i + 1) (fSafeStep nw b i x) (by omega)
             rw [zfw]
             have e1 : fSafeStep nw b i x = (x.1, x.2.1, (fSL b 10 (bTake nw b i)).2) := by rw [fSafeStep, if_neg q35, if_neg (by rw [q46]; decide)]
             rw [e1] at k1 ⊢
             refine z_weak ?_ k1
             exact zle_w (by simp [zle, zf3]))
set_option maxRecDepth 20000 in
set_option maxHeartbeats 1000000 in
theorem c_safe (G : zG) (pg nw kp sn ks fo ft fe gt mx : zs) (re : Nat → Int64) (m : zs) (hh : Int64) (hs : bOK nw) (b : Nat) (hb : b < 3) : zK G mX2_safe [.ref 27, .ref 3, .int (nI b)] (wW pg nw kp sn ks fo ft fe gt mx re m hh) (some (.int (nI (fSafe nw ft b).1))) (wW pg nw kp sn ks fo (fSafe nw ft b).2.2 fe gt mx re m hh) := by
  refine zK_of 4 rfl (by decide) trivial (Nat.le_of_ble_eq_true rfl) rfl ?_
  refine z_iconst iX2_safe_0 zk_0 ?_
  refine z_istore_n iX2_safe_1 rfl (by decide) ?_
  refine z_bipush iX2_safe_2 zb_28 ?_
  refine z_istore iX2_safe_4 rfl (by decide) ?_
  refine z_iconst iX2_safe_6 zk_0 ?_
  refine z_istore iX2_safe_7 rfl (by decide) ?_
  exact lp_safe G pg nw kp sn ks fo fe gt mx re m hh hs b hb _ rfl (zpow3 (hs.2.1 b)) _ 0 (0, nI 28, ft) (Nat.zero_add _)
def fDays (n : Nat) (x : zs) : zs := zfw (fun _ x => bD x) 0 n x
theorem fDaysL_ok : ∀ (n i : Nat) (x : zs), bOK x → bOK (zfw (fun _ x => bD x) i n x)
  | 0, _, _, h => h
  | n + 1, i, x, h => fDaysL_ok n (i + 1) _ (bD_ok h)
def fBits (nw x : zs) : Nat := zfw (fun c bits => if rF x 7 c = 0 then (if rF nw 7 c = 0 then bits else bits ||| 1 * 2 ^ c) else bits) 0 (rN nw 1) 0
set_option maxRecDepth 20000 in
set_option maxHeartbeats 1000000 in
theorem lp_bits (G : zG) (pg nw kp sn ks fo fe gt mx : zs) (re : Nat → Int64) (m : zs) (hh : Int64) (hs : bOK nw) (days : Nat) (x : zs) (hx : bOK x) : ∀ (n i : Nat) (bits : Nat), i + n = rN nw 1 → zS G mX2_goneBehind 34 [some (.ref 27), some (.ref 3), some (.int (nI days)), some (.int (nI bits)), some (.int (nI i))] [] (wW pg nw kp sn ks fo x fe gt mx re m hh) (some (.int (nI (zfw (fun c bits => if rF x 7 c = 0 then (if rF nw 7 c = 0 then bits else bits ||| 1 * 2 ^ c) else bits) i n bits)))) (wW pg nw kp sn ks fo x fe gt mx re m hh) := by
  have hc := hs.2.2.2.2.2
  intro n
  induction n with
  | zero =>
    intro i bits hi
    refine z_iload iX2_goneBehind_34 rfl ?_
    refine z_aload_n iX2_goneBehind_36 rfl ?_
    refine z_getf iX2_goneBehind_37 fX2_90 (w3_o) (BF_1 _ _) (by decide) ?_
    refine zn_ge iX2_goneBehind_40 (by omega) (by omega) (fun q40 => ?_) (fun q40 => absurd q40 (by omega))
    refine z_iload_n iX2_goneBehind_77 rfl ?_
    exact z_ireturn iX2_goneBehind_78 (rfl) (rfl)
  | succ n ih =>
    intro i bits hi
    refine z_iload iX2_goneBehind_34 rfl ?_
    refine z_aload_n iX2_goneBehind_36 rfl ?_
    refine z_getf iX2_goneBehind_37 fX2_90 (w3_o) (BF_1 _ _) (by decide) ?_
    refine zn_ge iX2_goneBehind_40 (by omega) (by omega) (fun q40 => absurd q40 (by omega)) (fun q40 => ?_)
    refine z_aload_n iX2_goneBehind_43 rfl ?_
    refine z_getf iX2_goneBehind_44 fX2_12 (wf) (fF_0 _) (by decide) ?_
    refine z_iload iX2_goneBehind_47 rfl ?_
    refine z_cvi (y1 := mX0_isGone) iX2_goneBehind_49 lX2_93 kX0_isGone rfl (vB28 (c_isGone G _ 28 (by decide) _ hx i (by omega))) (w28_o) rfl rfl rfl (Nat.le_of_ble_eq_true rfl) (by decide) ?_
    refine zb_if_eq iX2_goneBehind_52 (fun q52 => ?_) (fun q52 => ?_)
    · refine z_iinc iX2_goneBehind_71 rfl nix_inc rfl (by decide) ?_
      refine z_goto iX2_goneBehind_74 ?_
      first
        | (simp only [zfw, if_neg (of_decide_eq_false q52)]
           exact ih (i + 1) _ (by omega))
        | (simp only [zfw, if_pos (of_decide_eq_true q52), if_pos (of_decide_eq_true q61)]
           exact ih (i + 1) _ (by omega))
        | (simp only [zfw, if_pos (of_decide_eq_true q52), if_neg (of_decide_eq_false q61)]
           exact ih (i + 1) _ (by omega))
    · refine z_aload_n iX2_goneBehind_55 rfl ?_
      refine z_iload iX2_goneBehind_56 rfl ?_
      refine z_cvi (y1 := mX0_isGone) iX2_goneBehind_58 lX2_93 kX0_isGone rfl (vB3 (c_isGone G _ 3 (by decide) _ hs i (by omega))) (w3_o) rfl rfl rfl (Nat.le_of_ble_eq_true rfl) (by decide) ?_
      refine zb_if_ne iX2_goneBehind_61 (fun q61 => ?_) (fun q61 => ?_)
      · refine z_iinc iX2_goneBehind_71 rfl nix_inc rfl (by decide) ?_
        refine z_goto iX2_goneBehind_74 ?_
        first
          | (simp only [zfw, if_neg (of_decide_eq_false q52)]
             exact ih (i + 1) _ (by omega))
          | (simp only [zfw, if_pos (of_decide_eq_true q52), if_pos (of_decide_eq_true q61)]
             exact ih (i + 1) _ (by omega))
          | (simp only [zfw, if_pos (of_decide_eq_true q52), if_neg (of_decide_eq_false q61)]
             exact ih (i + 1) _ (by omega))
      · refine z_iload_n iX2_goneBehind_64 rfl ?_
        refine z_iconst iX2_goneBehind_65 zk_1 ?_
        refine z_iload iX2_goneBehind_66 rfl ?_
        refine z_ishl iX2_goneBehind_68 ?_
        refine z_top (nix_shl (by omega) (zp1 (by omega))) ?_
        refine z_ior iX2_goneBehind_69 ?_
        refine z_top nix_or ?_
        refine z_istore_n iX2_goneBehind_70 rfl (by decide) ?_
        refine z_iinc iX2_goneBehind_71 rfl nix_inc rfl (by decide) ?_
        refine z_goto iX2_goneBehind_74 ?_
        first
          | (simp only [zfw, if_neg (of_decide_eq_false q52)]
             exact ih (i + 1) _ (by omega))
          | (simp only [zfw, if_pos (of_decide_eq_true q52), if_pos (of_decide_eq_true q61)]
             exact ih (i + 1) _ (by omega))
          | (simp only [zfw, if_pos (of_decide_eq_true q52), if_neg (of_decide_eq_false q61)]
             exact ih (i + 1) _ (by omega))
set_option maxRecDepth 20000 in
set_option maxHeartbeats 1000000 in
theorem lp_gone (G : zG) (pg nw kp sn ks fo fe gt mx : zs) (re : Nat → Int64) (m : zs) (hh : Int64) (hs : bOK nw) (days : Nat) (hd : days ≤ 20) : ∀ (n i : Nat) (x : zs), bOK x → i + n = days → zS G mX2_goneBehind 10 [some (.ref 27), some (.ref 3), some (.int (nI days)), some (.int (nI i)), none] [] (wW pg nw kp sn ks fo x fe gt mx re m hh) (some (.int (nI (fBits nw (zfw (fun _ x => bD x) i n x))))) (wW pg nw kp sn ks fo (zfw (fun _ x => bD x) i n x) fe gt mx re m hh) := by
  intro n
  induction n with
  | zero =>
    intro i x hx hi
    refine z_iload_n iX2_goneBehind_10 rfl ?_
    refine z_iload_n iX2_goneBehind_11 rfl ?_
    refine zn_ge iX2_goneBehind_12 (by omega) (by omega) (fun q12 => ?_) (fun q12 => absurd q12 (by omega))
    refine z_iconst iX2_goneBehind_29 zk_0 ?_
    refine z_istore_n iX2_goneBehind_30 rfl (by decide) ?_
    refine z_iconst iX2_goneBehind_31 zk_0 ?_
    refine z_istore iX2_goneBehind_32 rfl (by decide) ?_
    exact lp_bits G pg nw kp sn ks fo fe gt mx re m hh hs days x hx _ 0 0 (Nat.zero_add _)
  | succ n ih =>
    intro i x hx hi
    refine z_iload_n iX2_goneBehind_10 rfl ?_
    refine z_iload_n iX2_goneBehind_11 rfl ?_
    refine zn_ge iX2_goneBehind_12 (by omega) (by omega) (fun q12 => absurd q12 (by omega)) (fun q12 => ?_)
    refine z_aload_n iX2_goneBehind_15 rfl ?_
    refine z_getf iX2_goneBehind_16 fX2_12 (wf) (fF_0 _) (by decide) ?_
    refine z_cvi (y1 := mX0_passDay) iX2_goneBehind_19 lX2_26 kX0_passDay rfl (vB28 (c_passDay G _ 28 (by decide) _ hx)) (w28_o) rfl rfl rfl (Nat.le_of_ble_eq_true rfl) (by decide) ?_
    refine z_pop iX2_goneBehind_22 rfl ?_
    refine z_iinc iX2_goneBehind_23 rfl nix_inc rfl (by decide) ?_
    refine z_goto iX2_goneBehind_26 ?_
    exact ih (i + 1) _ (bD_ok hx) (by omega)
set_option maxRecDepth 20000 in
set_option maxHeartbeats 1000000 in
theorem c_gone (G : zG) (pg nw kp sn ks fo ft fe gt mx : zs) (re : Nat → Int64) (m : zs) (hh : Int64) (hs : bOK nw) (days : Nat) (hd : days ≤ 20) : zK G mX2_goneBehind [.ref 27, .ref 3, .int (nI days)] (wW pg nw kp sn ks fo ft fe gt mx re m hh) (some (.int (nI (fBits nw (fDays days nw))))) (wW pg nw kp sn ks fo (fDays days nw) fe gt mx re m hh) := by
  refine zK_of 2 rfl (by decide) trivial (Nat.le_of_ble_eq_true rfl) rfl ?_
  refine z_aload_n iX2_goneBehind_0 rfl ?_
  refine z_getf iX2_goneBehind_1 fX2_12 (wf) (fF_0 _) (by decide) ?_
  refine z_aload_n iX2_goneBehind_4 rfl ?_
  refine z_cvv (y1 := mX0_copyFrom) iX2_goneBehind_5 lX2_18 kX0_copyFrom rfl (c_copy28_3 G pg nw kp sn ks fo ft fe gt mx re m hh) (w28_o) rfl rfl rfl (Nat.le_of_ble_eq_true rfl) (by decide) ?_
  refine z_iconst iX2_goneBehind_8 zk_0 ?_
  refine z_istore_n iX2_goneBehind_9 rfl (by decide) ?_
  exact lp_gone G pg nw kp sn ks fo fe gt mx re m hh hs days hd _ 0 nw hs (Nat.zero_add _)
def nxt (k : Nat) : Nat := (1103515245 * k + 12345) % 2147483648
theorem nxt_lt (k : Nat) : nxt k < 2147483648 := Nat.mod_lt _ (by decide)
theorem lN_and31 {n : Nat} (h : n < 2 ^ 64) : lN n &&& 2147483647 = lN (n % 2147483648) := by
  apply Int64.toBitVec_inj.mp
  show BitVec.ofNat 64 n &&& BitVec.ofNat 64 2147483647 = BitVec.ofNat 64 (n % 2147483648)
  apply BitVec.eq_of_toNat_eq
  simp only [BitVec.toNat_and, BitVec.toNat_ofNat]
  rw [show (2147483647 % 2 ^ 64) = 2 ^ 31 - 1 from rfl, Nat.and_two_pow_sub_one_eq_mod]
  omega
theorem nxt_L {k : Nat} (h : k < 2147483648) : ((1103515245 : Int64) * lN k + 12345) &&& 2147483647 = lN (nxt k) := by
  have e1 : (1103515245 : Int64) = lN 1103515245 := by decide +kernel
  have e2 : (12345 : Int64) = lN 12345 := by decide +kernel
  rw [e1, e2, lN_mul, lN_add, lN_and31 (by omega)]
  rfl
theorem lN_shr16 {k : Nat} (h : k < 2147483648) : lN k >>> ((nI 16).toInt64 &&& 63) = lN (k / 65536) := by
  apply Int64.toInt_inj.mp
  have hs : (((nI 16).toInt64 &&& 63).toBitVec.smod 64).toNat = 16 := by decide +kernel
  have h1 : (lN k >>> ((nI 16).toInt64 &&& 63)).toBitVec = (lN k).toBitVec.sshiftRight (((nI 16).toInt64 &&& 63).toBitVec.smod 64).toNat := by rfl
  have h2 : (lN k >>> ((nI 16).toInt64 &&& 63)).toInt = (lN k).toInt >>> 16 := by
    show (lN k >>> ((nI 16).toInt64 &&& 63)).toBitVec.toInt = _
    rw [h1, hs, BitVec.toInt_sshiftRight]
    rfl
  rw [h2, pk_lT (by omega), pk_lT (by omega)]
  rw [Int.shiftRight_eq_div_pow]
  omega
theorem nI_lN {k : Nat} (h : k < 2 ^ 31) : (nI k).toInt64 = lN k := nI_l h
set_option maxRecDepth 20000 in
set_option maxHeartbeats 1000000 in
theorem c_seed (G : zG) (g : zh) (k : Nat) (hk : k < 2147483648) : zK G mX2_seedBehind [.long (lN k)] g (some (.long (lN (nxt k)))) g := by
  refine zK_of 0 rfl (by decide) trivial (Nat.le_of_ble_eq_true rfl) rfl ?_
  refine z_ldc2 iX2_seedBehind_0 gX2_107 ?_
  refine z_lload_n iX2_seedBehind_3 rfl ?_
  refine z_lmul iX2_seedBehind_4 ?_
  refine z_ldc2 iX2_seedBehind_5 gX2_109 ?_
  refine z_ladd iX2_seedBehind_8 ?_
  refine z_ldc2 iX2_seedBehind_9 gX2_111 ?_
  refine z_land iX2_seedBehind_12 ?_
  exact z_lreturn iX2_seedBehind_13 (nxt_L hk) (rfl)
set_option maxRecDepth 20000 in
set_option maxHeartbeats 1000000 in
theorem c_drawOf (G : zG) (g : zh) (k d : Nat) (hk : k < 2147483648) (h0 : 0 < d) (hd : d < 2 ^ 31) : zK G mX2_drawOf [.long (lN k), .int (nI d)] g (some (.int (nI (k / 65536 % d)))) g := by
  refine zK_of 0 rfl (by decide) trivial (Nat.le_of_ble_eq_true rfl) rfl ?_
  refine z_iload_n iX2_drawOf_0 rfl ?_
  refine zn_if_gt iX2_drawOf_1 (by omega) (fun q1 => ?_) (fun q1 => absurd h0 (by omega))
  refine z_lload_n iX2_drawOf_8 rfl ?_
  refine z_bipush iX2_drawOf_9 zb_16 ?_
  refine z_lshr iX2_drawOf_11 ?_
  refine z_iload_n iX2_drawOf_12 rfl ?_
  refine z_i2l iX2_drawOf_13 ?_
  rw [lN_shr16 hk, nI_lN hd]
  refine z_lrem iX2_drawOf_14 (fun e => by have := (pk_lEQ (a := d) (b := 0) (by omega) (by decide)).mp (e.trans (by decide +kernel)); omega) ?_
  refine z_l2i iX2_drawOf_15 ?_
  exact z_ireturn iX2_drawOf_16 (by rw [pk_lRem (by omega) h0 (by omega)]; exact lN_i _) (rfl)
def fWinStep (x : Nat × zs) : Nat × zs := (nxt (nxt x.1), bD (bSlice x.2 (nxt (nxt x.1) / 65536 % rN x.2 0) (nI (1 + nxt x.1 / 65536 % 3))))
def fWin (n : Nat) (x : Nat × zs) : Nat × zs := zfw (fun _ x => fWinStep x) 0 n x
def fWinV (nw : zs) (what : Nat) (x : Nat × zs) : Int32 := if what = 0 then rI x.2 3 - rI nw 3 else if what = 1 then rI x.2 4 - rI nw 4 else nI x.1
set_option maxRecDepth 20000 in
set_option maxHeartbeats 1000000 in
theorem lp_winter (G : zG) (pg nw kp sn ks fo fe gt mx : zs) (re : Nat → Int64) (m : zs) (hh : Int64) (days seed what : Nat) (hd : days ≤ 60) (hw : what < 2 ^ 31) : ∀ (n i : Nat) (x : Nat × zs), bOK x.2 → 0 < rN x.2 0 → x.1 < 2147483648 → i + n = days → zS G mX2_winter 15 [some (.ref 27), some (.ref 3), some (.int (nI days)), some (.int (nI seed)), some (.int (nI what)), some (.long (lN x.1)), none, some (.int (nI i)), none] [] (wW pg nw kp sn ks fo x.2 fe gt mx re m hh) (some (.int (fWinV nw what (zfw (fun _ x => fWinStep x) i n x)))) (wW pg nw kp sn ks fo (zfw (fun _ x => fWinStep x) i n x).2 fe gt mx re m hh) := by
  intro n
  induction n with
  | zero =>
    intro i x hs hb hk hi
    refine z_iload iX2_winter_15 rfl ?_
    refine z_iload_n iX2_winter_17 rfl ?_
    refine zn_ge iX2_winter_18 (by omega) (by omega) (fun q18 => ?_) (fun q18 => absurd q18 (by omega))
    refine z_iload iX2_winter_81 rfl ?_
    by_cases c83_0 : what = 0
    · refine z_lookup (off := 25) (tgt := 108) iX2_winter_83 (by decide +kernel) (by rw [c83_0]; decide +kernel) (by decide) ?_
      refine z_aload_n iX2_winter_108 rfl ?_
      refine z_getf iX2_winter_109 fX2_12 (wf) (fF_0 _) (by decide) ?_
      refine z_getf iX2_winter_112 fX2_62 (w28_o) (BF_3 _ _) (by decide) ?_
      refine z_aload_n iX2_winter_115 rfl ?_
      refine z_getf iX2_winter_116 fX2_62 (w3_o) (BF_3 _ _) (by decide) ?_
      refine z_isub iX2_winter_119 ?_
      exact z_ireturn iX2_winter_120 (by first | (simp [fWinV, zfw, *]; done) | (simp [fWinV, zfw, *]; exact lN_i _)) (rfl)
    by_cases c83_1 : what = 1
    · refine z_lookup (off := 38) (tgt := 121) iX2_winter_83 (by decide +kernel) (by rw [c83_1]; decide +kernel) (by decide) ?_
      refine z_aload_n iX2_winter_121 rfl ?_
      refine z_getf iX2_winter_122 fX2_12 (wf) (fF_0 _) (by decide) ?_
      refine z_getf iX2_winter_125 fX2_104 (w28_o) (BF_4 _ _) (by decide) ?_
      refine z_aload_n iX2_winter_128 rfl ?_
      refine z_getf iX2_winter_129 fX2_104 (w3_o) (BF_4 _ _) (by decide) ?_
      refine z_isub iX2_winter_132 ?_
      exact z_ireturn iX2_winter_133 (by first | (simp [fWinV, zfw, *]; done) | (simp [fWinV, zfw, *]; exact lN_i _)) (rfl)
    refine z_lookup (off := 51) (tgt := 134) iX2_winter_83 (by decide +kernel) (by simp [Op.lookupswitch.offset, znen (by omega) c83_0 0 rfl, znen (by omega) c83_1 1 rfl]) (by decide) ?_
    refine z_lload iX2_winter_134 rfl ?_
    refine z_l2i iX2_winter_136 ?_
    exact z_ireturn iX2_winter_137 (by first | (simp [fWinV, zfw, *]; done) | (simp [fWinV, zfw, *]; exact lN_i _)) (rfl)
  | succ n ih =>
    intro i x hs hb hk hi
    obtain ⟨h11, h10, h6, h5, h0, h1⟩ := id hs
    have hb3 : nxt (nxt x.1) / 65536 % rN x.2 0 < 3 := Nat.lt_of_lt_of_le (Nat.mod_lt _ hb) h0
    have hk1 := nxt_lt x.1
    have hk2 := nxt_lt (nxt x.1)
    refine z_iload iX2_winter_15 rfl ?_
    refine z_iload_n iX2_winter_17 rfl ?_
    refine zn_ge iX2_winter_18 (by omega) (by omega) (fun q18 => absurd q18 (by omega)) (fun q18 => ?_)
    refine z_lload iX2_winter_21 rfl ?_
    refine z_csl (y1 := mX2_seedBehind) iX2_winter_23 lX2_96 kX2_seedBehind rfl (c_seed G _ _ hk) rfl rfl (Nat.le_of_ble_eq_true rfl) ?_
    refine z_lstore iX2_winter_26 rfl (by decide) ?_
    refine z_iconst iX2_winter_28 zk_1 ?_
    refine z_lload iX2_winter_29 rfl ?_
    refine z_iconst iX2_winter_31 zk_3 ?_
    refine z_csi (y1 := mX2_drawOf) iX2_winter_32 lX2_100 kX2_drawOf rfl (c_drawOf G _ _ 3 hk1 (by decide) (by decide)) rfl rfl (Nat.le_of_ble_eq_true rfl) ?_
    refine z_iadd iX2_winter_35 ?_
    refine z_top nix_add ?_
    refine z_istore iX2_winter_36 rfl (by decide) ?_
    refine z_lload iX2_winter_38 rfl ?_
    refine z_csl (y1 := mX2_seedBehind) iX2_winter_40 lX2_96 kX2_seedBehind rfl (c_seed G _ _ hk1) rfl rfl (Nat.le_of_ble_eq_true rfl) ?_
    refine z_lstore iX2_winter_43 rfl (by decide) ?_
    refine z_aload_n iX2_winter_45 rfl ?_
    refine z_getf iX2_winter_46 fX2_12 (wf) (fF_0 _) (by decide) ?_
    refine z_lload iX2_winter_49 rfl ?_
    refine z_aload_n iX2_winter_51 rfl ?_
    refine z_getf iX2_winter_52 fX2_12 (wf) (fF_0 _) (by decide) ?_
    refine z_getf iX2_winter_55 fX2_52 (w28_o) (BF_0 _ _) (by decide) ?_
    refine z_csi (y1 := mX2_drawOf) iX2_winter_58 lX2_100 kX2_drawOf rfl (c_drawOf G _ _ _ hk2 hb (by omega)) rfl rfl (Nat.le_of_ble_eq_true rfl) ?_
    refine z_iload iX2_winter_61 rfl ?_
    refine z_cvi (y1 := mX0_slice) iX2_winter_63 lX2_33 kX0_slice rfl (vB28 (c_slice G _ 28 (by decide) _ hs _ hb3 _)) (w28_o) rfl rfl rfl (Nat.le_of_ble_eq_true rfl) (by decide) ?_
    refine z_pop iX2_winter_66 rfl ?_
    refine z_aload_n iX2_winter_67 rfl ?_
    refine z_getf iX2_winter_68 fX2_12 (wf) (fF_0 _) (by decide) ?_
    refine z_cvi (y1 := mX0_passDay) iX2_winter_71 lX2_26 kX0_passDay rfl (vB28 (c_passDay G _ 28 (by decide) _ (bSlice_ok hs _ _))) (w28_o) rfl rfl rfl (Nat.le_of_ble_eq_true rfl) (by decide) ?_
    refine z_pop iX2_winter_74 rfl ?_
    refine z_iinc iX2_winter_75 rfl nix_inc rfl (by decide) ?_
    refine z_goto iX2_winter_78 ?_
    refine z_weak ?_ (ih (i + 1) (fWinStep x) (bD_ok (bSlice_ok hs _ _)) (by show 0 < rN (bD _) 0; rw [bD_N _ (by decide), bSlice_N]; exact hb) hk2 (by omega))
    exact zle_w (by simp [zle, zf3, fWinStep])
set_option maxRecDepth 20000 in
set_option maxHeartbeats 1000000 in
theorem c_winter (G : zG) (pg nw kp sn ks fo ft fe gt mx : zs) (re : Nat → Int64) (m : zs) (hh : Int64) (hs : bOK nw) (hb : 0 < rN nw 0) (days seed what : Nat) (hd : days ≤ 60) (hk : seed < 2147483648) (hw : what < 2 ^ 31) : zK G mX2_winter [.ref 27, .ref 3, .int (nI days), .int (nI seed), .int (nI what)] (wW pg nw kp sn ks fo ft fe gt mx re m hh) (some (.int (fWinV nw what (fWin days (seed, nw))))) (wW pg nw kp sn ks fo (fWin days (seed, nw)).2 fe gt mx re m hh) := by
  refine zK_of 4 rfl (by decide) trivial (Nat.le_of_ble_eq_true rfl) rfl ?_
  refine z_aload_n iX2_winter_0 rfl ?_
  refine z_getf iX2_winter_1 fX2_12 (wf) (fF_0 _) (by decide) ?_
  refine z_aload_n iX2_winter_4 rfl ?_
  refine z_cvv (y1 := mX0_copyFrom) iX2_winter_5 lX2_18 kX0_copyFrom rfl (c_copy28_3 G pg nw kp sn ks fo ft fe gt mx re m hh) (w28_o) rfl rfl rfl (Nat.le_of_ble_eq_true rfl) (by decide) ?_
  refine z_iload_n iX2_winter_8 rfl ?_
  refine z_i2l iX2_winter_9 ?_
  rw [nI_lN (by omega)]
  refine z_lstore iX2_winter_10 rfl (by decide) ?_
  refine z_iconst iX2_winter_12 zk_0 ?_
  refine z_istore iX2_winter_13 rfl (by decide) ?_
  exact lp_winter G pg nw kp sn ks fo fe gt mx re m hh days seed what hd hw _ 0 (seed, nw) hs hb hk (Nat.zero_add _)
