def mAtL (m : zs) (b : Nat) : Nat → Nat → Nat → Option Nat
  | _, 0, _ => none
  | i, n + 1, q => if rF m 14 (rA m 13 (4 * b + i)) ≤ 0 then mAtL m b (i + 1) n q else if q = 0 then some (rA m 13 (4 * b + i)) else mAtL m b (i + 1) n (q - 1)
def mAt (m : zs) (b q : Nat) : Option Nat := mAtL m b 0 (rA m 12 b) q
theorem mAtL_lt {m : zs} (hm : mOK m) {b k : Nat} : ∀ {n i q : Nat}, mAtL m b i n q = some k → k < 9
  | 0, _, _, h => by cases h
  | n + 1, i, q, h => by
    unfold mAtL at h
    split at h
    · exact mAtL_lt hm h
    · split at h
      · cases h; exact hm.1 _
      · exact mAtL_lt hm h
theorem mAt_lt {m : zs} (hm : mOK m) {b q k : Nat} (h : mAt m b q = some k) : k < 9 := mAtL_lt hm h
set_option maxRecDepth 20000 in
set_option maxHeartbeats 1000000 in
theorem lpm_at (G : zG) (pg nw kp sn ks fo ft fe gt mx : zs) (re : Nat → Int64) (m : zs) (hh : Int64) (hm : mOK m) (b q0 : Nat) (hb : b < 3) : ∀ (n i : Nat) (q : Nat), q < 2 ^ 31 → i + n = rA m 12 b → zS G mX8_thereAt 5 [some (.ref 49), some (.int (nI b)), some (.int (nI q0)), some (.int (nI q)), some (.int (nI i)), none] [] (wW pg nw kp sn ks fo ft fe gt mx re m hh) (some (.int (oI (mAtL m b i n q)))) (wW pg nw kp sn ks fo ft fe gt mx re m hh) := by
  obtain ⟨o13, o12, o11, o10, o4, o5⟩ := id hm
  have o1 := o12 b
  intro n
  induction n with
  | zero =>
    intro i q hq hi
    refine z_iload iX8_thereAt_5 rfl ?_
    refine z_aload_n iX8_thereAt_7 rfl ?_
    refine z_getf iX8_thereAt_8 fX8_19 (wm) (mF_12 _ _) (by decide) ?_
    refine z_iload_n iX8_thereAt_11 rfl ?_
    refine z_iaload iX8_thereAt_12 (wm12) rfl (by omega) (by decide) (by decide) ?_
    refine zn_ge iX8_thereAt_13 (by omega) (by omega) (fun q13 => ?_) (fun q13 => absurd q13 (by omega))
    refine z_iconst iX8_thereAt_55 zk_m1 ?_
    exact z_ireturn iX8_thereAt_56 (rfl) (rfl)
  | succ n ih =>
    intro i q hq hi
    refine z_iload iX8_thereAt_5 rfl ?_
    refine z_aload_n iX8_thereAt_7 rfl ?_
    refine z_getf iX8_thereAt_8 fX8_19 (wm) (mF_12 _ _) (by decide) ?_
    refine z_iload_n iX8_thereAt_11 rfl ?_
    refine z_iaload iX8_thereAt_12 (wm12) rfl (by omega) (by decide) (by decide) ?_
    refine zn_ge iX8_thereAt_13 (by omega) (by omega) (fun q13 => absurd q13 (by omega)) (fun q13 => ?_)
    refine z_aload_n iX8_thereAt_16 rfl ?_
    refine z_getf iX8_thereAt_17 fX8_22 (wm) (mF_13 _ _) (by decide) ?_
    refine z_iconst iX8_thereAt_20 zk_4 ?_
    refine z_iload_n iX8_thereAt_21 rfl ?_
    refine z_imul iX8_thereAt_22 ?_
    refine z_top nix_mul ?_
    refine z_iload iX8_thereAt_23 rfl ?_
    refine z_iadd iX8_thereAt_25 ?_
    refine z_top nix_add ?_
    refine z_iaload iX8_thereAt_26 (wm13) rfl (by omega) (by decide) (by decide) ?_
    refine z_istore iX8_thereAt_27 rfl (by decide) ?_
    have o2 := o13 (4 * b + i)
    refine z_aload_n iX8_thereAt_29 rfl ?_
    refine z_getf iX8_thereAt_30 fX8_25 (wm) (mF_14 _ _) (by decide) ?_
    refine z_iload iX8_thereAt_33 rfl ?_
    refine z_iaload iX8_thereAt_35 (wm14) rfl (by omega) (by decide) (by decide) ?_
    refine z_if_le iX8_thereAt_36 (fun q36 => ?_) (fun q36 => ?_)
    · refine z_iinc iX8_thereAt_49 rfl nix_inc rfl (by decide) ?_
      refine z_goto iX8_thereAt_52 ?_
      first
        | (rw [mAtL, if_pos q36]
           refine z_weak ?_ (ih (i + 1) _ (by omega) (by omega))
           exact zle_w (by simp [zle, zf3] <;> rfl))
        | (rw [mAtL, if_neg q36, if_neg q40]
           refine z_weak ?_ (ih (i + 1) _ (by omega) (by omega))
           exact zle_w (by simp [zle, zf3] <;> rfl))
    · refine z_iload_n iX8_thereAt_39 rfl ?_
      refine zn_if_ne iX8_thereAt_40 (by omega) (fun q40 => ?_) (fun q40 => ?_)
      · refine z_iinc iX8_thereAt_46 rfl (nix_dec (by omega)) rfl (by decide) ?_
        refine z_iinc iX8_thereAt_49 rfl nix_inc rfl (by decide) ?_
        refine z_goto iX8_thereAt_52 ?_
        first
          | (rw [mAtL, if_pos q36]
             refine z_weak ?_ (ih (i + 1) _ (by omega) (by omega))
             exact zle_w (by simp [zle, zf3] <;> rfl))
          | (rw [mAtL, if_neg q36, if_neg q40]
             refine z_weak ?_ (ih (i + 1) _ (by omega) (by omega))
             exact zle_w (by simp [zle, zf3] <;> rfl))
      · refine z_iload iX8_thereAt_43 rfl ?_
        exact z_ireturn iX8_thereAt_45 (by rw [mAtL, if_neg q36, if_pos q40]; rfl) (rfl)
set_option maxRecDepth 20000 in
set_option maxHeartbeats 1000000 in
theorem cm_at (G : zG) (pg nw kp sn ks fo ft fe gt mx : zs) (re : Nat → Int64) (m : zs) (hh : Int64) (hm : mOK m) (b q : Nat) (hb : b < 3) (hq : q < 2 ^ 31) : zK G mX8_thereAt [.ref 49, .int (nI b), .int (nI q)] (wW pg nw kp sn ks fo ft fe gt mx re m hh) (some (.int (oI (mAt m b q)))) (wW pg nw kp sn ks fo ft fe gt mx re m hh) := by
  refine zK_of 3 rfl (by decide) trivial (Nat.le_of_ble_eq_true rfl) rfl ?_
  refine z_iload_n iX8_thereAt_0 rfl ?_
  refine z_istore_n iX8_thereAt_1 rfl (by decide) ?_
  refine z_iconst iX8_thereAt_2 zk_0 ?_
  refine z_istore iX8_thereAt_3 rfl (by decide) ?_
  exact lpm_at G pg nw kp sn ks fo ft fe gt mx re m hh hm b q hb _ 0 q hq (Nat.zero_add _)
def mMF (m : zs) (b : Nat) : Nat → Nat → Nat := (fun p x => if rF m 14 (rA m 13 (4 * b + p)) ≤ 0 then x + 0 else x + 1)
def mMany (m : zs) (b : Nat) : Nat := zfw (mMF m b) 0 (rA m 12 b) 0
def mLI (m : zs) (b : Nat) : Int32 := zfw (fun p x => x + rF m 14 (rA m 13 (4 * b + p))) 0 (rA m 12 b) (nI 0)
set_option maxRecDepth 20000 in
set_option maxHeartbeats 1000000 in
theorem lpm_many (G : zG) (pg nw kp sn ks fo ft fe gt mx : zs) (re : Nat → Int64) (m : zs) (hh : Int64) (hm : mOK m) (b : Nat) (hb : b < 3) : ∀ (n i : Nat) (x : Nat), i + n = rA m 12 b → zS G mX8_thereMany 4 [some (.ref 49), some (.int (nI b)), some (.int (nI x)), some (.int (nI i))] [] (wW pg nw kp sn ks fo ft fe gt mx re m hh) (some (.int (nI (zfw (mMF m b) i n x)))) (wW pg nw kp sn ks fo ft fe gt mx re m hh) := by
  obtain ⟨o13, o12, o11, o10, o4, o5⟩ := id hm
  have o1 := o12 b
  intro n
  induction n with
  | zero =>
    intro i x hi
    refine z_iload_n iX8_thereMany_4 rfl ?_
    refine z_aload_n iX8_thereMany_5 rfl ?_
    refine z_getf iX8_thereMany_6 fX8_19 (wm) (mF_12 _ _) (by decide) ?_
    refine z_iload_n iX8_thereMany_9 rfl ?_
    refine z_iaload iX8_thereMany_10 (wm12) rfl (by omega) (by decide) (by decide) ?_
    refine zn_ge iX8_thereMany_11 (by omega) (by omega) (fun q11 => ?_) (fun q11 => absurd q11 (by omega))
    refine z_iload_n iX8_thereMany_46 rfl ?_
    exact z_ireturn iX8_thereMany_47 (rfl) (rfl)
  | succ n ih =>
    intro i x hi
    refine z_iload_n iX8_thereMany_4 rfl ?_
    refine z_aload_n iX8_thereMany_5 rfl ?_
    refine z_getf iX8_thereMany_6 fX8_19 (wm) (mF_12 _ _) (by decide) ?_
    refine z_iload_n iX8_thereMany_9 rfl ?_
    refine z_iaload iX8_thereMany_10 (wm12) rfl (by omega) (by decide) (by decide) ?_
    refine zn_ge iX8_thereMany_11 (by omega) (by omega) (fun q11 => absurd q11 (by omega)) (fun q11 => ?_)
    refine z_iload_n iX8_thereMany_14 rfl ?_
    refine z_aload_n iX8_thereMany_15 rfl ?_
    refine z_getf iX8_thereMany_16 fX8_25 (wm) (mF_14 _ _) (by decide) ?_
    refine z_aload_n iX8_thereMany_19 rfl ?_
    refine z_getf iX8_thereMany_20 fX8_22 (wm) (mF_13 _ _) (by decide) ?_
    refine z_iconst iX8_thereMany_23 zk_4 ?_
    refine z_iload_n iX8_thereMany_24 rfl ?_
    refine z_imul iX8_thereMany_25 ?_
    refine z_top nix_mul ?_
    refine z_iload_n iX8_thereMany_26 rfl ?_
    refine z_iadd iX8_thereMany_27 ?_
    refine z_top nix_add ?_
    refine z_iaload iX8_thereMany_28 (wm13) rfl (by omega) (by decide) (by decide) ?_
    refine z_iaload iX8_thereMany_29 (wm14) rfl (Nat.lt_of_lt_of_le (o13 _) (by decide)) (by decide) (by decide) ?_
    refine z_if_le iX8_thereMany_30 (fun q30 => ?_) (fun q30 => ?_)
    · refine z_iconst iX8_thereMany_37 zk_0 ?_
      refine z_iadd iX8_thereMany_38 ?_
      refine z_top nix_add ?_
      refine z_istore_n iX8_thereMany_39 rfl (by decide) ?_
      refine z_iinc iX8_thereMany_40 rfl nix_inc rfl (by decide) ?_
      refine z_goto iX8_thereMany_43 ?_
      first
        | (have e1 : mMF m b i x = x + 0 := by rw [mMF, if_pos q30]
           rw [zfw, e1]
           exact ih (i + 1) _ (by omega))
        | (have e1 : mMF m b i x = x + 1 := by rw [mMF, if_neg q30]
           rw [zfw, e1]
           exact ih (i + 1) _ (by omega))
    · refine z_iconst iX8_thereMany_33 zk_1 ?_
      refine z_goto iX8_thereMany_34 ?_
      refine z_iadd iX8_thereMany_38 ?_
      refine z_top nix_add ?_
      refine z_istore_n iX8_thereMany_39 rfl (by decide) ?_
      refine z_iinc iX8_thereMany_40 rfl nix_inc rfl (by decide) ?_
      refine z_goto iX8_thereMany_43 ?_
      first
        | (have e1 : mMF m b i x = x + 0 := by rw [mMF, if_pos q30]
           rw [zfw, e1]
           exact ih (i + 1) _ (by omega))
        | (have e1 : mMF m b i x = x + 1 := by rw [mMF, if_neg q30]
           rw [zfw, e1]
           exact ih (i + 1) _ (by omega))
set_option maxRecDepth 20000 in
set_option maxHeartbeats 1000000 in
theorem cm_many (G : zG) (pg nw kp sn ks fo ft fe gt mx : zs) (re : Nat → Int64) (m : zs) (hh : Int64) (hm : mOK m) (b : Nat) (hb : b < 3) : zK G mX8_thereMany [.ref 49, .int (nI b)] (wW pg nw kp sn ks fo ft fe gt mx re m hh) (some (.int (nI (mMany m b)))) (wW pg nw kp sn ks fo ft fe gt mx re m hh) := by
  refine zK_of 2 rfl (by decide) trivial (Nat.le_of_ble_eq_true rfl) rfl ?_
  refine z_iconst iX8_thereMany_0 zk_0 ?_
  refine z_istore_n iX8_thereMany_1 rfl (by decide) ?_
  refine z_iconst iX8_thereMany_2 zk_0 ?_
  refine z_istore_n iX8_thereMany_3 rfl (by decide) ?_
  exact lpm_many G pg nw kp sn ks fo ft fe gt mx re m hh hm b hb _ 0 0 (Nat.zero_add _)
set_option maxRecDepth 20000 in
set_option maxHeartbeats 1000000 in
theorem lpm_li (G : zG) (pg nw kp sn ks fo ft fe gt mx : zs) (re : Nat → Int64) (m : zs) (hh : Int64) (hm : mOK m) (b : Nat) (hb : b < 3) : ∀ (n i : Nat) (x : Int32), i + n = rA m 12 b → zS G mX8_lightIn 4 [some (.ref 49), some (.int (nI b)), some (.int x), some (.int (nI i))] [] (wW pg nw kp sn ks fo ft fe gt mx re m hh) (some (.int (zfw (fun p x => x + rF m 14 (rA m 13 (4 * b + p))) i n x))) (wW pg nw kp sn ks fo ft fe gt mx re m hh) := by
  obtain ⟨o13, o12, o11, o10, o4, o5⟩ := id hm
  have o1 := o12 b
  intro n
  induction n with
  | zero =>
    intro i x hi
    refine z_iload_n iX8_lightIn_4 rfl ?_
    refine z_aload_n iX8_lightIn_5 rfl ?_
    refine z_getf iX8_lightIn_6 fX8_19 (wm) (mF_12 _ _) (by decide) ?_
    refine z_iload_n iX8_lightIn_9 rfl ?_
    refine z_iaload iX8_lightIn_10 (wm12) rfl (by omega) (by decide) (by decide) ?_
    refine zn_ge iX8_lightIn_11 (by omega) (by omega) (fun q11 => ?_) (fun q11 => absurd q11 (by omega))
    refine z_iload_n iX8_lightIn_38 rfl ?_
    exact z_ireturn iX8_lightIn_39 (rfl) (rfl)
  | succ n ih =>
    intro i x hi
    refine z_iload_n iX8_lightIn_4 rfl ?_
    refine z_aload_n iX8_lightIn_5 rfl ?_
    refine z_getf iX8_lightIn_6 fX8_19 (wm) (mF_12 _ _) (by decide) ?_
    refine z_iload_n iX8_lightIn_9 rfl ?_
    refine z_iaload iX8_lightIn_10 (wm12) rfl (by omega) (by decide) (by decide) ?_
    refine zn_ge iX8_lightIn_11 (by omega) (by omega) (fun q11 => absurd q11 (by omega)) (fun q11 => ?_)
    refine z_iload_n iX8_lightIn_14 rfl ?_
    refine z_aload_n iX8_lightIn_15 rfl ?_
    refine z_getf iX8_lightIn_16 fX8_25 (wm) (mF_14 _ _) (by decide) ?_
    refine z_aload_n iX8_lightIn_19 rfl ?_
    refine z_getf iX8_lightIn_20 fX8_22 (wm) (mF_13 _ _) (by decide) ?_
    refine z_iconst iX8_lightIn_23 zk_4 ?_
    refine z_iload_n iX8_lightIn_24 rfl ?_
    refine z_imul iX8_lightIn_25 ?_
    refine z_top nix_mul ?_
    refine z_iload_n iX8_lightIn_26 rfl ?_
    refine z_iadd iX8_lightIn_27 ?_
    refine z_top nix_add ?_
    refine z_iaload iX8_lightIn_28 (wm13) rfl (by omega) (by decide) (by decide) ?_
    refine z_iaload iX8_lightIn_29 (wm14) rfl (Nat.lt_of_lt_of_le (o13 _) (by decide)) (by decide) (by decide) ?_
    refine z_iadd iX8_lightIn_30 ?_
    refine z_istore_n iX8_lightIn_31 rfl (by decide) ?_
    refine z_iinc iX8_lightIn_32 rfl nix_inc rfl (by decide) ?_
    refine z_goto iX8_lightIn_35 ?_
    exact ih (i + 1) _ (by omega)
set_option maxRecDepth 20000 in
set_option maxHeartbeats 1000000 in
theorem cm_li (G : zG) (pg nw kp sn ks fo ft fe gt mx : zs) (re : Nat → Int64) (m : zs) (hh : Int64) (hm : mOK m) (b : Nat) (hb : b < 3) : zK G mX8_lightIn [.ref 49, .int (nI b)] (wW pg nw kp sn ks fo ft fe gt mx re m hh) (some (.int (mLI m b))) (wW pg nw kp sn ks fo ft fe gt mx re m hh) := by
  refine zK_of 2 rfl (by decide) trivial (Nat.le_of_ble_eq_true rfl) rfl ?_
  refine z_iconst iX8_lightIn_0 zk_0 ?_
  refine z_istore_n iX8_lightIn_1 rfl (by decide) ?_
  refine z_iconst iX8_lightIn_2 zk_0 ?_
  refine z_istore_n iX8_lightIn_3 rfl (by decide) ?_
  exact lpm_li G pg nw kp sn ks fo ft fe gt mx re m hh hm b hb _ 0 _ (Nat.zero_add _)
def mSetOk (m : zs) (b t : Nat) : Prop := ∀ q, q < 3 → t / 2 ^ q % 2 = 1 → ∃ k, mAt m b q = some k
def mA0 (m : zs) (b q : Nat) : Nat := (mAt m b q).getD 0
def mLSF (m : zs) (b t : Nat) : Nat → Int32 → Int32 := fun q x => if t / 2 ^ q % 2 = 1 then x + rF m 14 (mA0 m b q) else x + nI 0
def mLS (m : zs) (b t : Nat) : Int32 := zfw (mLSF m b t) 0 3 (nI 0)
set_option maxRecDepth 20000 in
set_option maxHeartbeats 1000000 in
theorem lpm_ls (G : zG) (pg nw kp sn ks fo ft fe gt mx : zs) (re : Nat → Int64) (m : zs) (hh : Int64) (hm : mOK m) (b t : Nat) (hb : b < 3) (ht : t < 2 ^ 30) (hs : mSetOk m b t) : ∀ (n i : Nat) (x : Int32), i + n = 3 → zS G mX8_lightOfSet 5 [some (.ref 49), some (.int (nI b)), some (.int (nI t)), some (.int x), some (.int (nI i))] [] (wW pg nw kp sn ks fo ft fe gt mx re m hh) (some (.int (zfw (mLSF m b t) i n x))) (wW pg nw kp sn ks fo ft fe gt mx re m hh) := by
  intro n
  induction n with
  | zero =>
    intro i x hi
    refine z_iload iX8_lightOfSet_5 rfl ?_
    refine z_iconst iX8_lightOfSet_7 zk_3 ?_
    refine zn_ge iX8_lightOfSet_8 (by omega) (by omega) (fun q8 => ?_) (fun q8 => absurd q8 (by omega))
    refine z_iload_n iX8_lightOfSet_46 rfl ?_
    exact z_ireturn iX8_lightOfSet_47 (rfl) (rfl)
  | succ n ih =>
    intro i x hi
    by_cases hbit : t / 2 ^ i % 2 = 1
    · obtain ⟨k, hk⟩ := hs i (by omega) hbit
      have hk9 := mAt_lt hm hk
      refine z_iload iX8_lightOfSet_5 rfl ?_
      refine z_iconst iX8_lightOfSet_7 zk_3 ?_
      refine zn_ge iX8_lightOfSet_8 (by omega) (by omega) (fun q8 => absurd q8 (by omega)) (fun q8 => ?_)
      refine z_iload_n iX8_lightOfSet_11 rfl ?_
      refine z_iload_n iX8_lightOfSet_12 rfl ?_
      refine z_iload iX8_lightOfSet_13 rfl ?_
      refine z_ishr iX8_lightOfSet_15 ?_
      refine z_top (nix_shr (by omega) (by omega)) ?_
      refine z_iconst iX8_lightOfSet_16 zk_1 ?_
      refine z_iand iX8_lightOfSet_17 ?_
      refine z_top nix_and1 ?_
      refine z_iconst iX8_lightOfSet_18 zk_1 ?_
      refine zn_ne iX8_lightOfSet_19 (by omega) (by omega) (fun q19 => absurd hbit q19) (fun q19 => ?_)
      refine z_aload_n iX8_lightOfSet_22 rfl ?_
      refine z_getf iX8_lightOfSet_23 fX8_25 (wm) (mF_14 _ _) (by decide) ?_
      refine z_aload_n iX8_lightOfSet_26 rfl ?_
      refine z_iload_n iX8_lightOfSet_27 rfl ?_
      refine z_iload iX8_lightOfSet_28 rfl ?_
      refine z_cvi (y1 := mX8_thereAt) iX8_lightOfSet_30 lX8_187 kX8_thereAt rfl (cm_at G pg nw kp sn ks fo ft fe gt mx re m hh hm b i hb (by omega)) (wm) rfl rfl rfl (Nat.le_of_ble_eq_true rfl) (by decide) ?_
      rw [hk, oI_some]
      refine z_iaload iX8_lightOfSet_33 (wm14) rfl (by omega) (by decide) (by decide) ?_
      refine z_goto iX8_lightOfSet_34 ?_
      refine z_iadd iX8_lightOfSet_38 ?_
      refine z_istore_n iX8_lightOfSet_39 rfl (by decide) ?_
      refine z_iinc iX8_lightOfSet_40 rfl nix_inc rfl (by decide) ?_
      refine z_goto iX8_lightOfSet_43 ?_
      have e1 : mLSF m b t i x = x + rF m 14 k := by rw [mLSF, if_pos hbit, mA0, hk]; rfl
      rw [zfw, e1]
      exact ih (i + 1) _ (by omega)
    · skip
      refine z_iload iX8_lightOfSet_5 rfl ?_
      refine z_iconst iX8_lightOfSet_7 zk_3 ?_
      refine zn_ge iX8_lightOfSet_8 (by omega) (by omega) (fun q8 => absurd q8 (by omega)) (fun q8 => ?_)
      refine z_iload_n iX8_lightOfSet_11 rfl ?_
      refine z_iload_n iX8_lightOfSet_12 rfl ?_
      refine z_iload iX8_lightOfSet_13 rfl ?_
      refine z_ishr iX8_lightOfSet_15 ?_
      refine z_top (nix_shr (by omega) (by omega)) ?_
      refine z_iconst iX8_lightOfSet_16 zk_1 ?_
      refine z_iand iX8_lightOfSet_17 ?_
      refine z_top nix_and1 ?_
      refine z_iconst iX8_lightOfSet_18 zk_1 ?_
      refine zn_ne iX8_lightOfSet_19 (by omega) (by omega) (fun q19 => ?_) (fun q19 => absurd q19 hbit)
      refine z_iconst iX8_lightOfSet_37 zk_0 ?_
      refine z_iadd iX8_lightOfSet_38 ?_
      refine z_istore_n iX8_lightOfSet_39 rfl (by decide) ?_
      refine z_iinc iX8_lightOfSet_40 rfl nix_inc rfl (by decide) ?_
      refine z_goto iX8_lightOfSet_43 ?_
      have e1 : mLSF m b t i x = x + nI 0 := by rw [mLSF, if_neg hbit]
      rw [zfw, e1]
      exact ih (i + 1) _ (by omega)
set_option maxRecDepth 20000 in
set_option maxHeartbeats 1000000 in
theorem cm_ls (G : zG) (pg nw kp sn ks fo ft fe gt mx : zs) (re : Nat → Int64) (m : zs) (hh : Int64) (hm : mOK m) (b t : Nat) (hb : b < 3) (ht : t < 2 ^ 30) (hs : mSetOk m b t) : zK G mX8_lightOfSet [.ref 49, .int (nI b), .int (nI t)] (wW pg nw kp sn ks fo ft fe gt mx re m hh) (some (.int (mLS m b t))) (wW pg nw kp sn ks fo ft fe gt mx re m hh) := by
  refine zK_of 2 rfl (by decide) trivial (Nat.le_of_ble_eq_true rfl) rfl ?_
  refine z_iconst iX8_lightOfSet_0 zk_0 ?_
  refine z_istore_n iX8_lightOfSet_1 rfl (by decide) ?_
  refine z_iconst iX8_lightOfSet_2 zk_0 ?_
  refine z_istore iX8_lightOfSet_3 rfl (by decide) ?_
  exact lpm_ls G pg nw kp sn ks fo ft fe gt mx re m hh hm b t hb ht hs 3 0 _ rfl
def mGF (m : zs) (b t : Nat) : Nat → zs → zs := fun q x => if t / 2 ^ q % 2 = 1 then mGo x (mA0 m b q) else x
def mCF (b : Nat) (m : zs) : Nat → Nat → Nat := fun p x => if rF m 17 (rA m 13 (4 * b + p)) ≤ 0 then x + 0 else x + 1
def mCG (b : Nat) (m : zs) : Nat → Int32 → Int32 := fun p x => if rF m 17 (rA m 13 (4 * b + p)) ≤ 0 then x - nI 0 else x - nI 1
def mDs (n : Nat) (x : zs) : zs := zfw (fun _ x => (mDay x).2) 0 n x
theorem mGF_A (m : zs) (b t q : Nat) (x : zs) (k : Nat) : rA (mGF m b t q x) k = rA x k := by unfold mGF; split <;> rfl
theorem mGF_N (m : zs) (b t q : Nat) (x : zs) (k : Nat) : rN (mGF m b t q x) k = rN x k := by unfold mGF; split <;> rfl
theorem mGF_14 (m : zs) (b t q : Nat) (x : zs) : rF (mGF m b t q x) 14 = rF x 14 := by unfold mGF; split <;> rfl
theorem mAt_of {s t : zs} (h13 : rA t 13 = rA s 13) (h12 : rA t 12 = rA s 12) (h14 : rF t 14 = rF s 14) (b q : Nat) : mAt t b q = mAt s b q := by
  have key : ∀ (n i q : Nat), mAtL t b i n q = mAtL s b i n q := by
    intro n
    induction n with
    | zero => intro i q; rfl
    | succ n ih => intro i q; unfold mAtL; rw [h13, h14, ih, ih]
  unfold mAt
  rw [key, h12]
theorem mDsL_A : ∀ (n i : Nat) (x : zs) (k : Nat), rA (zfw (fun _ x => (mDay x).2) i n x) k = rA x k
  | 0, _, _, _ => rfl
  | n + 1, i, x, k => (mDsL_A n (i + 1) _ k).trans (mDay_A x k)
theorem mDsL_N : ∀ (n i : Nat) (x : zs) (k : Nat), rN (zfw (fun _ x => (mDay x).2) i n x) k = rN x k
  | 0, _, _, _ => rfl
  | n + 1, i, x, k => (mDsL_N n (i + 1) _ k).trans (mDay_N x k)
def mS1 (m : zs) (b t : Nat) : zs := zfw (mGF m b t) 0 3 (mBegin m)
def mSafeV (m : zs) (b t : Nat) : Bool := decide (zfw (mCG b (mDs 10 (mS1 m b t))) 0 (rA m 12 b) (nI (zfw (mCF b (mS1 m b t)) 0 (rA m 12 b) 0)) = 0)
def mSafeS (m : zs) (b t : Nat) : zs := mDs 10 (mS1 m b t)
theorem mGFL_A (m : zs) (b t : Nat) : ∀ (n i : Nat) (x : zs) (k : Nat), rA (zfw (mGF m b t) i n x) k = rA x k
  | 0, _, _, _ => rfl
  | n + 1, i, x, k => (mGFL_A m b t n (i + 1) _ k).trans (mGF_A _ _ _ _ _ _)
theorem mGFL_N (m : zs) (b t : Nat) : ∀ (n i : Nat) (x : zs) (k : Nat), rN (zfw (mGF m b t) i n x) k = rN x k
  | 0, _, _, _ => rfl
  | n + 1, i, x, k => (mGFL_N m b t n (i + 1) _ k).trans (mGF_N _ _ _ _ _ _)
set_option maxRecDepth 20000 in
set_option maxHeartbeats 1000000 in
theorem lpm_s4 (G : zG) (pg nw kp sn ks fo ft fe gt mx : zs) (re : Nat → Int64) (hh : Int64) (b t : Nat) (hb : b < 3) (x : zs) (hx : mOK x) : ∀ (n i : Nat) (l : Int32), i + n = rA x 12 b → zS G mX8_isSafe 109 [some (.ref 49), some (.int (nI b)), some (.int (nI t)), some (.int l), some (.int (nI i))] [] (wW pg nw kp sn ks fo ft fe gt mx re x hh) (some (.int (zbo (decide (zfw (mCG b x) i n l = 0))))) (wW pg nw kp sn ks fo ft fe gt mx re x hh) := by
  obtain ⟨o13, o12, o11, o10, o4, o5⟩ := id hx
  have o1 := o12 b
  intro n
  induction n with
  | zero =>
    intro i l hi
    refine z_iload iX8_isSafe_109 rfl ?_
    refine z_aload_n iX8_isSafe_111 rfl ?_
    refine z_getf iX8_isSafe_112 fX8_19 (wm) (mF_12 _ _) (by decide) ?_
    refine z_iload_n iX8_isSafe_115 rfl ?_
    refine z_iaload iX8_isSafe_116 (wm12) rfl (by omega) (by decide) (by decide) ?_
    refine zn_ge iX8_isSafe_117 (by omega) (by omega) (fun q117 => ?_) (fun q117 => absurd q117 (by omega))
    refine z_iload_n iX8_isSafe_153 rfl ?_
    refine z_if_ne iX8_isSafe_154 (fun q154 => ?_) (fun q154 => ?_)
    · refine z_iconst iX8_isSafe_161 zk_0 ?_
      exact z_ireturn iX8_isSafe_162 (by first | exact zbo_t (decide_eq_true q154) | exact zbo_f (decide_eq_false q154)) (rfl)
    · refine z_iconst iX8_isSafe_157 zk_1 ?_
      refine z_goto iX8_isSafe_158 ?_
      exact z_ireturn iX8_isSafe_162 (by first | exact zbo_t (decide_eq_true q154) | exact zbo_f (decide_eq_false q154)) (rfl)
  | succ n ih =>
    intro i l hi
    refine z_iload iX8_isSafe_109 rfl ?_
    refine z_aload_n iX8_isSafe_111 rfl ?_
    refine z_getf iX8_isSafe_112 fX8_19 (wm) (mF_12 _ _) (by decide) ?_
    refine z_iload_n iX8_isSafe_115 rfl ?_
    refine z_iaload iX8_isSafe_116 (wm12) rfl (by omega) (by decide) (by decide) ?_
    refine zn_ge iX8_isSafe_117 (by omega) (by omega) (fun q117 => absurd q117 (by omega)) (fun q117 => ?_)
    refine z_iload_n iX8_isSafe_120 rfl ?_
    refine z_aload_n iX8_isSafe_121 rfl ?_
    refine z_getf iX8_isSafe_122 fX8_34 (wm) (mF_17 _ _) (by decide) ?_
    refine z_aload_n iX8_isSafe_125 rfl ?_
    refine z_getf iX8_isSafe_126 fX8_22 (wm) (mF_13 _ _) (by decide) ?_
    refine z_iconst iX8_isSafe_129 zk_4 ?_
    refine z_iload_n iX8_isSafe_130 rfl ?_
    refine z_imul iX8_isSafe_131 ?_
    refine z_top nix_mul ?_
    refine z_iload iX8_isSafe_132 rfl ?_
    refine z_iadd iX8_isSafe_134 ?_
    refine z_top nix_add ?_
    refine z_iaload iX8_isSafe_135 (wm13) rfl (by omega) (by decide) (by decide) ?_
    refine z_iaload iX8_isSafe_136 (wm17) rfl (Nat.lt_of_lt_of_le (o13 _) (by decide)) (by decide) (by decide) ?_
    refine z_if_le iX8_isSafe_137 (fun q137 => ?_) (fun q137 => ?_)
    · refine z_iconst iX8_isSafe_144 zk_0 ?_
      refine z_isub iX8_isSafe_145 ?_
      refine z_istore_n iX8_isSafe_146 rfl (by decide) ?_
      refine z_iinc iX8_isSafe_147 rfl nix_inc rfl (by decide) ?_
      refine z_goto iX8_isSafe_150 ?_
      first
        | (have e1 : mCG b x i l = l - nI 0 := by rw [mCG, if_pos q137]
           rw [zfw, e1]
           exact ih (i + 1) _ (by omega))
        | (have e1 : mCG b x i l = l - nI 1 := by rw [mCG, if_neg q137]
           rw [zfw, e1]
           exact ih (i + 1) _ (by omega))
    · refine z_iconst iX8_isSafe_140 zk_1 ?_
      refine z_goto iX8_isSafe_141 ?_
      refine z_isub iX8_isSafe_145 ?_
      refine z_istore_n iX8_isSafe_146 rfl (by decide) ?_
      refine z_iinc iX8_isSafe_147 rfl nix_inc rfl (by decide) ?_
      refine z_goto iX8_isSafe_150 ?_
      first
        | (have e1 : mCG b x i l = l - nI 0 := by rw [mCG, if_pos q137]
           rw [zfw, e1]
           exact ih (i + 1) _ (by omega))
        | (have e1 : mCG b x i l = l - nI 1 := by rw [mCG, if_neg q137]
           rw [zfw, e1]
           exact ih (i + 1) _ (by omega))
set_option maxRecDepth 20000 in
set_option maxHeartbeats 1000000 in
theorem lpm_s3 (G : zG) (pg nw kp sn ks fo ft fe gt mx : zs) (re : Nat → Int64) (hh : Int64) (b t l : Nat) (hb : b < 3) (f : Nat → Nat) : ∀ (n i : Nat) (x : zs), mOK x → mHP x → i + n = 10 → zS G mX8_isSafe 88 [some (.ref 49), some (.int (nI b)), some (.int (nI t)), some (.int (nI l)), some (.int (nI i))] [] (wW pg nw kp sn ks fo ft fe gt mx re x hh) (some (.int (zbo (decide (zfw (mCG b (zfw (fun _ x => (mDay x).2) i n x)) 0 (rA x 12 b) (nI l) = 0))))) (wW pg nw kp sn ks fo ft fe gt mx re (zfw (fun _ x => (mDay x).2) i n x) hh) := by
  intro n
  induction n with
  | zero =>
    intro i x hx hp hi
    refine z_iload iX8_isSafe_88 rfl ?_
    refine z_bipush iX8_isSafe_90 zb_10 ?_
    refine zn_ge iX8_isSafe_92 (by omega) (by omega) (fun q92 => ?_) (fun q92 => absurd q92 (by omega))
    refine z_iconst iX8_isSafe_106 zk_0 ?_
    refine z_istore iX8_isSafe_107 rfl (by decide) ?_
    exact lpm_s4 G pg nw kp sn ks fo ft fe gt mx re hh b t hb x hx _ 0 _ (Nat.zero_add _)
  | succ n ih =>
    intro i x hx hp hi
    refine z_iload iX8_isSafe_88 rfl ?_
    refine z_bipush iX8_isSafe_90 zb_10 ?_
    refine zn_ge iX8_isSafe_92 (by omega) (by omega) (fun q92 => absurd q92 (by omega)) (fun q92 => ?_)
    refine z_aload_n iX8_isSafe_95 rfl ?_
    refine z_cvi (y1 := mX8_dayThen) iX8_isSafe_96 lX8_190 kX8_dayThen rfl (cm_day G pg nw kp sn ks fo ft fe gt mx re _ hh hx hp) (wm) rfl rfl rfl (Nat.le_of_ble_eq_true rfl) (by decide) ?_
    refine z_pop iX8_isSafe_99 rfl ?_
    refine z_iinc iX8_isSafe_100 rfl nix_inc rfl (by decide) ?_
    refine z_goto iX8_isSafe_103 ?_
    have k1 := ih (i + 1) _ (mDay_ok hx) (mDay_hp hp) (by omega)
    rw [mDay_A] at k1
    exact k1
set_option maxRecDepth 20000 in
set_option maxHeartbeats 1000000 in
theorem lpm_s2 (G : zG) (pg nw kp sn ks fo ft fe gt mx : zs) (re : Nat → Int64) (hh : Int64) (b t : Nat) (hb : b < 3) (x : zs) (hx : mOK x) (hp : mHP x) : ∀ (n i : Nat) (l : Nat), i + n = rA x 12 b → zS G mX8_isSafe 41 [some (.ref 49), some (.int (nI b)), some (.int (nI t)), some (.int (nI l)), some (.int (nI i))] [] (wW pg nw kp sn ks fo ft fe gt mx re x hh) (some (.int (zbo (decide (zfw (mCG b (mDs 10 x)) 0 (rA x 12 b) (nI (zfw (mCF b x) i n l)) = 0))))) (wW pg nw kp sn ks fo ft fe gt mx re (mDs 10 x) hh) := by
  obtain ⟨o13, o12, o11, o10, o4, o5⟩ := id hx
  have o1 := o12 b
  intro n
  induction n with
  | zero =>
    intro i l hi
    refine z_iload iX8_isSafe_41 rfl ?_
    refine z_aload_n iX8_isSafe_43 rfl ?_
    refine z_getf iX8_isSafe_44 fX8_19 (wm) (mF_12 _ _) (by decide) ?_
    refine z_iload_n iX8_isSafe_47 rfl ?_
    refine z_iaload iX8_isSafe_48 (wm12) rfl (by omega) (by decide) (by decide) ?_
    refine zn_ge iX8_isSafe_49 (by omega) (by omega) (fun q49 => ?_) (fun q49 => absurd q49 (by omega))
    refine z_iconst iX8_isSafe_85 zk_0 ?_
    refine z_istore iX8_isSafe_86 rfl (by decide) ?_
    exact lpm_s3 G pg nw kp sn ks fo ft fe gt mx re hh b t _ hb (rA x 12) 10 0 x hx hp rfl
  | succ n ih =>
    intro i l hi
    refine z_iload iX8_isSafe_41 rfl ?_
    refine z_aload_n iX8_isSafe_43 rfl ?_
    refine z_getf iX8_isSafe_44 fX8_19 (wm) (mF_12 _ _) (by decide) ?_
    refine z_iload_n iX8_isSafe_47 rfl ?_
    refine z_iaload iX8_isSafe_48 (wm12) rfl (by omega) (by decide) (by decide) ?_
    refine zn_ge iX8_isSafe_49 (by omega) (by omega) (fun q49 => absurd q49 (by omega)) (fun q49 => ?_)
    refine z_iload_n iX8_isSafe_52 rfl ?_
    refine z_aload_n iX8_isSafe_53 rfl ?_
    refine z_getf iX8_isSafe_54 fX8_34 (wm) (mF_17 _ _) (by decide) ?_
    refine z_aload_n iX8_isSafe_57 rfl ?_
    refine z_getf iX8_isSafe_58 fX8_22 (wm) (mF_13 _ _) (by decide) ?_
    refine z_iconst iX8_isSafe_61 zk_4 ?_
    refine z_iload_n iX8_isSafe_62 rfl ?_
    refine z_imul iX8_isSafe_63 ?_
    refine z_top nix_mul ?_
    refine z_iload iX8_isSafe_64 rfl ?_
    refine z_iadd iX8_isSafe_66 ?_
    refine z_top nix_add ?_
    refine z_iaload iX8_isSafe_67 (wm13) rfl (by omega) (by decide) (by decide) ?_
    refine z_iaload iX8_isSafe_68 (wm17) rfl (Nat.lt_of_lt_of_le (o13 _) (by decide)) (by decide) (by decide) ?_
    refine z_if_le iX8_isSafe_69 (fun q69 => ?_) (fun q69 => ?_)
    · refine z_iconst iX8_isSafe_76 zk_0 ?_
      refine z_iadd iX8_isSafe_77 ?_
      refine z_top nix_add ?_
      refine z_istore_n iX8_isSafe_78 rfl (by decide) ?_
      refine z_iinc iX8_isSafe_79 rfl nix_inc rfl (by decide) ?_
      refine z_goto iX8_isSafe_82 ?_
      first
        | (have e1 : mCF b x i l = l + 0 := by rw [mCF, if_pos q69]
           have k1 := ih (i + 1) (mCF b x i l) (by omega)
           rw [e1] at k1
           rw [zfw, e1]
           exact k1)
        | (have e1 : mCF b x i l = l + 1 := by rw [mCF, if_neg q69]
           have k1 := ih (i + 1) (mCF b x i l) (by omega)
           rw [e1] at k1
           rw [zfw, e1]
           exact k1)
    · refine z_iconst iX8_isSafe_72 zk_1 ?_
      refine z_goto iX8_isSafe_73 ?_
      refine z_iadd iX8_isSafe_77 ?_
      refine z_top nix_add ?_
      refine z_istore_n iX8_isSafe_78 rfl (by decide) ?_
      refine z_iinc iX8_isSafe_79 rfl nix_inc rfl (by decide) ?_
      refine z_goto iX8_isSafe_82 ?_
      first
        | (have e1 : mCF b x i l = l + 0 := by rw [mCF, if_pos q69]
           have k1 := ih (i + 1) (mCF b x i l) (by omega)
           rw [e1] at k1
           rw [zfw, e1]
           exact k1)
        | (have e1 : mCF b x i l = l + 1 := by rw [mCF, if_neg q69]
           have k1 := ih (i + 1) (mCF b x i l) (by omega)
           rw [e1] at k1
           rw [zfw, e1]
           exact k1)
set_option maxRecDepth 20000 in
set_option maxHeartbeats 1000000 in
theorem lpm_s1 (G : zG) (pg nw kp sn ks fo ft fe gt mx : zs) (re : Nat → Int64) (m : zs) (hh : Int64) (hm : mOK m) (b t : Nat) (hb : b < 3) (ht : t < 2 ^ 30) (hs : mSetOk m b t) : ∀ (n i : Nat) (x : zs), mOK x → mHP x → rA x 13 = rA m 13 → rA x 12 = rA m 12 → rF x 14 = rF m 14 → i + n = 3 → zS G mX8_isSafe 6 [some (.ref 49), some (.int (nI b)), some (.int (nI t)), some (.int (nI i)), none] [] (wW pg nw kp sn ks fo ft fe gt mx re x hh) (some (.int (zbo (decide (zfw (mCG b (mDs 10 (zfw (mGF m b t) i n x))) 0 (rA m 12 b) (nI (zfw (mCF b (zfw (mGF m b t) i n x)) 0 (rA m 12 b) 0)) = 0))))) (wW pg nw kp sn ks fo ft fe gt mx re (mDs 10 (zfw (mGF m b t) i n x)) hh) := by
  intro n
  induction n with
  | zero =>
    intro i x hx hp h13 h12 h14 hi
    refine z_iload_n iX8_isSafe_6 rfl ?_
    refine z_iconst iX8_isSafe_7 zk_3 ?_
    refine zn_ge iX8_isSafe_8 (by omega) (by omega) (fun q8 => ?_) (fun q8 => absurd q8 (by omega))
    refine z_iconst iX8_isSafe_36 zk_0 ?_
    refine z_istore_n iX8_isSafe_37 rfl (by decide) ?_
    refine z_iconst iX8_isSafe_38 zk_0 ?_
    refine z_istore iX8_isSafe_39 rfl (by decide) ?_
    have k1 := lpm_s2 G pg nw kp sn ks fo ft fe gt mx re hh b t hb x hx hp _ 0 0 (Nat.zero_add _)
    rw [h12] at k1
    exact k1
  | succ n ih =>
    intro i x hx hp h13 h12 h14 hi
    by_cases hbit : t / 2 ^ i % 2 = 1
    · obtain ⟨k, hk⟩ := hs i (by omega) hbit
      have hk9 := mAt_lt hm hk
      refine z_iload_n iX8_isSafe_6 rfl ?_
      refine z_iconst iX8_isSafe_7 zk_3 ?_
      refine zn_ge iX8_isSafe_8 (by omega) (by omega) (fun q8 => absurd q8 (by omega)) (fun q8 => ?_)
      refine z_iload_n iX8_isSafe_11 rfl ?_
      refine z_iload_n iX8_isSafe_12 rfl ?_
      refine z_ishr iX8_isSafe_13 ?_
      refine z_top (nix_shr (by omega) (by omega)) ?_
      refine z_iconst iX8_isSafe_14 zk_1 ?_
      refine z_iand iX8_isSafe_15 ?_
      refine z_top nix_and1 ?_
      refine z_iconst iX8_isSafe_16 zk_1 ?_
      refine zn_ne iX8_isSafe_17 (by omega) (by omega) (fun q17 => absurd hbit q17) (fun q17 => ?_)
      refine z_aload_n iX8_isSafe_20 rfl ?_
      refine z_aload_n iX8_isSafe_21 rfl ?_
      refine z_iload_n iX8_isSafe_22 rfl ?_
      refine z_iload_n iX8_isSafe_23 rfl ?_
      refine z_cvi (y1 := mX8_thereAt) iX8_isSafe_24 lX8_187 kX8_thereAt rfl (cm_at G pg nw kp sn ks fo ft fe gt mx re x hh hx b i hb (by omega)) (wm) rfl rfl rfl (Nat.le_of_ble_eq_true rfl) (by decide) ?_
      rw [mAt_of h13 h12 h14, hk, oI_some]
      refine z_cvv (y1 := mX8_goes) iX8_isSafe_27 lX8_142 kX8_goes rfl (cm_goes G pg nw kp sn ks fo ft fe gt mx re _ hh k (by omega)) (wm) rfl rfl rfl (Nat.le_of_ble_eq_true rfl) (by decide) ?_
      refine z_iinc iX8_isSafe_30 rfl nix_inc rfl (by decide) ?_
      refine z_goto iX8_isSafe_33 ?_
      have e1 : mGF m b t i x = mGo x k := by rw [mGF, if_pos hbit, mA0, hk]; rfl
      have k1 := ih (i + 1) (mGF m b t i x) (mOK_of hx (mGF_A m b t i x) (fun k _ => mGF_N m b t i x k)) (mHP_of hp (mGF_A m b t i x) (mGF_N m b t i x 5)) (by rw [mGF_A]; exact h13) (by rw [mGF_A]; exact h12) (by rw [mGF_14]; exact h14) (by omega)
      rw [e1] at k1
      rw [zfw, e1]
      exact k1
    · skip
      refine z_iload_n iX8_isSafe_6 rfl ?_
      refine z_iconst iX8_isSafe_7 zk_3 ?_
      refine zn_ge iX8_isSafe_8 (by omega) (by omega) (fun q8 => absurd q8 (by omega)) (fun q8 => ?_)
      refine z_iload_n iX8_isSafe_11 rfl ?_
      refine z_iload_n iX8_isSafe_12 rfl ?_
      refine z_ishr iX8_isSafe_13 ?_
      refine z_top (nix_shr (by omega) (by omega)) ?_
      refine z_iconst iX8_isSafe_14 zk_1 ?_
      refine z_iand iX8_isSafe_15 ?_
      refine z_top nix_and1 ?_
      refine z_iconst iX8_isSafe_16 zk_1 ?_
      refine zn_ne iX8_isSafe_17 (by omega) (by omega) (fun q17 => ?_) (fun q17 => absurd q17 hbit)
      refine z_iinc iX8_isSafe_30 rfl nix_inc rfl (by decide) ?_
      refine z_goto iX8_isSafe_33 ?_
      have e1 : mGF m b t i x = x := by rw [mGF, if_neg hbit]
      have k1 := ih (i + 1) (mGF m b t i x) (mOK_of hx (mGF_A m b t i x) (fun k _ => mGF_N m b t i x k)) (mHP_of hp (mGF_A m b t i x) (mGF_N m b t i x 5)) (by rw [mGF_A]; exact h13) (by rw [mGF_A]; exact h12) (by rw [mGF_14]; exact h14) (by omega)
      rw [e1] at k1
      rw [zfw, e1]
      exact k1
set_option maxRecDepth 20000 in
set_option maxHeartbeats 1000000 in
theorem cm_isSafe (G : zG) (pg nw kp sn ks fo ft fe gt mx : zs) (re : Nat → Int64) (m : zs) (hh : Int64) (hm : mOK m) (hp : mHP m) (b t : Nat) (hb : b < 3) (ht : t < 2 ^ 30) (hs : mSetOk m b t) : zK G mX8_isSafe [.ref 49, .int (nI b), .int (nI t)] (wW pg nw kp sn ks fo ft fe gt mx re m hh) (some (.int (zbo (mSafeV m b t)))) (wW pg nw kp sn ks fo ft fe gt mx re (mSafeS m b t) hh) := by
  refine zK_of 2 rfl (by decide) (zbo_n _) (Nat.le_of_ble_eq_true rfl) rfl ?_
  refine z_aload_n iX8_isSafe_0 rfl ?_
  refine z_cvv (y1 := mX8_begin) iX8_isSafe_1 lX8_165 kX8_begin rfl (cm_begin G pg nw kp sn ks fo ft fe gt mx re m hh) (wm) rfl rfl rfl (Nat.le_of_ble_eq_true rfl) (by decide) ?_
  refine z_iconst iX8_isSafe_4 zk_0 ?_
  refine z_istore_n iX8_isSafe_5 rfl (by decide) ?_
  exact lpm_s1 G pg nw kp sn ks fo ft fe gt mx re m hh hm b t hb ht hs 3 0 (mBegin m) hm hp rfl rfl rfl rfl
def mLTs (x : zs) (b : Nat) : Int32 := rF x 17 ((mTop x b).getD 0)
def mLTF (m : zs) (b : Nat) (z : Option Nat) : Option Nat := match mTop m b with
  | none => z
  | some _ => match z with
    | none => some b
    | some c => if mLTs m c ≤ mLTs m b then some c else some b
def mLeast (m : zs) : Option Nat := zfw (mLTF m) 0 (rN m 4) none
theorem mLTF_ok {m : zs} {i b : Nat} {z : Option Nat} (h : ∀ c, z = some c → c < i ∧ mTop m c ≠ none) : ∀ c, mLTF m i z = some c → c < i + 1 ∧ mTop m c ≠ none := by
  intro c hc
  unfold mLTF at hc
  cases ht : mTop m i with
  | none => rw [ht] at hc; have := h c hc; exact ⟨by omega, this.2⟩
  | some k =>
    rw [ht] at hc
    cases z with
    | none => cases hc; exact ⟨by omega, by rw [ht]; simp⟩
    | some d =>
      dsimp only at hc
      split at hc
      · cases hc; have := h _ rfl; exact ⟨by omega, this.2⟩
      · cases hc; exact ⟨by omega, by rw [ht]; simp⟩
theorem mLeastL_ok {m : zs} : ∀ (n i : Nat) (z : Option Nat), (∀ c, z = some c → c < i ∧ mTop m c ≠ none) → ∀ c, zfw (mLTF m) i n z = some c → c < i + n ∧ mTop m c ≠ none
  | 0, _, _, h, c, hc => h c hc
  | n + 1, i, z, h, c, hc => by
    have := mLeastL_ok n (i + 1) (mLTF m i z) (mLTF_ok (b := i) h) c hc
    exact ⟨by omega, this.2⟩
theorem mLeast_ok {m : zs} {c : Nat} (h : mLeast m = some c) : c < rN m 4 ∧ mTop m c ≠ none := by
  have := mLeastL_ok (rN m 4) 0 none (fun c hc => by cases hc) c h
  exact ⟨by omega, this.2⟩
set_option maxRecDepth 20000 in
set_option maxHeartbeats 1000000 in
theorem lpm_lt (G : zG) (pg nw kp sn ks fo ft fe gt mx : zs) (re : Nat → Int64) (m : zs) (hh : Int64) (hm : mOK m) : ∀ (n i : Nat) (z : Option Nat), i + n = rN m 4 → (∀ c, z = some c → c < i ∧ mTop m c ≠ none) → zS G mX8_leastTop 4 [some (.ref 49), some (.int (oI z)), some (.int (nI i))] [] (wW pg nw kp sn ks fo ft fe gt mx re m hh) (some (.int (oI (zfw (mLTF m) i n z)))) (wW pg nw kp sn ks fo ft fe gt mx re m hh) := by
  obtain ⟨o13, o12, o11, o10, o4, o5⟩ := id hm
  intro n
  induction n with
  | zero =>
    intro i z hi hz
    refine z_iload_n iX8_leastTop_4 rfl ?_
    refine z_aload_n iX8_leastTop_5 rfl ?_
    refine z_getf iX8_leastTop_6 fX8_110 (wm) (mF_4 _ _) (by decide) ?_
    refine zn_ge iX8_leastTop_9 (by omega) (by omega) (fun q9 => ?_) (fun q9 => absurd q9 (by omega))
    refine z_iload_n iX8_leastTop_56 rfl ?_
    exact z_ireturn iX8_leastTop_57 (rfl) (rfl)
  | succ n ih =>
    intro i z hi hz
    cases ht : mTop m i with
    | none =>
      refine z_iload_n iX8_leastTop_4 rfl ?_
      refine z_aload_n iX8_leastTop_5 rfl ?_
      refine z_getf iX8_leastTop_6 fX8_110 (wm) (mF_4 _ _) (by decide) ?_
      refine zn_ge iX8_leastTop_9 (by omega) (by omega) (fun q9 => absurd q9 (by omega)) (fun q9 => ?_)
      refine z_aload_n iX8_leastTop_12 rfl ?_
      refine z_iload_n iX8_leastTop_13 rfl ?_
      refine z_cvi (y1 := mX8_hasLight) iX8_leastTop_14 lX8_216 kX8_hasLight rfl (cm_hasLight G pg nw kp sn ks fo ft fe gt mx re m hh hm i (by omega)) (wm) rfl rfl rfl (Nat.le_of_ble_eq_true rfl) (by decide) ?_
      rw [ht]
      refine zb_if_eq iX8_leastTop_17 (fun q17 => ?_) (fun q17 => absurd q17 (by simp))
      refine z_iinc iX8_leastTop_50 rfl nix_inc rfl (by decide) ?_
      refine z_goto iX8_leastTop_53 ?_
      have e1 : mLTF m i z = z := by unfold mLTF; rw [ht]
      rw [zfw, e1]
      exact ih (i + 1) z (by omega) (fun c hc => by have := mLTF_ok (b := i) hz c (e1.trans hc); exact this)
    | some k =>
      have k9 := mTop_lt hm ht
      cases hzz : z with
      | none =>
        refine z_iload_n iX8_leastTop_4 rfl ?_
        refine z_aload_n iX8_leastTop_5 rfl ?_
        refine z_getf iX8_leastTop_6 fX8_110 (wm) (mF_4 _ _) (by decide) ?_
        refine zn_ge iX8_leastTop_9 (by omega) (by omega) (fun q9 => absurd q9 (by omega)) (fun q9 => ?_)
        refine z_aload_n iX8_leastTop_12 rfl ?_
        refine z_iload_n iX8_leastTop_13 rfl ?_
        refine z_cvi (y1 := mX8_hasLight) iX8_leastTop_14 lX8_216 kX8_hasLight rfl (cm_hasLight G pg nw kp sn ks fo ft fe gt mx re m hh hm i (by omega)) (wm) rfl rfl rfl (Nat.le_of_ble_eq_true rfl) (by decide) ?_
        rw [ht]
        refine zb_if_eq iX8_leastTop_17 (fun q17 => absurd q17 (by simp)) (fun q17 => ?_)
        refine z_iload_n iX8_leastTop_20 rfl ?_
        refine z_iconst iX8_leastTop_21 zk_m1 ?_
        refine z_icmp_eq iX8_leastTop_22 (fun q22 => ?_) (fun q22 => absurd rfl q22)
        refine z_iload_n iX8_leastTop_48 rfl ?_
        refine z_istore_n iX8_leastTop_49 rfl (by decide) ?_
        refine z_iinc iX8_leastTop_50 rfl nix_inc rfl (by decide) ?_
        refine z_goto iX8_leastTop_53 ?_
        subst hzz
        have e1 : mLTF m i none = (some i) := by rw [mLTF, ht]
        rw [zfw, e1]
        exact ih (i + 1) (some i) (by omega) (fun c hc => by have := mLTF_ok (b := i) hz c (e1.trans hc); exact this)
      | some c =>
        have hc := hz c hzz
        obtain ⟨u, hu⟩ : ∃ u, mTop m c = some u := by
          cases h : mTop m c with
          | none => exact absurd h hc.2
          | some u => exact ⟨u, rfl⟩
        have u9 := mTop_lt hm hu
        rw [oI_some]
        refine z_iload_n iX8_leastTop_4 rfl ?_
        refine z_aload_n iX8_leastTop_5 rfl ?_
        refine z_getf iX8_leastTop_6 fX8_110 (wm) (mF_4 _ _) (by decide) ?_
        refine zn_ge iX8_leastTop_9 (by omega) (by omega) (fun q9 => absurd q9 (by omega)) (fun q9 => ?_)
        refine z_aload_n iX8_leastTop_12 rfl ?_
        refine z_iload_n iX8_leastTop_13 rfl ?_
        refine z_cvi (y1 := mX8_hasLight) iX8_leastTop_14 lX8_216 kX8_hasLight rfl (cm_hasLight G pg nw kp sn ks fo ft fe gt mx re m hh hm i (by omega)) (wm) rfl rfl rfl (Nat.le_of_ble_eq_true rfl) (by decide) ?_
        rw [ht]
        refine zb_if_eq iX8_leastTop_17 (fun q17 => absurd q17 (by simp)) (fun q17 => ?_)
        refine z_iload_n iX8_leastTop_20 rfl ?_
        refine z_iconst iX8_leastTop_21 zk_m1 ?_
        refine z_icmp_eq iX8_leastTop_22 (fun q22 => absurd q22 (nI_m1 (by omega))) (fun q22 => ?_)
        refine z_aload_n iX8_leastTop_25 rfl ?_
        refine z_getf iX8_leastTop_26 fX8_34 (wm) (mF_17 _ _) (by decide) ?_
        refine z_aload_n iX8_leastTop_29 rfl ?_
        refine z_iload_n iX8_leastTop_30 rfl ?_
        refine z_cvi (y1 := mX8_topOf) iX8_leastTop_31 lX8_135 kX8_topOf rfl (cm_top G pg nw kp sn ks fo ft fe gt mx re m hh hm i (by omega)) (wm) rfl rfl rfl (Nat.le_of_ble_eq_true rfl) (by decide) ?_
        rw [ht, oI_some]
        refine z_iaload iX8_leastTop_34 (wm17) rfl (by omega) (by decide) (by decide) ?_
        refine z_aload_n iX8_leastTop_35 rfl ?_
        refine z_getf iX8_leastTop_36 fX8_34 (wm) (mF_17 _ _) (by decide) ?_
        refine z_aload_n iX8_leastTop_39 rfl ?_
        refine z_iload_n iX8_leastTop_40 rfl ?_
        refine z_cvi (y1 := mX8_topOf) iX8_leastTop_41 lX8_135 kX8_topOf rfl (cm_top G pg nw kp sn ks fo ft fe gt mx re m hh hm c (by omega)) (wm) rfl rfl rfl (Nat.le_of_ble_eq_true rfl) (by decide) ?_
        rw [hu, oI_some]
        refine z_iaload iX8_leastTop_44 (wm17) rfl (by omega) (by decide) (by decide) ?_
        refine z_icmp_ge iX8_leastTop_45 (fun q45 => ?_) (fun q45 => ?_)
        · refine z_iinc iX8_leastTop_50 rfl nix_inc rfl (by decide) ?_
          refine z_goto iX8_leastTop_53 ?_
          subst hzz
          first
            | (have e1 : mLTF m i (some c) = (some c) := by rw [mLTF, ht]; simp only [mLTs, hu, ht, Option.getD_some, if_pos q45]
               rw [zfw, e1]
               exact ih (i + 1) (some c) (by omega) (fun c hc => by have := mLTF_ok (b := i) hz c (e1.trans hc); exact this))
            | (have e1 : mLTF m i (some c) = (some i) := by rw [mLTF, ht]; simp only [mLTs, hu, ht, Option.getD_some, if_neg q45]
               rw [zfw, e1]
               exact ih (i + 1) (some i) (by omega) (fun c hc => by have := mLTF_ok (b := i) hz c (e1.trans hc); exact this))
        · refine z_iload_n iX8_leastTop_48 rfl ?_
          refine z_istore_n iX8_leastTop_49 rfl (by decide) ?_
          refine z_iinc iX8_leastTop_50 rfl nix_inc rfl (by decide) ?_
          refine z_goto iX8_leastTop_53 ?_
          subst hzz
          first
            | (have e1 : mLTF m i (some c) = (some c) := by rw [mLTF, ht]; simp only [mLTs, hu, ht, Option.getD_some, if_pos q45]
               rw [zfw, e1]
               exact ih (i + 1) (some c) (by omega) (fun c hc => by have := mLTF_ok (b := i) hz c (e1.trans hc); exact this))
            | (have e1 : mLTF m i (some c) = (some i) := by rw [mLTF, ht]; simp only [mLTs, hu, ht, Option.getD_some, if_neg q45]
               rw [zfw, e1]
               exact ih (i + 1) (some i) (by omega) (fun c hc => by have := mLTF_ok (b := i) hz c (e1.trans hc); exact this))
set_option maxRecDepth 20000 in
set_option maxHeartbeats 1000000 in
theorem cm_least (G : zG) (pg nw kp sn ks fo ft fe gt mx : zs) (re : Nat → Int64) (m : zs) (hh : Int64) (hm : mOK m) : zK G mX8_leastTop [.ref 49] (wW pg nw kp sn ks fo ft fe gt mx re m hh) (some (.int (oI (mLeast m)))) (wW pg nw kp sn ks fo ft fe gt mx re m hh) := by
  refine zK_of 2 rfl (by decide) trivial (Nat.le_of_ble_eq_true rfl) rfl ?_
  refine z_iconst iX8_leastTop_0 zk_m1 ?_
  refine z_istore_n iX8_leastTop_1 rfl (by decide) ?_
  refine z_iconst iX8_leastTop_2 zk_0 ?_
  refine z_istore_n iX8_leastTop_3 rfl (by decide) ?_
  exact lpm_lt G pg nw kp sn ks fo ft fe gt mx re m hh hm _ 0 none (Nat.zero_add _) (fun c hc => by cases hc)
