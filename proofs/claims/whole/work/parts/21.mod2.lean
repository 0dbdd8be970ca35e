def mFP (m : zs) (k : Nat) : Nat → Bool := fun p => Nat.beq (rA m 13 (4 * rA m 11 k + p)) k
def mFind (m : zs) (k : Nat) : Option Nat := zfind (mFP m k) 0 (rA m 12 (rA m 11 k))
def mHP (m : zs) : Prop := ∀ k, k < rN m 5 → ∃ p, mFind m k = some p
def mPl (m : zs) (k : Nat) : Nat := (mFind m k).getD 0
theorem mPl_of {m : zs} {k p : Nat} (h : mFind m k = some p) : mPl m k = p := by rw [mPl, h]; rfl
theorem mFind_of {s t : zs} (hA : ∀ k, rA t k = rA s k) (k : Nat) : mFind t k = mFind s k := by unfold mFind mFP; simp only [hA]
theorem mHP_of {s t : zs} (h : mHP s) (hA : ∀ k, rA t k = rA s k) (h5 : rN t 5 = rN s 5) : mHP t := fun k hk => by
  rw [mFind_of hA]; exact h k (by rw [← h5]; exact hk)
set_option maxRecDepth 20000 in
set_option maxHeartbeats 1000000 in
theorem lpm_place (G : zG) (pg nw kp sn ks fo ft fe gt mx : zs) (re : Nat → Int64) (m : zs) (hh : Int64) (hm : mOK m) (k : Nat) (hk : k < 9) (p : Nat) : ∀ (n i : Nat), i + n ≤ 3 → zfind (mFP m k) i n = some p → zS G mX8_placeOf 2 [some (.ref 49), some (.int (nI k)), some (.int (nI i))] [] (wW pg nw kp sn ks fo ft fe gt mx re m hh) (some (.int (nI p))) (wW pg nw kp sn ks fo ft fe gt mx re m hh) := by
  obtain ⟨o13, o12, o11, o10, o4, o5⟩ := id hm
  have o1 := o11 k
  intro n
  induction n with
  | zero => intro i hi hf; simp [zfind] at hf
  | succ n ih =>
    intro i hi hf
    have o2 := o13 (4 * rA m 11 k + i)
    refine z_aload_n iX8_placeOf_2 rfl ?_
    refine z_getf iX8_placeOf_3 fX8_22 (wm) (mF_13 _ _) (by decide) ?_
    refine z_iconst iX8_placeOf_6 zk_4 ?_
    refine z_aload_n iX8_placeOf_7 rfl ?_
    refine z_getf iX8_placeOf_8 fX8_16 (wm) (mF_11 _ _) (by decide) ?_
    refine z_iload_n iX8_placeOf_11 rfl ?_
    refine z_iaload iX8_placeOf_12 (wm11) rfl (by omega) (by decide) (by decide) ?_
    refine z_imul iX8_placeOf_13 ?_
    refine z_top nix_mul ?_
    refine z_iload_n iX8_placeOf_14 rfl ?_
    refine z_iadd iX8_placeOf_15 ?_
    refine z_top nix_add ?_
    refine z_iaload iX8_placeOf_16 (wm13) rfl (by omega) (by decide) (by decide) ?_
    refine z_iload_n iX8_placeOf_17 rfl ?_
    refine zn_eq iX8_placeOf_18 (by omega) (by omega) (fun q18 => ?_) (fun q18 => ?_)
    · refine z_iload_n iX8_placeOf_27 rfl ?_
      exact z_ireturn iX8_placeOf_28 (by
      unfold zfind at hf
      rw [if_pos (by rw [mFP, q18]; exact Nat.beq_refl k)] at hf
      cases hf; rfl) (rfl)
    · refine z_iinc iX8_placeOf_21 rfl nix_inc rfl (by decide) ?_
      refine z_goto iX8_placeOf_24 ?_
      unfold zfind at hf
      rw [if_neg (by intro z; exact q18 (Nat.eq_of_beq_eq_true z))] at hf
      exact ih (i + 1) (by omega) hf
set_option maxRecDepth 20000 in
set_option maxHeartbeats 1000000 in
theorem cm_place (G : zG) (pg nw kp sn ks fo ft fe gt mx : zs) (re : Nat → Int64) (m : zs) (hh : Int64) (hm : mOK m) (k : Nat) (hk : k < 9) (p : Nat) (hf : mFind m k = some p) : zK G mX8_placeOf [.ref 49, .int (nI k)] (wW pg nw kp sn ks fo ft fe gt mx re m hh) (some (.int (nI p))) (wW pg nw kp sn ks fo ft fe gt mx re m hh) := by
  obtain ⟨o13, o12, o11, o10, o4, o5⟩ := id hm
  refine zK_of 1 rfl (by decide) trivial (Nat.le_of_ble_eq_true rfl) rfl ?_
  refine z_iconst iX8_placeOf_0 zk_0 ?_
  refine z_istore_n iX8_placeOf_1 rfl (by decide) ?_
  exact lpm_place G pg nw kp sn ks fo ft fe gt mx re m hh hm k hk p _ 0 (by have := o12 (rA m 11 k); omega) hf
def mOnF (m : zs) (b w : Nat) : Nat → Nat → Nat := (fun q x => if rF m 17 (rA m 13 (4 * b + q)) ≤ 0 then x + 0 else if w = 0 then x + 1 else if rF m 18 (rA m 13 (4 * b + q)) ≤ 0 then x + 0 else x + 1)
def mOn (m : zs) (k w : Nat) : Nat := zfw (mOnF m (rA m 11 k) w) (mPl m k + 1) (rA m 12 (rA m 11 k) - (mPl m k + 1)) 0
set_option maxRecDepth 20000 in
set_option maxHeartbeats 1000000 in
theorem lpm_on (G : zG) (pg nw kp sn ks fo ft fe gt mx : zs) (re : Nat → Int64) (m : zs) (hh : Int64) (hm : mOK m) (k b w : Nat) (hb : b < 3) (hw : w < 2) : ∀ (n i : Nat) (x : Nat), i + n = rA m 12 b → zS G mX8_onIt 19 [some (.ref 49), some (.int (nI k)), some (.int (nI w)), some (.int (nI b)), some (.int (nI x)), some (.int (nI i)), none] [] (wW pg nw kp sn ks fo ft fe gt mx re m hh) (some (.int (nI (zfw (mOnF m b w) i n x)))) (wW pg nw kp sn ks fo ft fe gt mx re m hh) := by
  obtain ⟨o13, o12, o11, o10, o4, o5⟩ := id hm
  have o1 := o12 b
  intro n
  induction n with
  | zero =>
    intro i x hi
    refine z_iload iX8_onIt_19 rfl ?_
    refine z_aload_n iX8_onIt_21 rfl ?_
    refine z_getf iX8_onIt_22 fX8_19 (wm) (mF_12 _ _) (by decide) ?_
    refine z_iload_n iX8_onIt_25 rfl ?_
    refine z_iaload iX8_onIt_26 (wm12) rfl (by omega) (by decide) (by decide) ?_
    refine zn_ge iX8_onIt_27 (by omega) (by omega) (fun q27 => ?_) (fun q27 => absurd q27 (by omega))
    refine z_iload iX8_onIt_83 rfl ?_
    exact z_ireturn iX8_onIt_85 (rfl) (rfl)
  | succ n ih =>
    intro i x hi
    refine z_iload iX8_onIt_19 rfl ?_
    refine z_aload_n iX8_onIt_21 rfl ?_
    refine z_getf iX8_onIt_22 fX8_19 (wm) (mF_12 _ _) (by decide) ?_
    refine z_iload_n iX8_onIt_25 rfl ?_
    refine z_iaload iX8_onIt_26 (wm12) rfl (by omega) (by decide) (by decide) ?_
    refine zn_ge iX8_onIt_27 (by omega) (by omega) (fun q27 => absurd q27 (by omega)) (fun q27 => ?_)
    refine z_aload_n iX8_onIt_30 rfl ?_
    refine z_getf iX8_onIt_31 fX8_22 (wm) (mF_13 _ _) (by decide) ?_
    refine z_iconst iX8_onIt_34 zk_4 ?_
    refine z_iload_n iX8_onIt_35 rfl ?_
    refine z_imul iX8_onIt_36 ?_
    refine z_top nix_mul ?_
    refine z_iload iX8_onIt_37 rfl ?_
    refine z_iadd iX8_onIt_39 ?_
    refine z_top nix_add ?_
    refine z_iaload iX8_onIt_40 (wm13) rfl (by omega) (by decide) (by decide) ?_
    have o2 := o13 (4 * b + i)
    refine z_istore iX8_onIt_41 rfl (by decide) ?_
    refine z_iload iX8_onIt_43 rfl ?_
    refine z_aload_n iX8_onIt_45 rfl ?_
    refine z_getf iX8_onIt_46 fX8_34 (wm) (mF_17 _ _) (by decide) ?_
    refine z_iload iX8_onIt_49 rfl ?_
    refine z_iaload iX8_onIt_51 (wm17) rfl (by omega) (by decide) (by decide) ?_
    refine z_if_le iX8_onIt_52 (fun q52 => ?_) (fun q52 => ?_)
    · refine z_iconst iX8_onIt_73 zk_0 ?_
      refine z_iadd iX8_onIt_74 ?_
      refine z_top nix_add ?_
      refine z_istore iX8_onIt_75 rfl (by decide) ?_
      refine z_iinc iX8_onIt_77 rfl nix_inc rfl (by decide) ?_
      refine z_goto iX8_onIt_80 ?_
      first
        | (have e1 : mOnF m b w i x = x + 0 := by rw [mOnF, if_pos q52]
           rw [zfw, e1]
           refine z_weak ?_ (ih (i + 1) _ (by omega))
           exact zle_w (by simp [zle, zf3] <;> rfl))
        | (have e1 : mOnF m b w i x = x + 1 := by rw [mOnF, if_neg q52, if_pos q56]
           rw [zfw, e1]
           refine z_weak ?_ (ih (i + 1) _ (by omega))
           exact zle_w (by simp [zle, zf3] <;> rfl))
        | (have e1 : mOnF m b w i x = x + 0 := by rw [mOnF, if_neg q52, if_neg q56, if_pos q66]
           rw [zfw, e1]
           refine z_weak ?_ (ih (i + 1) _ (by omega))
           exact zle_w (by simp [zle, zf3] <;> rfl))
        | (have e1 : mOnF m b w i x = x + 1 := by rw [mOnF, if_neg q52, if_neg q56, if_neg q66]
           rw [zfw, e1]
           refine z_weak ?_ (ih (i + 1) _ (by omega))
           exact zle_w (by simp [zle, zf3] <;> rfl))
    · refine z_iload_n iX8_onIt_55 rfl ?_
      refine zn_if_eq iX8_onIt_56 (by omega) (fun q56 => ?_) (fun q56 => ?_)
      · refine z_iconst iX8_onIt_69 zk_1 ?_
        refine z_goto iX8_onIt_70 ?_
        refine z_iadd iX8_onIt_74 ?_
        refine z_top nix_add ?_
        refine z_istore iX8_onIt_75 rfl (by decide) ?_
        refine z_iinc iX8_onIt_77 rfl nix_inc rfl (by decide) ?_
        refine z_goto iX8_onIt_80 ?_
        first
          | (have e1 : mOnF m b w i x = x + 0 := by rw [mOnF, if_pos q52]
             rw [zfw, e1]
             refine z_weak ?_ (ih (i + 1) _ (by omega))
             exact zle_w (by simp [zle, zf3] <;> rfl))
          | (have e1 : mOnF m b w i x = x + 1 := by rw [mOnF, if_neg q52, if_pos q56]
             rw [zfw, e1]
             refine z_weak ?_ (ih (i + 1) _ (by omega))
             exact zle_w (by simp [zle, zf3] <;> rfl))
          | (have e1 : mOnF m b w i x = x + 0 := by rw [mOnF, if_neg q52, if_neg q56, if_pos q66]
             rw [zfw, e1]
             refine z_weak ?_ (ih (i + 1) _ (by omega))
             exact zle_w (by simp [zle, zf3] <;> rfl))
          | (have e1 : mOnF m b w i x = x + 1 := by rw [mOnF, if_neg q52, if_neg q56, if_neg q66]
             rw [zfw, e1]
             refine z_weak ?_ (ih (i + 1) _ (by omega))
             exact zle_w (by simp [zle, zf3] <;> rfl))
      · refine z_aload_n iX8_onIt_59 rfl ?_
        refine z_getf iX8_onIt_60 fX8_37 (wm) (mF_18 _ _) (by decide) ?_
        refine z_iload iX8_onIt_63 rfl ?_
        refine z_iaload iX8_onIt_65 (wm18) rfl (by omega) (by decide) (by decide) ?_
        refine z_if_le iX8_onIt_66 (fun q66 => ?_) (fun q66 => ?_)
        · refine z_iconst iX8_onIt_73 zk_0 ?_
          refine z_iadd iX8_onIt_74 ?_
          refine z_top nix_add ?_
          refine z_istore iX8_onIt_75 rfl (by decide) ?_
          refine z_iinc iX8_onIt_77 rfl nix_inc rfl (by decide) ?_
          refine z_goto iX8_onIt_80 ?_
          first
            | (have e1 : mOnF m b w i x = x + 0 := by rw [mOnF, if_pos q52]
               rw [zfw, e1]
               refine z_weak ?_ (ih (i + 1) _ (by omega))
               exact zle_w (by simp [zle, zf3] <;> rfl))
            | (have e1 : mOnF m b w i x = x + 1 := by rw [mOnF, if_neg q52, if_pos q56]
               rw [zfw, e1]
               refine z_weak ?_ (ih (i + 1) _ (by omega))
               exact zle_w (by simp [zle, zf3] <;> rfl))
            | (have e1 : mOnF m b w i x = x + 0 := by rw [mOnF, if_neg q52, if_neg q56, if_pos q66]
               rw [zfw, e1]
               refine z_weak ?_ (ih (i + 1) _ (by omega))
               exact zle_w (by simp [zle, zf3] <;> rfl))
            | (have e1 : mOnF m b w i x = x + 1 := by rw [mOnF, if_neg q52, if_neg q56, if_neg q66]
               rw [zfw, e1]
               refine z_weak ?_ (ih (i + 1) _ (by omega))
               exact zle_w (by simp [zle, zf3] <;> rfl))
        · refine z_iconst iX8_onIt_69 zk_1 ?_
          refine z_goto iX8_onIt_70 ?_
          refine z_iadd iX8_onIt_74 ?_
          refine z_top nix_add ?_
          refine z_istore iX8_onIt_75 rfl (by decide) ?_
          refine z_iinc iX8_onIt_77 rfl nix_inc rfl (by decide) ?_
          refine z_goto iX8_onIt_80 ?_
          first
            | (have e1 : mOnF m b w i x = x + 0 := by rw [mOnF, if_pos q52]
               rw [zfw, e1]
               refine z_weak ?_ (ih (i + 1) _ (by omega))
               exact zle_w (by simp [zle, zf3] <;> rfl))
            | (have e1 : mOnF m b w i x = x + 1 := by rw [mOnF, if_neg q52, if_pos q56]
               rw [zfw, e1]
               refine z_weak ?_ (ih (i + 1) _ (by omega))
               exact zle_w (by simp [zle, zf3] <;> rfl))
            | (have e1 : mOnF m b w i x = x + 0 := by rw [mOnF, if_neg q52, if_neg q56, if_pos q66]
               rw [zfw, e1]
               refine z_weak ?_ (ih (i + 1) _ (by omega))
               exact zle_w (by simp [zle, zf3] <;> rfl))
            | (have e1 : mOnF m b w i x = x + 1 := by rw [mOnF, if_neg q52, if_neg q56, if_neg q66]
               rw [zfw, e1]
               refine z_weak ?_ (ih (i + 1) _ (by omega))
               exact zle_w (by simp [zle, zf3] <;> rfl))
set_option maxRecDepth 20000 in
set_option maxHeartbeats 1000000 in
theorem cm_on (G : zG) (pg nw kp sn ks fo ft fe gt mx : zs) (re : Nat → Int64) (m : zs) (hh : Int64) (hm : mOK m) (k w : Nat) (hk : k < 9) (hw : w < 2) (p : Nat) (hf : mFind m k = some p) : zK G mX8_onIt [.ref 49, .int (nI k), .int (nI w)] (wW pg nw kp sn ks fo ft fe gt mx re m hh) (some (.int (nI (mOn m k w)))) (wW pg nw kp sn ks fo ft fe gt mx re m hh) := by
  obtain ⟨o13, o12, o11, o10, o4, o5⟩ := id hm
  obtain ⟨-, z2, -, -⟩ := zfind_lt _ _ _ hf
  refine zK_of 4 rfl (by decide) trivial (Nat.le_of_ble_eq_true rfl) rfl ?_
  refine z_aload_n iX8_onIt_0 rfl ?_
  refine z_getf iX8_onIt_1 fX8_16 (wm) (mF_11 _ _) (by decide) ?_
  refine z_iload_n iX8_onIt_4 rfl ?_
  refine z_iaload iX8_onIt_5 (wm11) rfl (by omega) (by decide) (by decide) ?_
  refine z_istore_n iX8_onIt_6 rfl (by decide) ?_
  refine z_iconst iX8_onIt_7 zk_0 ?_
  refine z_istore iX8_onIt_8 rfl (by decide) ?_
  refine z_aload_n iX8_onIt_10 rfl ?_
  refine z_iload_n iX8_onIt_11 rfl ?_
  refine z_cvi (y1 := mX8_placeOf) iX8_onIt_12 lX8_149 kX8_placeOf rfl (cm_place G pg nw kp sn ks fo ft fe gt mx re m hh hm k hk p hf) (wm) rfl rfl rfl (Nat.le_of_ble_eq_true rfl) (by decide) ?_
  refine z_iconst iX8_onIt_15 zk_1 ?_
  refine z_iadd iX8_onIt_16 ?_
  refine z_top nix_add ?_
  refine z_istore iX8_onIt_17 rfl (by decide) ?_
  rw [mOn, mPl_of hf]
  exact lpm_on G pg nw kp sn ks fo ft fe gt mx re m hh hm k _ w (o11 k) hw _ (p + 1) 0 (by omega)
def kWarmsM (k : Nat) (d : Int32) : Int32 := if k = 1 then d / nI 2 else if k = 2 then nI 2 * d else if k = 3 then nI 0 else if k = 4 then d / nI 4 else d
def mGain (m : zs) (k : Nat) : Int32 := if rF m 17 k = 0 then nI 0 else kWarmsM (rA m 10 k) (rF m 18 k + nI (mOn m k 1))
set_option maxRecDepth 20000 in
set_option maxHeartbeats 1000000 in
theorem cm_warmsBy (G : zG) (pg nw kp sn ks fo ft fe gt mx : zs) (re : Nat → Int64) (m : zs) (hh : Int64) (hm : mOK m) (k : Nat) (hk : k < 9) (p : Nat) (hf : mFind m k = some p) : zK G mX8_warmsBy [.ref 49, .int (nI k)] (wW pg nw kp sn ks fo ft fe gt mx re m hh) (some (.int (mGain m k))) (wW pg nw kp sn ks fo ft fe gt mx re m hh) := by
  obtain ⟨o13, o12, o11, o10, o4, o5⟩ := id hm
  refine zK_of 1 rfl (by decide) trivial (Nat.le_of_ble_eq_true rfl) rfl ?_
  refine z_aload_n iX8_warmsBy_0 rfl ?_
  refine z_getf iX8_warmsBy_1 fX8_34 (wm) (mF_17 _ _) (by decide) ?_
  refine z_iload_n iX8_warmsBy_4 rfl ?_
  refine z_iaload iX8_warmsBy_5 (wm17) rfl (by omega) (by decide) (by decide) ?_
  refine z_if_ne iX8_warmsBy_6 (fun q6 => ?_) (fun q6 => ?_)
  · refine z_aload_n iX8_warmsBy_11 rfl ?_
    refine z_getf iX8_warmsBy_12 fX8_37 (wm) (mF_18 _ _) (by decide) ?_
    refine z_iload_n iX8_warmsBy_15 rfl ?_
    refine z_iaload iX8_warmsBy_16 (wm18) rfl (by omega) (by decide) (by decide) ?_
    refine z_aload_n iX8_warmsBy_17 rfl ?_
    refine z_iload_n iX8_warmsBy_18 rfl ?_
    refine z_iconst iX8_warmsBy_19 zk_1 ?_
    refine z_cvi (y1 := mX8_onIt) iX8_warmsBy_20 lX8_152 kX8_onIt rfl (cm_on G pg nw kp sn ks fo ft fe gt mx re m hh hm k 1 hk (by decide) p hf) (wm) rfl rfl rfl (Nat.le_of_ble_eq_true rfl) (by decide) ?_
    refine z_iadd iX8_warmsBy_23 ?_
    refine z_istore_n iX8_warmsBy_24 rfl (by decide) ?_
    have o1 := o10 k
    refine z_aload_n iX8_warmsBy_25 rfl ?_
    refine z_getf iX8_warmsBy_26 fX8_13 (wm) (mF_10 _ _) (by decide) ?_
    refine z_iload_n iX8_warmsBy_29 rfl ?_
    refine z_iaload iX8_warmsBy_30 (wm10) rfl (by omega) (by decide) (by decide) ?_
    by_cases c31_1 : rA m 10 k = 1
    · refine z_tabIn (off := 29) (tgt := 60) iX8_warmsBy_31 (by rw [c31_1]; decide +kernel) (by rw [c31_1]; decide +kernel) (by rw [c31_1]; decide +kernel) (by decide) ?_
      refine z_iload_n iX8_warmsBy_60 rfl ?_
      refine z_iconst iX8_warmsBy_61 zk_2 ?_
      refine z_idiv iX8_warmsBy_62 (by decide +kernel) ?_
      exact z_ireturn iX8_warmsBy_63 (by first | (rw [mGain, if_pos ‹_›]; done) | (rw [mGain, if_neg ‹_›, kWarmsM]; simp [*])) (rfl)
    by_cases c31_2 : rA m 10 k = 2
    · refine z_tabIn (off := 33) (tgt := 64) iX8_warmsBy_31 (by rw [c31_2]; decide +kernel) (by rw [c31_2]; decide +kernel) (by rw [c31_2]; decide +kernel) (by decide) ?_
      refine z_iconst iX8_warmsBy_64 zk_2 ?_
      refine z_iload_n iX8_warmsBy_65 rfl ?_
      refine z_imul iX8_warmsBy_66 ?_
      exact z_ireturn iX8_warmsBy_67 (by first | (rw [mGain, if_pos ‹_›]; done) | (rw [mGain, if_neg ‹_›, kWarmsM]; simp [*])) (rfl)
    by_cases c31_3 : rA m 10 k = 3
    · refine z_tabIn (off := 37) (tgt := 68) iX8_warmsBy_31 (by rw [c31_3]; decide +kernel) (by rw [c31_3]; decide +kernel) (by rw [c31_3]; decide +kernel) (by decide) ?_
      refine z_iconst iX8_warmsBy_68 zk_0 ?_
      exact z_ireturn iX8_warmsBy_69 (by first | (rw [mGain, if_pos ‹_›]; done) | (rw [mGain, if_neg ‹_›, kWarmsM]; simp [*])) (rfl)
    by_cases c31_4 : rA m 10 k = 4
    · refine z_tabIn (off := 39) (tgt := 70) iX8_warmsBy_31 (by rw [c31_4]; decide +kernel) (by rw [c31_4]; decide +kernel) (by rw [c31_4]; decide +kernel) (by decide) ?_
      refine z_iload_n iX8_warmsBy_70 rfl ?_
      refine z_iconst iX8_warmsBy_71 zk_4 ?_
      refine z_idiv iX8_warmsBy_72 (by decide +kernel) ?_
      exact z_ireturn iX8_warmsBy_73 (by first | (rw [mGain, if_pos ‹_›]; done) | (rw [mGain, if_neg ‹_›, kWarmsM]; simp [*])) (rfl)
    refine z_tabOut (tgt := 74) iX8_warmsBy_31 (by rw [nI_toInt (by omega)]; omega) (by decide) ?_
    refine z_iload_n iX8_warmsBy_74 rfl ?_
    exact z_ireturn iX8_warmsBy_75 (by first | (rw [mGain, if_pos ‹_›]; done) | (rw [mGain, if_neg ‹_›, kWarmsM]; simp [*])) (rfl)
  · refine z_iconst iX8_warmsBy_9 zk_0 ?_
    exact z_ireturn iX8_warmsBy_10 (by first | (rw [mGain, if_pos ‹_›]; done) | (rw [mGain, if_neg ‹_›, kWarmsM]; simp [*])) (rfl)
def mWA (m : zs) : zs := zfw (fun k x => uF x 19 (upd (rF x 19) k (rF x 19 k + mGain x k))) 0 (rN m 5) m
theorem mWA_A : ∀ (n i : Nat) (x : zs) (k : Nat), rA (zfw (fun k x => uF x 19 (upd (rF x 19) k (rF x 19 k + mGain x k))) i n x) k = rA x k
  | 0, _, _, _ => rfl
  | n + 1, i, x, k => (mWA_A n (i + 1) _ k).trans rfl
theorem mWA_N : ∀ (n i : Nat) (x : zs) (k : Nat), rN (zfw (fun k x => uF x 19 (upd (rF x 19) k (rF x 19 k + mGain x k))) i n x) k = rN x k
  | 0, _, _, _ => rfl
  | n + 1, i, x, k => (mWA_N n (i + 1) _ k).trans rfl
set_option maxRecDepth 20000 in
set_option maxHeartbeats 1000000 in
theorem lpm_wa (G : zG) (pg nw kp sn ks fo ft fe gt mx : zs) (re : Nat → Int64) (hh : Int64) : ∀ (n i : Nat) (x : zs), mOK x → mHP x → i + n = rN x 5 → zS G mX8_warmAll 2 [some (.ref 49), some (.int (nI i))] [] (wW pg nw kp sn ks fo ft fe gt mx re x hh) none (wW pg nw kp sn ks fo ft fe gt mx re (zfw (fun k x => uF x 19 (upd (rF x 19) k (rF x 19 k + mGain x k))) i n x) hh) := by
  intro n
  induction n with
  | zero =>
    intro i x hx hh2 hi
    obtain ⟨o13, o12, o11, o10, o4, o5⟩ := id hx
    refine z_iload_n iX8_warmAll_2 rfl ?_
    refine z_aload_n iX8_warmAll_3 rfl ?_
    refine z_getf iX8_warmAll_4 fX8_113 (wm) (mF_5 _ _) (by decide) ?_
    refine zn_ge iX8_warmAll_7 (by omega) (by omega) (fun q7 => ?_) (fun q7 => absurd q7 (by omega))
    exact z_return iX8_warmAll_30 (rfl)
  | succ n ih =>
    intro i x hx hh2 hi
    obtain ⟨o13, o12, o11, o10, o4, o5⟩ := id hx
    obtain ⟨p, hp⟩ := hh2 i (by omega)
    refine z_iload_n iX8_warmAll_2 rfl ?_
    refine z_aload_n iX8_warmAll_3 rfl ?_
    refine z_getf iX8_warmAll_4 fX8_113 (wm) (mF_5 _ _) (by decide) ?_
    refine zn_ge iX8_warmAll_7 (by omega) (by omega) (fun q7 => absurd q7 (by omega)) (fun q7 => ?_)
    refine z_aload_n iX8_warmAll_10 rfl ?_
    refine z_getf iX8_warmAll_11 fX8_40 (wm) (mF_19 _ _) (by decide) ?_
    refine z_iload_n iX8_warmAll_14 rfl ?_
    refine z_dup2 iX8_warmAll_15 rfl rfl ?_
    refine z_iaload iX8_warmAll_16 (wm19) rfl (by omega) (by decide) (by decide) ?_
    refine z_aload_n iX8_warmAll_17 rfl ?_
    refine z_iload_n iX8_warmAll_18 rfl ?_
    refine z_cvi (y1 := mX8_warmsBy) iX8_warmAll_19 lX8_156 kX8_warmsBy rfl (cm_warmsBy G pg nw kp sn ks fo ft fe gt mx re x hh hx i (by omega) p hp) (wm) rfl rfl rfl (Nat.le_of_ble_eq_true rfl) (by decide) ?_
    refine z_iadd iX8_warmAll_22 ?_
    refine z_iastore iX8_warmAll_23 (wm19) rfl (by omega) (by decide) (by decide) (by decide) ?_
    rw [wm_19]
    refine z_iinc iX8_warmAll_24 rfl nix_inc rfl (by decide) ?_
    refine z_goto iX8_warmAll_27 ?_
    exact ih (i + 1) _ hx hh2 (by show _ = rN x 5; omega)
set_option maxRecDepth 20000 in
set_option maxHeartbeats 1000000 in
theorem cm_warmAll (G : zG) (pg nw kp sn ks fo ft fe gt mx : zs) (re : Nat → Int64) (m : zs) (hh : Int64) (hm : mOK m) (hp : mHP m) : zK G mX8_warmAll [.ref 49] (wW pg nw kp sn ks fo ft fe gt mx re m hh) none (wW pg nw kp sn ks fo ft fe gt mx re (mWA m) hh) := by
  refine zK_of 1 rfl (by decide) trivial (Nat.le_of_ble_eq_true rfl) rfl ?_
  refine z_iconst iX8_warmAll_0 zk_0 ?_
  refine z_istore_n iX8_warmAll_1 rfl (by decide) ?_
  exact lpm_wa G pg nw kp sn ks fo ft fe gt mx re hh _ 0 m hm hp (Nat.zero_add _)
def mDT (b : Nat) (x : zs) : zs := match mTop x b with
  | none => x
  | some t => mDry x t
theorem mDT_A (b : Nat) (x : zs) (k : Nat) : rA (mDT b x) k = rA x k := by unfold mDT; split <;> rfl
theorem mDT_N (b : Nat) (x : zs) (k : Nat) : rN (mDT b x) k = rN x k := by unfold mDT; split <;> rfl
theorem mDTL_A : ∀ (n i : Nat) (x : zs) (k : Nat), rA (zfw mDT i n x) k = rA x k
  | 0, _, _, _ => rfl
  | n + 1, i, x, k => (mDTL_A n (i + 1) _ k).trans (mDT_A _ _ _)
theorem mDTL_N : ∀ (n i : Nat) (x : zs) (k : Nat), rN (zfw mDT i n x) k = rN x k
  | 0, _, _, _ => rfl
  | n + 1, i, x, k => (mDTL_N n (i + 1) _ k).trans (mDT_N _ _ _)
def mDTs (m : zs) : zs := zfw mDT 0 (rN m 4) m
theorem mDT_ok {b : Nat} {x : zs} (h : mOK x) : mOK (mDT b x) := mOK_of h (mDT_A b x) (fun k _ => mDT_N b x k)
set_option maxRecDepth 20000 in
set_option maxHeartbeats 1000000 in
theorem lpm_dt (G : zG) (pg nw kp sn ks fo ft fe gt mx : zs) (re : Nat → Int64) (hh : Int64) : ∀ (n i : Nat) (x : zs), mOK x → i + n = rN x 4 → zS G mX8_dryTops 2 [some (.ref 49), some (.int (nI i)), none] [] (wW pg nw kp sn ks fo ft fe gt mx re x hh) none (wW pg nw kp sn ks fo ft fe gt mx re (zfw mDT i n x) hh) := by
  intro n
  induction n with
  | zero =>
    intro i x hx hi
    obtain ⟨o13, o12, o11, o10, o4, o5⟩ := id hx
    refine z_iload_n iX8_dryTops_2 rfl ?_
    refine z_aload_n iX8_dryTops_3 rfl ?_
    refine z_getf iX8_dryTops_4 fX8_110 (wm) (mF_4 _ _) (by decide) ?_
    refine zn_ge iX8_dryTops_7 (by omega) (by omega) (fun q7 => ?_) (fun q7 => absurd q7 (by omega))
    exact z_return iX8_dryTops_32 (rfl)
  | succ n ih =>
    intro i x hx hi
    obtain ⟨o13, o12, o11, o10, o4, o5⟩ := id hx
    cases ht : mTop x i with
    | none =>
      refine z_iload_n iX8_dryTops_2 rfl ?_
      refine z_aload_n iX8_dryTops_3 rfl ?_
      refine z_getf iX8_dryTops_4 fX8_110 (wm) (mF_4 _ _) (by decide) ?_
      refine zn_ge iX8_dryTops_7 (by omega) (by omega) (fun q7 => absurd q7 (by omega)) (fun q7 => ?_)
      refine z_aload_n iX8_dryTops_10 rfl ?_
      refine z_iload_n iX8_dryTops_11 rfl ?_
      refine z_cvi (y1 := mX8_topOf) iX8_dryTops_12 lX8_135 kX8_topOf rfl (cm_top G pg nw kp sn ks fo ft fe gt mx re x hh hx i (by omega)) (wm) rfl rfl rfl (Nat.le_of_ble_eq_true rfl) (by decide) ?_
      rw [ht, oI_none]
      refine z_istore_n iX8_dryTops_15 rfl (by decide) ?_
      refine z_iload_n iX8_dryTops_16 rfl ?_
      refine z_iconst iX8_dryTops_17 zk_m1 ?_
      refine z_icmp_eq iX8_dryTops_18 (fun q18 => ?_) (fun q18 => absurd rfl q18)
      refine z_iinc iX8_dryTops_26 rfl nix_inc rfl (by decide) ?_
      refine z_goto iX8_dryTops_29 ?_
      have e1 : mDT i x = x := by rw [mDT, ht]
      rw [zfw, e1]
      refine z_weak ?_ (ih (i + 1) x hx (by omega))
      exact zle_w (by simp [zle, zf3] <;> rfl)
    | some t =>
      have t9 := mTop_lt hx ht
      refine z_iload_n iX8_dryTops_2 rfl ?_
      refine z_aload_n iX8_dryTops_3 rfl ?_
      refine z_getf iX8_dryTops_4 fX8_110 (wm) (mF_4 _ _) (by decide) ?_
      refine zn_ge iX8_dryTops_7 (by omega) (by omega) (fun q7 => absurd q7 (by omega)) (fun q7 => ?_)
      refine z_aload_n iX8_dryTops_10 rfl ?_
      refine z_iload_n iX8_dryTops_11 rfl ?_
      refine z_cvi (y1 := mX8_topOf) iX8_dryTops_12 lX8_135 kX8_topOf rfl (cm_top G pg nw kp sn ks fo ft fe gt mx re x hh hx i (by omega)) (wm) rfl rfl rfl (Nat.le_of_ble_eq_true rfl) (by decide) ?_
      rw [ht, oI_some]
      refine z_istore_n iX8_dryTops_15 rfl (by decide) ?_
      refine z_iload_n iX8_dryTops_16 rfl ?_
      refine z_iconst iX8_dryTops_17 zk_m1 ?_
      refine z_icmp_eq iX8_dryTops_18 (fun q18 => absurd q18 (nI_m1 (by omega))) (fun q18 => ?_)
      refine z_aload_n iX8_dryTops_21 rfl ?_
      refine z_iload_n iX8_dryTops_22 rfl ?_
      refine z_cvv (y1 := mX8_dry) iX8_dryTops_23 lX8_138 kX8_dry rfl (cm_dry G pg nw kp sn ks fo ft fe gt mx re x hh t (by omega)) (wm) rfl rfl rfl (Nat.le_of_ble_eq_true rfl) (by decide) ?_
      refine z_iinc iX8_dryTops_26 rfl nix_inc rfl (by decide) ?_
      refine z_goto iX8_dryTops_29 ?_
      have e1 : mDT i x = mDry x t := by rw [mDT, ht]
      rw [zfw, e1]
      refine z_weak ?_ (ih (i + 1) (mDry x t) hx (by show _ = rN x 4; omega))
      exact zle_w (by simp [zle, zf3] <;> rfl)
set_option maxRecDepth 20000 in
set_option maxHeartbeats 1000000 in
theorem cm_dryTops (G : zG) (pg nw kp sn ks fo ft fe gt mx : zs) (re : Nat → Int64) (m : zs) (hh : Int64) (hm : mOK m) : zK G mX8_dryTops [.ref 49] (wW pg nw kp sn ks fo ft fe gt mx re m hh) none (wW pg nw kp sn ks fo ft fe gt mx re (mDTs m) hh) := by
  refine zK_of 2 rfl (by decide) trivial (Nat.le_of_ble_eq_true rfl) rfl ?_
  refine z_iconst iX8_dryTops_0 zk_0 ?_
  refine z_istore_n iX8_dryTops_1 rfl (by decide) ?_
  exact lpm_dt G pg nw kp sn ks fo ft fe gt mx re hh _ 0 m hm (Nat.zero_add _)
def mU (x : zs) (u k : Nat) : Nat := if u = 0 then (if rF x 17 k ≤ 0 then 0 else if rF x 19 k < nI 30 then 0 else 1) else 1
def mBP (b p : Nat) (x : Nat × Nat × zs) : Nat × Nat × zs := if mU x.2.2 x.1 (rA x.2.2 13 (4 * b + p)) = 0 then (0, x.2.1, x.2.2) else if rF x.2.2 17 (rA x.2.2 13 (4 * b + p)) ≤ 0 then (1, x.2.1, x.2.2) else (1, x.2.1 + 1, mGo x.2.2 (rA x.2.2 13 (4 * b + p)))
def mBB (b : Nat) (x : Nat × zs) : Nat × zs := ((zfw (mBP b) 0 (rA x.2 12 b) (0, x.1, x.2)).2.1, (zfw (mBP b) 0 (rA x.2 12 b) (0, x.1, x.2)).2.2)
theorem mBP_A (b p : Nat) (x : Nat × Nat × zs) (k : Nat) : rA (mBP b p x).2.2 k = rA x.2.2 k := by unfold mBP; split; rfl; split <;> rfl
theorem mBP_N (b p : Nat) (x : Nat × Nat × zs) (k : Nat) : rN (mBP b p x).2.2 k = rN x.2.2 k := by unfold mBP; split; rfl; split <;> rfl
theorem mBP_u (b p : Nat) (x : Nat × Nat × zs) : (mBP b p x).1 ≤ 1 := by unfold mBP; split; exact Nat.zero_le _; split <;> exact Nat.le_refl _
theorem mBPL_A (b : Nat) : ∀ (n i : Nat) (x : Nat × Nat × zs) (k : Nat), rA (zfw (mBP b) i n x).2.2 k = rA x.2.2 k
  | 0, _, _, _ => rfl
  | n + 1, i, x, k => (mBPL_A b n (i + 1) _ k).trans (mBP_A _ _ _ _)
theorem mBPL_N (b : Nat) : ∀ (n i : Nat) (x : Nat × Nat × zs) (k : Nat), rN (zfw (mBP b) i n x).2.2 k = rN x.2.2 k
  | 0, _, _, _ => rfl
  | n + 1, i, x, k => (mBPL_N b n (i + 1) _ k).trans (mBP_N _ _ _ _)
theorem mBBL_A : ∀ (n i : Nat) (x : Nat × zs) (k : Nat), rA (zfw mBB i n x).2 k = rA x.2 k
  | 0, _, _, _ => rfl
  | n + 1, i, x, k => (mBBL_A n (i + 1) _ k).trans (mBPL_A i _ 0 _ k)
theorem mBBL_N : ∀ (n i : Nat) (x : Nat × zs) (k : Nat), rN (zfw mBB i n x).2 k = rN x.2 k
  | 0, _, _, _ => rfl
  | n + 1, i, x, k => (mBBL_N n (i + 1) _ k).trans (mBPL_N i _ 0 _ k)
def mDay (m : zs) : Nat × zs := ((zfw mBB 0 (rN m 4) (0, mWA m)).1, mDTs (zfw mBB 0 (rN m 4) (0, mWA m)).2)
theorem mDay_A (m : zs) (k : Nat) : rA (mDay m).2 k = rA m k := (mDTL_A _ _ _ k).trans ((mBBL_A _ _ _ k).trans (mWA_A _ _ _ k))
theorem mDay_N (m : zs) (k : Nat) : rN (mDay m).2 k = rN m k := (mDTL_N _ _ _ k).trans ((mBBL_N _ _ _ k).trans (mWA_N _ _ _ k))
theorem mDay_ok {m : zs} (h : mOK m) : mOK (mDay m).2 := mOK_of h (mDay_A m) (fun k _ => mDay_N m k)
theorem mDay_hp {m : zs} (h : mHP m) : mHP (mDay m).2 := mHP_of h (mDay_A m) (mDay_N m 5)
set_option maxRecDepth 20000 in
set_option maxHeartbeats 1000000 in
theorem lpm_bp (G : zG) (pg nw kp sn ks fo ft fe gt mx : zs) (re : Nat → Int64) (hh : Int64) (b : Nat) (hb : b < 3) (r : Option Value) (g2 : zh) : ∀ (n i : Nat) (x : Nat × Nat × zs), mOK x.2.2 → x.1 ≤ 1 → i + n = rA x.2.2 12 b → (∀ y, y = zfw (mBP b) i n x → zS G mX8_dayThen 106 [some (.ref 49), some (.int (nI y.2.1)), some (.int (nI b)), none, none, none] [] (wW pg nw kp sn ks fo ft fe gt mx re y.2.2 hh) r g2) → zS G mX8_dayThen 21 [some (.ref 49), some (.int (nI x.2.1)), some (.int (nI b)), some (.int (nI x.1)), some (.int (nI i)), none] [] (wW pg nw kp sn ks fo ft fe gt mx re x.2.2 hh) r (g2) := by
  intro n
  induction n with
  | zero =>
    intro i x hx hu hi hk
    obtain ⟨o13, o12, o11, o10, o4, o5⟩ := id hx
    have o1 := o12 b
    refine z_iload iX8_dayThen_21 rfl ?_
    refine z_aload_n iX8_dayThen_23 rfl ?_
    refine z_getf iX8_dayThen_24 fX8_19 (wm) (mF_12 _ _) (by decide) ?_
    refine z_iload_n iX8_dayThen_27 rfl ?_
    refine z_iaload iX8_dayThen_28 (wm12) rfl (by omega) (by decide) (by decide) ?_
    refine zn_ge iX8_dayThen_29 (by omega) (by omega) (fun q29 => ?_) (fun q29 => absurd q29 (by omega))
    refine z_weak ?_ (hk _ rfl)
    exact zle_w (by simp [zle, zf3] <;> rfl)
  | succ n ih =>
    intro i x hx hu hi hk
    obtain ⟨o13, o12, o11, o10, o4, o5⟩ := id hx
    have o1 := o12 b
    have o2 := o13 (4 * b + i)
    refine z_iload iX8_dayThen_21 rfl ?_
    refine z_aload_n iX8_dayThen_23 rfl ?_
    refine z_getf iX8_dayThen_24 fX8_19 (wm) (mF_12 _ _) (by decide) ?_
    refine z_iload_n iX8_dayThen_27 rfl ?_
    refine z_iaload iX8_dayThen_28 (wm12) rfl (by omega) (by decide) (by decide) ?_
    refine zn_ge iX8_dayThen_29 (by omega) (by omega) (fun q29 => absurd q29 (by omega)) (fun q29 => ?_)
    refine z_aload_n iX8_dayThen_32 rfl ?_
    refine z_getf iX8_dayThen_33 fX8_22 (wm) (mF_13 _ _) (by decide) ?_
    refine z_iconst iX8_dayThen_36 zk_4 ?_
    refine z_iload_n iX8_dayThen_37 rfl ?_
    refine z_imul iX8_dayThen_38 ?_
    refine z_top nix_mul ?_
    refine z_iload iX8_dayThen_39 rfl ?_
    refine z_iadd iX8_dayThen_41 ?_
    refine z_top nix_add ?_
    refine z_iaload iX8_dayThen_42 (wm13) rfl (by omega) (by decide) (by decide) ?_
    refine z_istore iX8_dayThen_43 rfl (by decide) ?_
    refine z_iload_n iX8_dayThen_45 rfl ?_
    refine zn_if_ne iX8_dayThen_46 (by omega) (fun q46 => ?_) (fun q46 => ?_)
    · refine z_iconst iX8_dayThen_71 zk_1 ?_
      refine z_goto iX8_dayThen_72 ?_
      refine z_istore_n iX8_dayThen_76 rfl (by decide) ?_
      refine z_iload_n iX8_dayThen_77 rfl ?_
      refine zn_if_eq iX8_dayThen_78 (by omega) (fun q78 => ?_) (fun q78 => ?_)
      · refine z_iinc iX8_dayThen_100 rfl nix_inc rfl (by decide) ?_
        refine z_goto iX8_dayThen_103 ?_
        first
          | exact absurd q78 (by decide)
          | exact absurd rfl q78
          | (have e0 : mU x.2.2 x.1 (rA x.2.2 13 (4 * b + i)) = 0 := by rw [mU, if_pos q46, if_pos q56]
             have e1 : mBP b i x = (0, x.2.1, x.2.2) := by rw [mBP, e0, if_pos rfl]
             have k1 := ih (i + 1) (mBP b i x) (mOK_of hx (mBP_A b i x) (fun k _ => mBP_N b i x k)) (mBP_u b i x) (by rw [mBP_A]; omega) (by rw [zfw] at hk; exact hk)
             rw [e1] at k1
             refine z_weak ?_ k1
             exact zle_w (by simp [zle, zf3] <;> rfl))
          | (have e0 : mU x.2.2 x.1 (rA x.2.2 13 (4 * b + i)) = 0 := by rw [mU, if_pos q46, if_neg q56, if_pos q68]
             have e1 : mBP b i x = (0, x.2.1, x.2.2) := by rw [mBP, e0, if_pos rfl]
             have k1 := ih (i + 1) (mBP b i x) (mOK_of hx (mBP_A b i x) (fun k _ => mBP_N b i x k)) (mBP_u b i x) (by rw [mBP_A]; omega) (by rw [zfw] at hk; exact hk)
             rw [e1] at k1
             refine z_weak ?_ k1
             exact zle_w (by simp [zle, zf3] <;> rfl))
          | (have e0 : mU x.2.2 x.1 (rA x.2.2 13 (4 * b + i)) = 1 := by rw [mU, if_neg q46]
             have e1 : mBP b i x = (1, x.2.1, x.2.2) := by rw [mBP, e0, if_neg (by decide), if_pos q88]
             have k1 := ih (i + 1) (mBP b i x) (mOK_of hx (mBP_A b i x) (fun k _ => mBP_N b i x k)) (mBP_u b i x) (by rw [mBP_A]; omega) (by rw [zfw] at hk; exact hk)
             rw [e1] at k1
             refine z_weak ?_ k1
             exact zle_w (by simp [zle, zf3] <;> rfl))
          | (have e0 : mU x.2.2 x.1 (rA x.2.2 13 (4 * b + i)) = 1 := by rw [mU, if_pos q46, if_neg q56, if_neg q68]
             have e1 : mBP b i x = (1, x.2.1, x.2.2) := by rw [mBP, e0, if_neg (by decide), if_pos q88]
             have k1 := ih (i + 1) (mBP b i x) (mOK_of hx (mBP_A b i x) (fun k _ => mBP_N b i x k)) (mBP_u b i x) (by rw [mBP_A]; omega) (by rw [zfw] at hk; exact hk)
             rw [e1] at k1
             refine z_weak ?_ k1
             exact zle_w (by simp [zle, zf3] <;> rfl))
          | (have e0 : mU x.2.2 x.1 (rA x.2.2 13 (4 * b + i)) = 1 := by rw [mU, if_neg q46]
             have e1 : mBP b i x = (1, x.2.1 + 1, mGo x.2.2 (rA x.2.2 13 (4 * b + i))) := by rw [mBP, e0, if_neg (by decide), if_neg q88]
             have k1 := ih (i + 1) (mBP b i x) (mOK_of hx (mBP_A b i x) (fun k _ => mBP_N b i x k)) (mBP_u b i x) (by rw [mBP_A]; omega) (by rw [zfw] at hk; exact hk)
             rw [e1] at k1
             refine z_weak ?_ k1
             exact zle_w (by simp [zle, zf3] <;> rfl))
          | (have e0 : mU x.2.2 x.1 (rA x.2.2 13 (4 * b + i)) = 1 := by rw [mU, if_pos q46, if_neg q56, if_neg q68]
             have e1 : mBP b i x = (1, x.2.1 + 1, mGo x.2.2 (rA x.2.2 13 (4 * b + i))) := by rw [mBP, e0, if_neg (by decide), if_neg q88]
             have k1 := ih (i + 1) (mBP b i x) (mOK_of hx (mBP_A b i x) (fun k _ => mBP_N b i x k)) (mBP_u b i x) (by rw [mBP_A]; omega) (by rw [zfw] at hk; exact hk)
             rw [e1] at k1
             refine z_weak ?_ k1
             exact zle_w (by simp [zle, zf3] <;> rfl))
      · refine z_aload_n iX8_dayThen_81 rfl ?_
        refine z_getf iX8_dayThen_82 fX8_34 (wm) (mF_17 _ _) (by decide) ?_
        refine z_iload iX8_dayThen_85 rfl ?_
        refine z_iaload iX8_dayThen_87 (wm17) rfl (by omega) (by decide) (by decide) ?_
        refine z_if_le iX8_dayThen_88 (fun q88 => ?_) (fun q88 => ?_)
        · refine z_iinc iX8_dayThen_100 rfl nix_inc rfl (by decide) ?_
          refine z_goto iX8_dayThen_103 ?_
          first
            | exact absurd q78 (by decide)
            | exact absurd rfl q78
            | (have e0 : mU x.2.2 x.1 (rA x.2.2 13 (4 * b + i)) = 0 := by rw [mU, if_pos q46, if_pos q56]
               have e1 : mBP b i x = (0, x.2.1, x.2.2) := by rw [mBP, e0, if_pos rfl]
               have k1 := ih (i + 1) (mBP b i x) (mOK_of hx (mBP_A b i x) (fun k _ => mBP_N b i x k)) (mBP_u b i x) (by rw [mBP_A]; omega) (by rw [zfw] at hk; exact hk)
               rw [e1] at k1
               refine z_weak ?_ k1
               exact zle_w (by simp [zle, zf3] <;> rfl))
            | (have e0 : mU x.2.2 x.1 (rA x.2.2 13 (4 * b + i)) = 0 := by rw [mU, if_pos q46, if_neg q56, if_pos q68]
               have e1 : mBP b i x = (0, x.2.1, x.2.2) := by rw [mBP, e0, if_pos rfl]
               have k1 := ih (i + 1) (mBP b i x) (mOK_of hx (mBP_A b i x) (fun k _ => mBP_N b i x k)) (mBP_u b i x) (by rw [mBP_A]; omega) (by rw [zfw] at hk; exact hk)
               rw [e1] at k1
               refine z_weak ?_ k1
               exact zle_w (by simp [zle, zf3] <;> rfl))
            | (have e0 : mU x.2.2 x.1 (rA x.2.2 13 (4 * b + i)) = 1 := by rw [mU, if_neg q46]
               have e1 : mBP b i x = (1, x.2.1, x.2.2) := by rw [mBP, e0, if_neg (by decide), if_pos q88]
               have k1 := ih (i + 1) (mBP b i x) (mOK_of hx (mBP_A b i x) (fun k _ => mBP_N b i x k)) (mBP_u b i x) (by rw [mBP_A]; omega) (by rw [zfw] at hk; exact hk)
               rw [e1] at k1
               refine z_weak ?_ k1
               exact zle_w (by simp [zle, zf3] <;> rfl))
            | (have e0 : mU x.2.2 x.1 (rA x.2.2 13 (4 * b + i)) = 1 := by rw [mU, if_pos q46, if_neg q56, if_neg q68]
               have e1 : mBP b i x = (1, x.2.1, x.2.2) := by rw [mBP, e0, if_neg (by decide), if_pos q88]
               have k1 := ih (i + 1) (mBP b i x) (mOK_of hx (mBP_A b i x) (fun k _ => mBP_N b i x k)) (mBP_u b i x) (by rw [mBP_A]; omega) (by rw [zfw] at hk; exact hk)
               rw [e1] at k1
               refine z_weak ?_ k1
               exact zle_w (by simp [zle, zf3] <;> rfl))
            | (have e0 : mU x.2.2 x.1 (rA x.2.2 13 (4 * b + i)) = 1 := by rw [mU, if_neg q46]
               have e1 : mBP b i x = (1, x.2.1 + 1, mGo x.2.2 (rA x.2.2 13 (4 * b + i))) := by rw [mBP, e0, if_neg (by decide), if_neg q88]
               have k1 := ih (i + 1) (mBP b i x) (mOK_of hx (mBP_A b i x) (fun k _ => mBP_N b i x k)) (mBP_u b i x) (by rw [mBP_A]; omega) (by rw [zfw] at hk; exact hk)
               rw [e1] at k1
               refine z_weak ?_ k1
               exact zle_w (by simp [zle, zf3] <;> rfl))
            | (have e0 : mU x.2.2 x.1 (rA x.2.2 13 (4 * b + i)) = 1 := by rw [mU, if_pos q46, if_neg q56, if_neg q68]
               have e1 : mBP b i x = (1, x.2.1 + 1, mGo x.2.2 (rA x.2.2 13 (4 * b + i))) := by rw [mBP, e0, if_neg (by decide), if_neg q88]
               have k1 := ih (i + 1) (mBP b i x) (mOK_of hx (mBP_A b i x) (fun k _ => mBP_N b i x k)) (mBP_u b i x) (by rw [mBP_A]; omega) (by rw [zfw] at hk; exact hk)
               rw [e1] at k1
               refine z_weak ?_ k1
               exact zle_w (by simp [zle, zf3] <;> rfl))
        · refine z_aload_n iX8_dayThen_91 rfl ?_
          refine z_iload iX8_dayThen_92 rfl ?_
          refine z_cvv (y1 := mX8_goes) iX8_dayThen_94 lX8_142 kX8_goes rfl (cm_goes G pg nw kp sn ks fo ft fe gt mx re _ hh _ (by omega)) (wm) rfl rfl rfl (Nat.le_of_ble_eq_true rfl) (by decide) ?_
          refine z_iinc iX8_dayThen_97 rfl nix_inc rfl (by decide) ?_
          refine z_iinc iX8_dayThen_100 rfl nix_inc rfl (by decide) ?_
          refine z_goto iX8_dayThen_103 ?_
          first
            | exact absurd q78 (by decide)
            | exact absurd rfl q78
            | (have e0 : mU x.2.2 x.1 (rA x.2.2 13 (4 * b + i)) = 0 := by rw [mU, if_pos q46, if_pos q56]
               have e1 : mBP b i x = (0, x.2.1, x.2.2) := by rw [mBP, e0, if_pos rfl]
               have k1 := ih (i + 1) (mBP b i x) (mOK_of hx (mBP_A b i x) (fun k _ => mBP_N b i x k)) (mBP_u b i x) (by rw [mBP_A]; omega) (by rw [zfw] at hk; exact hk)
               rw [e1] at k1
               refine z_weak ?_ k1
               exact zle_w (by simp [zle, zf3] <;> rfl))
            | (have e0 : mU x.2.2 x.1 (rA x.2.2 13 (4 * b + i)) = 0 := by rw [mU, if_pos q46, if_neg q56, if_pos q68]
               have e1 : mBP b i x = (0, x.2.1, x.2.2) := by rw [mBP, e0, if_pos rfl]
               have k1 := ih (i + 1) (mBP b i x) (mOK_of hx (mBP_A b i x) (fun k _ => mBP_N b i x k)) (mBP_u b i x) (by rw [mBP_A]; omega) (by rw [zfw] at hk; exact hk)
               rw [e1] at k1
               refine z_weak ?_ k1
               exact zle_w (by simp [zle, zf3] <;> rfl))
            | (have e0 : mU x.2.2 x.1 (rA x.2.2 13 (4 * b + i)) = 1 := by rw [mU, if_neg q46]
               have e1 : mBP b i x = (1, x.2.1, x.2.2) := by rw [mBP, e0, if_neg (by decide), if_pos q88]
               have k1 := ih (i + 1) (mBP b i x) (mOK_of hx (mBP_A b i x) (fun k _ => mBP_N b i x k)) (mBP_u b i x) (by rw [mBP_A]; omega) (by rw [zfw] at hk; exact hk)
               rw [e1] at k1
               refine z_weak ?_ k1
               exact zle_w (by simp [zle, zf3] <;> rfl))
            | (have e0 : mU x.2.2 x.1 (rA x.2.2 13 (4 * b + i)) = 1 := by rw [mU, if_pos q46, if_neg q56, if_neg q68]
               have e1 : mBP b i x = (1, x.2.1, x.2.2) := by rw [mBP, e0, if_neg (by decide), if_pos q88]
               have k1 := ih (i + 1) (mBP b i x) (mOK_of hx (mBP_A b i x) (fun k _ => mBP_N b i x k)) (mBP_u b i x) (by rw [mBP_A]; omega) (by rw [zfw] at hk; exact hk)
               rw [e1] at k1
               refine z_weak ?_ k1
               exact zle_w (by simp [zle, zf3] <;> rfl))
            | (have e0 : mU x.2.2 x.1 (rA x.2.2 13 (4 * b + i)) = 1 := by rw [mU, if_neg q46]
               have e1 : mBP b i x = (1, x.2.1 + 1, mGo x.2.2 (rA x.2.2 13 (4 * b + i))) := by rw [mBP, e0, if_neg (by decide), if_neg q88]
               have k1 := ih (i + 1) (mBP b i x) (mOK_of hx (mBP_A b i x) (fun k _ => mBP_N b i x k)) (mBP_u b i x) (by rw [mBP_A]; omega) (by rw [zfw] at hk; exact hk)
               rw [e1] at k1
               refine z_weak ?_ k1
               exact zle_w (by simp [zle, zf3] <;> rfl))
            | (have e0 : mU x.2.2 x.1 (rA x.2.2 13 (4 * b + i)) = 1 := by rw [mU, if_pos q46, if_neg q56, if_neg q68]
               have e1 : mBP b i x = (1, x.2.1 + 1, mGo x.2.2 (rA x.2.2 13 (4 * b + i))) := by rw [mBP, e0, if_neg (by decide), if_neg q88]
               have k1 := ih (i + 1) (mBP b i x) (mOK_of hx (mBP_A b i x) (fun k _ => mBP_N b i x k)) (mBP_u b i x) (by rw [mBP_A]; omega) (by rw [zfw] at hk; exact hk)
               rw [e1] at k1
               refine z_weak ?_ k1
               exact zle_w (by simp [zle, zf3] <;> rfl))
    · refine z_aload_n iX8_dayThen_49 rfl ?_
      refine z_getf iX8_dayThen_50 fX8_34 (wm) (mF_17 _ _) (by decide) ?_
      refine z_iload iX8_dayThen_53 rfl ?_
      refine z_iaload iX8_dayThen_55 (wm17) rfl (by omega) (by decide) (by decide) ?_
      refine z_if_le iX8_dayThen_56 (fun q56 => ?_) (fun q56 => ?_)
      · refine z_iconst iX8_dayThen_75 zk_0 ?_
        refine z_istore_n iX8_dayThen_76 rfl (by decide) ?_
        refine z_iload_n iX8_dayThen_77 rfl ?_
        refine zn_if_eq iX8_dayThen_78 (by omega) (fun q78 => ?_) (fun q78 => ?_)
        · refine z_iinc iX8_dayThen_100 rfl nix_inc rfl (by decide) ?_
          refine z_goto iX8_dayThen_103 ?_
          first
            | exact absurd q78 (by decide)
            | exact absurd rfl q78
            | (have e0 : mU x.2.2 x.1 (rA x.2.2 13 (4 * b + i)) = 0 := by rw [mU, if_pos q46, if_pos q56]
               have e1 : mBP b i x = (0, x.2.1, x.2.2) := by rw [mBP, e0, if_pos rfl]
               have k1 := ih (i + 1) (mBP b i x) (mOK_of hx (mBP_A b i x) (fun k _ => mBP_N b i x k)) (mBP_u b i x) (by rw [mBP_A]; omega) (by rw [zfw] at hk; exact hk)
               rw [e1] at k1
               refine z_weak ?_ k1
               exact zle_w (by simp [zle, zf3] <;> rfl))
            | (have e0 : mU x.2.2 x.1 (rA x.2.2 13 (4 * b + i)) = 0 := by rw [mU, if_pos q46, if_neg q56, if_pos q68]
               have e1 : mBP b i x = (0, x.2.1, x.2.2) := by rw [mBP, e0, if_pos rfl]
               have k1 := ih (i + 1) (mBP b i x) (mOK_of hx (mBP_A b i x) (fun k _ => mBP_N b i x k)) (mBP_u b i x) (by rw [mBP_A]; omega) (by rw [zfw] at hk; exact hk)
               rw [e1] at k1
               refine z_weak ?_ k1
               exact zle_w (by simp [zle, zf3] <;> rfl))
            | (have e0 : mU x.2.2 x.1 (rA x.2.2 13 (4 * b + i)) = 1 := by rw [mU, if_neg q46]
               have e1 : mBP b i x = (1, x.2.1, x.2.2) := by rw [mBP, e0, if_neg (by decide), if_pos q88]
               have k1 := ih (i + 1) (mBP b i x) (mOK_of hx (mBP_A b i x) (fun k _ => mBP_N b i x k)) (mBP_u b i x) (by rw [mBP_A]; omega) (by rw [zfw] at hk; exact hk)
               rw [e1] at k1
               refine z_weak ?_ k1
               exact zle_w (by simp [zle, zf3] <;> rfl))
            | (have e0 : mU x.2.2 x.1 (rA x.2.2 13 (4 * b + i)) = 1 := by rw [mU, if_pos q46, if_neg q56, if_neg q68]
               have e1 : mBP b i x = (1, x.2.1, x.2.2) := by rw [mBP, e0, if_neg (by decide), if_pos q88]
               have k1 := ih (i + 1) (mBP b i x) (mOK_of hx (mBP_A b i x) (fun k _ => mBP_N b i x k)) (mBP_u b i x) (by rw [mBP_A]; omega) (by rw [zfw] at hk; exact hk)
               rw [e1] at k1
               refine z_weak ?_ k1
               exact zle_w (by simp [zle, zf3] <;> rfl))
            | (have e0 : mU x.2.2 x.1 (rA x.2.2 13 (4 * b + i)) = 1 := by rw [mU, if_neg q46]
               have e1 : mBP b i x = (1, x.2.1 + 1, mGo x.2.2 (rA x.2.2 13 (4 * b + i))) := by rw [mBP, e0, if_neg (by decide), if_neg q88]
               have k1 := ih (i + 1) (mBP b i x) (mOK_of hx (mBP_A b i x) (fun k _ => mBP_N b i x k)) (mBP_u b i x) (by rw [mBP_A]; omega) (by rw [zfw] at hk; exact hk)
               rw [e1] at k1
               refine z_weak ?_ k1
               exact zle_w (by simp [zle, zf3] <;> rfl))
            | (have e0 : mU x.2.2 x.1 (rA x.2.2 13 (4 * b + i)) = 1 := by rw [mU, if_pos q46, if_neg q56, if_neg q68]
               have e1 : mBP b i x = (1, x.2.1 + 1, mGo x.2.2 (rA x.2.2 13 (4 * b + i))) := by rw [mBP, e0, if_neg (by decide), if_neg q88]
               have k1 := ih (i + 1) (mBP b i x) (mOK_of hx (mBP_A b i x) (fun k _ => mBP_N b i x k)) (mBP_u b i x) (by rw [mBP_A]; omega) (by rw [zfw] at hk; exact hk)
               rw [e1] at k1
               refine z_weak ?_ k1
               exact zle_w (by simp [zle, zf3] <;> rfl))
        · refine z_aload_n iX8_dayThen_81 rfl ?_
          refine z_getf iX8_dayThen_82 fX8_34 (wm) (mF_17 _ _) (by decide) ?_
          refine z_iload iX8_dayThen_85 rfl ?_
          refine z_iaload iX8_dayThen_87 (wm17) rfl (by omega) (by decide) (by decide) ?_
          refine z_if_le iX8_dayThen_88 (fun q88 => ?_) (fun q88 => ?_)
          · refine z_iinc iX8_dayThen_100 rfl nix_inc rfl (by decide) ?_
            refine z_goto iX8_dayThen_103 ?_
            first
              | exact absurd q78 (by decide)
              | exact absurd rfl q78
              | (have e0 : mU x.2.2 x.1 (rA x.2.2 13 (4 * b + i)) = 0 := by rw [mU, if_pos q46, if_pos q56]
                 have e1 : mBP b i x = (0, x.2.1, x.2.2) := by rw [mBP, e0, if_pos rfl]
                 have k1 := ih (i + 1) (mBP b i x) (mOK_of hx (mBP_A b i x) (fun k _ => mBP_N b i x k)) (mBP_u b i x) (by rw [mBP_A]; omega) (by rw [zfw] at hk; exact hk)
                 rw [e1] at k1
                 refine z_weak ?_ k1
                 exact zle_w (by simp [zle, zf3] <;> rfl))
              | (have e0 : mU x.2.2 x.1 (rA x.2.2 13 (4 * b + i)) = 0 := by rw [mU, if_pos q46, if_neg q56, if_pos q68]
                 have e1 : mBP b i x = (0, x.2.1, x.2.2) := by rw [mBP, e0, if_pos rfl]
                 have k1 := ih (i + 1) (mBP b i x) (mOK_of hx (mBP_A b i x) (fun k _ => mBP_N b i x k)) (mBP_u b i x) (by rw [mBP_A]; omega) (by rw [zfw] at hk; exact hk)
                 rw [e1] at k1
                 refine z_weak ?_ k1
                 exact zle_w (by simp [zle, zf3] <;> rfl))
              | (have e0 : mU x.2.2 x.1 (rA x.2.2 13 (4 * b + i)) = 1 := by rw [mU, if_neg q46]
                 have e1 : mBP b i x = (1, x.2.1, x.2.2) := by rw [mBP, e0, if_neg (by decide), if_pos q88]
                 have k1 := ih (i + 1) (mBP b i x) (mOK_of hx (mBP_A b i x) (fun k _ => mBP_N b i x k)) (mBP_u b i x) (by rw [mBP_A]; omega) (by rw [zfw] at hk; exact hk)
                 rw [e1] at k1
                 refine z_weak ?_ k1
                 exact zle_w (by simp [zle, zf3] <;> rfl))
              | (have e0 : mU x.2.2 x.1 (rA x.2.2 13 (4 * b + i)) = 1 := by rw [mU, if_pos q46, if_neg q56, if_neg q68]
                 have e1 : mBP b i x = (1, x.2.1, x.2.2) := by rw [mBP, e0, if_neg (by decide), if_pos q88]
                 have k1 := ih (i + 1) (mBP b i x) (mOK_of hx (mBP_A b i x) (fun k _ => mBP_N b i x k)) (mBP_u b i x) (by rw [mBP_A]; omega) (by rw [zfw] at hk; exact hk)
                 rw [e1] at k1
                 refine z_weak ?_ k1
                 exact zle_w (by simp [zle, zf3] <;> rfl))
              | (have e0 : mU x.2.2 x.1 (rA x.2.2 13 (4 * b + i)) = 1 := by rw [mU, if_neg q46]
                 have e1 : mBP b i x = (1, x.2.1 + 1, mGo x.2.2 (rA x.2.2 13 (4 * b + i))) := by rw [mBP, e0, if_neg (by decide), if_neg q88]
                 have k1 := ih (i + 1) (mBP b i x) (mOK_of hx (mBP_A b i x) (fun k _ => mBP_N b i x k)) (mBP_u b i x) (by rw [mBP_A]; omega) (by rw [zfw] at hk; exact hk)
                 rw [e1] at k1
                 refine z_weak ?_ k1
                 exact zle_w (by simp [zle, zf3] <;> rfl))
              | (have e0 : mU x.2.2 x.1 (rA x.2.2 13 (4 * b + i)) = 1 := by rw [mU, if_pos q46, if_neg q56, if_neg q68]
                 have e1 : mBP b i x = (1, x.2.1 + 1, mGo x.2.2 (rA x.2.2 13 (4 * b + i))) := by rw [mBP, e0, if_neg (by decide), if_neg q88]
                 have k1 := ih (i + 1) (mBP b i x) (mOK_of hx (mBP_A b i x) (fun k _ => mBP_N b i x k)) (mBP_u b i x) (by rw [mBP_A]; omega) (by rw [zfw] at hk; exact hk)
                 rw [e1] at k1
                 refine z_weak ?_ k1
                 exact zle_w (by simp [zle, zf3] <;> rfl))
          · refine z_aload_n iX8_dayThen_91 rfl ?_
            refine z_iload iX8_dayThen_92 rfl ?_
            refine z_cvv (y1 := mX8_goes) iX8_dayThen_94 lX8_142 kX8_goes rfl (cm_goes G pg nw kp sn ks fo ft fe gt mx re _ hh _ (by omega)) (wm) rfl rfl rfl (Nat.le_of_ble_eq_true rfl) (by decide) ?_
            refine z_iinc iX8_dayThen_97 rfl nix_inc rfl (by decide) ?_
            refine z_iinc iX8_dayThen_100 rfl nix_inc rfl (by decide) ?_
            refine z_goto iX8_dayThen_103 ?_
            first
              | exact absurd q78 (by decide)
              | exact absurd rfl q78
              | (have e0 : mU x.2.2 x.1 (rA x.2.2 13 (4 * b + i)) = 0 := by rw [mU, if_pos q46, if_pos q56]
                 have e1 : mBP b i x = (0, x.2.1, x.2.2) := by rw [mBP, e0, if_pos rfl]
                 have k1 := ih (i + 1) (mBP b i x) (mOK_of hx (mBP_A b i x) (fun k _ => mBP_N b i x k)) (mBP_u b i x) (by rw [mBP_A]; omega) (by rw [zfw] at hk; exact hk)
                 rw [e1] at k1
                 refine z_weak ?_ k1
                 exact zle_w (by simp [zle, zf3] <;> rfl))
              | (have e0 : mU x.2.2 x.1 (rA x.2.2 13 (4 * b + i)) = 0 := by rw [mU, if_pos q46, if_neg q56, if_pos q68]
                 have e1 : mBP b i x = (0, x.2.1, x.2.2) := by rw [mBP, e0, if_pos rfl]
                 have k1 := ih (i + 1) (mBP b i x) (mOK_of hx (mBP_A b i x) (fun k _ => mBP_N b i x k)) (mBP_u b i x) (by rw [mBP_A]; omega) (by rw [zfw] at hk; exact hk)
                 rw [e1] at k1
                 refine z_weak ?_ k1
                 exact zle_w (by simp [zle, zf3] <;> rfl))
              | (have e0 : mU x.2.2 x.1 (rA x.2.2 13 (4 * b + i)) = 1 := by rw [mU, if_neg q46]
                 have e1 : mBP b i x = (1, x.2.1, x.2.2) := by rw [mBP, e0, if_neg (by decide), if_pos q88]
                 have k1 := ih (i + 1) (mBP b i x) (mOK_of hx (mBP_A b i x) (fun k _ => mBP_N b i x k)) (mBP_u b i x) (by rw [mBP_A]; omega) (by rw [zfw] at hk; exact hk)
                 rw [e1] at k1
                 refine z_weak ?_ k1
                 exact zle_w (by simp [zle, zf3] <;> rfl))
              | (have e0 : mU x.2.2 x.1 (rA x.2.2 13 (4 * b + i)) = 1 := by rw [mU, if_pos q46, if_neg q56, if_neg q68]
                 have e1 : mBP b i x = (1, x.2.1, x.2.2) := by rw [mBP, e0, if_neg (by decide), if_pos q88]
                 have k1 := ih (i + 1) (mBP b i x) (mOK_of hx (mBP_A b i x) (fun k _ => mBP_N b i x k)) (mBP_u b i x) (by rw [mBP_A]; omega) (by rw [zfw] at hk; exact hk)
                 rw [e1] at k1
                 refine z_weak ?_ k1
                 exact zle_w (by simp [zle, zf3] <;> rfl))
              | (have e0 : mU x.2.2 x.1 (rA x.2.2 13 (4 * b + i)) = 1 := by rw [mU, if_neg q46]
                 have e1 : mBP b i x = (1, x.2.1 + 1, mGo x.2.2 (rA x.2.2 13 (4 * b + i))) := by rw [mBP, e0, if_neg (by decide), if_neg q88]
                 have k1 := ih (i + 1) (mBP b i x) (mOK_of hx (mBP_A b i x) (fun k _ => mBP_N b i x k)) (mBP_u b i x) (by rw [mBP_A]; omega) (by rw [zfw] at hk; exact hk)
                 rw [e1] at k1
                 refine z_weak ?_ k1
                 exact zle_w (by simp [zle, zf3] <;> rfl))
              | (have e0 : mU x.2.2 x.1 (rA x.2.2 13 (4 * b + i)) = 1 := by rw [mU, if_pos q46, if_neg q56, if_neg q68]
                 have e1 : mBP b i x = (1, x.2.1 + 1, mGo x.2.2 (rA x.2.2 13 (4 * b + i))) := by rw [mBP, e0, if_neg (by decide), if_neg q88]
                 have k1 := ih (i + 1) (mBP b i x) (mOK_of hx (mBP_A b i x) (fun k _ => mBP_N b i x k)) (mBP_u b i x) (by rw [mBP_A]; omega) (by rw [zfw] at hk; exact hk)
                 rw [e1] at k1
                 refine z_weak ?_ k1
                 exact zle_w (by simp [zle, zf3] <;> rfl))
      · refine z_aload_n iX8_dayThen_59 rfl ?_
        refine z_getf iX8_dayThen_60 fX8_40 (wm) (mF_19 _ _) (by decide) ?_
        refine z_iload iX8_dayThen_63 rfl ?_
        refine z_iaload iX8_dayThen_65 (wm19) rfl (by omega) (by decide) (by decide) ?_
        refine z_bipush iX8_dayThen_66 zb_30 ?_
        refine z_icmp_lt iX8_dayThen_68 (fun q68 => ?_) (fun q68 => ?_)
        · refine z_iconst iX8_dayThen_75 zk_0 ?_
          refine z_istore_n iX8_dayThen_76 rfl (by decide) ?_
          refine z_iload_n iX8_dayThen_77 rfl ?_
          refine zn_if_eq iX8_dayThen_78 (by omega) (fun q78 => ?_) (fun q78 => ?_)
          · refine z_iinc iX8_dayThen_100 rfl nix_inc rfl (by decide) ?_
            refine z_goto iX8_dayThen_103 ?_
            first
              | exact absurd q78 (by decide)
              | exact absurd rfl q78
              | (have e0 : mU x.2.2 x.1 (rA x.2.2 13 (4 * b + i)) = 0 := by rw [mU, if_pos q46, if_pos q56]
                 have e1 : mBP b i x = (0, x.2.1, x.2.2) := by rw [mBP, e0, if_pos rfl]
                 have k1 := ih (i + 1) (mBP b i x) (mOK_of hx (mBP_A b i x) (fun k _ => mBP_N b i x k)) (mBP_u b i x) (by rw [mBP_A]; omega) (by rw [zfw] at hk; exact hk)
                 rw [e1] at k1
                 refine z_weak ?_ k1
                 exact zle_w (by simp [zle, zf3] <;> rfl))
              | (have e0 : mU x.2.2 x.1 (rA x.2.2 13 (4 * b + i)) = 0 := by rw [mU, if_pos q46, if_neg q56, if_pos q68]
                 have e1 : mBP b i x = (0, x.2.1, x.2.2) := by rw [mBP, e0, if_pos rfl]
                 have k1 := ih (i + 1) (mBP b i x) (mOK_of hx (mBP_A b i x) (fun k _ => mBP_N b i x k)) (mBP_u b i x) (by rw [mBP_A]; omega) (by rw [zfw] at hk; exact hk)
                 rw [e1] at k1
                 refine z_weak ?_ k1
                 exact zle_w (by simp [zle, zf3] <;> rfl))
              | (have e0 : mU x.2.2 x.1 (rA x.2.2 13 (4 * b + i)) = 1 := by rw [mU, if_neg q46]
                 have e1 : mBP b i x = (1, x.2.1, x.2.2) := by rw [mBP, e0, if_neg (by decide), if_pos q88]
                 have k1 := ih (i + 1) (mBP b i x) (mOK_of hx (mBP_A b i x) (fun k _ => mBP_N b i x k)) (mBP_u b i x) (by rw [mBP_A]; omega) (by rw [zfw] at hk; exact hk)
                 rw [e1] at k1
                 refine z_weak ?_ k1
                 exact zle_w (by simp [zle, zf3] <;> rfl))
              | (have e0 : mU x.2.2 x.1 (rA x.2.2 13 (4 * b + i)) = 1 := by rw [mU, if_pos q46, if_neg q56, if_neg q68]
                 have e1 : mBP b i x = (1, x.2.1, x.2.2) := by rw [mBP, e0, if_neg (by decide), if_pos q88]
                 have k1 := ih (i + 1) (mBP b i x) (mOK_of hx (mBP_A b i x) (fun k _ => mBP_N b i x k)) (mBP_u b i x) (by rw [mBP_A]; omega) (by rw [zfw] at hk; exact hk)
                 rw [e1] at k1
                 refine z_weak ?_ k1
                 exact zle_w (by simp [zle, zf3] <;> rfl))
              | (have e0 : mU x.2.2 x.1 (rA x.2.2 13 (4 * b + i)) = 1 := by rw [mU, if_neg q46]
                 have e1 : mBP b i x = (1, x.2.1 + 1, mGo x.2.2 (rA x.2.2 13 (4 * b + i))) := by rw [mBP, e0, if_neg (by decide), if_neg q88]
                 have k1 := ih (i + 1) (mBP b i x) (mOK_of hx (mBP_A b i x) (fun k _ => mBP_N b i x k)) (mBP_u b i x) (by rw [mBP_A]; omega) (by rw [zfw] at hk; exact hk)
                 rw [e1] at k1
                 refine z_weak ?_ k1
                 exact zle_w (by simp [zle, zf3] <;> rfl))
              | (have e0 : mU x.2.2 x.1 (rA x.2.2 13 (4 * b + i)) = 1 := by rw [mU, if_pos q46, if_neg q56, if_neg q68]
                 have e1 : mBP b i x = (1, x.2.1 + 1, mGo x.2.2 (rA x.2.2 13 (4 * b + i))) := by rw [mBP, e0, if_neg (by decide), if_neg q88]
                 have k1 := ih (i + 1) (mBP b i x) (mOK_of hx (mBP_A b i x) (fun k _ => mBP_N b i x k)) (mBP_u b i x) (by rw [mBP_A]; omega) (by rw [zfw] at hk; exact hk)
                 rw [e1] at k1
                 refine z_weak ?_ k1
                 exact zle_w (by simp [zle, zf3] <;> rfl))
          · refine z_aload_n iX8_dayThen_81 rfl ?_
            refine z_getf iX8_dayThen_82 fX8_34 (wm) (mF_17 _ _) (by decide) ?_
            refine z_iload iX8_dayThen_85 rfl ?_
            refine z_iaload iX8_dayThen_87 (wm17) rfl (by omega) (by decide) (by decide) ?_
            refine z_if_le iX8_dayThen_88 (fun q88 => ?_) (fun q88 => ?_)
            · refine z_iinc iX8_dayThen_100 rfl nix_inc rfl (by decide) ?_
              refine z_goto iX8_dayThen_103 ?_
              first
                | exact absurd q78 (by decide)
                | exact absurd rfl q78
                | (have e0 : mU x.2.2 x.1 (rA x.2.2 13 (4 * b + i)) = 0 := by rw [mU, if_pos q46, if_pos q56]
                   have e1 : mBP b i x = (0, x.2.1, x.2.2) := by rw [mBP, e0, if_pos rfl]
                   have k1 := ih (i + 1) (mBP b i x) (mOK_of hx (mBP_A b i x) (fun k _ => mBP_N b i x k)) (mBP_u b i x) (by rw [mBP_A]; omega) (by rw [zfw] at hk; exact hk)
                   rw [e1] at k1
                   refine z_weak ?_ k1
                   exact zle_w (by simp [zle, zf3] <;> rfl))
                | (have e0 : mU x.2.2 x.1 (rA x.2.2 13 (4 * b + i)) = 0 := by rw [mU, if_pos q46, if_neg q56, if_pos q68]
                   have e1 : mBP b i x = (0, x.2.1, x.2.2) := by rw [mBP, e0, if_pos rfl]
                   have k1 := ih (i + 1) (mBP b i x) (mOK_of hx (mBP_A b i x) (fun k _ => mBP_N b i x k)) (mBP_u b i x) (by rw [mBP_A]; omega) (by rw [zfw] at hk; exact hk)
                   rw [e1] at k1
                   refine z_weak ?_ k1
                   exact zle_w (by simp [zle, zf3] <;> rfl))
                | (have e0 : mU x.2.2 x.1 (rA x.2.2 13 (4 * b + i)) = 1 := by rw [mU, if_neg q46]
                   have e1 : mBP b i x = (1, x.2.1, x.2.2) := by rw [mBP, e0, if_neg (by decide), if_pos q88]
                   have k1 := ih (i + 1) (mBP b i x) (mOK_of hx (mBP_A b i x) (fun k _ => mBP_N b i x k)) (mBP_u b i x) (by rw [mBP_A]; omega) (by rw [zfw] at hk; exact hk)
                   rw [e1] at k1
                   refine z_weak ?_ k1
                   exact zle_w (by simp [zle, zf3] <;> rfl))
                | (have e0 : mU x.2.2 x.1 (rA x.2.2 13 (4 * b + i)) = 1 := by rw [mU, if_pos q46, if_neg q56, if_neg q68]
                   have e1 : mBP b i x = (1, x.2.1, x.2.2) := by rw [mBP, e0, if_neg (by decide), if_pos q88]
                   have k1 := ih (i + 1) (mBP b i x) (mOK_of hx (mBP_A b i x) (fun k _ => mBP_N b i x k)) (mBP_u b i x) (by rw [mBP_A]; omega) (by rw [zfw] at hk; exact hk)
                   rw [e1] at k1
                   refine z_weak ?_ k1
                   exact zle_w (by simp [zle, zf3] <;> rfl))
                | (have e0 : mU x.2.2 x.1 (rA x.2.2 13 (4 * b + i)) = 1 := by rw [mU, if_neg q46]
                   have e1 : mBP b i x = (1, x.2.1 + 1, mGo x.2.2 (rA x.2.2 13 (4 * b + i))) := by rw [mBP, e0, if_neg (by decide), if_neg q88]
                   have k1 := ih (i + 1) (mBP b i x) (mOK_of hx (mBP_A b i x) (fun k _ => mBP_N b i x k)) (mBP_u b i x) (by rw [mBP_A]; omega) (by rw [zfw] at hk; exact hk)
                   rw [e1] at k1
                   refine z_weak ?_ k1
                   exact zle_w (by simp [zle, zf3] <;> rfl))
                | (have e0 : mU x.2.2 x.1 (rA x.2.2 13 (4 * b + i)) = 1 := by rw [mU, if_pos q46, if_neg q56, if_neg q68]
                   have e1 : mBP b i x = (1, x.2.1 + 1, mGo x.2.2 (rA x.2.2 13 (4 * b + i))) := by rw [mBP, e0, if_neg (by decide), if_neg q88]
                   have k1 := ih (i + 1) (mBP b i x) (mOK_of hx (mBP_A b i x) (fun k _ => mBP_N b i x k)) (mBP_u b i x) (by rw [mBP_A]; omega) (by rw [zfw] at hk; exact hk)
                   rw [e1] at k1
                   refine z_weak ?_ k1
                   exact zle_w (by simp [zle, zf3] <;> rfl))
            · refine z_aload_n iX8_dayThen_91 rfl ?_
              refine z_iload iX8_dayThen_92 rfl ?_
              refine z_cvv (y1 := mX8_goes) iX8_dayThen_94 lX8_142 kX8_goes rfl (cm_goes G pg nw kp sn ks fo ft fe gt mx re _ hh _ (by omega)) (wm) rfl rfl rfl (Nat.le_of_ble_eq_true rfl) (by decide) ?_
              refine z_iinc iX8_dayThen_97 rfl nix_inc rfl (by decide) ?_
              refine z_iinc iX8_dayThen_100 rfl nix_inc rfl (by decide) ?_
              refine z_goto iX8_dayThen_103 ?_
              first
                | exact absurd q78 (by decide)
                | exact absurd rfl q78
                | (have e0 : mU x.2.2 x.1 (rA x.2.2 13 (4 * b + i)) = 0 := by rw [mU, if_pos q46, if_pos q56]
                   have e1 : mBP b i x = (0, x.2.1, x.2.2) := by rw [mBP, e0, if_pos rfl]
                   have k1 := ih (i + 1) (mBP b i x) (mOK_of hx (mBP_A b i x) (fun k _ => mBP_N b i x k)) (mBP_u b i x) (by rw [mBP_A]; omega) (by rw [zfw] at hk; exact hk)
                   rw [e1] at k1
                   refine z_weak ?_ k1
                   exact zle_w (by simp [zle, zf3] <;> rfl))
                | (have e0 : mU x.2.2 x.1 (rA x.2.2 13 (4 * b + i)) = 0 := by rw [mU, if_pos q46, if_neg q56, if_pos q68]
                   have e1 : mBP b i x = (0, x.2.1, x.2.2) := by rw [mBP, e0, if_pos rfl]
                   have k1 := ih (i + 1) (mBP b i x) (mOK_of hx (mBP_A b i x) (fun k _ => mBP_N b i x k)) (mBP_u b i x) (by rw [mBP_A]; omega) (by rw [zfw] at hk; exact hk)
                   rw [e1] at k1
                   refine z_weak ?_ k1
                   exact zle_w (by simp [zle, zf3] <;> rfl))
                | (have e0 : mU x.2.2 x.1 (rA x.2.2 13 (4 * b + i)) = 1 := by rw [mU, if_neg q46]
                   have e1 : mBP b i x = (1, x.2.1, x.2.2) := by rw [mBP, e0, if_neg (by decide), if_pos q88]
                   have k1 := ih (i + 1) (mBP b i x) (mOK_of hx (mBP_A b i x) (fun k _ => mBP_N b i x k)) (mBP_u b i x) (by rw [mBP_A]; omega) (by rw [zfw] at hk; exact hk)
                   rw [e1] at k1
                   refine z_weak ?_ k1
                   exact zle_w (by simp [zle, zf3] <;> rfl))
                | (have e0 : mU x.2.2 x.1 (rA x.2.2 13 (4 * b + i)) = 1 := by rw [mU, if_pos q46, if_neg q56, if_neg q68]
                   have e1 : mBP b i x = (1, x.2.1, x.2.2) := by rw [mBP, e0, if_neg (by decide), if_pos q88]
                   have k1 := ih (i + 1) (mBP b i x) (mOK_of hx (mBP_A b i x) (fun k _ => mBP_N b i x k)) (mBP_u b i x) (by rw [mBP_A]; omega) (by rw [zfw] at hk; exact hk)
                   rw [e1] at k1
                   refine z_weak ?_ k1
                   exact zle_w (by simp [zle, zf3] <;> rfl))
                | (have e0 : mU x.2.2 x.1 (rA x.2.2 13 (4 * b + i)) = 1 := by rw [mU, if_neg q46]
                   have e1 : mBP b i x = (1, x.2.1 + 1, mGo x.2.2 (rA x.2.2 13 (4 * b + i))) := by rw [mBP, e0, if_neg (by decide), if_neg q88]
                   have k1 := ih (i + 1) (mBP b i x) (mOK_of hx (mBP_A b i x) (fun k _ => mBP_N b i x k)) (mBP_u b i x) (by rw [mBP_A]; omega) (by rw [zfw] at hk; exact hk)
                   rw [e1] at k1
                   refine z_weak ?_ k1
                   exact zle_w (by simp [zle, zf3] <;> rfl))
                | (have e0 : mU x.2.2 x.1 (rA x.2.2 13 (4 * b + i)) = 1 := by rw [mU, if_pos q46, if_neg q56, if_neg q68]
                   have e1 : mBP b i x = (1, x.2.1 + 1, mGo x.2.2 (rA x.2.2 13 (4 * b + i))) := by rw [mBP, e0, if_neg (by decide), if_neg q88]
                   have k1 := ih (i + 1) (mBP b i x) (mOK_of hx (mBP_A b i x) (fun k _ => mBP_N b i x k)) (mBP_u b i x) (by rw [mBP_A]; omega) (by rw [zfw] at hk; exact hk)
                   rw [e1] at k1
                   refine z_weak ?_ k1
                   exact zle_w (by simp [zle, zf3] <;> rfl))
        · refine z_iconst iX8_dayThen_71 zk_1 ?_
          refine z_goto iX8_dayThen_72 ?_
          refine z_istore_n iX8_dayThen_76 rfl (by decide) ?_
          refine z_iload_n iX8_dayThen_77 rfl ?_
          refine zn_if_eq iX8_dayThen_78 (by omega) (fun q78 => ?_) (fun q78 => ?_)
          · refine z_iinc iX8_dayThen_100 rfl nix_inc rfl (by decide) ?_
            refine z_goto iX8_dayThen_103 ?_
            first
              | exact absurd q78 (by decide)
              | exact absurd rfl q78
              | (have e0 : mU x.2.2 x.1 (rA x.2.2 13 (4 * b + i)) = 0 := by rw [mU, if_pos q46, if_pos q56]
                 have e1 : mBP b i x = (0, x.2.1, x.2.2) := by rw [mBP, e0, if_pos rfl]
                 have k1 := ih (i + 1) (mBP b i x) (mOK_of hx (mBP_A b i x) (fun k _ => mBP_N b i x k)) (mBP_u b i x) (by rw [mBP_A]; omega) (by rw [zfw] at hk; exact hk)
                 rw [e1] at k1
                 refine z_weak ?_ k1
                 exact zle_w (by simp [zle, zf3] <;> rfl))
              | (have e0 : mU x.2.2 x.1 (rA x.2.2 13 (4 * b + i)) = 0 := by rw [mU, if_pos q46, if_neg q56, if_pos q68]
                 have e1 : mBP b i x = (0, x.2.1, x.2.2) := by rw [mBP, e0, if_pos rfl]
                 have k1 := ih (i + 1) (mBP b i x) (mOK_of hx (mBP_A b i x) (fun k _ => mBP_N b i x k)) (mBP_u b i x) (by rw [mBP_A]; omega) (by rw [zfw] at hk; exact hk)
                 rw [e1] at k1
                 refine z_weak ?_ k1
                 exact zle_w (by simp [zle, zf3] <;> rfl))
              | (have e0 : mU x.2.2 x.1 (rA x.2.2 13 (4 * b + i)) = 1 := by rw [mU, if_neg q46]
                 have e1 : mBP b i x = (1, x.2.1, x.2.2) := by rw [mBP, e0, if_neg (by decide), if_pos q88]
                 have k1 := ih (i + 1) (mBP b i x) (mOK_of hx (mBP_A b i x) (fun k _ => mBP_N b i x k)) (mBP_u b i x) (by rw [mBP_A]; omega) (by rw [zfw] at hk; exact hk)
                 rw [e1] at k1
                 refine z_weak ?_ k1
                 exact zle_w (by simp [zle, zf3] <;> rfl))
              | (have e0 : mU x.2.2 x.1 (rA x.2.2 13 (4 * b + i)) = 1 := by rw [mU, if_pos q46, if_neg q56, if_neg q68]
                 have e1 : mBP b i x = (1, x.2.1, x.2.2) := by rw [mBP, e0, if_neg (by decide), if_pos q88]
                 have k1 := ih (i + 1) (mBP b i x) (mOK_of hx (mBP_A b i x) (fun k _ => mBP_N b i x k)) (mBP_u b i x) (by rw [mBP_A]; omega) (by rw [zfw] at hk; exact hk)
                 rw [e1] at k1
                 refine z_weak ?_ k1
                 exact zle_w (by simp [zle, zf3] <;> rfl))
              | (have e0 : mU x.2.2 x.1 (rA x.2.2 13 (4 * b + i)) = 1 := by rw [mU, if_neg q46]
                 have e1 : mBP b i x = (1, x.2.1 + 1, mGo x.2.2 (rA x.2.2 13 (4 * b + i))) := by rw [mBP, e0, if_neg (by decide), if_neg q88]
                 have k1 := ih (i + 1) (mBP b i x) (mOK_of hx (mBP_A b i x) (fun k _ => mBP_N b i x k)) (mBP_u b i x) (by rw [mBP_A]; omega) (by rw [zfw] at hk; exact hk)
                 rw [e1] at k1
                 refine z_weak ?_ k1
                 exact zle_w (by simp [zle, zf3] <;> rfl))
              | (have e0 : mU x.2.2 x.1 (rA x.2.2 13 (4 * b + i)) = 1 := by rw [mU, if_pos q46, if_neg q56, if_neg q68]
                 have e1 : mBP b i x = (1, x.2.1 + 1, mGo x.2.2 (rA x.2.2 13 (4 * b + i))) := by rw [mBP, e0, if_neg (by decide), if_neg q88]
                 have k1 := ih (i + 1) (mBP b i x) (mOK_of hx (mBP_A b i x) (fun k _ => mBP_N b i x k)) (mBP_u b i x) (by rw [mBP_A]; omega) (by rw [zfw] at hk; exact hk)
                 rw [e1] at k1
                 refine z_weak ?_ k1
                 exact zle_w (by simp [zle, zf3] <;> rfl))
          · refine z_aload_n iX8_dayThen_81 rfl ?_
            refine z_getf iX8_dayThen_82 fX8_34 (wm) (mF_17 _ _) (by decide) ?_
            refine z_iload iX8_dayThen_85 rfl ?_
            refine z_iaload iX8_dayThen_87 (wm17) rfl (by omega) (by decide) (by decide) ?_
            refine z_if_le iX8_dayThen_88 (fun q88 => ?_) (fun q88 => ?_)
            · refine z_iinc iX8_dayThen_100 rfl nix_inc rfl (by decide) ?_
              refine z_goto iX8_dayThen_103 ?_
              first
                | exact absurd q78 (by decide)
                | exact absurd rfl q78
                | (have e0 : mU x.2.2 x.1 (rA x.2.2 13 (4 * b + i)) = 0 := by rw [mU, if_pos q46, if_pos q56]
                   have e1 : mBP b i x = (0, x.2.1, x.2.2) := by rw [mBP, e0, if_pos rfl]
                   have k1 := ih (i + 1) (mBP b i x) (mOK_of hx (mBP_A b i x) (fun k _ => mBP_N b i x k)) (mBP_u b i x) (by rw [mBP_A]; omega) (by rw [zfw] at hk; exact hk)
                   rw [e1] at k1
                   refine z_weak ?_ k1
                   exact zle_w (by simp [zle, zf3] <;> rfl))
                | (have e0 : mU x.2.2 x.1 (rA x.2.2 13 (4 * b + i)) = 0 := by rw [mU, if_pos q46, if_neg q56, if_pos q68]
                   have e1 : mBP b i x = (0, x.2.1, x.2.2) := by rw [mBP, e0, if_pos rfl]
                   have k1 := ih (i + 1) (mBP b i x) (mOK_of hx (mBP_A b i x) (fun k _ => mBP_N b i x k)) (mBP_u b i x) (by rw [mBP_A]; omega) (by rw [zfw] at hk; exact hk)
                   rw [e1] at k1
                   refine z_weak ?_ k1
                   exact zle_w (by simp [zle, zf3] <;> rfl))
                | (have e0 : mU x.2.2 x.1 (rA x.2.2 13 (4 * b + i)) = 1 := by rw [mU, if_neg q46]
                   have e1 : mBP b i x = (1, x.2.1, x.2.2) := by rw [mBP, e0, if_neg (by decide), if_pos q88]
                   have k1 := ih (i + 1) (mBP b i x) (mOK_of hx (mBP_A b i x) (fun k _ => mBP_N b i x k)) (mBP_u b i x) (by rw [mBP_A]; omega) (by rw [zfw] at hk; exact hk)
                   rw [e1] at k1
                   refine z_weak ?_ k1
                   exact zle_w (by simp [zle, zf3] <;> rfl))
                | (have e0 : mU x.2.2 x.1 (rA x.2.2 13 (4 * b + i)) = 1 := by rw [mU, if_pos q46, if_neg q56, if_neg q68]
                   have e1 : mBP b i x = (1, x.2.1, x.2.2) := by rw [mBP, e0, if_neg (by decide), if_pos q88]
                   have k1 := ih (i + 1) (mBP b i x) (mOK_of hx (mBP_A b i x) (fun k _ => mBP_N b i x k)) (mBP_u b i x) (by rw [mBP_A]; omega) (by rw [zfw] at hk; exact hk)
                   rw [e1] at k1
                   refine z_weak ?_ k1
                   exact zle_w (by simp [zle, zf3] <;> rfl))
                | (have e0 : mU x.2.2 x.1 (rA x.2.2 13 (4 * b + i)) = 1 := by rw [mU, if_neg q46]
                   have e1 : mBP b i x = (1, x.2.1 + 1, mGo x.2.2 (rA x.2.2 13 (4 * b + i))) := by rw [mBP, e0, if_neg (by decide), if_neg q88]
                   have k1 := ih (i + 1) (mBP b i x) (mOK_of hx (mBP_A b i x) (fun k _ => mBP_N b i x k)) (mBP_u b i x) (by rw [mBP_A]; omega) (by rw [zfw] at hk; exact hk)
                   rw [e1] at k1
                   refine z_weak ?_ k1
                   exact zle_w (by simp [zle, zf3] <;> rfl))
                | (have e0 : mU x.2.2 x.1 (rA x.2.2 13 (4 * b + i)) = 1 := by rw [mU, if_pos q46, if_neg q56, if_neg q68]
                   have e1 : mBP b i x = (1, x.2.1 + 1, mGo x.2.2 (rA x.2.2 13 (4 * b + i))) := by rw [mBP, e0, if_neg (by decide), if_neg q88]
                   have k1 := ih (i + 1) (mBP b i x) (mOK_of hx (mBP_A b i x) (fun k _ => mBP_N b i x k)) (mBP_u b i x) (by rw [mBP_A]; omega) (by rw [zfw] at hk; exact hk)
                   rw [e1] at k1
                   refine z_weak ?_ k1
                   exact zle_w (by simp [zle, zf3] <;> rfl))
            · refine z_aload_n iX8_dayThen_91 rfl ?_
              refine z_iload iX8_dayThen_92 rfl ?_
              refine z_cvv (y1 := mX8_goes) iX8_dayThen_94 lX8_142 kX8_goes rfl (cm_goes G pg nw kp sn ks fo ft fe gt mx re _ hh _ (by omega)) (wm) rfl rfl rfl (Nat.le_of_ble_eq_true rfl) (by decide) ?_
              refine z_iinc iX8_dayThen_97 rfl nix_inc rfl (by decide) ?_
              refine z_iinc iX8_dayThen_100 rfl nix_inc rfl (by decide) ?_
              refine z_goto iX8_dayThen_103 ?_
              first
                | exact absurd q78 (by decide)
                | exact absurd rfl q78
                | (have e0 : mU x.2.2 x.1 (rA x.2.2 13 (4 * b + i)) = 0 := by rw [mU, if_pos q46, if_pos q56]
                   have e1 : mBP b i x = (0, x.2.1, x.2.2) := by rw [mBP, e0, if_pos rfl]
                   have k1 := ih (i + 1) (mBP b i x) (mOK_of hx (mBP_A b i x) (fun k _ => mBP_N b i x k)) (mBP_u b i x) (by rw [mBP_A]; omega) (by rw [zfw] at hk; exact hk)
                   rw [e1] at k1
                   refine z_weak ?_ k1
                   exact zle_w (by simp [zle, zf3] <;> rfl))
                | (have e0 : mU x.2.2 x.1 (rA x.2.2 13 (4 * b + i)) = 0 := by rw [mU, if_pos q46, if_neg q56, if_pos q68]
                   have e1 : mBP b i x = (0, x.2.1, x.2.2) := by rw [mBP, e0, if_pos rfl]
                   have k1 := ih (i + 1) (mBP b i x) (mOK_of hx (mBP_A b i x) (fun k _ => mBP_N b i x k)) (mBP_u b i x) (by rw [mBP_A]; omega) (by rw [zfw] at hk; exact hk)
                   rw [e1] at k1
                   refine z_weak ?_ k1
                   exact zle_w (by simp [zle, zf3] <;> rfl))
                | (have e0 : mU x.2.2 x.1 (rA x.2.2 13 (4 * b + i)) = 1 := by rw [mU, if_neg q46]
                   have e1 : mBP b i x = (1, x.2.1, x.2.2) := by rw [mBP, e0, if_neg (by decide), if_pos q88]
                   have k1 := ih (i + 1) (mBP b i x) (mOK_of hx (mBP_A b i x) (fun k _ => mBP_N b i x k)) (mBP_u b i x) (by rw [mBP_A]; omega) (by rw [zfw] at hk; exact hk)
                   rw [e1] at k1
                   refine z_weak ?_ k1
                   exact zle_w (by simp [zle, zf3] <;> rfl))
                | (have e0 : mU x.2.2 x.1 (rA x.2.2 13 (4 * b + i)) = 1 := by rw [mU, if_pos q46, if_neg q56, if_neg q68]
                   have e1 : mBP b i x = (1, x.2.1, x.2.2) := by rw [mBP, e0, if_neg (by decide), if_pos q88]
                   have k1 := ih (i + 1) (mBP b i x) (mOK_of hx (mBP_A b i x) (fun k _ => mBP_N b i x k)) (mBP_u b i x) (by rw [mBP_A]; omega) (by rw [zfw] at hk; exact hk)
                   rw [e1] at k1
                   refine z_weak ?_ k1
                   exact zle_w (by simp [zle, zf3] <;> rfl))
                | (have e0 : mU x.2.2 x.1 (rA x.2.2 13 (4 * b + i)) = 1 := by rw [mU, if_neg q46]
                   have e1 : mBP b i x = (1, x.2.1 + 1, mGo x.2.2 (rA x.2.2 13 (4 * b + i))) := by rw [mBP, e0, if_neg (by decide), if_neg q88]
                   have k1 := ih (i + 1) (mBP b i x) (mOK_of hx (mBP_A b i x) (fun k _ => mBP_N b i x k)) (mBP_u b i x) (by rw [mBP_A]; omega) (by rw [zfw] at hk; exact hk)
                   rw [e1] at k1
                   refine z_weak ?_ k1
                   exact zle_w (by simp [zle, zf3] <;> rfl))
                | (have e0 : mU x.2.2 x.1 (rA x.2.2 13 (4 * b + i)) = 1 := by rw [mU, if_pos q46, if_neg q56, if_neg q68]
                   have e1 : mBP b i x = (1, x.2.1 + 1, mGo x.2.2 (rA x.2.2 13 (4 * b + i))) := by rw [mBP, e0, if_neg (by decide), if_neg q88]
                   have k1 := ih (i + 1) (mBP b i x) (mOK_of hx (mBP_A b i x) (fun k _ => mBP_N b i x k)) (mBP_u b i x) (by rw [mBP_A]; omega) (by rw [zfw] at hk; exact hk)
                   rw [e1] at k1
                   refine z_weak ?_ k1
                   exact zle_w (by simp [zle, zf3] <;> rfl))
set_option maxRecDepth 20000 in
set_option maxHeartbeats 1000000 in
theorem lpm_bb (G : zG) (pg nw kp sn ks fo ft fe gt mx : zs) (re : Nat → Int64) (hh : Int64) : ∀ (n i : Nat) (x : Nat × zs), mOK x.2 → i + n = rN x.2 4 → zS G mX8_dayThen 8 [some (.ref 49), some (.int (nI x.1)), some (.int (nI i)), none, none, none] [] (wW pg nw kp sn ks fo ft fe gt mx re x.2 hh) (some (.int (nI (zfw mBB i n x).1))) (wW pg nw kp sn ks fo ft fe gt mx re (mDTs (zfw mBB i n x).2) hh) := by
  intro n
  induction n with
  | zero =>
    intro i x hx hi
    obtain ⟨o13, o12, o11, o10, o4, o5⟩ := id hx
    refine z_iload_n iX8_dayThen_8 rfl ?_
    refine z_aload_n iX8_dayThen_9 rfl ?_
    refine z_getf iX8_dayThen_10 fX8_110 (wm) (mF_4 _ _) (by decide) ?_
    refine zn_ge iX8_dayThen_13 (by omega) (by omega) (fun q13 => ?_) (fun q13 => absurd q13 (by omega))
    refine z_aload_n iX8_dayThen_112 rfl ?_
    refine z_cvv (y1 := mX8_dryTops) iX8_dayThen_113 lX8_162 kX8_dryTops rfl (cm_dryTops G pg nw kp sn ks fo ft fe gt mx re _ hh hx) (wm) rfl rfl rfl (Nat.le_of_ble_eq_true rfl) (by decide) ?_
    refine z_iload_n iX8_dayThen_116 rfl ?_
    exact z_ireturn iX8_dayThen_117 (rfl) (rfl)
  | succ n ih =>
    intro i x hx hi
    obtain ⟨o13, o12, o11, o10, o4, o5⟩ := id hx
    refine z_iload_n iX8_dayThen_8 rfl ?_
    refine z_aload_n iX8_dayThen_9 rfl ?_
    refine z_getf iX8_dayThen_10 fX8_110 (wm) (mF_4 _ _) (by decide) ?_
    refine zn_ge iX8_dayThen_13 (by omega) (by omega) (fun q13 => absurd q13 (by omega)) (fun q13 => ?_)
    refine z_iconst iX8_dayThen_16 zk_0 ?_
    refine z_istore_n iX8_dayThen_17 rfl (by decide) ?_
    refine z_iconst iX8_dayThen_18 zk_0 ?_
    refine z_istore iX8_dayThen_19 rfl (by decide) ?_
    refine lpm_bp G pg nw kp sn ks fo ft fe gt mx re hh i (by omega) _ _ _ 0 (0, x.1, x.2) hx (Nat.zero_le _) (Nat.zero_add _) (fun y e => ?_)
    subst e
    refine z_iinc iX8_dayThen_106 rfl nix_inc rfl (by decide) ?_
    refine z_goto iX8_dayThen_109 ?_
    exact ih (i + 1) (mBB i x) (mOK_of hx (mBPL_A i _ 0 _) (fun k _ => mBPL_N i _ 0 _ k)) (by show _ = rN (zfw (mBP i) 0 _ _).2.2 4; rw [mBPL_N]; show _ = rN x.2 4; omega)
set_option maxRecDepth 20000 in
set_option maxHeartbeats 1000000 in
theorem cm_day (G : zG) (pg nw kp sn ks fo ft fe gt mx : zs) (re : Nat → Int64) (m : zs) (hh : Int64) (hm : mOK m) (hp : mHP m) : zK G mX8_dayThen [.ref 49] (wW pg nw kp sn ks fo ft fe gt mx re m hh) (some (.int (nI (mDay m).1))) (wW pg nw kp sn ks fo ft fe gt mx re (mDay m).2 hh) := by
  refine zK_of 5 rfl (by decide) trivial (Nat.le_of_ble_eq_true rfl) rfl ?_
  refine z_aload_n iX8_dayThen_0 rfl ?_
  refine z_cvv (y1 := mX8_warmAll) iX8_dayThen_1 lX8_159 kX8_warmAll rfl (cm_warmAll G pg nw kp sn ks fo ft fe gt mx re m hh hm hp) (wm) rfl rfl rfl (Nat.le_of_ble_eq_true rfl) (by decide) ?_
  refine z_iconst iX8_dayThen_4 zk_0 ?_
  refine z_istore_n iX8_dayThen_5 rfl (by decide) ?_
  refine z_iconst iX8_dayThen_6 zk_0 ?_
  refine z_istore_n iX8_dayThen_7 rfl (by decide) ?_
  have k1 := lpm_bb G pg nw kp sn ks fo ft fe gt mx re hh (rN m 4) 0 (0, mWA m) (mOK_of hm (mWA_A _ _ _) (fun k _ => mWA_N _ _ _ k)) (by show _ = rN (mWA m) 4; rw [mWA, mWA_N]; omega)
  exact k1
set_option maxRecDepth 20000 in
set_option maxHeartbeats 1000000 in
theorem lpm_la (G : zG) (pg nw kp sn ks fo ft fe gt mx : zs) (re : Nat → Int64) (m : zs) (hh : Int64) (hm : mOK m) : ∀ (n i : Nat) (x : Int32), i + n = rN m 5 → zS G mX8_lightAll 4 [some (.ref 49), some (.int x), some (.int (nI i))] [] (wW pg nw kp sn ks fo ft fe gt mx re m hh) (some (.int (zfw (fun c x => x + rF m 17 c) i n x))) (wW pg nw kp sn ks fo ft fe gt mx re m hh) := by
  obtain ⟨o13, o12, o11, o10, o4, o5⟩ := id hm
  intro n
  induction n with
  | zero =>
    intro i x hi
    refine z_iload_n iX8_lightAll_4 rfl ?_
    refine z_aload_n iX8_lightAll_5 rfl ?_
    refine z_getf iX8_lightAll_6 fX8_113 (wm) (mF_5 _ _) (by decide) ?_
    refine zn_ge iX8_lightAll_9 (by omega) (by omega) (fun q9 => ?_) (fun q9 => absurd q9 (by omega))
    refine z_iload_n iX8_lightAll_27 rfl ?_
    exact z_ireturn iX8_lightAll_28 (rfl) (rfl)
  | succ n ih =>
    intro i x hi
    refine z_iload_n iX8_lightAll_4 rfl ?_
    refine z_aload_n iX8_lightAll_5 rfl ?_
    refine z_getf iX8_lightAll_6 fX8_113 (wm) (mF_5 _ _) (by decide) ?_
    refine zn_ge iX8_lightAll_9 (by omega) (by omega) (fun q9 => absurd q9 (by omega)) (fun q9 => ?_)
    refine z_iload_n iX8_lightAll_12 rfl ?_
    refine z_aload_n iX8_lightAll_13 rfl ?_
    refine z_getf iX8_lightAll_14 fX8_34 (wm) (mF_17 _ _) (by decide) ?_
    refine z_iload_n iX8_lightAll_17 rfl ?_
    refine z_iaload iX8_lightAll_18 (wm17) rfl (by omega) (by decide) (by decide) ?_
    refine z_iadd iX8_lightAll_19 ?_
    refine z_istore_n iX8_lightAll_20 rfl (by decide) ?_
    refine z_iinc iX8_lightAll_21 rfl nix_inc rfl (by decide) ?_
    refine z_goto iX8_lightAll_24 ?_
    exact ih (i + 1) _ (by omega)
def mLA (m : zs) : Int32 := zfw (fun c x => x + rF m 17 c) 0 (rN m 5) (nI 0)
set_option maxRecDepth 20000 in
set_option maxHeartbeats 1000000 in
theorem cm_lightAll (G : zG) (pg nw kp sn ks fo ft fe gt mx : zs) (re : Nat → Int64) (m : zs) (hh : Int64) (hm : mOK m) : zK G mX8_lightAll [.ref 49] (wW pg nw kp sn ks fo ft fe gt mx re m hh) (some (.int (mLA m))) (wW pg nw kp sn ks fo ft fe gt mx re m hh) := by
  refine zK_of 2 rfl (by decide) trivial (Nat.le_of_ble_eq_true rfl) rfl ?_
  refine z_iconst iX8_lightAll_0 zk_0 ?_
  refine z_istore_n iX8_lightAll_1 rfl (by decide) ?_
  refine z_iconst iX8_lightAll_2 zk_0 ?_
  refine z_istore_n iX8_lightAll_3 rfl (by decide) ?_
  exact lpm_la G pg nw kp sn ks fo ft fe gt mx re m hh hm _ 0 _ (Nat.zero_add _)
def mDO (kd b j : Nat) (x : zs) : zs := match mTop x j with
  | none => x
  | some t => if kd = 3 then (if j = b then x else mDry x t) else x
theorem mDO_A (kd b j : Nat) (x : zs) (k : Nat) : rA (mDO kd b j x) k = rA x k := by unfold mDO; split; rfl; split; split <;> rfl; rfl
theorem mDO_N (kd b j : Nat) (x : zs) (k : Nat) : rN (mDO kd b j x) k = rN x k := by unfold mDO; split; rfl; split; split <;> rfl; rfl
theorem mDO_17 (kd b j : Nat) (x : zs) : rF (mDO kd b j x) 17 = rF x 17 := by unfold mDO; split; rfl; split; split <;> rfl; rfl
theorem mDOL_A (kd b : Nat) : ∀ (n i : Nat) (x : zs) (k : Nat), rA (zfw (mDO kd b) i n x) k = rA x k
  | 0, _, _, _ => rfl
  | n + 1, i, x, k => (mDOL_A kd b n (i + 1) _ k).trans (mDO_A _ _ _ _ _)
theorem mDOL_N (kd b : Nat) : ∀ (n i : Nat) (x : zs) (k : Nat), rN (zfw (mDO kd b) i n x) k = rN x k
  | 0, _, _, _ => rfl
  | n + 1, i, x, k => (mDOL_N kd b n (i + 1) _ k).trans (mDO_N _ _ _ _ _)
theorem mDOL_17 (kd b : Nat) : ∀ (n i : Nat) (x : zs), rF (zfw (mDO kd b) i n x) 17 = rF x 17
  | 0, _, _ => rfl
  | n + 1, i, x => (mDOL_17 kd b n (i + 1) _).trans (mDO_17 _ _ _ _)
def mLess (m : zs) (k : Nat) (much : Int32) : Int32 := if rF m 17 k ≤ much then rF m 17 k else much
def mC1 (m : zs) (b k : Nat) : zs := zfw (mDO (rA m 10 k) b) 0 (rN m 4) m
def mC2 (x : zs) (k : Nat) (less : Int32) : zs := uF x 17 (upd (rF x 17) k (rF x 17 k - less))
def mC3 (x : zs) (k : Nat) (less : Int32) : zs := if rF (mC2 x k less) 17 k = 0 then mGo (mC2 x k less) k else mC2 x k less
def mCut (m : zs) (b k : Nat) (much : Int32) : zs := mC3 (mC1 m b k) k (mLess m k much)
theorem mC3_A (x : zs) (k : Nat) (less : Int32) (j : Nat) : rA (mC3 x k less) j = rA x j := by unfold mC3; split <;> rfl
theorem mC3_N (x : zs) (k : Nat) (less : Int32) (j : Nat) : rN (mC3 x k less) j = rN x j := by unfold mC3; split <;> rfl
theorem mCut_A (m : zs) (b k : Nat) (much : Int32) (j : Nat) : rA (mCut m b k much) j = rA m j := (mC3_A _ _ _ _).trans (mDOL_A _ _ _ _ _ _)
theorem mCut_N (m : zs) (b k : Nat) (much : Int32) (j : Nat) : rN (mCut m b k much) j = rN m j := (mC3_N _ _ _ _).trans (mDOL_N _ _ _ _ _ _)
theorem mCut_ok {m : zs} (h : mOK m) (b k : Nat) (much : Int32) : mOK (mCut m b k much) := mOK_of h (mCut_A m b k much) (fun j _ => mCut_N m b k much j)
theorem mCut_hp {m : zs} (h : mHP m) (b k : Nat) (much : Int32) : mHP (mCut m b k much) := mHP_of h (mCut_A m b k much) (mCut_N m b k much 5)
set_option maxRecDepth 20000 in
set_option maxHeartbeats 1000000 in
theorem lpm_do (G : zG) (pg nw kp sn ks fo ft fe gt mx : zs) (re : Nat → Int64) (hh : Int64) (b k kd : Nat) (much less : Int32) (hb : b < 3) (hkk : k < 9) (hk4 : kd ≤ 4) (r : Option Value) (g2 : zh) : ∀ (n i : Nat) (x : zs), mOK x → rA x 10 k = kd → i + n = rN x 4 → (∀ y, y = zfw (mDO kd b) i n x → zS G mX8_cutThen 82 [some (.ref 49), some (.int (nI b)), some (.int much), some (.int (nI k)), some (.int less), none, none] [] (wW pg nw kp sn ks fo ft fe gt mx re y hh) r g2) → zS G mX8_cutThen 31 [some (.ref 49), some (.int (nI b)), some (.int much), some (.int (nI k)), some (.int less), some (.int (nI i)), none] [] (wW pg nw kp sn ks fo ft fe gt mx re x hh) r g2 := by
  intro n
  induction n with
  | zero =>
    intro i x hx hkd hi hk
    obtain ⟨o13, o12, o11, o10, o4, o5⟩ := id hx
    refine z_iload iX8_cutThen_31 rfl ?_
    refine z_aload_n iX8_cutThen_33 rfl ?_
    refine z_getf iX8_cutThen_34 fX8_110 (wm) (mF_4 _ _) (by decide) ?_
    refine zn_ge iX8_cutThen_37 (by omega) (by omega) (fun q37 => ?_) (fun q37 => absurd q37 (by omega))
    refine z_weak ?_ (hk _ rfl)
    exact zle_w (by simp [zle, zf3] <;> rfl)
  | succ n ih =>
    intro i x hx hkd hi hk
    obtain ⟨o13, o12, o11, o10, o4, o5⟩ := id hx
    cases ht : mTop x i with
    | none =>
      refine z_iload iX8_cutThen_31 rfl ?_
      refine z_aload_n iX8_cutThen_33 rfl ?_
      refine z_getf iX8_cutThen_34 fX8_110 (wm) (mF_4 _ _) (by decide) ?_
      refine zn_ge iX8_cutThen_37 (by omega) (by omega) (fun q37 => absurd q37 (by omega)) (fun q37 => ?_)
      refine z_aload_n iX8_cutThen_40 rfl ?_
      refine z_iload iX8_cutThen_41 rfl ?_
      refine z_cvi (y1 := mX8_topOf) iX8_cutThen_43 lX8_135 kX8_topOf rfl (cm_top G pg nw kp sn ks fo ft fe gt mx re x hh hx i (by omega)) (wm) rfl rfl rfl (Nat.le_of_ble_eq_true rfl) (by decide) ?_
      rw [ht, oI_none]
      refine z_istore iX8_cutThen_46 rfl (by decide) ?_
      refine z_aload_n iX8_cutThen_48 rfl ?_
      refine z_getf iX8_cutThen_49 fX8_13 (wm) (mF_10 _ _) (by decide) ?_
      refine z_iload_n iX8_cutThen_52 rfl ?_
      refine z_iaload iX8_cutThen_53 (wm10) rfl (by omega) (by decide) (by decide) ?_
      rw [hkd]
      refine z_iconst iX8_cutThen_54 zk_3 ?_
      refine zn_ne iX8_cutThen_55 (by omega) (by omega) (fun q55 => ?_) (fun q55 => ?_)
      · refine z_iinc iX8_cutThen_76 rfl nix_inc rfl (by decide) ?_
        refine z_goto iX8_cutThen_79 ?_
        first
          | (have e1 : mDO kd b i x = x := by rw [mDO, ht]
             have k1 := ih (i + 1) (mDO kd b i x) (mOK_of hx (mDO_A kd b i x) (fun k _ => mDO_N kd b i x k)) (by rw [mDO_A]; exact hkd) (by rw [mDO_N]; omega) (by rw [zfw] at hk; exact hk)
             rw [e1] at k1
             refine z_weak ?_ k1
             exact zle_w (by simp [zle, zf3] <;> rfl))
      · refine z_iload iX8_cutThen_58 rfl ?_
        refine z_iload_n iX8_cutThen_60 rfl ?_
        refine zn_eq iX8_cutThen_61 (by omega) (by omega) (fun q61 => ?_) (fun q61 => ?_)
        · refine z_iinc iX8_cutThen_76 rfl nix_inc rfl (by decide) ?_
          refine z_goto iX8_cutThen_79 ?_
          first
            | (have e1 : mDO kd b i x = x := by rw [mDO, ht]
               have k1 := ih (i + 1) (mDO kd b i x) (mOK_of hx (mDO_A kd b i x) (fun k _ => mDO_N kd b i x k)) (by rw [mDO_A]; exact hkd) (by rw [mDO_N]; omega) (by rw [zfw] at hk; exact hk)
               rw [e1] at k1
               refine z_weak ?_ k1
               exact zle_w (by simp [zle, zf3] <;> rfl))
        · refine z_iload iX8_cutThen_64 rfl ?_
          refine z_iconst iX8_cutThen_66 zk_m1 ?_
          refine z_icmp_eq iX8_cutThen_67 (fun q67 => ?_) (fun q67 => absurd rfl q67)
          refine z_iinc iX8_cutThen_76 rfl nix_inc rfl (by decide) ?_
          refine z_goto iX8_cutThen_79 ?_
          first
            | (have e1 : mDO kd b i x = x := by rw [mDO, ht]
               have k1 := ih (i + 1) (mDO kd b i x) (mOK_of hx (mDO_A kd b i x) (fun k _ => mDO_N kd b i x k)) (by rw [mDO_A]; exact hkd) (by rw [mDO_N]; omega) (by rw [zfw] at hk; exact hk)
               rw [e1] at k1
               refine z_weak ?_ k1
               exact zle_w (by simp [zle, zf3] <;> rfl))
    | some t =>
      have t9 := mTop_lt hx ht
      refine z_iload iX8_cutThen_31 rfl ?_
      refine z_aload_n iX8_cutThen_33 rfl ?_
      refine z_getf iX8_cutThen_34 fX8_110 (wm) (mF_4 _ _) (by decide) ?_
      refine zn_ge iX8_cutThen_37 (by omega) (by omega) (fun q37 => absurd q37 (by omega)) (fun q37 => ?_)
      refine z_aload_n iX8_cutThen_40 rfl ?_
      refine z_iload iX8_cutThen_41 rfl ?_
      refine z_cvi (y1 := mX8_topOf) iX8_cutThen_43 lX8_135 kX8_topOf rfl (cm_top G pg nw kp sn ks fo ft fe gt mx re x hh hx i (by omega)) (wm) rfl rfl rfl (Nat.le_of_ble_eq_true rfl) (by decide) ?_
      rw [ht, oI_some]
      refine z_istore iX8_cutThen_46 rfl (by decide) ?_
      refine z_aload_n iX8_cutThen_48 rfl ?_
      refine z_getf iX8_cutThen_49 fX8_13 (wm) (mF_10 _ _) (by decide) ?_
      refine z_iload_n iX8_cutThen_52 rfl ?_
      refine z_iaload iX8_cutThen_53 (wm10) rfl (by omega) (by decide) (by decide) ?_
      rw [hkd]
      refine z_iconst iX8_cutThen_54 zk_3 ?_
      refine zn_ne iX8_cutThen_55 (by omega) (by omega) (fun q55 => ?_) (fun q55 => ?_)
      · refine z_iinc iX8_cutThen_76 rfl nix_inc rfl (by decide) ?_
        refine z_goto iX8_cutThen_79 ?_
        first
          | (have e1 : mDO kd b i x = x := by rw [mDO, ht]; simp only [if_neg q55]
             have k1 := ih (i + 1) (mDO kd b i x) (mOK_of hx (mDO_A kd b i x) (fun k _ => mDO_N kd b i x k)) (by rw [mDO_A]; exact hkd) (by rw [mDO_N]; omega) (by rw [zfw] at hk; exact hk)
             rw [e1] at k1
             refine z_weak ?_ k1
             exact zle_w (by simp [zle, zf3] <;> rfl))
          | (have e1 : mDO kd b i x = x := by rw [mDO, ht]; simp only [if_pos q55, if_pos q61]
             have k1 := ih (i + 1) (mDO kd b i x) (mOK_of hx (mDO_A kd b i x) (fun k _ => mDO_N kd b i x k)) (by rw [mDO_A]; exact hkd) (by rw [mDO_N]; omega) (by rw [zfw] at hk; exact hk)
             rw [e1] at k1
             refine z_weak ?_ k1
             exact zle_w (by simp [zle, zf3] <;> rfl))
          | (have e1 : mDO kd b i x = mDry x t := by rw [mDO, ht]; simp only [if_pos q55, if_neg q61]
             have k1 := ih (i + 1) (mDO kd b i x) (mOK_of hx (mDO_A kd b i x) (fun k _ => mDO_N kd b i x k)) (by rw [mDO_A]; exact hkd) (by rw [mDO_N]; omega) (by rw [zfw] at hk; exact hk)
             rw [e1] at k1
             refine z_weak ?_ k1
             exact zle_w (by simp [zle, zf3] <;> rfl))
      · refine z_iload iX8_cutThen_58 rfl ?_
        refine z_iload_n iX8_cutThen_60 rfl ?_
        refine zn_eq iX8_cutThen_61 (by omega) (by omega) (fun q61 => ?_) (fun q61 => ?_)
        · refine z_iinc iX8_cutThen_76 rfl nix_inc rfl (by decide) ?_
          refine z_goto iX8_cutThen_79 ?_
          first
            | (have e1 : mDO kd b i x = x := by rw [mDO, ht]; simp only [if_neg q55]
               have k1 := ih (i + 1) (mDO kd b i x) (mOK_of hx (mDO_A kd b i x) (fun k _ => mDO_N kd b i x k)) (by rw [mDO_A]; exact hkd) (by rw [mDO_N]; omega) (by rw [zfw] at hk; exact hk)
               rw [e1] at k1
               refine z_weak ?_ k1
               exact zle_w (by simp [zle, zf3] <;> rfl))
            | (have e1 : mDO kd b i x = x := by rw [mDO, ht]; simp only [if_pos q55, if_pos q61]
               have k1 := ih (i + 1) (mDO kd b i x) (mOK_of hx (mDO_A kd b i x) (fun k _ => mDO_N kd b i x k)) (by rw [mDO_A]; exact hkd) (by rw [mDO_N]; omega) (by rw [zfw] at hk; exact hk)
               rw [e1] at k1
               refine z_weak ?_ k1
               exact zle_w (by simp [zle, zf3] <;> rfl))
            | (have e1 : mDO kd b i x = mDry x t := by rw [mDO, ht]; simp only [if_pos q55, if_neg q61]
               have k1 := ih (i + 1) (mDO kd b i x) (mOK_of hx (mDO_A kd b i x) (fun k _ => mDO_N kd b i x k)) (by rw [mDO_A]; exact hkd) (by rw [mDO_N]; omega) (by rw [zfw] at hk; exact hk)
               rw [e1] at k1
               refine z_weak ?_ k1
               exact zle_w (by simp [zle, zf3] <;> rfl))
        · refine z_iload iX8_cutThen_64 rfl ?_
          refine z_iconst iX8_cutThen_66 zk_m1 ?_
          refine z_icmp_eq iX8_cutThen_67 (fun q67 => absurd q67 (nI_m1 (by omega))) (fun q67 => ?_)
          refine z_aload_n iX8_cutThen_70 rfl ?_
          refine z_iload iX8_cutThen_71 rfl ?_
          refine z_cvv (y1 := mX8_dry) iX8_cutThen_73 lX8_138 kX8_dry rfl (cm_dry G pg nw kp sn ks fo ft fe gt mx re x hh t (by omega)) (wm) rfl rfl rfl (Nat.le_of_ble_eq_true rfl) (by decide) ?_
          refine z_iinc iX8_cutThen_76 rfl nix_inc rfl (by decide) ?_
          refine z_goto iX8_cutThen_79 ?_
          first
            | (have e1 : mDO kd b i x = x := by rw [mDO, ht]; simp only [if_neg q55]
               have k1 := ih (i + 1) (mDO kd b i x) (mOK_of hx (mDO_A kd b i x) (fun k _ => mDO_N kd b i x k)) (by rw [mDO_A]; exact hkd) (by rw [mDO_N]; omega) (by rw [zfw] at hk; exact hk)
               rw [e1] at k1
               refine z_weak ?_ k1
               exact zle_w (by simp [zle, zf3] <;> rfl))
            | (have e1 : mDO kd b i x = x := by rw [mDO, ht]; simp only [if_pos q55, if_pos q61]
               have k1 := ih (i + 1) (mDO kd b i x) (mOK_of hx (mDO_A kd b i x) (fun k _ => mDO_N kd b i x k)) (by rw [mDO_A]; exact hkd) (by rw [mDO_N]; omega) (by rw [zfw] at hk; exact hk)
               rw [e1] at k1
               refine z_weak ?_ k1
               exact zle_w (by simp [zle, zf3] <;> rfl))
            | (have e1 : mDO kd b i x = mDry x t := by rw [mDO, ht]; simp only [if_pos q55, if_neg q61]
               have k1 := ih (i + 1) (mDO kd b i x) (mOK_of hx (mDO_A kd b i x) (fun k _ => mDO_N kd b i x k)) (by rw [mDO_A]; exact hkd) (by rw [mDO_N]; omega) (by rw [zfw] at hk; exact hk)
               rw [e1] at k1
               refine z_weak ?_ k1
               exact zle_w (by simp [zle, zf3] <;> rfl))
set_option maxRecDepth 20000 in
set_option maxHeartbeats 1000000 in
theorem lpm_c3 (G : zG) (pg nw kp sn ks fo ft fe gt mx : zs) (re : Nat → Int64) (hh : Int64) (b k kd : Nat) (much less : Int32) (hb : b < 3) (hkk : k < 9) (x : zs) (hx : mOK x) (hkd : rA x 10 k = kd) (hk4 : kd ≤ 4) : zS G mX8_cutThen 82 [some (.ref 49), some (.int (nI b)), some (.int much), some (.int (nI k)), some (.int less), none, none] [] (wW pg nw kp sn ks fo ft fe gt mx re x hh) (some (.int (kGives kd less))) (wW pg nw kp sn ks fo ft fe gt mx re (mC3 x k less) hh) := by
  refine z_aload_n iX8_cutThen_82 rfl ?_
  refine z_getf iX8_cutThen_83 fX8_34 (wm) (mF_17 _ _) (by decide) ?_
  refine z_iload_n iX8_cutThen_86 rfl ?_
  refine z_dup2 iX8_cutThen_87 rfl rfl ?_
  refine z_iaload iX8_cutThen_88 (wm17) rfl (by omega) (by decide) (by decide) ?_
  refine z_iload iX8_cutThen_89 rfl ?_
  refine z_isub iX8_cutThen_91 ?_
  refine z_iastore iX8_cutThen_92 (wm17) rfl (by omega) (by decide) (by decide) (by decide) ?_
  rw [wm_17]
  refine z_heap (g2 := wW pg nw kp sn ks fo ft fe gt mx re (mC2 x k less) hh) rfl ?_
  refine z_aload_n iX8_cutThen_93 rfl ?_
  refine z_getf iX8_cutThen_94 fX8_34 (wm) (mF_17 _ _) (by decide) ?_
  refine z_iload_n iX8_cutThen_97 rfl ?_
  refine z_iaload iX8_cutThen_98 (wm17) rfl (by omega) (by decide) (by decide) ?_
  refine z_if_ne iX8_cutThen_99 (fun q99 => ?_) (fun q99 => ?_)
  · refine z_aload_n iX8_cutThen_107 rfl ?_
    refine z_getf iX8_cutThen_108 fX8_13 (wm) (mF_10 _ _) (by decide) ?_
    refine z_iload_n iX8_cutThen_111 rfl ?_
    refine z_iaload iX8_cutThen_112 (wm10) rfl (by omega) (by decide) (by decide) ?_
    have e5 : rA x 10 k = kd := hkd
    refine z_top (show nI (rA _ 10 k) = nI kd from congrArg nI e5) ?_
    refine z_iload iX8_cutThen_113 rfl ?_
    refine z_csi (y1 := mX8_gives) iX8_cutThen_115 lX8_145 kX8_gives rfl (cm_gives G _ kd less (by omega)) rfl rfl (Nat.le_of_ble_eq_true rfl) ?_
    exact z_ireturn iX8_cutThen_118 (rfl) (by first | exact congrArg (fun t => wW pg nw kp sn ks fo ft fe gt mx re t hh) (if_pos q99).symm | exact congrArg (fun t => wW pg nw kp sn ks fo ft fe gt mx re t hh) (if_neg q99).symm)
  · refine z_aload_n iX8_cutThen_102 rfl ?_
    refine z_iload_n iX8_cutThen_103 rfl ?_
    refine z_cvv (y1 := mX8_goes) iX8_cutThen_104 lX8_142 kX8_goes rfl (cm_goes G pg nw kp sn ks fo ft fe gt mx re _ hh k (by omega)) (wm) rfl rfl rfl (Nat.le_of_ble_eq_true rfl) (by decide) ?_
    refine z_aload_n iX8_cutThen_107 rfl ?_
    refine z_getf iX8_cutThen_108 fX8_13 (wm) (mF_10 _ _) (by decide) ?_
    refine z_iload_n iX8_cutThen_111 rfl ?_
    refine z_iaload iX8_cutThen_112 (wm10) rfl (by omega) (by decide) (by decide) ?_
    have e5 : rA x 10 k = kd := hkd
    refine z_top (show nI (rA _ 10 k) = nI kd from congrArg nI e5) ?_
    refine z_iload iX8_cutThen_113 rfl ?_
    refine z_csi (y1 := mX8_gives) iX8_cutThen_115 lX8_145 kX8_gives rfl (cm_gives G _ kd less (by omega)) rfl rfl (Nat.le_of_ble_eq_true rfl) ?_
    exact z_ireturn iX8_cutThen_118 (rfl) (by first | exact congrArg (fun t => wW pg nw kp sn ks fo ft fe gt mx re t hh) (if_pos q99).symm | exact congrArg (fun t => wW pg nw kp sn ks fo ft fe gt mx re t hh) (if_neg q99).symm)
set_option maxRecDepth 20000 in
set_option maxHeartbeats 1000000 in
theorem cm_cut (G : zG) (pg nw kp sn ks fo ft fe gt mx : zs) (re : Nat → Int64) (m : zs) (hh : Int64) (hm : mOK m) (b : Nat) (hb : b < 3) (much : Int32) (k : Nat) (hk : mTop m b = some k) : zK G mX8_cutThen [.ref 49, .int (nI b), .int much] (wW pg nw kp sn ks fo ft fe gt mx re m hh) (some (.int (kGives (rA m 10 k) (mLess m k much)))) (wW pg nw kp sn ks fo ft fe gt mx re (mCut m b k much) hh) := by
  obtain ⟨o13, o12, o11, o10, o4, o5⟩ := id hm
  have hk9 := mTop_lt hm hk
  refine zK_of 4 rfl (by decide) trivial (Nat.le_of_ble_eq_true rfl) rfl ?_
  refine z_aload_n iX8_cutThen_0 rfl ?_
  refine z_iload_n iX8_cutThen_1 rfl ?_
  refine z_cvi (y1 := mX8_topOf) iX8_cutThen_2 lX8_135 kX8_topOf rfl (cm_top G pg nw kp sn ks fo ft fe gt mx re m hh hm b hb) (wm) rfl rfl rfl (Nat.le_of_ble_eq_true rfl) (by decide) ?_
  rw [hk, oI_some]
  refine z_istore_n iX8_cutThen_5 rfl (by decide) ?_
  refine z_iload_n iX8_cutThen_6 rfl ?_
  refine z_aload_n iX8_cutThen_7 rfl ?_
  refine z_getf iX8_cutThen_8 fX8_34 (wm) (mF_17 _ _) (by decide) ?_
  refine z_iload_n iX8_cutThen_11 rfl ?_
  refine z_iaload iX8_cutThen_12 (wm17) rfl (by omega) (by decide) (by decide) ?_
  refine z_icmp_ge iX8_cutThen_13 (fun q13 => ?_) (fun q13 => ?_)
  · refine z_aload_n iX8_cutThen_20 rfl ?_
    refine z_getf iX8_cutThen_21 fX8_34 (wm) (mF_17 _ _) (by decide) ?_
    refine z_iload_n iX8_cutThen_24 rfl ?_
    refine z_iaload iX8_cutThen_25 (wm17) rfl (by omega) (by decide) (by decide) ?_
    refine z_istore iX8_cutThen_26 rfl (by decide) ?_
    refine z_iconst iX8_cutThen_28 zk_0 ?_
    refine z_istore iX8_cutThen_29 rfl (by decide) ?_
    first
      | (rw [mLess, if_pos q13]
         refine lpm_do G pg nw kp sn ks fo ft fe gt mx re hh b k (rA m 10 k) much _ hb hk9 (o10 k) _ _ (rN m 4) 0 m hm rfl (Nat.zero_add _) (fun y e => ?_)
         have k1 := lpm_c3 G pg nw kp sn ks fo ft fe gt mx re hh b k (rA m 10 k) much (mLess m k much) hb hk9 y (by subst e; exact mOK_of hm (mDOL_A _ _ _ _ _) (fun j _ => mDOL_N _ _ _ _ _ j)) (by subst e; rw [mDOL_A]) (o10 k)
         subst e
         rw [mLess, if_pos q13] at k1
         rw [mCut, mLess, if_pos q13]
         exact k1)
      | (rw [mLess, if_neg q13]
         refine lpm_do G pg nw kp sn ks fo ft fe gt mx re hh b k (rA m 10 k) much _ hb hk9 (o10 k) _ _ (rN m 4) 0 m hm rfl (Nat.zero_add _) (fun y e => ?_)
         have k1 := lpm_c3 G pg nw kp sn ks fo ft fe gt mx re hh b k (rA m 10 k) much (mLess m k much) hb hk9 y (by subst e; exact mOK_of hm (mDOL_A _ _ _ _ _) (fun j _ => mDOL_N _ _ _ _ _ j)) (by subst e; rw [mDOL_A]) (o10 k)
         subst e
         rw [mLess, if_neg q13] at k1
         rw [mCut, mLess, if_neg q13]
         exact k1)
  · refine z_iload_n iX8_cutThen_16 rfl ?_
    refine z_goto iX8_cutThen_17 ?_
    refine z_istore iX8_cutThen_26 rfl (by decide) ?_
    refine z_iconst iX8_cutThen_28 zk_0 ?_
    refine z_istore iX8_cutThen_29 rfl (by decide) ?_
    first
      | (rw [mLess, if_pos q13]
         refine lpm_do G pg nw kp sn ks fo ft fe gt mx re hh b k (rA m 10 k) much _ hb hk9 (o10 k) _ _ (rN m 4) 0 m hm rfl (Nat.zero_add _) (fun y e => ?_)
         have k1 := lpm_c3 G pg nw kp sn ks fo ft fe gt mx re hh b k (rA m 10 k) much (mLess m k much) hb hk9 y (by subst e; exact mOK_of hm (mDOL_A _ _ _ _ _) (fun j _ => mDOL_N _ _ _ _ _ j)) (by subst e; rw [mDOL_A]) (o10 k)
         subst e
         rw [mLess, if_pos q13] at k1
         rw [mCut, mLess, if_pos q13]
         exact k1)
      | (rw [mLess, if_neg q13]
         refine lpm_do G pg nw kp sn ks fo ft fe gt mx re hh b k (rA m 10 k) much _ hb hk9 (o10 k) _ _ (rN m 4) 0 m hm rfl (Nat.zero_add _) (fun y e => ?_)
         have k1 := lpm_c3 G pg nw kp sn ks fo ft fe gt mx re hh b k (rA m 10 k) much (mLess m k much) hb hk9 y (by subst e; exact mOK_of hm (mDOL_A _ _ _ _ _) (fun j _ => mDOL_N _ _ _ _ _ j)) (by subst e; rw [mDOL_A]) (o10 k)
         subst e
         rw [mLess, if_neg q13] at k1
         rw [mCut, mLess, if_neg q13]
         exact k1)
