section
set_option maxRecDepth 20000 in
theorem mGain_19 (x : zs) (f : Nat → Int32) (k : Nat) : mGain (uF x 19 f) k = mGain x k := rfl
set_option maxRecDepth 20000 in
theorem mWA_R : ∀ (n i : Nat) (x : zs), (∀ c, rF (zfw (fun k x => uF x 19 (upd (rF x 19) k (rF x 19 k + mGain x k))) i n x) 19 c = if i ≤ c ∧ c < i + n then rF x 19 c + mGain x c else rF x 19 c) ∧ (∀ k, k ≠ 19 → rF (zfw (fun k x => uF x 19 (upd (rF x 19) k (rF x 19 k + mGain x k))) i n x) k = rF x k)
  := by
  intro n
  induction n with
  | zero => exact fun i x => ⟨fun c => by rw [if_neg (by omega)]; rfl, fun _ _ => rfl⟩
  | succ n ih =>
    intro i x
    obtain ⟨r1, r2⟩ := ih (i + 1) (uF x 19 (upd (rF x 19) i (rF x 19 i + mGain x i)))
    rw [zfw]
    refine ⟨fun c => ?_, fun k hk => by rw [r2 k hk, rF_uF, if_neg hk]⟩
    rw [r1 c, mGain_19, rF_uF, if_pos rfl]
    by_cases e : c = i
    · subst e
      rw [if_neg (by omega), if_pos (by omega), upd_s]
    · rw [upd_n _ _ e]
      by_cases q : i ≤ c ∧ c < i + (n + 1)
      · rw [if_pos q, if_pos (by omega)]
      · rw [if_neg q, if_neg (by omega)]
set_option maxRecDepth 20000 in
theorem zfind_ex {P : Nat → Bool} : ∀ (n i p : Nat), i ≤ p → p < i + n → P p = true → ∃ q, zfind P i n = some q
  | 0, i, p, h1, h2, _ => by omega
  | n + 1, i, p, h1, h2, h => by
    unfold zfind
    by_cases e : P i = true
    · exact ⟨i, if_pos e⟩
    · rw [if_neg e]
      refine zfind_ex n (i + 1) p ?_ (by omega) h
      rcases Nat.eq_or_lt_of_le h1 with z | z
      · subst z; exact absurd h e
      · exact z
set_option maxRecDepth 20000 in
theorem mFind_M {x : zs} (h : qM x) {c : Nat} (hc : c < rN x 5) : ∃ p, mFind x c = some p ∧ p < rA x 12 (rA x 11 c) ∧ rA x 13 (4 * rA x 11 c + p) = c := by
  have h4 := h.2.2.2 c hc
  obtain ⟨p0, a, b, d⟩ := (qL_mem _ c _ _).mp h4.2
  obtain ⟨p, hp⟩ := zfind_ex (P := mFP x c) (rA x 12 (rA x 11 c)) 0 p0 a b (by unfold mFP; rw [show rA x 13 (4 * rA x 11 c + p0) = c from d]; simp)
  have hl := zfind_lt _ _ _ hp
  exact ⟨p, hp, by omega, Nat.eq_of_beq_eq_true hl.2.2.1⟩
set_option maxRecDepth 20000 in
theorem qM_hp {x : zs} (h : qM x) : mHP x := fun c hc => ⟨_, (mFind_M h hc).choose_spec.1⟩
set_option maxRecDepth 20000 in
/-- a cart in its bay: what lies below it, and above it -/
theorem ml_at {x : zs} (h : qM x) {c : Nat} (hc : c < rN x 5) : ∃ p A R, mFind x c = some p ∧ ml x (rA x 11 c) = A ++ c :: R ∧ R = qL (fun p => rA x 13 (4 * rA x 11 c + p)) (p + 1) (rA x 12 (rA x 11 c) - (p + 1)) ∧ p < rA x 12 (rA x 11 c) ∧ A.length = p := by
  obtain ⟨p, h1, h2, h3⟩ := mFind_M h hc
  refine ⟨p, qL (fun p => rA x 13 (4 * rA x 11 c + p)) 0 p, _, h1, ?_, rfl, h2, qL_len _ _ _⟩
  unfold ml
  rw [qL_at _ _ h2, h3]
def onC (l w : Nat → Int32) (k : Nat) (k2 q : Nat) : Nat := if l q ≤ 0 then k2 + 0 else if k = 0 then k2 + 1 else if w q ≤ 0 then k2 + 0 else k2 + 1
set_option maxRecDepth 20000 in
theorem mOn_L {x : zs} {c p : Nat} (hp : mFind x c = some p) (w : Nat) : mOn x c w = (qL (fun p => rA x 13 (4 * rA x 11 c + p)) (p + 1) (rA x 12 (rA x 11 c) - (p + 1))).foldl (onC (rF x 17) (rF x 18) w) 0 := by
  unfold mOn mPl
  rw [hp]
  exact zfw_L (fun q k => onC (rF x 17) (rF x 18) w k q) (fun p => rA x 13 (4 * rA x 11 c + p)) _ _ _
set_option maxRecDepth 20000 in
theorem onC_le (l w : Nat → Int32) (k : Nat) : ∀ (R : List Nat) (a : Nat), R.foldl (onC l w k) a ≤ a + R.length
  | [], a => Nat.le_refl _
  | q :: R, a => by
    rw [List.foldl_cons, List.length_cons]
    have h := onC_le l w k R (onC l w k a q)
    have h2 : onC l w k a q ≤ a + 1 := by unfold onC; split; omega; split; omega; split <;> omega
    omega
set_option maxRecDepth 20000 in
theorem dWc_C {l w : Nat → Int32} (hl : qV l) (d : Int32) : ∀ (R : List Nat) (k : Nat), dWc w (R.filter (qa l)) (d + nI k) = d + nI (R.foldl (onC l w 1) k)
  | [], _ => rfl
  | q :: R, k => by
    rw [List.filter_cons, List.foldl_cons]
    by_cases e : l q = 0
    · rw [if_neg (by simp [qa, e]), show onC l w 1 k q = k from if_pos ((qV_le hl q).mpr e)]
      exact dWc_C hl d R k
    · rw [if_pos (by simp [qa, e])]
      have e1 : ¬ l q ≤ 0 := fun z => e ((qV_le hl q).mp z)
      show dWc w (R.filter (qa l)) (if w q ≤ 0 then d + nI k else d + nI k + nI 1) = _
      by_cases z : w q ≤ 0
      · rw [if_pos z, show onC l w 1 k q = k by unfold onC; rw [if_neg e1, if_neg (by decide), if_pos z]; rfl]
        exact dWc_C hl d R k
      · rw [if_neg z, show onC l w 1 k q = k + 1 by unfold onC; rw [if_neg e1, if_neg (by decide), if_neg z], Int32.add_assoc, nI_add]
        exact dWc_C hl d R (k + 1)
set_option maxRecDepth 20000 in
theorem dWc_cons (w : Nat → Int32) (q : Nat) (R : List Nat) (d : Int32) : dWc w (q :: R) d = dWc w R (if w q ≤ 0 then d else d + nI 1) := rfl
set_option maxRecDepth 20000 in
theorem dWc_congr {w w2 : Nat → Int32} : ∀ (R : List Nat) (d : Int32), (∀ q, q ∈ R → w q = w2 q) → dWc w R d = dWc w2 R d := by
  intro R
  induction R with
  | nil => intro d _; exact Eq.trans (show dWc w [] d = d from rfl) (show d = dWc w2 [] d from rfl)
  | cons q R ih =>
    intro d h
    have e := h q List.mem_cons_self
    rw [dWc_cons, dWc_cons, e]
    exact ih _ (fun a ha => h a (List.mem_cons_of_mem _ ha))
set_option maxRecDepth 20000 in
theorem kWarms_M (k n : Nat) (h : n < 2 ^ 31) : kWarmsM k (nI n) = kWarms k (nI n) := by
  unfold kWarmsM kWarms
  have e : nI n / nI 4 = nI n / nI 2 / nI 2 := by
    rw [pk_div h (by decide) (by decide), pk_div h (by decide) (by decide), pk_div (by omega) (by decide) (by decide), Nat.div_div_eq_div_mul]
  rw [e]
set_option maxRecDepth 20000 in
theorem i32_add0 (x : Int32) : x + nI 0 = x := by rw [nI_0]; simp
set_option maxRecDepth 20000 in
/-- the gain of a cart that isn't gone, by what lies above it -/
theorem mGain_L {x : zs} (h : qM x) (hv : qV (rF x 17)) (hw : qV (rF x 18)) {c : Nat} (hc : c < rN x 5) (ha : ¬ rF x 17 c = 0) {A R : List Nat} {p : Nat} (hp : mFind x c = some p) (hR : R = qL (fun p => rA x 13 (4 * rA x 11 c + p)) (p + 1) (rA x 12 (rA x 11 c) - (p + 1))) : mGain x c = kWarms (rA x 10 c) (dWc (rF x 18) (R.filter (qa (rF x 17))) (rF x 18 c)) := by
  unfold mGain
  rw [if_neg ha, mOn_L hp, ← hR]
  have e := dWc_C (w := rF x 18) hv (rF x 18 c) R 0
  rw [i32_add0] at e
  rw [e]
  obtain ⟨n, hn, e2⟩ := hw c
  have hle := onC_le (rF x 17) (rF x 18) 1 R 0
  have hlen : R.length ≤ 3 := by rw [hR, qL_len]; have := h.1.2.1 (rA x 11 c); omega
  rw [e2, nI_add]
  exact kWarms_M _ _ (by omega)
set_option maxRecDepth 20000 in
theorem qB_warm {b : Nat} {s x : zs} (hM : qM x) (hS : qS s x) (hv : qV (rF x 17)) (hw : qV (rF x 18)) (hb : b < rN x 4) (h : qB b s x) : qB b (bWarm s b) (mWA x) := by
  have hA : ∀ k, rA (mWA x) k = rA x k := mWA_A _ 0 x
  obtain ⟨r1, r2⟩ := mWA_R (rN x 5) 0 x
  have e17 : rF (mWA x) 17 = rF x 17 := r2 17 (by decide)
  have e18 : rF (mWA x) 18 = rF x 18 := r2 18 (by decide)
  have hma : ma (mWA x) b = ma x b := ma_congr hA (fun c _ => by rw [e17])
  refine ⟨fun c hc => ?_, ?_⟩
  · rw [ml_of hA] at hc
    obtain ⟨c1, c2, c3⟩ := h.1 c hc
    obtain ⟨hc5, hcb⟩ := hM.2.2.1 b c hb hc
    rw [bWarm_eq]
    refine ⟨by rw [e17]; exact c1, by rw [e18]; exact c2, ?_⟩
    rw [rF_uF, if_pos rfl]
    rw [show rF (mWA x) 19 c = _ from r1 c, if_pos ⟨Nat.zero_le _, by omega⟩, h.2]
    by_cases ha : rF x 17 c = 0
    · rw [dWarm_out _ _ (fun q => by have := (List.mem_filter.mp q).2; simp [qa, ha] at this), mGain, if_pos ha, i32_add0, c3]
    · obtain ⟨p, A, R, f1, f2, f3, f4, -⟩ := ml_at hM hc5
      rw [mGain_L (A := A) hM hv hw hc5 ha f1 f3]
      rw [hcb] at f2
      have hnd := hM.2.1 b hb
      rw [f2] at hnd
      have hnd2 := List.nodup_append.mp hnd
      have e1 : ma x b = A.filter (qa (rF x 17)) ++ c :: R.filter (qa (rF x 17)) := by
        unfold ma
        rw [f2, List.filter_append, List.filter_cons, if_pos (by simp [qa, ha])]
      have n1 : c ∉ A.filter (qa (rF x 17)) := fun q => hnd2.2.2 c (List.mem_filter.mp q).1 c List.mem_cons_self rfl
      have n2 : c ∉ R.filter (qa (rF x 17)) := fun q => (List.nodup_cons.mp hnd2.2.1).1 (List.mem_filter.mp q).1
      rw [e1, dWarm_in n2 _ _ n1, c3, c2, (hS.2.2 c hc5).1]
      refine congrArg (fun t => rF s 9 c + kWarms (rA s 5 c) t) (dWc_congr _ _ (fun q hq => ?_))
      exact (h.1 q (by rw [f2]; exact List.mem_append_right _ (List.mem_cons_of_mem _ (List.mem_filter.mp hq).1))).2.1
  · rw [hma, ← h.2, bWarm_eq]; rfl
set_option maxRecDepth 20000 in
theorem qB_burn {b : Nat} {s x : zs} (hM : qM x) (hv : qV (rF x 17)) (hb : b < rN x 4) (k : Nat) (h : qB b s x) : qB b (bBurnS s b) (zfw mBB 0 (rN x 4) (k, x)).2 ∧ bBurnN s b = (lostM x b).length := by
  obtain ⟨-, r2, -⟩ := mBBs_R (rN x 4) 0 k x hM hv (by omega)
  obtain ⟨b1, b2, -, -, -, b6, -⟩ := bBurn_R s b
  have hA : ∀ k2, rA (zfw mBB 0 (rN x 4) (k, x)).2 k2 = rA x k2 := mBBL_A _ _ _
  have hl : dLost (rF s 9) (sl s b) = lostM x b := by
    rw [h.2]
    exact dLost_congr (fun c hc => ((h.1 c (ma_in hc)).2.2).symm)
  have hcell : ∀ j c, j = 17 ∨ j = 18 ∨ j = 19 → c ∈ ml x b → rF (zfw mBB 0 (rN x 4) (k, x)).2 j c = if c ∈ lostM x b then nI 0 else rF x j c := fun j c hj hc => by
    rw [r2 j b c hj hb hc]
    by_cases q : c ∈ lostM x b
    · rw [if_pos ⟨Nat.zero_le _, by omega, q⟩, if_pos q]
    · rw [if_neg (fun z => q z.2.2), if_neg q]
  refine ⟨⟨fun c hc => ?_, ?_⟩, by rw [b1, hl]⟩
  · rw [ml_of hA] at hc
    obtain ⟨c1, c2, c3⟩ := h.1 c hc
    refine ⟨?_, ?_, ?_⟩
    · rw [hcell 17 c (Or.inl rfl) hc, b2 7 c (Or.inl rfl), hl, c1]
    · rw [hcell 18 c (Or.inr (Or.inl rfl)) hc, b2 8 c (Or.inr (Or.inl rfl)), hl, c2]
    · rw [hcell 19 c (Or.inr (Or.inr rfl)) hc, b2 9 c (Or.inr (Or.inr rfl)), hl, c3]
  · rw [b6]
    have hnd : (ma x b).Nodup := (hM.2.1 b hb).filter _
    have e1 : dKeep (rF s 9) (sl s b) ++ lostM x b = ma x b := by rw [← hl, dKL, h.2]
    have e2 : ma (zfw mBB 0 (rN x 4) (k, x)).2 b = (ma x b).filter (fun c => !decide (c ∈ lostM x b)) := by
      unfold ma
      rw [ml_of hA, List.filter_filter]
      refine List.filter_congr (fun c hc => ?_)
      unfold qa
      rw [hcell 17 c (Or.inl rfl) hc]
      by_cases q : c ∈ lostM x b
      · rw [if_pos q, nI_0]; simp [q]
      · rw [if_neg q]; simp [q]
    rw [e2]
    rw [← e1] at hnd
    have hnd2 := List.nodup_append.mp hnd
    rw [← e1, List.filter_append]
    rw [List.filter_eq_self.mpr (fun c hc => by simp; exact fun q => hnd2.2.2 c hc c q rfl), List.filter_eq_nil_iff.mpr (fun c hc => by simp [hc]), List.append_nil]
set_option maxRecDepth 20000 in
theorem qB_dry {b : Nat} {s x : zs} (hM : qM x) (hv : qV (rF x 17)) (hb : b < rN x 4) (h : qB b s x) : qB b (bDry s b) (mDTs x) := by
  obtain ⟨r1, r2⟩ := mDTs_R (rN x 4) 0 x hM hv (by omega)
  obtain ⟨b1, b2, -, b4⟩ := bDry_R s b
  have hA : ∀ k, rA (mDTs x) k = rA x k := mDTL_A _ _ _
  have e17 : rF (mDTs x) 17 = rF x 17 := r2 17 (by decide)
  refine ⟨fun c hc => ?_, ?_⟩
  · rw [ml_of hA] at hc
    obtain ⟨c1, c2, c3⟩ := h.1 c hc
    refine ⟨?_, ?_, ?_⟩
    · rw [e17, b2 7 (by decide)]; exact c1
    · rw [show rF (mDTs x) 18 c = _ from r1 b c hb hc, if_pos ⟨Nat.zero_le _, by omega⟩, b1 c, h.2]
      exact dDry_congr c2
    · rw [show rF (mDTs x) 19 = _ from r2 19 (by decide), b2 9 (by decide)]; exact c3
  · rw [b4 b, h.2, ma_congr hA (fun c _ => by rw [e17])]
end
