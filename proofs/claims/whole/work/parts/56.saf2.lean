section
set_option maxRecDepth 20000 in
theorem bit_lt {t n q : Nat} (h : t < 2 ^ n) (hq : t / 2 ^ q % 2 = 1) : q < n := by
  by_cases z : q < n
  · exact z
  · have h1 : 2 ^ n ≤ 2 ^ q := Nat.pow_le_pow_right (by decide) (by omega)
    rw [Nat.div_eq_of_lt (by omega)] at hq
    omega
set_option maxRecDepth 20000 in
theorem mGF_L {x : zs} {b t : Nat} {L : List Nat} (hat : ∀ q, mAt x b q = L[q]?) (hb : ∀ q, t / 2 ^ q % 2 = 1 → q < L.length) : ∀ (n i : Nat) (y : zs), zfw (mGF x b t) i n y = (tk t ((L.drop i).take n) i).foldl mGo y := by
  intro n
  induction n with
  | zero => intro i y; rw [List.take_zero]; rfl
  | succ n ih =>
    intro i y
    rw [zfw, ih (i + 1)]
    by_cases z : i < L.length
    · rw [List.drop_eq_getElem_cons z, List.take_succ_cons, tk]
      unfold mGF
      by_cases q : t / 2 ^ i % 2 = 1
      · rw [if_pos q, if_pos q, List.foldl_cons]
        have : mA0 x b i = L[i] := by
          unfold mA0
          rw [hat i, List.getElem?_eq_getElem z]
          rfl
        rw [this]
      · rw [if_neg q, if_neg q]
    · have q : ¬ t / 2 ^ i % 2 = 1 := fun q => z (hb i q)
      rw [show mGF x b t i y = y by unfold mGF; rw [if_neg q], List.drop_eq_nil_of_le (by omega), List.drop_eq_nil_of_le (by omega), List.take_nil, List.take_nil]
      rfl
set_option maxRecDepth 20000 in
theorem mLS_L {x : zs} {b t : Nat} {L : List Nat} (hat : ∀ q, mAt x b q = L[q]?) (hb : ∀ q, t / 2 ^ q % 2 = 1 → q < L.length) : ∀ (n i : Nat) (y : Int32), zfw (mLSF x b t) i n y = (tk t ((L.drop i).take n) i).foldl (fun y c => y + rF x 14 c) y := by
  intro n
  induction n with
  | zero => intro i y; rw [List.take_zero]; rfl
  | succ n ih =>
    intro i y
    rw [zfw, ih (i + 1)]
    by_cases z : i < L.length
    · rw [List.drop_eq_getElem_cons z, List.take_succ_cons, tk]
      unfold mLSF
      by_cases q : t / 2 ^ i % 2 = 1
      · rw [if_pos q, if_pos q, List.foldl_cons]
        have : mA0 x b i = L[i] := by
          unfold mA0
          rw [hat i, List.getElem?_eq_getElem z]
          rfl
        rw [this]
      · rw [if_neg q, if_neg q, i32_add0]
    · have q : ¬ t / 2 ^ i % 2 = 1 := fun q => z (hb i q)
      rw [show mLSF x b t i y = y by unfold mLSF; rw [if_neg q, i32_add0], List.drop_eq_nil_of_le (by omega), List.drop_eq_nil_of_le (by omega), List.take_nil, List.take_nil]
      rfl
set_option maxRecDepth 20000 in
theorem bLS_L {f : Nat → Int32} {h : Nat → Nat} {t : Nat} : ∀ (n i : Nat) (y : Int32), zfw (fun p x => if t / 2 ^ p % 2 = 1 then x + f (h p) else x) i n y = (tk t (qL h i n) i).foldl (fun y c => y + f c) y := by
  intro n
  induction n with
  | zero => intro i y; rfl
  | succ n ih =>
    intro i y
    rw [zfw, ih (i + 1), qL, tk]
    by_cases q : t / 2 ^ i % 2 = 1
    · rw [if_pos q, if_pos q, List.foldl_cons]
    · rw [if_neg q, if_neg q]
set_option maxRecDepth 20000 in
theorem fsum_cg {f g : Nat → Int32} : ∀ (D : List Nat) (y : Int32), (∀ c, c ∈ D → f c = g c) → D.foldl (fun y c => y + f c) y = D.foldl (fun y c => y + g c) y := by
  intro D
  induction D with
  | nil => intro y _; exact Eq.trans (List.foldl_nil) (List.foldl_nil).symm
  | cons a D ih =>
    intro y h
    rw [List.foldl_cons, List.foldl_cons, h a List.mem_cons_self]
    exact ih _ (fun c hc => h c (List.mem_cons_of_mem _ hc))
set_option maxRecDepth 20000 in
theorem fsum_nat {f : Nat → Int32} (hv : qV f) : ∀ (D : List Nat) (a : Nat), ∃ v, v ≤ 9 * D.length ∧ D.foldl (fun y c => y + f c) (nI a) = nI (a + v) := by
  intro D
  induction D with
  | nil => intro a; exact ⟨0, by omega, rfl⟩
  | cons c D ih =>
    intro a
    obtain ⟨w, hw, e⟩ := hv c
    obtain ⟨v, h1, h2⟩ := ih (a + w)
    refine ⟨w + v, by rw [List.length_cons]; omega, ?_⟩
    rw [List.foldl_cons, e, nI_add, h2, Nat.add_assoc]
set_option maxRecDepth 20000 in
theorem tk_len (t : Nat) : ∀ (L : List Nat) (i : Nat), (tk t L i).length ≤ L.length
  | [], _ => Nat.le_refl _
  | a :: L, i => by
    have h := tk_len t L (i + 1)
    rw [tk, List.length_cons]
    split
    · rw [List.length_cons]; omega
    · omega
set_option maxRecDepth 20000 in
theorem mGos_P0 (D : List Nat) (x : zs) : mP0 (D.foldl mGo x) x := mGos_O D x
set_option maxRecDepth 20000 in
theorem fSL_nil {b : Nat} : ∀ (n : Nat) (s : zs), sl s b = [] → (fSL b n s).1 = true := by
  intro n
  induction n with
  | zero => intro s _; rfl
  | succ n ih =>
    intro s h
    obtain ⟨b1, -, -, -, -, b6, -⟩ := bBurn_R (bWarm s b) b
    rw [bWarm_sl, h] at b1 b6
    rw [fSL, if_pos (by rw [b1]; rfl)]
    refine ih _ ?_
    rw [(bDry_R _ b).2.2.2 b, b6]
    rfl
set_option maxRecDepth 20000 in
theorem kpt_all {n : Nat} : ∀ (L : List Nat) (i : Nat), i + L.length = n → kpt (2 ^ n - 1) L i = []
  | [], _, _ => rfl
  | a :: L, i, h => by
    rw [List.length_cons] at h
    have e : (2 ^ n - 1) / 2 ^ i % 2 = 1 := by
      have h1 := Nat.testBit_two_pow_sub_one n i
      rw [Nat.testBit_eq_decide_div_mod_eq, decide_eq_true (show i < n by omega)] at h1
      exact of_decide_eq_true h1
    rw [kpt, if_pos e]
    exact kpt_all L (i + 1) (by omega)
set_option maxRecDepth 20000 in
/-- one set of carts: safe alike, as light alike -/
theorem qSafeV {nw m x : zs} (h : qQ nw (mBegin m)) (hx : mP0 x (mBegin m)) {b t : Nat} (hb : b < rN m 4) (ht : t < 2 ^ rA nw 10 b) : mSafeV x b t = (fSL b 10 (bTake nw b t)).1 ∧ mLS x b t = bLightSome nw b t ∧ (∃ v, v ≤ 27 ∧ bLightSome nw b t = nI v) ∧ mP0 (mSafeS x b t) (mBegin m) ∧ mSetOk x b t := by
  have eMM : mBegin (mBegin m) = mBegin m := mBegin_same (mP0_begin m)
  have eX : mBegin x = mBegin m := (mBegin_same hx).trans eMM
  obtain ⟨hO, hM, hS, hv, hw, hB⟩ := h
  have hq := hB b hb
  have h14 : rF x 14 = rF m 14 := (hx.2.2.2 14 (by omega)).trans (qmBegin_F m 14 (by omega))
  have e17 : rF (mBegin m) 17 = rF m 14 := rfl
  have hv14 : qV (rF x 14) := by rw [h14]; exact hv
  have hL : ma0 x b = sl nw b := by
    rw [hq.2]
    unfold ma0 ma
    rw [ml_of hx.1, h14, e17]
  have hat : ∀ q, mAt x b q = (sl nw b)[q]? := fun q => by rw [mAt_L hv14, hL]
  have hlen : (sl nw b).length = rA nw 10 b := sl_len nw b
  have hl3 : rA nw 10 b ≤ 3 := hO.2.1 b
  have hbit : ∀ q, t / 2 ^ q % 2 = 1 → q < (sl nw b).length := fun q hq2 => by rw [hlen]; exact bit_lt ht hq2
  have htk3 : (sl nw b).take 3 = sl nw b := List.take_of_length_le (by omega)
  have eS1 : mS1 x b t = (tk t (sl nw b) 0).foldl mGo (mBegin m) := by
    unfold mS1
    rw [mGF_L hat hbit, eX, List.drop_zero, htk3]
  have eLS : mLS x b t = (tk t (sl nw b) 0).foldl (fun y c => y + rF x 14 c) (nI 0) := by
    unfold mLS
    rw [mLS_L hat hbit, List.drop_zero, htk3]
  have eBL : bLightSome nw b t = (tk t (sl nw b) 0).foldl (fun y c => y + rF nw 7 c) (nI 0) := bLS_L _ _ _
  have hD : ∀ c, c ∈ tk t (sl nw b) 0 → c ∈ ml (mBegin m) b := fun c hc => by
    have := tk_in _ _ hc
    rw [hq.2] at this
    exact ma_in this
  have eLL : mLS x b t = bLightSome nw b t := by
    rw [eLS, eBL]
    exact fsum_cg _ _ (fun c hc => by rw [h14, ← e17]; exact (hq.1 c (hD c hc)).1)
  obtain ⟨w, w1, w2⟩ := fsum_nat hv14 (tk t (sl nw b) 0) 0
  have hw27 : w ≤ 27 := by have := tk_len t (sl nw b) 0; omega
  -- the bay behind the taking
  obtain ⟨t1, t2, t3, t4, t5⟩ := bTake_R nw b t
  have hO1 := mGos_O (tk t (sl nw b) 0) (mBegin m)
  have hP1 : mP0 (mS1 x b t) (mBegin m) := by rw [eS1]; exact hO1
  have hF1 : ∀ j c, j = 17 ∨ j = 18 ∨ j = 19 → rF (mS1 x b t) j c = if c ∈ tk t (sl nw b) 0 then nI 0 else rF (mBegin m) j c := fun j c hj => by rw [eS1]; exact mGos_F j hj _ _ c
  have hM1 : qM (mS1 x b t) := qM_of hM hP1.1 (fun k _ => hP1.2.1 k)
  have hV1 : qV (rF (mS1 x b t) 17) := by rw [eS1]; exact qV_gos 17 (Or.inl rfl) hv
  have hW1 : qV (rF (mS1 x b t) 18) := by rw [eS1]; exact qV_gos 18 (Or.inr (Or.inl rfl)) hw
  have hS1 : qS (bTake nw b t) (mS1 x b t) := qS_of hS (fun k _ => t5 k) t3 t4 hP1.1 (fun k _ => hP1.2.1 k)
  have hqB : qB b (bTake nw b t) (mS1 x b t) := by
    refine ⟨fun c hc => ?_, ?_⟩
    · rw [ml_of hP1.1] at hc
      obtain ⟨c1, c2, c3⟩ := hq.1 c hc
      refine ⟨?_, ?_, ?_⟩
      · rw [hF1 17 c (Or.inl rfl), t1 7 c (Or.inl rfl), c1]
      · rw [hF1 18 c (Or.inr (Or.inl rfl)), t1 8 c (Or.inr (Or.inl rfl)), c2]
      · rw [hF1 19 c (Or.inr (Or.inr rfl)), t1 9 c (Or.inr (Or.inr rfl)), c3]
    · have hnd : (sl nw b).Nodup := by rw [hq.2]; exact (hM.2.1 b hb).filter _
      rw [t2, kpt_f t _ _ hnd]
      have e1 : ma (mS1 x b t) b = (ma (mBegin m) b).filter (fun c => !decide (c ∈ tk t (sl nw b) 0)) := by
        unfold ma
        rw [ml_of hP1.1, List.filter_filter]
        refine List.filter_congr (fun c hc => ?_)
        unfold qa
        rw [hF1 17 c (Or.inl rfl)]
        by_cases q : c ∈ tk t (sl nw b) 0
        · rw [if_pos q, nI_0]; simp [q]
        · rw [if_neg q]; simp [q]
      rw [e1, ← hq.2]
  obtain ⟨s1, s2, s3, s4⟩ := qSL 10 0 (bTake nw b t) (mS1 x b t) hM1 hS1 hV1 hW1 (by rw [hP1.2.1]; exact hb) hqB
  have hP2 : mP0 (mSafeS x b t) (mBegin m) := mP0_trans s4 hP1
  refine ⟨?_, eLL, ⟨w, hw27, by rw [← eLL, eLS, w2, Nat.zero_add]⟩, hP2, fun q _ hq2 => ?_⟩
  · have e12 : rA x 12 b = rA (mS1 x b t) 12 b := by rw [hP1.1 12, hx.1 12]
    have e12' : rA x 12 b = rA (mDs 10 (mS1 x b t)) 12 b := by rw [show rA (mDs 10 (mS1 x b t)) 12 = _ from s4.1 12, e12]
    have c1 : zfw (mCF b (mS1 x b t)) 0 (rA x 12 b) 0 = (ma (mS1 x b t) b).length := by rw [e12]; exact mCF_L hV1
    have c2 : zfw (mCG b (mDs 10 (mS1 x b t))) 0 (rA x 12 b) (nI (ma (mS1 x b t) b).length) = nI ((ma (mS1 x b t) b).length - (ma (mDs 10 (mS1 x b t)) b).length) := by
      rw [e12']
      exact mCG_L s3 _ 0 _ s2
    unfold mSafeV
    rw [c1, c2]
    have hl : (ma (mS1 x b t) b).length ≤ 3 := by
      rw [← hqB.2, t2]
      have := kpt_len t (sl nw b) 0
      omega
    have s1' : (fSL b 10 (bTake nw b t)).1 = true ↔ (ma (mDs 10 (mS1 x b t)) b).length = (ma (mS1 x b t) b).length := s1
    have s2' : (ma (mDs 10 (mS1 x b t)) b).length ≤ (ma (mS1 x b t) b).length := s2
    by_cases z : (fSL b 10 (bTake nw b t)).1 = true
    · rw [z]
      refine decide_eq_true ?_
      rw [s1'.mp z, Nat.sub_self, nI_0]
    · have z2 : ¬ (ma (mDs 10 (mS1 x b t)) b).length = (ma (mS1 x b t) b).length := fun y => z (s1'.mpr y)
      rw [Bool.not_eq_true] at z
      rw [z]
      exact decide_eq_false (nI_ne0 (by omega) (by omega))
  · rw [hat q]
    exact ⟨_, List.getElem?_eq_getElem (hbit q hq2)⟩
set_option maxRecDepth 20000 in
theorem qSafe_L {nw m : zs} (h : qQ nw (mBegin m)) {b : Nat} (hb : b < rN m 4) : ∀ (n i : Nat) (c : Nat) (v : Int32) (ft : zs) (z : Option Nat) (x : zs), i + n = 2 ^ rA nw 10 b → mP0 x (mBegin m) → (z = none → c = 0 ∧ v = nI 28) → (∀ d, z = some d → c = d ∧ d < 2 ^ rA nw 10 b ∧ v = bLightSome nw b d) → ((∃ t, t < i ∧ (fSL b 10 (bTake nw b t)).1 = true) → z ≠ none) →
    mP0 (zfw (mSafeF b) i n (z, x)).2 (mBegin m) ∧ ∃ d, (zfw (mSafeF b) i n (z, x)).1 = some d ∧ (zfw (fSafeStep nw b) i n (c, v, ft)).1 = d ∧ d < 2 ^ rA nw 10 b := by
  intro n
  induction n with
  | zero =>
    intro i c v ft z x hi hx h1 h2 h3
    refine ⟨hx, ?_⟩
    have hz : z ≠ none := h3 ⟨2 ^ rA nw 10 b - 1, by have : 0 < 2 ^ rA nw 10 b := Nat.pow_pos (by decide)
                                                     omega, fSL_nil _ _ (by rw [(bTake_R nw b _).2.1]; exact kpt_all _ 0 (by rw [sl_len]; omega))⟩
    cases z with
    | none => exact absurd rfl hz
    | some d => exact ⟨d, rfl, (h2 d rfl).1, (h2 d rfl).2.1⟩
  | succ n ih =>
    intro i c v ft z x hi hx h1 h2 h3
    have ht : i < 2 ^ rA nw 10 b := by omega
    obtain ⟨s1, s2, ⟨w, w1, w2⟩, s4, -⟩ := qSafeV h hx hb ht
    rw [zfw, zfw]
    have hcond : mSLs x b i z = !decide (v ≤ bLightSome nw b i) := by
      cases z with
      | none =>
        rw [(h1 rfl).2, w2, decide_eq_false (nI_ge (by omega) (by omega))]
        rfl
      | some d =>
        obtain ⟨e1, e2, e3⟩ := h2 d rfl
        show (!decide (mLS x b d ≤ mLS x b i)) = _
        rw [s2, (qSafeV h hx hb e2).2.1, e3]
    by_cases q : v ≤ bLightSome nw b i
    · have e1 : mSafeF b i (z, x) = (z, x) := by
        unfold mSafeF
        rw [hcond, decide_eq_true q]
        rfl
      have e2 : fSafeStep nw b i (c, v, ft) = (c, v, ft) := by unfold fSafeStep; rw [if_pos q]
      rw [e1, e2]
      refine ih (i + 1) c v ft z x (by omega) hx h1 h2 (fun ⟨t, t1, t2⟩ => ?_)
      by_cases y : t = i
      · intro hz
        rw [(h1 hz).2, w2] at q
        exact nI_ge (by omega) (by omega) q
      · exact h3 ⟨t, by omega, t2⟩
    · have e1 : mSafeF b i (z, x) = (if mSafeV x b i = true then some i else z, mSafeS x b i) := by
        unfold mSafeF
        rw [hcond, decide_eq_false q]
        rfl
      rw [e1, s1]
      by_cases y : (fSL b 10 (bTake nw b i)).1 = true
      · have e2 : fSafeStep nw b i (c, v, ft) = (i, bLightSome nw b i, (fSL b 10 (bTake nw b i)).2) := by unfold fSafeStep; rw [if_neg q, if_pos y]
        rw [e2, if_pos y]
        refine ih (i + 1) i _ _ (some i) _ (by omega) s4 (fun hz => by cases hz) (fun d hd => ?_) (fun _ => by intro hz; cases hz)
        cases hd
        exact ⟨rfl, ht, rfl⟩
      · have e2 : fSafeStep nw b i (c, v, ft) = (c, v, (fSL b 10 (bTake nw b i)).2) := by unfold fSafeStep; rw [if_neg q, if_neg y]
        rw [e2, if_neg y]
        refine ih (i + 1) c v _ z _ (by omega) s4 h1 h2 (fun ⟨t, t1, t2⟩ => ?_)
        by_cases e : t = i
        · rw [e] at t2; exact absurd t2 y
        · exact h3 ⟨t, by omega, t2⟩
set_option maxRecDepth 20000 in
theorem qSafe {nw m ft : zs} (h : qQ nw (mBegin m)) {b : Nat} (hb : b < rN m 4) : mMany (mBegin m) b = rA nw 10 b ∧ mMany (mBegin m) b ≤ 3 ∧ (∀ t, t < 1 * 2 ^ mMany (mBegin m) b → mSetOk (mBegin m) b t) ∧ mP0 (mSafe (mBegin m) b).2 (mBegin m) ∧ (mSafe (mBegin m) b).1 = some (fSafe nw ft b).1 ∧ (fSafe nw ft b).1 < 8 ∧ mSetOk (mSafe (mBegin m) b).2 b (fSafe nw ft b).1 ∧ mLS (mSafe (mBegin m) b).2 b (fSafe nw ft b).1 = bLightSome nw b (fSafe nw ft b).1 := by
  have hv : qV (rF (mBegin m) 14) := h.2.2.2.1
  have hn : mMany (mBegin m) b = rA nw 10 b := by
    rw [mMany_L hv, ← sl_len, (h.2.2.2.2.2 b hb).2]
    rfl
  have h3 : rA nw 10 b ≤ 3 := h.1.2.1 b
  obtain ⟨r1, d, r2, r3, r4⟩ := qSafe_L h hb (2 ^ rA nw 10 b) 0 0 (nI 28) ft none (mBegin m) (Nat.zero_add _) (mP0_refl _) (fun _ => ⟨rfl, rfl⟩) (fun d hd => by cases hd) (fun ⟨t, t1, _⟩ => by omega)
  have eM : mSafe (mBegin m) b = zfw (mSafeF b) 0 (2 ^ rA nw 10 b) (none, mBegin m) := by unfold mSafe; rw [hn, Nat.one_mul]
  have eF : (fSafe nw ft b).1 = d := by unfold fSafe; rw [Nat.one_mul]; exact r3
  rw [← eM] at r1 r2
  have h8 : 2 ^ rA nw 10 b ≤ 8 := Nat.pow_le_pow_right (n := 2) (by decide) h3
  obtain ⟨-, s2, -, -, s5⟩ := qSafeV h r1 hb r4
  rw [eF]
  refine ⟨hn, by omega, fun t ht => ?_, r1, r2, by omega, s5, s2⟩
  rw [hn, Nat.one_mul] at ht
  exact (qSafeV h (mP0_refl _) hb ht).2.2.2.2
end
