section
/-! lists of carts, and folds over them -/
def qL (h : Nat → Nat) : Nat → Nat → List Nat
  | _, 0 => []
  | i, n + 1 => h i :: qL h (i + 1) n
theorem qL_len (h : Nat → Nat) : ∀ n i, (qL h i n).length = n
  | 0, _ => rfl
  | n + 1, i => congrArg (· + 1) (qL_len h n (i + 1))
theorem zfw_L {α : Type} (f : Nat → α → α) (h : Nat → Nat) : ∀ (n i : Nat) (x : α), zfw (fun p x => f (h p) x) i n x = (qL h i n).foldl (fun x c => f c x) x
  | 0, _, _ => rfl
  | n + 1, i, x => zfw_L f h n (i + 1) (f (h i) x)
theorem qL_mem (h : Nat → Nat) (c : Nat) : ∀ n i, c ∈ qL h i n ↔ ∃ p, i ≤ p ∧ p < i + n ∧ h p = c
  | 0, i => ⟨fun q => by simp [qL] at q, fun ⟨p, a, b, _⟩ => by omega⟩
  | n + 1, i => by
    rw [qL, List.mem_cons, qL_mem h c n (i + 1)]
    constructor
    · rintro (e | ⟨p, a, b, d⟩)
      · exact ⟨i, Nat.le_refl _, by omega, e.symm⟩
      · exact ⟨p, by omega, by omega, d⟩
    · rintro ⟨p, a, b, d⟩
      rcases Nat.eq_or_lt_of_le a with e | e
      · exact Or.inl (by rw [e]; exact d.symm)
      · exact Or.inr ⟨p, e, by omega, d⟩
theorem qL_split (h : Nat → Nat) : ∀ k n i, qL h i (k + n) = qL h i k ++ qL h (i + k) n
  | 0, n, i => by rw [Nat.zero_add]; rfl
  | k + 1, n, i => by
    rw [show k + 1 + n = (k + n) + 1 by omega, qL, qL, List.cons_append, qL_split h k n (i + 1), show i + 1 + k = i + (k + 1) by omega]
theorem qL_congr {h g : Nat → Nat} : ∀ n i, (∀ p, i ≤ p → p < i + n → h p = g p) → qL h i n = qL g i n
  | 0, _, _ => rfl
  | n + 1, i, e => by
    rw [qL, qL, e i (Nat.le_refl _) (by omega), qL_congr n (i + 1) (fun p a b => e p (by omega) (by omega))]
theorem qL_last (h : Nat → Nat) (n : Nat) : (qL h 0 (n + 1)).getLast? = some (h n) := by
  rw [qL_split h n 1 0, Nat.zero_add]
  simp [qL]
theorem qL_at (h : Nat → Nat) (n : Nat) {p : Nat} (hp : p < n) : qL h 0 n = qL h 0 p ++ h p :: qL h (p + 1) (n - (p + 1)) := by
  have e : n = p + ((n - (p + 1)) + 1) := by omega
  rw [show qL h 0 n = qL h 0 (p + ((n - (p + 1)) + 1)) from congrArg _ e, qL_split h p _ 0, Nat.zero_add]
  rfl
/-! states -/
theorem uF_self (s : zs) (k : Nat) : uF s k (rF s k) = s := by
  have h : fU s.2.2.2 k (s.2.2.2 k) = s.2.2.2 := by
    funext j
    rw [fU_eq]
    split
    · subst_vars; rfl
    · rfl
  show (s.1, s.2.1, s.2.2.1, fU s.2.2.2 k (s.2.2.2 k)) = s
  rw [h]
theorem upd_s (f : Nat → Int32) (k : Nat) (x : Int32) : upd f k x k = x := by simp [upd]
theorem upd_n (f : Nat → Int32) {k j : Nat} (x : Int32) (h : j ≠ k) : upd f k x j = f j := by simp [upd, h]
def qV (f : Nat → Int32) : Prop := ∀ c, ∃ n, n ≤ 9 ∧ f c = nI n
theorem qV_le {f : Nat → Int32} (h : qV f) (c : Nat) : f c ≤ 0 ↔ f c = 0 := by
  obtain ⟨n, hn, e⟩ := h c
  rw [e]
  constructor
  · intro q
    have : n = 0 := by
      rcases Nat.eq_zero_or_pos n with z | z
      · exact z
      · exact absurd q (nI_nle z (by omega))
    rw [this, nI_0]
  · intro q
    rw [q]
    decide
/-! the carts of a bay, from the lowest on -/
def sl (s : zs) (b : Nat) : List Nat := qL (fun p => rA s 11 (b * 3 + p)) 0 (rA s 10 b)
def ml (x : zs) (b : Nat) : List Nat := qL (fun p => rA x 13 (4 * b + p)) 0 (rA x 12 b)
def qa (l : Nat → Int32) (c : Nat) : Bool := !decide (l c = 0)
def ma (x : zs) (b : Nat) : List Nat := (ml x b).filter (qa (rF x 17))
theorem sl_len (s : zs) (b : Nat) : (sl s b).length = rA s 10 b := qL_len _ _ _
theorem ml_len (x : zs) (b : Nat) : (ml x b).length = rA x 12 b := qL_len _ _ _
/-! a day of one bay of the main part: warm, burn, dry -/
def dWc (w : Nat → Int32) (r : List Nat) (d : Int32) : Int32 := r.foldl (fun d q => if w q ≤ 0 then d else d + nI 1) d
def dWarm (kd : Nat → Nat) (w : Nat → Int32) : List Nat → (Nat → Int32) → (Nat → Int32)
  | [], m => m
  | c :: r, m => dWarm kd w r (upd m c (m c + kWarms (kd c) (dWc w r (w c))))
theorem dWarm_out {kd : Nat → Nat} {w : Nat → Int32} {c : Nat} : ∀ (L : List Nat) (m : Nat → Int32), c ∉ L → dWarm kd w L m c = m c
  | [], _, _ => rfl
  | a :: r, m, h => by
    rw [dWarm, dWarm_out r _ (fun q => h (List.mem_cons_of_mem _ q)), upd_n _ _ (show c ≠ a from fun e => h (by rw [e]; exact List.mem_cons_self))]
theorem dWarm_in {kd : Nat → Nat} {w : Nat → Int32} {c : Nat} {R : List Nat} (hR : c ∉ R) : ∀ (A : List Nat) (m : Nat → Int32), c ∉ A → dWarm kd w (A ++ c :: R) m c = m c + kWarms (kd c) (dWc w R (w c))
  | [], m, _ => by
    show dWarm kd w R _ c = _
    rw [dWarm_out R _ hR, upd_s]
  | a :: A, m, h => by
    show dWarm kd w (A ++ c :: R) _ c = _
    rw [dWarm_in hR A _ (fun q => h (List.mem_cons_of_mem _ q)), upd_n _ _ (show c ≠ a from fun e => h (by rw [e]; exact List.mem_cons_self))]
theorem bGainAt_L {s : zs} {b i n : Nat} (h : i + (n + 1) = rA s 10 b) : bGainAt s b i = kWarms (rA s 5 (rA s 11 (b * 3 + i))) (dWc (rF s 8) (qL (fun p => rA s 11 (b * 3 + p)) (i + 1) n) (rF s 8 (rA s 11 (b * 3 + i)))) := by
  rw [bGainAt, if_neg (by omega), show rA s 10 b - (i + 1) = n by omega]
  exact congrArg _ (zfw_L (fun c d => if rF s 8 c ≤ 0 then d else d + nI 1) (fun p => rA s 11 (b * 3 + p)) n (i + 1) _)
theorem bWarm_L (b : Nat) : ∀ (n i : Nat) (x : zs), i + n = rA x 10 b → zfw (fun p x => uF x 9 (upd (rF x 9) (rA x 11 (b * 3 + p)) (rF x 9 (rA x 11 (b * 3 + p)) + bGainAt x b p))) i n x = uF x 9 (dWarm (rA x 5) (rF x 8) (qL (fun p => rA x 11 (b * 3 + p)) i n) (rF x 9))
  | 0, _, x, _ => (uF_self x 9).symm
  | n + 1, i, x, h => by
    rw [zfw, bGainAt_L h, bWarm_L b n (i + 1) _ (by show i + 1 + n = rA x 10 b; omega), uF_uF]
    rfl
theorem bWarm_eq (s : zs) (b : Nat) : bWarm s b = uF s 9 (dWarm (rA s 5) (rF s 8) (sl s b) (rF s 9)) := bWarm_L b _ 0 s (Nat.zero_add _)
def dT (m : Nat → Int32) (c : Nat) : Bool := decide (m c < nI 30)
def dKeep (m : Nat → Int32) (L : List Nat) : List Nat := L.takeWhile (dT m)
def dLost (m : Nat → Int32) (L : List Nat) : List Nat := L.dropWhile (dT m)
theorem dKL (m : Nat → Int32) (L : List Nat) : dKeep m L ++ dLost m L = L := List.takeWhile_append_dropWhile
theorem zfind_L (m : Nat → Int32) (h : Nat → Nat) : ∀ n i, (zfind (fun p => decide (¬ m (h p) < nI 30)) i n = none → dLost m (qL h i n) = []) ∧ (∀ p, zfind (fun p => decide (¬ m (h p) < nI 30)) i n = some p → dLost m (qL h i n) = qL h p (i + n - p))
  | 0, i => ⟨fun _ => rfl, fun p q => by simp [zfind] at q⟩
  | n + 1, i => by
    have ih := zfind_L m h n (i + 1)
    unfold zfind
    by_cases q : m (h i) < nI 30
    · have e1 : dLost m (qL h i (n + 1)) = dLost m (qL h (i + 1) n) := by
        show List.dropWhile (dT m) (h i :: qL h (i + 1) n) = _
        rw [List.dropWhile_cons, if_pos (by simp [dT, q])]; rfl
      rw [if_neg (by simp [q]), e1, show i + (n + 1) = i + 1 + n by omega]
      exact ih
    · have e1 : dLost m (qL h i (n + 1)) = qL h i (n + 1) := by
        show List.dropWhile (dT m) (h i :: qL h (i + 1) n) = _
        rw [List.dropWhile_cons, if_neg (by simp [dT, q])]; rfl
      rw [if_pos (by simp [q]), e1]
      refine ⟨fun z => (by cases z), fun p z => ?_⟩
      cases z
      rw [show i + (n + 1) - i = n + 1 by omega]
theorem bLF_L (b : Nat) : ∀ (n i : Nat) (x : zs), zfw (bLF b) i n x = (qL (fun p => rA x 11 (b * 3 + p)) i n).foldl bLose x
  | 0, _, _ => rfl
  | n + 1, i, x => by
    rw [zfw, bLF_L b n (i + 1)]
    rfl
theorem bLoses_F (k : Nat) (hk : k = 7 ∨ k = 8 ∨ k = 9) : ∀ (D : List Nat) (s : zs) (c : Nat), rF (D.foldl bLose s) k c = if c ∈ D then nI 0 else rF s k c
  | [], _, _ => by simp
  | a :: D, s, c => by
    rw [List.foldl_cons, bLoses_F k hk D]
    by_cases h1 : c ∈ D
    · rw [if_pos h1, if_pos (List.mem_cons_of_mem _ h1)]
    · rw [if_neg h1]
      have e : rF (bLose s a) k = upd (rF s k) a (nI 0) := by rcases hk with e | e | e <;> subst e <;> rfl
      rw [e]
      by_cases h2 : c = a
      · subst h2; rw [upd_s, if_pos List.mem_cons_self]
      · rw [upd_n _ _ h2, if_neg (by simp [h1, h2])]
theorem bLoses_O (D : List Nat) : ∀ (s : zs), (∀ k, rA (D.foldl bLose s) k = rA s k) ∧ (∀ k, rN (D.foldl bLose s) k = rN s k) ∧ (∀ k, rI (D.foldl bLose s) k = rI s k) := by
  induction D with
  | nil => intro s; exact ⟨fun _ => rfl, fun _ => rfl, fun _ => rfl⟩
  | cons a D ih =>
    intro s
    rw [List.foldl_cons]
    exact ⟨fun k => ((ih _).1 k).trans rfl, fun k => ((ih _).2.1 k).trans rfl, fun k => ((ih _).2.2 k).trans rfl⟩
theorem qL_take (h : Nat → Nat) {k n : Nat} (hk : k ≤ n) {A B : List Nat} (e : qL h 0 n = A ++ B) (hA : A.length = k) : qL h 0 k = A := by
  have e2 : n = k + (n - k) := by omega
  have e3 : qL h 0 n = qL h 0 k ++ qL h (0 + k) (n - k) := by
    rw [← qL_split h k (n - k) 0, ← e2]
  rw [e3] at e
  exact (List.append_inj e (by rw [qL_len, hA])).1
/-- what a loss from the top on does -/
theorem bLoseFrom_R (s : zs) (b q : Nat) (hq : q ≤ rA s 10 b) : (∀ k c, k = 7 ∨ k = 8 ∨ k = 9 → rF (bLoseFrom s b q) k c = if c ∈ (sl s b).drop q then nI 0 else rF s k c) ∧ (∀ k, k ≠ 10 → rA (bLoseFrom s b q) k = rA s k) ∧ (rA (bLoseFrom s b q) 10 = updN (rA s 10) b q) ∧ (∀ k, rN (bLoseFrom s b q) k = rN s k) ∧ (∀ k, rI (bLoseFrom s b q) k = rI s k) ∧ sl (bLoseFrom s b q) b = (sl s b).take q ∧ ∀ b2, b2 ≠ b → sl (bLoseFrom s b q) b2 = sl s b2 := by
  have hD : qL (fun p => rA s 11 (b * 3 + p)) q (rA s 10 b - q) = (sl s b).drop q := by
    unfold sl
    have e2 : rA s 10 b = q + (rA s 10 b - q) := by omega
    rw [show qL (fun p => rA s 11 (b * 3 + p)) 0 (rA s 10 b) = qL (fun p => rA s 11 (b * 3 + p)) 0 (q + (rA s 10 b - q)) from congrArg _ e2, qL_split, Nat.zero_add]
    rw [List.drop_append, qL_len, Nat.sub_self, List.drop_zero, List.drop_eq_nil_of_le (by rw [qL_len]; exact Nat.le_refl _)]
    rfl
  have e0 : bLoseFrom s b q = uA (((sl s b).drop q).foldl bLose s) 10 (updN (rA s 10) b q) := by
    rw [bLoseFrom, bLF_L, hD]
  have hO := bLoses_O ((sl s b).drop q) s
  have h10 : rA (bLoseFrom s b q) 10 = updN (rA s 10) b q := by rw [e0, rA_uA, if_pos rfl]
  have hne : ∀ k, k ≠ 10 → rA (bLoseFrom s b q) k = rA s k := fun k hk => by rw [e0, rA_uA, if_neg hk]; exact hO.1 k
  refine ⟨fun k c hk => by rw [e0]; exact bLoses_F k hk _ s c, hne, h10, fun k => by rw [e0]; exact hO.2.1 k, fun k => by rw [e0]; exact hO.2.2 k, ?_, fun b2 hb2 => ?_⟩
  · show qL (fun p => rA (bLoseFrom s b q) 11 (b * 3 + p)) 0 (rA (bLoseFrom s b q) 10 b) = _
    rw [hne 11 (by decide), h10, updN_s]
    exact qL_take _ hq (A := (sl s b).take q) (B := (sl s b).drop q) (List.take_append_drop q (sl s b)).symm (by rw [List.length_take, sl_len]; omega)
  · show qL (fun p => rA (bLoseFrom s b q) 11 (b2 * 3 + p)) 0 (rA (bLoseFrom s b q) 10 b2) = _
    rw [hne 11 (by decide), h10, updN_n _ _ hb2]
    rfl
end
