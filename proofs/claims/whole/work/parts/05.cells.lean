abbrev zs : Type := (Nat → Nat) × (Nat → Int32) × (Nat → Nat → Nat) × (Nat → Nat → Int32)
def fU {α : Type} (f : Nat → α) (k : Nat) (v : α) : Nat → α := fun j => cond (Nat.beq j k) v (f j)
theorem fU_eq {α : Type} (f : Nat → α) (k : Nat) (v : α) (j : Nat) : fU f k v j = if j = k then v else f j := by
  unfold fU
  cases h : Nat.beq j k with
  | true => rw [if_pos (Nat.eq_of_beq_eq_true h)]; rfl
  | false => rw [if_neg (Nat.ne_of_beq_eq_false h)]; rfl
def rN (s : zs) (k : Nat) : Nat := s.1 k
def rI (s : zs) (k : Nat) : Int32 := s.2.1 k
def rA (s : zs) (k : Nat) : Nat → Nat := s.2.2.1 k
def rF (s : zs) (k : Nat) : Nat → Int32 := s.2.2.2 k
def uN (s : zs) (k : Nat) (v : Nat) : zs := (fU s.1 k v, s.2)
def uI (s : zs) (k : Nat) (v : Int32) : zs := (s.1, fU s.2.1 k v, s.2.2)
def uA (s : zs) (k : Nat) (f : Nat → Nat) : zs := (s.1, s.2.1, fU s.2.2.1 k f, s.2.2.2)
def uF (s : zs) (k : Nat) (f : Nat → Int32) : zs := (s.1, s.2.1, s.2.2.1, fU s.2.2.2 k f)
theorem rN_uN (s : zs) (k j : Nat) (v : Nat) : rN (uN s k v) j = if j = k then v else rN s j := fU_eq _ _ _ _
theorem rN_uI (s : zs) (k j : Nat) (v : Int32) : rN (uI s k v) j = rN s j := rfl
theorem rN_uA (s : zs) (k j : Nat) (v : Nat → Nat) : rN (uA s k v) j = rN s j := rfl
theorem rN_uF (s : zs) (k j : Nat) (v : Nat → Int32) : rN (uF s k v) j = rN s j := rfl
theorem rI_uN (s : zs) (k j : Nat) (v : Nat) : rI (uN s k v) j = rI s j := rfl
theorem rI_uI (s : zs) (k j : Nat) (v : Int32) : rI (uI s k v) j = if j = k then v else rI s j := fU_eq _ _ _ _
theorem rI_uA (s : zs) (k j : Nat) (v : Nat → Nat) : rI (uA s k v) j = rI s j := rfl
theorem rI_uF (s : zs) (k j : Nat) (v : Nat → Int32) : rI (uF s k v) j = rI s j := rfl
theorem rA_uN (s : zs) (k j : Nat) (v : Nat) : rA (uN s k v) j = rA s j := rfl
theorem rA_uI (s : zs) (k j : Nat) (v : Int32) : rA (uI s k v) j = rA s j := rfl
theorem rA_uA (s : zs) (k j : Nat) (v : Nat → Nat) : rA (uA s k v) j = if j = k then v else rA s j := fU_eq _ _ _ _
theorem rA_uF (s : zs) (k j : Nat) (v : Nat → Int32) : rA (uF s k v) j = rA s j := rfl
theorem rF_uN (s : zs) (k j : Nat) (v : Nat) : rF (uN s k v) j = rF s j := rfl
theorem rF_uI (s : zs) (k j : Nat) (v : Int32) : rF (uI s k v) j = rF s j := rfl
theorem rF_uA (s : zs) (k j : Nat) (v : Nat → Nat) : rF (uA s k v) j = rF s j := rfl
theorem rF_uF (s : zs) (k j : Nat) (v : Nat → Int32) : rF (uF s k v) j = if j = k then v else rF s j := fU_eq _ _ _ _
def updN (f : Nat → Nat) (k x : Nat) : Nat → Nat := fun j => if j = k then x else f j
theorem updN_s (f : Nat → Nat) (k x : Nat) : updN f k x k = x := by simp [updN]
theorem updN_n (f : Nat → Nat) {k j : Nat} (x : Nat) (h : j ≠ k) : updN f k x j = f j := by simp [updN, h]
theorem upd_nI (f : Nat → Nat) (k x : Nat) : upd (fun j => nI (f j)) k (nI x) = fun j => nI (updN f k x j) := by
  funext j
  unfold upd updN
  split <;> rfl
/-! a run of cells laid over a heap -/
def sL (g : zh) (a : Nat) (cs : List zc) : zh := fun j => if a ≤ j then (match cs[j - a]? with
  | some c => c
  | none => g j) else g j
theorem sL_get {g : zh} {a k : Nat} {cs : List zc} {c : zc} (h : cs[k]? = some c) : sL g a cs (a + k) = c := by
  simp [sL, h]
theorem sL_out {g : zh} {a j : Nat} {cs : List zc} (h : j < a ∨ a + cs.length ≤ j) : sL g a cs j = g j := by
  unfold sL
  split
  · rw [List.getElem?_eq_none (by omega)]
  · rfl
theorem sL_set {g : zh} {a k : Nat} {cs cs2 : List zc} {c : zc} (h : k < cs.length) (h2 : cs.set k c = cs2) : zup (sL g a cs) (a + k) c = sL g a cs2 := by
  subst h2
  funext j
  by_cases e : j = a + k
  · subst e
    rw [zup_s, sL_get (List.getElem?_set_self h)]
  · rw [zup_n _ _ e]
    unfold sL
    split
    · rw [List.getElem?_set_ne (by omega)]
    · rfl
theorem sL_get0 {g : zh} {k : Nat} {cs : List zc} {c : zc} (h : cs[k]? = some c) : sL g 0 cs k = c := by simp [sL, h]
theorem sL_set0 {g : zh} {k : Nat} {cs cs2 : List zc} {c : zc} (h : k < cs.length) (h2 : cs.set k c = cs2) : zup (sL g 0 cs) k c = sL g 0 cs2 := by
  have := sL_set (g := g) (a := 0) h h2
  rwa [Nat.zero_add] at this
theorem sL_sL {g : zh} {a : Nat} {L cs L2 : List zc} (h : a + cs.length ≤ L.length) (h2 : L.take a ++ (cs ++ L.drop (a + cs.length)) = L2) : sL (sL g 0 L) a cs = sL g 0 L2 := by
  subst h2
  funext j
  by_cases h1 : j < a
  · rw [sL_out (Or.inl h1)]
    unfold sL
    simp only [Nat.zero_le, if_true, Nat.sub_zero]
    rw [List.getElem?_append_left (by simp; omega), List.getElem?_take_of_lt h1]
  · by_cases h3 : j < a + cs.length
    · have e : sL (sL g 0 L) a cs j = cs[j - a]'(by omega) := by
        unfold sL
        rw [if_pos (by omega), List.getElem?_eq_getElem (by omega)]
      rw [e]
      unfold sL
      simp only [Nat.zero_le, if_true, Nat.sub_zero]
      rw [List.getElem?_append_right (by simp; omega)]
      have e2 : (List.take a L).length = a := by simp; omega
      rw [e2, List.getElem?_append_left (by omega), List.getElem?_eq_getElem (by omega)]
    · rw [sL_out (Or.inr (by omega))]
      unfold sL
      simp only [Nat.zero_le, if_true, Nat.sub_zero]
      rw [List.getElem?_append_right (by simp; omega)]
      have e2 : (List.take a L).length = a := by simp; omega
      rw [e2, List.getElem?_append_right (by omega), List.getElem?_drop]
      congr 2
      omega
theorem sL_same {g : zh} {a : Nat} {cs : List zc} {cs2 : List zc} : sL (sL g a cs) a cs2 = sL g a (cs2 ++ cs.drop cs2.length) := by
  funext j
  by_cases h1 : j < a
  · rw [sL_out (Or.inl h1), sL_out (Or.inl h1), sL_out (Or.inl h1)]
  · by_cases h3 : j < a + cs2.length
    · have e : ∀ (g : zh) (cs : List zc), sL g a (cs2 ++ cs) j = cs2[j - a]'(by omega) := by
        intro g cs
        unfold sL
        rw [if_pos (by omega), List.getElem?_append_left (by omega), List.getElem?_eq_getElem (by omega)]
      rw [e]
      have := e (sL g a cs) []
      rwa [List.append_nil] at this
    · rw [sL_out (cs := cs2) (Or.inr (by omega))]
      unfold sL
      rw [if_pos (by omega), if_pos (by omega), List.getElem?_append_right (by omega), List.getElem?_drop]
      congr 2
      omega
def BFs (a : Nat) (s : zs) : List Value := [.int (nI (rN s 0)), .int (nI (rN s 1)), .int (nI (rN s 2)), .int (rI s 3), .int (rI s 4), .ref (a + 1), .ref (a + 2), .ref (a + 3), .ref (a + 4), .ref (a + 5), .ref (a + 6), .ref (a + 7)]
def BCs (a : Nat) (s : zs) : List zc := zO 0 (BFs a s) :: [zI 9 (fun j => nI (rA s 5 j)), zI 9 (fun j => nI (rA s 6 j)), zI 9 (rF s 7), zI 9 (rF s 8), zI 9 (rF s 9), zI 3 (fun j => nI (rA s 10 j)), zI 9 (fun j => nI (rA s 11 j))]
def sB (g : zh) (a : Nat) (s : zs) : zh := sL g a (BCs a s)
theorem sB_o (g : zh) (a : Nat) (s : zs) : sB g a s a = zO 0 (BFs a s) := sL_get (k := 0) rfl
theorem BF_0 (a : Nat) (s : zs) : (BFs a s)[0]? = some (.int (nI (rN s 0))) := rfl
theorem sB_w0 (g : zh) (a : Nat) (s : zs) (v : Nat) : zup (sB g a s) a (zO 0 ((BFs a s).set 0 (.int (nI v)))) = sB g a (uN s 0 v) := sL_set (k := 0) (Nat.succ_pos _) rfl
theorem BF_1 (a : Nat) (s : zs) : (BFs a s)[1]? = some (.int (nI (rN s 1))) := rfl
theorem sB_w1 (g : zh) (a : Nat) (s : zs) (v : Nat) : zup (sB g a s) a (zO 0 ((BFs a s).set 1 (.int (nI v)))) = sB g a (uN s 1 v) := sL_set (k := 0) (Nat.succ_pos _) rfl
theorem BF_2 (a : Nat) (s : zs) : (BFs a s)[2]? = some (.int (nI (rN s 2))) := rfl
theorem sB_w2 (g : zh) (a : Nat) (s : zs) (v : Nat) : zup (sB g a s) a (zO 0 ((BFs a s).set 2 (.int (nI v)))) = sB g a (uN s 2 v) := sL_set (k := 0) (Nat.succ_pos _) rfl
theorem BF_3 (a : Nat) (s : zs) : (BFs a s)[3]? = some (.int (rI s 3)) := rfl
theorem sB_w3 (g : zh) (a : Nat) (s : zs) (v : Int32) : zup (sB g a s) a (zO 0 ((BFs a s).set 3 (.int (v)))) = sB g a (uI s 3 v) := sL_set (k := 0) (Nat.succ_pos _) rfl
theorem BF_4 (a : Nat) (s : zs) : (BFs a s)[4]? = some (.int (rI s 4)) := rfl
theorem sB_w4 (g : zh) (a : Nat) (s : zs) (v : Int32) : zup (sB g a s) a (zO 0 ((BFs a s).set 4 (.int (v)))) = sB g a (uI s 4 v) := sL_set (k := 0) (Nat.succ_pos _) rfl
theorem BF_5 (a : Nat) (s : zs) : (BFs a s)[5]? = some (.ref (a + 1)) := rfl
theorem sB_5 (g : zh) (a : Nat) (s : zs) : sB g a s (a + 1) = zI 9 (fun j => nI (rA s 5 j)) := sL_get rfl
theorem sB_w5 (g : zh) (a : Nat) (s : zs) (f : Nat → Nat) : zup (sB g a s) (a + 1) (zI 9 (fun j => nI (f j))) = sB g a (uA s 5 f) := sL_set (k := 1) (Nat.lt_of_lt_of_le (Nat.lt_succ_self _) (Nat.le_of_ble_eq_true rfl)) rfl
theorem BF_6 (a : Nat) (s : zs) : (BFs a s)[6]? = some (.ref (a + 2)) := rfl
theorem sB_6 (g : zh) (a : Nat) (s : zs) : sB g a s (a + 2) = zI 9 (fun j => nI (rA s 6 j)) := sL_get rfl
theorem sB_w6 (g : zh) (a : Nat) (s : zs) (f : Nat → Nat) : zup (sB g a s) (a + 2) (zI 9 (fun j => nI (f j))) = sB g a (uA s 6 f) := sL_set (k := 2) (Nat.lt_of_lt_of_le (Nat.lt_succ_self _) (Nat.le_of_ble_eq_true rfl)) rfl
theorem BF_7 (a : Nat) (s : zs) : (BFs a s)[7]? = some (.ref (a + 3)) := rfl
theorem sB_7 (g : zh) (a : Nat) (s : zs) : sB g a s (a + 3) = zI 9 (rF s 7) := sL_get rfl
theorem sB_w7 (g : zh) (a : Nat) (s : zs) (f : Nat → Int32) : zup (sB g a s) (a + 3) (zI 9 f) = sB g a (uF s 7 f) := sL_set (k := 3) (Nat.lt_of_lt_of_le (Nat.lt_succ_self _) (Nat.le_of_ble_eq_true rfl)) rfl
theorem BF_8 (a : Nat) (s : zs) : (BFs a s)[8]? = some (.ref (a + 4)) := rfl
theorem sB_8 (g : zh) (a : Nat) (s : zs) : sB g a s (a + 4) = zI 9 (rF s 8) := sL_get rfl
theorem sB_w8 (g : zh) (a : Nat) (s : zs) (f : Nat → Int32) : zup (sB g a s) (a + 4) (zI 9 f) = sB g a (uF s 8 f) := sL_set (k := 4) (Nat.lt_of_lt_of_le (Nat.lt_succ_self _) (Nat.le_of_ble_eq_true rfl)) rfl
theorem BF_9 (a : Nat) (s : zs) : (BFs a s)[9]? = some (.ref (a + 5)) := rfl
theorem sB_9 (g : zh) (a : Nat) (s : zs) : sB g a s (a + 5) = zI 9 (rF s 9) := sL_get rfl
theorem sB_w9 (g : zh) (a : Nat) (s : zs) (f : Nat → Int32) : zup (sB g a s) (a + 5) (zI 9 f) = sB g a (uF s 9 f) := sL_set (k := 5) (Nat.lt_of_lt_of_le (Nat.lt_succ_self _) (Nat.le_of_ble_eq_true rfl)) rfl
theorem BF_10 (a : Nat) (s : zs) : (BFs a s)[10]? = some (.ref (a + 6)) := rfl
theorem sB_10 (g : zh) (a : Nat) (s : zs) : sB g a s (a + 6) = zI 3 (fun j => nI (rA s 10 j)) := sL_get rfl
theorem sB_w10 (g : zh) (a : Nat) (s : zs) (f : Nat → Nat) : zup (sB g a s) (a + 6) (zI 3 (fun j => nI (f j))) = sB g a (uA s 10 f) := sL_set (k := 6) (Nat.lt_of_lt_of_le (Nat.lt_succ_self _) (Nat.le_of_ble_eq_true rfl)) rfl
theorem BF_11 (a : Nat) (s : zs) : (BFs a s)[11]? = some (.ref (a + 7)) := rfl
theorem sB_11 (g : zh) (a : Nat) (s : zs) : sB g a s (a + 7) = zI 9 (fun j => nI (rA s 11 j)) := sL_get rfl
theorem sB_w11 (g : zh) (a : Nat) (s : zs) (f : Nat → Nat) : zup (sB g a s) (a + 7) (zI 9 (fun j => nI (f j))) = sB g a (uA s 11 f) := sL_set (k := 7) (Nat.lt_of_lt_of_le (Nat.lt_succ_self _) (Nat.le_of_ble_eq_true rfl)) rfl
theorem sB_same (g : zh) (a : Nat) (s t : zs) : sB (sB g a s) a t = sB g a t := sL_same
def PFs (a : Nat) (s : zs) : List Value := [.ref (a + 1), .int (nI (rN s 1))]
def PCs (a : Nat) (s : zs) : List zc := zO 3 (PFs a s) :: [zI 38 (rF s 0)]
def sP (g : zh) (a : Nat) (s : zs) : zh := sL g a (PCs a s)
theorem sP_o (g : zh) (a : Nat) (s : zs) : sP g a s a = zO 3 (PFs a s) := sL_get (k := 0) rfl
theorem PF_0 (a : Nat) (s : zs) : (PFs a s)[0]? = some (.ref (a + 1)) := rfl
theorem sP_0 (g : zh) (a : Nat) (s : zs) : sP g a s (a + 1) = zI 38 (rF s 0) := sL_get rfl
theorem sP_w0 (g : zh) (a : Nat) (s : zs) (f : Nat → Int32) : zup (sP g a s) (a + 1) (zI 38 f) = sP g a (uF s 0 f) := sL_set (k := 1) (Nat.lt_of_lt_of_le (Nat.lt_succ_self _) (Nat.le_of_ble_eq_true rfl)) rfl
theorem PF_1 (a : Nat) (s : zs) : (PFs a s)[1]? = some (.int (nI (rN s 1))) := rfl
theorem sP_w1 (g : zh) (a : Nat) (s : zs) (v : Nat) : zup (sP g a s) a (zO 3 ((PFs a s).set 1 (.int (nI v)))) = sP g a (uN s 1 v) := sL_set (k := 0) (Nat.succ_pos _) rfl
theorem sP_same (g : zh) (a : Nat) (s t : zs) : sP (sP g a s) a t = sP g a t := sL_same
def SFs (a : Nat) (s : zs) : List Value := [.ref (a + 1), .ref (a + 2), .ref (a + 3), .int (nI (rN s 3))]
def SCs (a : Nat) (s : zs) : List zc := zO 4 (SFs a s) :: [zI 6 (fun j => nI (rA s 0 j)), zI 6 (fun j => nI (rA s 1 j)), zI 6 (rF s 2)]
def sS (g : zh) (a : Nat) (s : zs) : zh := sL g a (SCs a s)
theorem sS_o (g : zh) (a : Nat) (s : zs) : sS g a s a = zO 4 (SFs a s) := sL_get (k := 0) rfl
theorem SF_0 (a : Nat) (s : zs) : (SFs a s)[0]? = some (.ref (a + 1)) := rfl
theorem sS_0 (g : zh) (a : Nat) (s : zs) : sS g a s (a + 1) = zI 6 (fun j => nI (rA s 0 j)) := sL_get rfl
theorem sS_w0 (g : zh) (a : Nat) (s : zs) (f : Nat → Nat) : zup (sS g a s) (a + 1) (zI 6 (fun j => nI (f j))) = sS g a (uA s 0 f) := sL_set (k := 1) (Nat.lt_of_lt_of_le (Nat.lt_succ_self _) (Nat.le_of_ble_eq_true rfl)) rfl
theorem SF_1 (a : Nat) (s : zs) : (SFs a s)[1]? = some (.ref (a + 2)) := rfl
theorem sS_1 (g : zh) (a : Nat) (s : zs) : sS g a s (a + 2) = zI 6 (fun j => nI (rA s 1 j)) := sL_get rfl
theorem sS_w1 (g : zh) (a : Nat) (s : zs) (f : Nat → Nat) : zup (sS g a s) (a + 2) (zI 6 (fun j => nI (f j))) = sS g a (uA s 1 f) := sL_set (k := 2) (Nat.lt_of_lt_of_le (Nat.lt_succ_self _) (Nat.le_of_ble_eq_true rfl)) rfl
theorem SF_2 (a : Nat) (s : zs) : (SFs a s)[2]? = some (.ref (a + 3)) := rfl
theorem sS_2 (g : zh) (a : Nat) (s : zs) : sS g a s (a + 3) = zI 6 (rF s 2) := sL_get rfl
theorem sS_w2 (g : zh) (a : Nat) (s : zs) (f : Nat → Int32) : zup (sS g a s) (a + 3) (zI 6 f) = sS g a (uF s 2 f) := sL_set (k := 3) (Nat.lt_of_lt_of_le (Nat.lt_succ_self _) (Nat.le_of_ble_eq_true rfl)) rfl
theorem SF_3 (a : Nat) (s : zs) : (SFs a s)[3]? = some (.int (nI (rN s 3))) := rfl
theorem sS_w3 (g : zh) (a : Nat) (s : zs) (v : Nat) : zup (sS g a s) a (zO 4 ((SFs a s).set 3 (.int (nI v)))) = sS g a (uN s 3 v) := sL_set (k := 0) (Nat.succ_pos _) rfl
theorem sS_same (g : zh) (a : Nat) (s t : zs) : sS (sS g a s) a t = sS g a t := sL_same
