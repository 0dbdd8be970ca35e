def mFs (m : zs) (hh : Int64) : List Value := [.ref 50, .int (nI (rN m 1)), .int (nI (rN m 2)), .int (nI (rN m 3)), .int (nI (rN m 4)), .int (nI (rN m 5)), .int (nI (rN m 6)), .int (rI m 7), .int (rI m 8), .int (nI (rN m 9)), .ref 51, .ref 52, .ref 53, .ref 54, .ref 55, .ref 56, .ref 57, .ref 58, .ref 59, .ref 60, .int (nI (rN m 20)), .ref 61, .ref 62, .ref 63, .int (nI (rN m 24)), .ref 64, .ref 65, .int (rI m 27), .int (rI m 28), .int (nI (rN m 29)), .int (rI m 30), .int (rI m 31), .int (nI (rN m 32)), .ref 66, .ref 67, .ref 68, .ref 69, .ref 70, .long hh]
def mCs (m : zs) (hh : Int64) : List zc := zO 7 (mFs m hh) :: [zI 38 (rF m 0), zI 12 (fun j => nI (rA m 10 j)), zI 12 (fun j => nI (rA m 11 j)), zI 3 (fun j => nI (rA m 12 j)), zI 12 (fun j => nI (rA m 13 j)), zI 12 (rF m 14), zI 12 (rF m 15), zI 12 (rF m 16), zI 12 (rF m 17), zI 12 (rF m 18), zI 12 (rF m 19), zI 512 (rF m 21), zI 512 (rF m 22), zI 512 (rF m 23), zI 18 (rF m 25), zI 90 (rF m 26), zI 12 (fun j => nI (rA m 33 j)), zI 12 (rF m 34), zI 12 (rF m 35), zI 12 (rF m 36), zI 18 (rF m 37)]
def xFs (mx : zs) : List Value := [.ref 1, .ref 3, .ref 11, .ref 19, .ref 23, .ref 27, .ref 36, .ref 47, .int (nI (rN mx 8)), .int (nI (rN mx 9)), .int (nI (rN mx 10))]
def fFs (fo : zs) : List Value := [.ref 28, .int (rI fo 1), .int (nI (rN fo 2))]
def wCs (pg nw kp sn ks fo ft fe gt mx : zs) (re : Nat → Int64) (m : zs) (hh : Int64) : List zc := [zO 6 (xFs mx)] ++ (PCs 1 pg ++ (BCs 3 nw ++ (BCs 11 kp ++ (SCs 19 sn ++ (SCs 23 ks ++ ([zO 2 (fFs fo)] ++ (BCs 28 ft ++ ([zO 1 [.ref 37, .ref 45, .ref 46]] ++ (BCs 37 gt ++ ([zI 90 (fun j => nI (rA fe 1 j)), zI 31 (rF fe 2), zO 5 [.ref 48], zJ 28 re] ++ mCs m hh))))))))))
def wW (pg nw kp sn ks fo ft fe gt mx : zs) (re : Nat → Int64) (m : zs) (hh : Int64) : zh := sL (fun _ => zdead) 0 (wCs pg nw kp sn ks fo ft fe gt mx re m hh)
theorem wW_B3 {pg nw kp sn ks fo ft fe gt mx : zs} {re : Nat → Int64} {m : zs} {hh : Int64} (t : zs) : sB (wW pg nw kp sn ks fo ft fe gt mx re m hh) 3 t = wW pg t kp sn ks fo ft fe gt mx re m hh := sL_sL (Nat.le_of_ble_eq_true rfl) rfl
theorem wW_B11 {pg nw kp sn ks fo ft fe gt mx : zs} {re : Nat → Int64} {m : zs} {hh : Int64} (t : zs) : sB (wW pg nw kp sn ks fo ft fe gt mx re m hh) 11 t = wW pg nw t sn ks fo ft fe gt mx re m hh := sL_sL (Nat.le_of_ble_eq_true rfl) rfl
theorem wW_B28 {pg nw kp sn ks fo ft fe gt mx : zs} {re : Nat → Int64} {m : zs} {hh : Int64} (t : zs) : sB (wW pg nw kp sn ks fo ft fe gt mx re m hh) 28 t = wW pg nw kp sn ks fo t fe gt mx re m hh := sL_sL (Nat.le_of_ble_eq_true rfl) rfl
theorem wW_B37 {pg nw kp sn ks fo ft fe gt mx : zs} {re : Nat → Int64} {m : zs} {hh : Int64} (t : zs) : sB (wW pg nw kp sn ks fo ft fe gt mx re m hh) 37 t = wW pg nw kp sn ks fo ft fe t mx re m hh := sL_sL (Nat.le_of_ble_eq_true rfl) rfl
theorem wW_S19 {pg nw kp sn ks fo ft fe gt mx : zs} {re : Nat → Int64} {m : zs} {hh : Int64} (t : zs) : sS (wW pg nw kp sn ks fo ft fe gt mx re m hh) 19 t = wW pg nw kp t ks fo ft fe gt mx re m hh := sL_sL (Nat.le_of_ble_eq_true rfl) rfl
theorem wW_S23 {pg nw kp sn ks fo ft fe gt mx : zs} {re : Nat → Int64} {m : zs} {hh : Int64} (t : zs) : sS (wW pg nw kp sn ks fo ft fe gt mx re m hh) 23 t = wW pg nw kp sn t fo ft fe gt mx re m hh := sL_sL (Nat.le_of_ble_eq_true rfl) rfl
theorem wW_P1 {pg nw kp sn ks fo ft fe gt mx : zs} {re : Nat → Int64} {m : zs} {hh : Int64} (t : zs) : sP (wW pg nw kp sn ks fo ft fe gt mx re m hh) 1 t = wW t nw kp sn ks fo ft fe gt mx re m hh := sL_sL (Nat.le_of_ble_eq_true rfl) rfl
theorem wx {pg nw kp sn ks fo ft fe gt mx : zs} {re : Nat → Int64} {m : zs} {hh : Int64} : wW pg nw kp sn ks fo ft fe gt mx re m hh 0 = zO 6 (xFs mx) := sL_get0 rfl
theorem wf {pg nw kp sn ks fo ft fe gt mx : zs} {re : Nat → Int64} {m : zs} {hh : Int64} : wW pg nw kp sn ks fo ft fe gt mx re m hh 27 = zO 2 (fFs fo) := sL_get0 rfl
theorem we {pg nw kp sn ks fo ft fe gt mx : zs} {re : Nat → Int64} {m : zs} {hh : Int64} : wW pg nw kp sn ks fo ft fe gt mx re m hh 36 = zO 1 [.ref 37, .ref 45, .ref 46] := sL_get0 rfl
theorem we1 {pg nw kp sn ks fo ft fe gt mx : zs} {re : Nat → Int64} {m : zs} {hh : Int64} : wW pg nw kp sn ks fo ft fe gt mx re m hh 45 = zI 90 (fun j => nI (rA fe 1 j)) := sL_get0 rfl
theorem we2 {pg nw kp sn ks fo ft fe gt mx : zs} {re : Nat → Int64} {m : zs} {hh : Int64} : wW pg nw kp sn ks fo ft fe gt mx re m hh 46 = zI 31 (rF fe 2) := sL_get0 rfl
theorem wr {pg nw kp sn ks fo ft fe gt mx : zs} {re : Nat → Int64} {m : zs} {hh : Int64} : wW pg nw kp sn ks fo ft fe gt mx re m hh 47 = zO 5 [.ref 48] := sL_get0 rfl
theorem wr1 {pg nw kp sn ks fo ft fe gt mx : zs} {re : Nat → Int64} {m : zs} {hh : Int64} : wW pg nw kp sn ks fo ft fe gt mx re m hh 48 = zJ 28 re := sL_get0 rfl
theorem wm {pg nw kp sn ks fo ft fe gt mx : zs} {re : Nat → Int64} {m : zs} {hh : Int64} : wW pg nw kp sn ks fo ft fe gt mx re m hh 49 = zO 7 (mFs m hh) := sL_get0 rfl
theorem w3_o {pg nw kp sn ks fo ft fe gt mx : zs} {re : Nat → Int64} {m : zs} {hh : Int64} : wW pg nw kp sn ks fo ft fe gt mx re m hh 3 = zO 0 (BFs 3 nw) := sL_get0 rfl
theorem w3_5 {pg nw kp sn ks fo ft fe gt mx : zs} {re : Nat → Int64} {m : zs} {hh : Int64} : wW pg nw kp sn ks fo ft fe gt mx re m hh (3 + 1) = zI 9 (fun j => nI (rA nw 5 j)) := sL_get0 rfl
theorem w3_6 {pg nw kp sn ks fo ft fe gt mx : zs} {re : Nat → Int64} {m : zs} {hh : Int64} : wW pg nw kp sn ks fo ft fe gt mx re m hh (3 + 2) = zI 9 (fun j => nI (rA nw 6 j)) := sL_get0 rfl
theorem w3_7 {pg nw kp sn ks fo ft fe gt mx : zs} {re : Nat → Int64} {m : zs} {hh : Int64} : wW pg nw kp sn ks fo ft fe gt mx re m hh (3 + 3) = zI 9 (rF nw 7) := sL_get0 rfl
theorem w3_8 {pg nw kp sn ks fo ft fe gt mx : zs} {re : Nat → Int64} {m : zs} {hh : Int64} : wW pg nw kp sn ks fo ft fe gt mx re m hh (3 + 4) = zI 9 (rF nw 8) := sL_get0 rfl
theorem w3_9 {pg nw kp sn ks fo ft fe gt mx : zs} {re : Nat → Int64} {m : zs} {hh : Int64} : wW pg nw kp sn ks fo ft fe gt mx re m hh (3 + 5) = zI 9 (rF nw 9) := sL_get0 rfl
theorem w3_10 {pg nw kp sn ks fo ft fe gt mx : zs} {re : Nat → Int64} {m : zs} {hh : Int64} : wW pg nw kp sn ks fo ft fe gt mx re m hh (3 + 6) = zI 3 (fun j => nI (rA nw 10 j)) := sL_get0 rfl
theorem w3_11 {pg nw kp sn ks fo ft fe gt mx : zs} {re : Nat → Int64} {m : zs} {hh : Int64} : wW pg nw kp sn ks fo ft fe gt mx re m hh (3 + 7) = zI 9 (fun j => nI (rA nw 11 j)) := sL_get0 rfl
theorem w11_o {pg nw kp sn ks fo ft fe gt mx : zs} {re : Nat → Int64} {m : zs} {hh : Int64} : wW pg nw kp sn ks fo ft fe gt mx re m hh 11 = zO 0 (BFs 11 kp) := sL_get0 rfl
theorem w11_5 {pg nw kp sn ks fo ft fe gt mx : zs} {re : Nat → Int64} {m : zs} {hh : Int64} : wW pg nw kp sn ks fo ft fe gt mx re m hh (11 + 1) = zI 9 (fun j => nI (rA kp 5 j)) := sL_get0 rfl
theorem w11_6 {pg nw kp sn ks fo ft fe gt mx : zs} {re : Nat → Int64} {m : zs} {hh : Int64} : wW pg nw kp sn ks fo ft fe gt mx re m hh (11 + 2) = zI 9 (fun j => nI (rA kp 6 j)) := sL_get0 rfl
theorem w11_7 {pg nw kp sn ks fo ft fe gt mx : zs} {re : Nat → Int64} {m : zs} {hh : Int64} : wW pg nw kp sn ks fo ft fe gt mx re m hh (11 + 3) = zI 9 (rF kp 7) := sL_get0 rfl
theorem w11_8 {pg nw kp sn ks fo ft fe gt mx : zs} {re : Nat → Int64} {m : zs} {hh : Int64} : wW pg nw kp sn ks fo ft fe gt mx re m hh (11 + 4) = zI 9 (rF kp 8) := sL_get0 rfl
theorem w11_9 {pg nw kp sn ks fo ft fe gt mx : zs} {re : Nat → Int64} {m : zs} {hh : Int64} : wW pg nw kp sn ks fo ft fe gt mx re m hh (11 + 5) = zI 9 (rF kp 9) := sL_get0 rfl
theorem w11_10 {pg nw kp sn ks fo ft fe gt mx : zs} {re : Nat → Int64} {m : zs} {hh : Int64} : wW pg nw kp sn ks fo ft fe gt mx re m hh (11 + 6) = zI 3 (fun j => nI (rA kp 10 j)) := sL_get0 rfl
theorem w11_11 {pg nw kp sn ks fo ft fe gt mx : zs} {re : Nat → Int64} {m : zs} {hh : Int64} : wW pg nw kp sn ks fo ft fe gt mx re m hh (11 + 7) = zI 9 (fun j => nI (rA kp 11 j)) := sL_get0 rfl
theorem w28_o {pg nw kp sn ks fo ft fe gt mx : zs} {re : Nat → Int64} {m : zs} {hh : Int64} : wW pg nw kp sn ks fo ft fe gt mx re m hh 28 = zO 0 (BFs 28 ft) := sL_get0 rfl
theorem w28_5 {pg nw kp sn ks fo ft fe gt mx : zs} {re : Nat → Int64} {m : zs} {hh : Int64} : wW pg nw kp sn ks fo ft fe gt mx re m hh (28 + 1) = zI 9 (fun j => nI (rA ft 5 j)) := sL_get0 rfl
theorem w28_6 {pg nw kp sn ks fo ft fe gt mx : zs} {re : Nat → Int64} {m : zs} {hh : Int64} : wW pg nw kp sn ks fo ft fe gt mx re m hh (28 + 2) = zI 9 (fun j => nI (rA ft 6 j)) := sL_get0 rfl
theorem w28_7 {pg nw kp sn ks fo ft fe gt mx : zs} {re : Nat → Int64} {m : zs} {hh : Int64} : wW pg nw kp sn ks fo ft fe gt mx re m hh (28 + 3) = zI 9 (rF ft 7) := sL_get0 rfl
theorem w28_8 {pg nw kp sn ks fo ft fe gt mx : zs} {re : Nat → Int64} {m : zs} {hh : Int64} : wW pg nw kp sn ks fo ft fe gt mx re m hh (28 + 4) = zI 9 (rF ft 8) := sL_get0 rfl
theorem w28_9 {pg nw kp sn ks fo ft fe gt mx : zs} {re : Nat → Int64} {m : zs} {hh : Int64} : wW pg nw kp sn ks fo ft fe gt mx re m hh (28 + 5) = zI 9 (rF ft 9) := sL_get0 rfl
theorem w28_10 {pg nw kp sn ks fo ft fe gt mx : zs} {re : Nat → Int64} {m : zs} {hh : Int64} : wW pg nw kp sn ks fo ft fe gt mx re m hh (28 + 6) = zI 3 (fun j => nI (rA ft 10 j)) := sL_get0 rfl
theorem w28_11 {pg nw kp sn ks fo ft fe gt mx : zs} {re : Nat → Int64} {m : zs} {hh : Int64} : wW pg nw kp sn ks fo ft fe gt mx re m hh (28 + 7) = zI 9 (fun j => nI (rA ft 11 j)) := sL_get0 rfl
theorem w37_o {pg nw kp sn ks fo ft fe gt mx : zs} {re : Nat → Int64} {m : zs} {hh : Int64} : wW pg nw kp sn ks fo ft fe gt mx re m hh 37 = zO 0 (BFs 37 gt) := sL_get0 rfl
theorem w37_5 {pg nw kp sn ks fo ft fe gt mx : zs} {re : Nat → Int64} {m : zs} {hh : Int64} : wW pg nw kp sn ks fo ft fe gt mx re m hh (37 + 1) = zI 9 (fun j => nI (rA gt 5 j)) := sL_get0 rfl
theorem w37_6 {pg nw kp sn ks fo ft fe gt mx : zs} {re : Nat → Int64} {m : zs} {hh : Int64} : wW pg nw kp sn ks fo ft fe gt mx re m hh (37 + 2) = zI 9 (fun j => nI (rA gt 6 j)) := sL_get0 rfl
theorem w37_7 {pg nw kp sn ks fo ft fe gt mx : zs} {re : Nat → Int64} {m : zs} {hh : Int64} : wW pg nw kp sn ks fo ft fe gt mx re m hh (37 + 3) = zI 9 (rF gt 7) := sL_get0 rfl
theorem w37_8 {pg nw kp sn ks fo ft fe gt mx : zs} {re : Nat → Int64} {m : zs} {hh : Int64} : wW pg nw kp sn ks fo ft fe gt mx re m hh (37 + 4) = zI 9 (rF gt 8) := sL_get0 rfl
theorem w37_9 {pg nw kp sn ks fo ft fe gt mx : zs} {re : Nat → Int64} {m : zs} {hh : Int64} : wW pg nw kp sn ks fo ft fe gt mx re m hh (37 + 5) = zI 9 (rF gt 9) := sL_get0 rfl
theorem w37_10 {pg nw kp sn ks fo ft fe gt mx : zs} {re : Nat → Int64} {m : zs} {hh : Int64} : wW pg nw kp sn ks fo ft fe gt mx re m hh (37 + 6) = zI 3 (fun j => nI (rA gt 10 j)) := sL_get0 rfl
theorem w37_11 {pg nw kp sn ks fo ft fe gt mx : zs} {re : Nat → Int64} {m : zs} {hh : Int64} : wW pg nw kp sn ks fo ft fe gt mx re m hh (37 + 7) = zI 9 (fun j => nI (rA gt 11 j)) := sL_get0 rfl
theorem w19_o {pg nw kp sn ks fo ft fe gt mx : zs} {re : Nat → Int64} {m : zs} {hh : Int64} : wW pg nw kp sn ks fo ft fe gt mx re m hh 19 = zO 4 (SFs 19 sn) := sL_get0 rfl
theorem w19_0 {pg nw kp sn ks fo ft fe gt mx : zs} {re : Nat → Int64} {m : zs} {hh : Int64} : wW pg nw kp sn ks fo ft fe gt mx re m hh (19 + 1) = zI 6 (fun j => nI (rA sn 0 j)) := sL_get0 rfl
theorem w19_1 {pg nw kp sn ks fo ft fe gt mx : zs} {re : Nat → Int64} {m : zs} {hh : Int64} : wW pg nw kp sn ks fo ft fe gt mx re m hh (19 + 2) = zI 6 (fun j => nI (rA sn 1 j)) := sL_get0 rfl
theorem w19_2 {pg nw kp sn ks fo ft fe gt mx : zs} {re : Nat → Int64} {m : zs} {hh : Int64} : wW pg nw kp sn ks fo ft fe gt mx re m hh (19 + 3) = zI 6 (rF sn 2) := sL_get0 rfl
theorem w23_o {pg nw kp sn ks fo ft fe gt mx : zs} {re : Nat → Int64} {m : zs} {hh : Int64} : wW pg nw kp sn ks fo ft fe gt mx re m hh 23 = zO 4 (SFs 23 ks) := sL_get0 rfl
theorem w23_0 {pg nw kp sn ks fo ft fe gt mx : zs} {re : Nat → Int64} {m : zs} {hh : Int64} : wW pg nw kp sn ks fo ft fe gt mx re m hh (23 + 1) = zI 6 (fun j => nI (rA ks 0 j)) := sL_get0 rfl
theorem w23_1 {pg nw kp sn ks fo ft fe gt mx : zs} {re : Nat → Int64} {m : zs} {hh : Int64} : wW pg nw kp sn ks fo ft fe gt mx re m hh (23 + 2) = zI 6 (fun j => nI (rA ks 1 j)) := sL_get0 rfl
theorem w23_2 {pg nw kp sn ks fo ft fe gt mx : zs} {re : Nat → Int64} {m : zs} {hh : Int64} : wW pg nw kp sn ks fo ft fe gt mx re m hh (23 + 3) = zI 6 (rF ks 2) := sL_get0 rfl
theorem w1_o {pg nw kp sn ks fo ft fe gt mx : zs} {re : Nat → Int64} {m : zs} {hh : Int64} : wW pg nw kp sn ks fo ft fe gt mx re m hh 1 = zO 3 (PFs 1 pg) := sL_get0 rfl
theorem w1_0 {pg nw kp sn ks fo ft fe gt mx : zs} {re : Nat → Int64} {m : zs} {hh : Int64} : wW pg nw kp sn ks fo ft fe gt mx re m hh (1 + 1) = zI 38 (rF pg 0) := sL_get0 rfl
theorem xF_0 (mx : zs) : (xFs mx)[0]? = some (.ref 1) := rfl
theorem xF_1 (mx : zs) : (xFs mx)[1]? = some (.ref 3) := rfl
theorem xF_2 (mx : zs) : (xFs mx)[2]? = some (.ref 11) := rfl
theorem xF_3 (mx : zs) : (xFs mx)[3]? = some (.ref 19) := rfl
theorem xF_4 (mx : zs) : (xFs mx)[4]? = some (.ref 23) := rfl
theorem xF_5 (mx : zs) : (xFs mx)[5]? = some (.ref 27) := rfl
theorem xF_6 (mx : zs) : (xFs mx)[6]? = some (.ref 36) := rfl
theorem xF_7 (mx : zs) : (xFs mx)[7]? = some (.ref 47) := rfl
theorem xF_8 (mx : zs) : (xFs mx)[8]? = some (.int (nI (rN mx 8))) := rfl
theorem wx_8 {pg nw kp sn ks fo ft fe gt mx : zs} {re : Nat → Int64} {m : zs} {hh : Int64} (v : Nat) : zup (wW pg nw kp sn ks fo ft fe gt mx re m hh) 0 (zO 6 ((xFs mx).set 8 (.int (nI v)))) = wW pg nw kp sn ks fo ft fe gt (uN mx 8 v) re m hh := sL_set0 (Nat.le_of_ble_eq_true rfl) rfl
theorem xF_9 (mx : zs) : (xFs mx)[9]? = some (.int (nI (rN mx 9))) := rfl
theorem wx_9 {pg nw kp sn ks fo ft fe gt mx : zs} {re : Nat → Int64} {m : zs} {hh : Int64} (v : Nat) : zup (wW pg nw kp sn ks fo ft fe gt mx re m hh) 0 (zO 6 ((xFs mx).set 9 (.int (nI v)))) = wW pg nw kp sn ks fo ft fe gt (uN mx 9 v) re m hh := sL_set0 (Nat.le_of_ble_eq_true rfl) rfl
theorem xF_10 (mx : zs) : (xFs mx)[10]? = some (.int (nI (rN mx 10))) := rfl
theorem wx_10 {pg nw kp sn ks fo ft fe gt mx : zs} {re : Nat → Int64} {m : zs} {hh : Int64} (v : Nat) : zup (wW pg nw kp sn ks fo ft fe gt mx re m hh) 0 (zO 6 ((xFs mx).set 10 (.int (nI v)))) = wW pg nw kp sn ks fo ft fe gt (uN mx 10 v) re m hh := sL_set0 (Nat.le_of_ble_eq_true rfl) rfl
theorem fF_0 (fo : zs) : (fFs fo)[0]? = some (.ref 28) := rfl
theorem fF_1 (fo : zs) : (fFs fo)[1]? = some (.int (rI fo 1)) := rfl
theorem fF_2 (fo : zs) : (fFs fo)[2]? = some (.int (nI (rN fo 2))) := rfl
theorem wf_1 {pg nw kp sn ks fo ft fe gt mx : zs} {re : Nat → Int64} {m : zs} {hh : Int64} (v : Int32) : zup (wW pg nw kp sn ks fo ft fe gt mx re m hh) 27 (zO 2 ((fFs fo).set 1 (.int v))) = wW pg nw kp sn ks (uI fo 1 v) ft fe gt mx re m hh := sL_set0 (Nat.le_of_ble_eq_true rfl) rfl
theorem wf_2 {pg nw kp sn ks fo ft fe gt mx : zs} {re : Nat → Int64} {m : zs} {hh : Int64} (v : Nat) : zup (wW pg nw kp sn ks fo ft fe gt mx re m hh) 27 (zO 2 ((fFs fo).set 2 (.int (nI v)))) = wW pg nw kp sn ks (uN fo 2 v) ft fe gt mx re m hh := sL_set0 (Nat.le_of_ble_eq_true rfl) rfl
theorem we_1 {pg nw kp sn ks fo ft fe gt mx : zs} {re : Nat → Int64} {m : zs} {hh : Int64} (f : Nat → Nat) : zup (wW pg nw kp sn ks fo ft fe gt mx re m hh) 45 (zI 90 (fun j => nI (f j))) = wW pg nw kp sn ks fo ft (uA fe 1 f) gt mx re m hh := sL_set0 (Nat.le_of_ble_eq_true rfl) rfl
theorem we_2 {pg nw kp sn ks fo ft fe gt mx : zs} {re : Nat → Int64} {m : zs} {hh : Int64} (f : Nat → Int32) : zup (wW pg nw kp sn ks fo ft fe gt mx re m hh) 46 (zI 31 f) = wW pg nw kp sn ks fo ft (uF fe 2 f) gt mx re m hh := sL_set0 (Nat.le_of_ble_eq_true rfl) rfl
theorem wr_1 {pg nw kp sn ks fo ft fe gt mx : zs} {re : Nat → Int64} {m : zs} {hh : Int64} (f : Nat → Int64) : zup (wW pg nw kp sn ks fo ft fe gt mx re m hh) 48 (zJ 28 f) = wW pg nw kp sn ks fo ft fe gt mx f m hh := sL_set0 (Nat.le_of_ble_eq_true rfl) rfl
theorem mF_0 (m : zs) (hh : Int64) : (mFs m hh)[0]? = some (.ref 50) := rfl
theorem wm0 {pg nw kp sn ks fo ft fe gt mx : zs} {re : Nat → Int64} {m : zs} {hh : Int64} : wW pg nw kp sn ks fo ft fe gt mx re m hh 50 = zI 38 (rF m 0) := sL_get0 rfl
theorem wm_0 {pg nw kp sn ks fo ft fe gt mx : zs} {re : Nat → Int64} {m : zs} {hh : Int64} (f : Nat → Int32) : zup (wW pg nw kp sn ks fo ft fe gt mx re m hh) 50 (zI 38 f) = wW pg nw kp sn ks fo ft fe gt mx re (uF m 0 f) hh := sL_set0 (Nat.le_of_ble_eq_true rfl) rfl
theorem mF_1 (m : zs) (hh : Int64) : (mFs m hh)[1]? = some (.int (nI (rN m 1))) := rfl
theorem wm_1 {pg nw kp sn ks fo ft fe gt mx : zs} {re : Nat → Int64} {m : zs} {hh : Int64} (v : Nat) : zup (wW pg nw kp sn ks fo ft fe gt mx re m hh) 49 (zO 7 ((mFs m hh).set 1 (.int (nI v)))) = wW pg nw kp sn ks fo ft fe gt mx re (uN m 1 v) hh := sL_set0 (Nat.le_of_ble_eq_true rfl) rfl
theorem mF_2 (m : zs) (hh : Int64) : (mFs m hh)[2]? = some (.int (nI (rN m 2))) := rfl
theorem wm_2 {pg nw kp sn ks fo ft fe gt mx : zs} {re : Nat → Int64} {m : zs} {hh : Int64} (v : Nat) : zup (wW pg nw kp sn ks fo ft fe gt mx re m hh) 49 (zO 7 ((mFs m hh).set 2 (.int (nI v)))) = wW pg nw kp sn ks fo ft fe gt mx re (uN m 2 v) hh := sL_set0 (Nat.le_of_ble_eq_true rfl) rfl
theorem mF_3 (m : zs) (hh : Int64) : (mFs m hh)[3]? = some (.int (nI (rN m 3))) := rfl
theorem wm_3 {pg nw kp sn ks fo ft fe gt mx : zs} {re : Nat → Int64} {m : zs} {hh : Int64} (v : Nat) : zup (wW pg nw kp sn ks fo ft fe gt mx re m hh) 49 (zO 7 ((mFs m hh).set 3 (.int (nI v)))) = wW pg nw kp sn ks fo ft fe gt mx re (uN m 3 v) hh := sL_set0 (Nat.le_of_ble_eq_true rfl) rfl
theorem mF_4 (m : zs) (hh : Int64) : (mFs m hh)[4]? = some (.int (nI (rN m 4))) := rfl
theorem wm_4 {pg nw kp sn ks fo ft fe gt mx : zs} {re : Nat → Int64} {m : zs} {hh : Int64} (v : Nat) : zup (wW pg nw kp sn ks fo ft fe gt mx re m hh) 49 (zO 7 ((mFs m hh).set 4 (.int (nI v)))) = wW pg nw kp sn ks fo ft fe gt mx re (uN m 4 v) hh := sL_set0 (Nat.le_of_ble_eq_true rfl) rfl
theorem mF_5 (m : zs) (hh : Int64) : (mFs m hh)[5]? = some (.int (nI (rN m 5))) := rfl
theorem wm_5 {pg nw kp sn ks fo ft fe gt mx : zs} {re : Nat → Int64} {m : zs} {hh : Int64} (v : Nat) : zup (wW pg nw kp sn ks fo ft fe gt mx re m hh) 49 (zO 7 ((mFs m hh).set 5 (.int (nI v)))) = wW pg nw kp sn ks fo ft fe gt mx re (uN m 5 v) hh := sL_set0 (Nat.le_of_ble_eq_true rfl) rfl
theorem mF_6 (m : zs) (hh : Int64) : (mFs m hh)[6]? = some (.int (nI (rN m 6))) := rfl
theorem wm_6 {pg nw kp sn ks fo ft fe gt mx : zs} {re : Nat → Int64} {m : zs} {hh : Int64} (v : Nat) : zup (wW pg nw kp sn ks fo ft fe gt mx re m hh) 49 (zO 7 ((mFs m hh).set 6 (.int (nI v)))) = wW pg nw kp sn ks fo ft fe gt mx re (uN m 6 v) hh := sL_set0 (Nat.le_of_ble_eq_true rfl) rfl
theorem mF_7 (m : zs) (hh : Int64) : (mFs m hh)[7]? = some (.int (rI m 7)) := rfl
theorem wm_7 {pg nw kp sn ks fo ft fe gt mx : zs} {re : Nat → Int64} {m : zs} {hh : Int64} (v : Int32) : zup (wW pg nw kp sn ks fo ft fe gt mx re m hh) 49 (zO 7 ((mFs m hh).set 7 (.int v))) = wW pg nw kp sn ks fo ft fe gt mx re (uI m 7 v) hh := sL_set0 (Nat.le_of_ble_eq_true rfl) rfl
theorem mF_8 (m : zs) (hh : Int64) : (mFs m hh)[8]? = some (.int (rI m 8)) := rfl
theorem wm_8 {pg nw kp sn ks fo ft fe gt mx : zs} {re : Nat → Int64} {m : zs} {hh : Int64} (v : Int32) : zup (wW pg nw kp sn ks fo ft fe gt mx re m hh) 49 (zO 7 ((mFs m hh).set 8 (.int v))) = wW pg nw kp sn ks fo ft fe gt mx re (uI m 8 v) hh := sL_set0 (Nat.le_of_ble_eq_true rfl) rfl
theorem mF_9 (m : zs) (hh : Int64) : (mFs m hh)[9]? = some (.int (nI (rN m 9))) := rfl
theorem wm_9 {pg nw kp sn ks fo ft fe gt mx : zs} {re : Nat → Int64} {m : zs} {hh : Int64} (v : Nat) : zup (wW pg nw kp sn ks fo ft fe gt mx re m hh) 49 (zO 7 ((mFs m hh).set 9 (.int (nI v)))) = wW pg nw kp sn ks fo ft fe gt mx re (uN m 9 v) hh := sL_set0 (Nat.le_of_ble_eq_true rfl) rfl
theorem mF_10 (m : zs) (hh : Int64) : (mFs m hh)[10]? = some (.ref 51) := rfl
theorem wm10 {pg nw kp sn ks fo ft fe gt mx : zs} {re : Nat → Int64} {m : zs} {hh : Int64} : wW pg nw kp sn ks fo ft fe gt mx re m hh 51 = zI 12 (fun j => nI (rA m 10 j)) := sL_get0 rfl
theorem wm_10 {pg nw kp sn ks fo ft fe gt mx : zs} {re : Nat → Int64} {m : zs} {hh : Int64} (f : Nat → Nat) : zup (wW pg nw kp sn ks fo ft fe gt mx re m hh) 51 (zI 12 (fun j => nI (f j))) = wW pg nw kp sn ks fo ft fe gt mx re (uA m 10 f) hh := sL_set0 (Nat.le_of_ble_eq_true rfl) rfl
theorem mF_11 (m : zs) (hh : Int64) : (mFs m hh)[11]? = some (.ref 52) := rfl
theorem wm11 {pg nw kp sn ks fo ft fe gt mx : zs} {re : Nat → Int64} {m : zs} {hh : Int64} : wW pg nw kp sn ks fo ft fe gt mx re m hh 52 = zI 12 (fun j => nI (rA m 11 j)) := sL_get0 rfl
theorem wm_11 {pg nw kp sn ks fo ft fe gt mx : zs} {re : Nat → Int64} {m : zs} {hh : Int64} (f : Nat → Nat) : zup (wW pg nw kp sn ks fo ft fe gt mx re m hh) 52 (zI 12 (fun j => nI (f j))) = wW pg nw kp sn ks fo ft fe gt mx re (uA m 11 f) hh := sL_set0 (Nat.le_of_ble_eq_true rfl) rfl
theorem mF_12 (m : zs) (hh : Int64) : (mFs m hh)[12]? = some (.ref 53) := rfl
theorem wm12 {pg nw kp sn ks fo ft fe gt mx : zs} {re : Nat → Int64} {m : zs} {hh : Int64} : wW pg nw kp sn ks fo ft fe gt mx re m hh 53 = zI 3 (fun j => nI (rA m 12 j)) := sL_get0 rfl
theorem wm_12 {pg nw kp sn ks fo ft fe gt mx : zs} {re : Nat → Int64} {m : zs} {hh : Int64} (f : Nat → Nat) : zup (wW pg nw kp sn ks fo ft fe gt mx re m hh) 53 (zI 3 (fun j => nI (f j))) = wW pg nw kp sn ks fo ft fe gt mx re (uA m 12 f) hh := sL_set0 (Nat.le_of_ble_eq_true rfl) rfl
theorem mF_13 (m : zs) (hh : Int64) : (mFs m hh)[13]? = some (.ref 54) := rfl
theorem wm13 {pg nw kp sn ks fo ft fe gt mx : zs} {re : Nat → Int64} {m : zs} {hh : Int64} : wW pg nw kp sn ks fo ft fe gt mx re m hh 54 = zI 12 (fun j => nI (rA m 13 j)) := sL_get0 rfl
theorem wm_13 {pg nw kp sn ks fo ft fe gt mx : zs} {re : Nat → Int64} {m : zs} {hh : Int64} (f : Nat → Nat) : zup (wW pg nw kp sn ks fo ft fe gt mx re m hh) 54 (zI 12 (fun j => nI (f j))) = wW pg nw kp sn ks fo ft fe gt mx re (uA m 13 f) hh := sL_set0 (Nat.le_of_ble_eq_true rfl) rfl
theorem mF_14 (m : zs) (hh : Int64) : (mFs m hh)[14]? = some (.ref 55) := rfl
theorem wm14 {pg nw kp sn ks fo ft fe gt mx : zs} {re : Nat → Int64} {m : zs} {hh : Int64} : wW pg nw kp sn ks fo ft fe gt mx re m hh 55 = zI 12 (rF m 14) := sL_get0 rfl
theorem wm_14 {pg nw kp sn ks fo ft fe gt mx : zs} {re : Nat → Int64} {m : zs} {hh : Int64} (f : Nat → Int32) : zup (wW pg nw kp sn ks fo ft fe gt mx re m hh) 55 (zI 12 f) = wW pg nw kp sn ks fo ft fe gt mx re (uF m 14 f) hh := sL_set0 (Nat.le_of_ble_eq_true rfl) rfl
theorem mF_15 (m : zs) (hh : Int64) : (mFs m hh)[15]? = some (.ref 56) := rfl
theorem wm15 {pg nw kp sn ks fo ft fe gt mx : zs} {re : Nat → Int64} {m : zs} {hh : Int64} : wW pg nw kp sn ks fo ft fe gt mx re m hh 56 = zI 12 (rF m 15) := sL_get0 rfl
theorem wm_15 {pg nw kp sn ks fo ft fe gt mx : zs} {re : Nat → Int64} {m : zs} {hh : Int64} (f : Nat → Int32) : zup (wW pg nw kp sn ks fo ft fe gt mx re m hh) 56 (zI 12 f) = wW pg nw kp sn ks fo ft fe gt mx re (uF m 15 f) hh := sL_set0 (Nat.le_of_ble_eq_true rfl) rfl
theorem mF_16 (m : zs) (hh : Int64) : (mFs m hh)[16]? = some (.ref 57) := rfl
theorem wm16 {pg nw kp sn ks fo ft fe gt mx : zs} {re : Nat → Int64} {m : zs} {hh : Int64} : wW pg nw kp sn ks fo ft fe gt mx re m hh 57 = zI 12 (rF m 16) := sL_get0 rfl
theorem wm_16 {pg nw kp sn ks fo ft fe gt mx : zs} {re : Nat → Int64} {m : zs} {hh : Int64} (f : Nat → Int32) : zup (wW pg nw kp sn ks fo ft fe gt mx re m hh) 57 (zI 12 f) = wW pg nw kp sn ks fo ft fe gt mx re (uF m 16 f) hh := sL_set0 (Nat.le_of_ble_eq_true rfl) rfl
theorem mF_17 (m : zs) (hh : Int64) : (mFs m hh)[17]? = some (.ref 58) := rfl
theorem wm17 {pg nw kp sn ks fo ft fe gt mx : zs} {re : Nat → Int64} {m : zs} {hh : Int64} : wW pg nw kp sn ks fo ft fe gt mx re m hh 58 = zI 12 (rF m 17) := sL_get0 rfl
theorem wm_17 {pg nw kp sn ks fo ft fe gt mx : zs} {re : Nat → Int64} {m : zs} {hh : Int64} (f : Nat → Int32) : zup (wW pg nw kp sn ks fo ft fe gt mx re m hh) 58 (zI 12 f) = wW pg nw kp sn ks fo ft fe gt mx re (uF m 17 f) hh := sL_set0 (Nat.le_of_ble_eq_true rfl) rfl
theorem mF_18 (m : zs) (hh : Int64) : (mFs m hh)[18]? = some (.ref 59) := rfl
theorem wm18 {pg nw kp sn ks fo ft fe gt mx : zs} {re : Nat → Int64} {m : zs} {hh : Int64} : wW pg nw kp sn ks fo ft fe gt mx re m hh 59 = zI 12 (rF m 18) := sL_get0 rfl
theorem wm_18 {pg nw kp sn ks fo ft fe gt mx : zs} {re : Nat → Int64} {m : zs} {hh : Int64} (f : Nat → Int32) : zup (wW pg nw kp sn ks fo ft fe gt mx re m hh) 59 (zI 12 f) = wW pg nw kp sn ks fo ft fe gt mx re (uF m 18 f) hh := sL_set0 (Nat.le_of_ble_eq_true rfl) rfl
theorem mF_19 (m : zs) (hh : Int64) : (mFs m hh)[19]? = some (.ref 60) := rfl
theorem wm19 {pg nw kp sn ks fo ft fe gt mx : zs} {re : Nat → Int64} {m : zs} {hh : Int64} : wW pg nw kp sn ks fo ft fe gt mx re m hh 60 = zI 12 (rF m 19) := sL_get0 rfl
theorem wm_19 {pg nw kp sn ks fo ft fe gt mx : zs} {re : Nat → Int64} {m : zs} {hh : Int64} (f : Nat → Int32) : zup (wW pg nw kp sn ks fo ft fe gt mx re m hh) 60 (zI 12 f) = wW pg nw kp sn ks fo ft fe gt mx re (uF m 19 f) hh := sL_set0 (Nat.le_of_ble_eq_true rfl) rfl
theorem mF_20 (m : zs) (hh : Int64) : (mFs m hh)[20]? = some (.int (nI (rN m 20))) := rfl
theorem wm_20 {pg nw kp sn ks fo ft fe gt mx : zs} {re : Nat → Int64} {m : zs} {hh : Int64} (v : Nat) : zup (wW pg nw kp sn ks fo ft fe gt mx re m hh) 49 (zO 7 ((mFs m hh).set 20 (.int (nI v)))) = wW pg nw kp sn ks fo ft fe gt mx re (uN m 20 v) hh := sL_set0 (Nat.le_of_ble_eq_true rfl) rfl
theorem mF_21 (m : zs) (hh : Int64) : (mFs m hh)[21]? = some (.ref 61) := rfl
theorem wm21 {pg nw kp sn ks fo ft fe gt mx : zs} {re : Nat → Int64} {m : zs} {hh : Int64} : wW pg nw kp sn ks fo ft fe gt mx re m hh 61 = zI 512 (rF m 21) := sL_get0 rfl
theorem wm_21 {pg nw kp sn ks fo ft fe gt mx : zs} {re : Nat → Int64} {m : zs} {hh : Int64} (f : Nat → Int32) : zup (wW pg nw kp sn ks fo ft fe gt mx re m hh) 61 (zI 512 f) = wW pg nw kp sn ks fo ft fe gt mx re (uF m 21 f) hh := sL_set0 (Nat.le_of_ble_eq_true rfl) rfl
theorem mF_22 (m : zs) (hh : Int64) : (mFs m hh)[22]? = some (.ref 62) := rfl
theorem wm22 {pg nw kp sn ks fo ft fe gt mx : zs} {re : Nat → Int64} {m : zs} {hh : Int64} : wW pg nw kp sn ks fo ft fe gt mx re m hh 62 = zI 512 (rF m 22) := sL_get0 rfl
theorem wm_22 {pg nw kp sn ks fo ft fe gt mx : zs} {re : Nat → Int64} {m : zs} {hh : Int64} (f : Nat → Int32) : zup (wW pg nw kp sn ks fo ft fe gt mx re m hh) 62 (zI 512 f) = wW pg nw kp sn ks fo ft fe gt mx re (uF m 22 f) hh := sL_set0 (Nat.le_of_ble_eq_true rfl) rfl
theorem mF_23 (m : zs) (hh : Int64) : (mFs m hh)[23]? = some (.ref 63) := rfl
theorem wm23 {pg nw kp sn ks fo ft fe gt mx : zs} {re : Nat → Int64} {m : zs} {hh : Int64} : wW pg nw kp sn ks fo ft fe gt mx re m hh 63 = zI 512 (rF m 23) := sL_get0 rfl
theorem wm_23 {pg nw kp sn ks fo ft fe gt mx : zs} {re : Nat → Int64} {m : zs} {hh : Int64} (f : Nat → Int32) : zup (wW pg nw kp sn ks fo ft fe gt mx re m hh) 63 (zI 512 f) = wW pg nw kp sn ks fo ft fe gt mx re (uF m 23 f) hh := sL_set0 (Nat.le_of_ble_eq_true rfl) rfl
theorem mF_24 (m : zs) (hh : Int64) : (mFs m hh)[24]? = some (.int (nI (rN m 24))) := rfl
theorem wm_24 {pg nw kp sn ks fo ft fe gt mx : zs} {re : Nat → Int64} {m : zs} {hh : Int64} (v : Nat) : zup (wW pg nw kp sn ks fo ft fe gt mx re m hh) 49 (zO 7 ((mFs m hh).set 24 (.int (nI v)))) = wW pg nw kp sn ks fo ft fe gt mx re (uN m 24 v) hh := sL_set0 (Nat.le_of_ble_eq_true rfl) rfl
theorem mF_25 (m : zs) (hh : Int64) : (mFs m hh)[25]? = some (.ref 64) := rfl
theorem wm25 {pg nw kp sn ks fo ft fe gt mx : zs} {re : Nat → Int64} {m : zs} {hh : Int64} : wW pg nw kp sn ks fo ft fe gt mx re m hh 64 = zI 18 (rF m 25) := sL_get0 rfl
theorem wm_25 {pg nw kp sn ks fo ft fe gt mx : zs} {re : Nat → Int64} {m : zs} {hh : Int64} (f : Nat → Int32) : zup (wW pg nw kp sn ks fo ft fe gt mx re m hh) 64 (zI 18 f) = wW pg nw kp sn ks fo ft fe gt mx re (uF m 25 f) hh := sL_set0 (Nat.le_of_ble_eq_true rfl) rfl
theorem mF_26 (m : zs) (hh : Int64) : (mFs m hh)[26]? = some (.ref 65) := rfl
theorem wm26 {pg nw kp sn ks fo ft fe gt mx : zs} {re : Nat → Int64} {m : zs} {hh : Int64} : wW pg nw kp sn ks fo ft fe gt mx re m hh 65 = zI 90 (rF m 26) := sL_get0 rfl
theorem wm_26 {pg nw kp sn ks fo ft fe gt mx : zs} {re : Nat → Int64} {m : zs} {hh : Int64} (f : Nat → Int32) : zup (wW pg nw kp sn ks fo ft fe gt mx re m hh) 65 (zI 90 f) = wW pg nw kp sn ks fo ft fe gt mx re (uF m 26 f) hh := sL_set0 (Nat.le_of_ble_eq_true rfl) rfl
theorem mF_27 (m : zs) (hh : Int64) : (mFs m hh)[27]? = some (.int (rI m 27)) := rfl
theorem wm_27 {pg nw kp sn ks fo ft fe gt mx : zs} {re : Nat → Int64} {m : zs} {hh : Int64} (v : Int32) : zup (wW pg nw kp sn ks fo ft fe gt mx re m hh) 49 (zO 7 ((mFs m hh).set 27 (.int v))) = wW pg nw kp sn ks fo ft fe gt mx re (uI m 27 v) hh := sL_set0 (Nat.le_of_ble_eq_true rfl) rfl
theorem mF_28 (m : zs) (hh : Int64) : (mFs m hh)[28]? = some (.int (rI m 28)) := rfl
theorem wm_28 {pg nw kp sn ks fo ft fe gt mx : zs} {re : Nat → Int64} {m : zs} {hh : Int64} (v : Int32) : zup (wW pg nw kp sn ks fo ft fe gt mx re m hh) 49 (zO 7 ((mFs m hh).set 28 (.int v))) = wW pg nw kp sn ks fo ft fe gt mx re (uI m 28 v) hh := sL_set0 (Nat.le_of_ble_eq_true rfl) rfl
theorem mF_29 (m : zs) (hh : Int64) : (mFs m hh)[29]? = some (.int (nI (rN m 29))) := rfl
theorem wm_29 {pg nw kp sn ks fo ft fe gt mx : zs} {re : Nat → Int64} {m : zs} {hh : Int64} (v : Nat) : zup (wW pg nw kp sn ks fo ft fe gt mx re m hh) 49 (zO 7 ((mFs m hh).set 29 (.int (nI v)))) = wW pg nw kp sn ks fo ft fe gt mx re (uN m 29 v) hh := sL_set0 (Nat.le_of_ble_eq_true rfl) rfl
theorem mF_30 (m : zs) (hh : Int64) : (mFs m hh)[30]? = some (.int (rI m 30)) := rfl
theorem wm_30 {pg nw kp sn ks fo ft fe gt mx : zs} {re : Nat → Int64} {m : zs} {hh : Int64} (v : Int32) : zup (wW pg nw kp sn ks fo ft fe gt mx re m hh) 49 (zO 7 ((mFs m hh).set 30 (.int v))) = wW pg nw kp sn ks fo ft fe gt mx re (uI m 30 v) hh := sL_set0 (Nat.le_of_ble_eq_true rfl) rfl
theorem mF_31 (m : zs) (hh : Int64) : (mFs m hh)[31]? = some (.int (rI m 31)) := rfl
theorem wm_31 {pg nw kp sn ks fo ft fe gt mx : zs} {re : Nat → Int64} {m : zs} {hh : Int64} (v : Int32) : zup (wW pg nw kp sn ks fo ft fe gt mx re m hh) 49 (zO 7 ((mFs m hh).set 31 (.int v))) = wW pg nw kp sn ks fo ft fe gt mx re (uI m 31 v) hh := sL_set0 (Nat.le_of_ble_eq_true rfl) rfl
theorem mF_32 (m : zs) (hh : Int64) : (mFs m hh)[32]? = some (.int (nI (rN m 32))) := rfl
theorem wm_32 {pg nw kp sn ks fo ft fe gt mx : zs} {re : Nat → Int64} {m : zs} {hh : Int64} (v : Nat) : zup (wW pg nw kp sn ks fo ft fe gt mx re m hh) 49 (zO 7 ((mFs m hh).set 32 (.int (nI v)))) = wW pg nw kp sn ks fo ft fe gt mx re (uN m 32 v) hh := sL_set0 (Nat.le_of_ble_eq_true rfl) rfl
theorem mF_33 (m : zs) (hh : Int64) : (mFs m hh)[33]? = some (.ref 66) := rfl
theorem wm33 {pg nw kp sn ks fo ft fe gt mx : zs} {re : Nat → Int64} {m : zs} {hh : Int64} : wW pg nw kp sn ks fo ft fe gt mx re m hh 66 = zI 12 (fun j => nI (rA m 33 j)) := sL_get0 rfl
theorem wm_33 {pg nw kp sn ks fo ft fe gt mx : zs} {re : Nat → Int64} {m : zs} {hh : Int64} (f : Nat → Nat) : zup (wW pg nw kp sn ks fo ft fe gt mx re m hh) 66 (zI 12 (fun j => nI (f j))) = wW pg nw kp sn ks fo ft fe gt mx re (uA m 33 f) hh := sL_set0 (Nat.le_of_ble_eq_true rfl) rfl
theorem mF_34 (m : zs) (hh : Int64) : (mFs m hh)[34]? = some (.ref 67) := rfl
theorem wm34 {pg nw kp sn ks fo ft fe gt mx : zs} {re : Nat → Int64} {m : zs} {hh : Int64} : wW pg nw kp sn ks fo ft fe gt mx re m hh 67 = zI 12 (rF m 34) := sL_get0 rfl
theorem wm_34 {pg nw kp sn ks fo ft fe gt mx : zs} {re : Nat → Int64} {m : zs} {hh : Int64} (f : Nat → Int32) : zup (wW pg nw kp sn ks fo ft fe gt mx re m hh) 67 (zI 12 f) = wW pg nw kp sn ks fo ft fe gt mx re (uF m 34 f) hh := sL_set0 (Nat.le_of_ble_eq_true rfl) rfl
theorem mF_35 (m : zs) (hh : Int64) : (mFs m hh)[35]? = some (.ref 68) := rfl
theorem wm35 {pg nw kp sn ks fo ft fe gt mx : zs} {re : Nat → Int64} {m : zs} {hh : Int64} : wW pg nw kp sn ks fo ft fe gt mx re m hh 68 = zI 12 (rF m 35) := sL_get0 rfl
theorem wm_35 {pg nw kp sn ks fo ft fe gt mx : zs} {re : Nat → Int64} {m : zs} {hh : Int64} (f : Nat → Int32) : zup (wW pg nw kp sn ks fo ft fe gt mx re m hh) 68 (zI 12 f) = wW pg nw kp sn ks fo ft fe gt mx re (uF m 35 f) hh := sL_set0 (Nat.le_of_ble_eq_true rfl) rfl
theorem mF_36 (m : zs) (hh : Int64) : (mFs m hh)[36]? = some (.ref 69) := rfl
theorem wm36 {pg nw kp sn ks fo ft fe gt mx : zs} {re : Nat → Int64} {m : zs} {hh : Int64} : wW pg nw kp sn ks fo ft fe gt mx re m hh 69 = zI 12 (rF m 36) := sL_get0 rfl
theorem wm_36 {pg nw kp sn ks fo ft fe gt mx : zs} {re : Nat → Int64} {m : zs} {hh : Int64} (f : Nat → Int32) : zup (wW pg nw kp sn ks fo ft fe gt mx re m hh) 69 (zI 12 f) = wW pg nw kp sn ks fo ft fe gt mx re (uF m 36 f) hh := sL_set0 (Nat.le_of_ble_eq_true rfl) rfl
theorem mF_37 (m : zs) (hh : Int64) : (mFs m hh)[37]? = some (.ref 70) := rfl
theorem wm37 {pg nw kp sn ks fo ft fe gt mx : zs} {re : Nat → Int64} {m : zs} {hh : Int64} : wW pg nw kp sn ks fo ft fe gt mx re m hh 70 = zI 18 (rF m 37) := sL_get0 rfl
theorem wm_37 {pg nw kp sn ks fo ft fe gt mx : zs} {re : Nat → Int64} {m : zs} {hh : Int64} (f : Nat → Int32) : zup (wW pg nw kp sn ks fo ft fe gt mx re m hh) 70 (zI 18 f) = wW pg nw kp sn ks fo ft fe gt mx re (uF m 37 f) hh := sL_set0 (Nat.le_of_ble_eq_true rfl) rfl
theorem mF_38 (m : zs) (hh : Int64) : (mFs m hh)[38]? = some (.long hh) := rfl
theorem wm_38 {pg nw kp sn ks fo ft fe gt mx : zs} {re : Nat → Int64} {m : zs} {hh : Int64} (v : Int64) : zup (wW pg nw kp sn ks fo ft fe gt mx re m hh) 49 (zO 7 ((mFs m hh).set 38 (.long v))) = wW pg nw kp sn ks fo ft fe gt mx re m v := sL_set0 (Nat.le_of_ble_eq_true rfl) rfl
theorem wW_ok {pg nw kp sn ks fo ft fe gt mx : zs} {re : Nat → Int64} {m : zs} {hh : Int64} : (wCs pg nw kp sn ks fo ft fe gt mx re m hh).length = 71 := rfl
