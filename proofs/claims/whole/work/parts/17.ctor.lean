/-! ===== both constructors ===== -/
theorem uw_id {α : Type} {f : Nat → Nat → α} {a : Nat} {g : Nat → α} (h : f a = g) : uw f a g = f := by
  funext b
  unfold uw
  split
  · rename_i e; subst e; exact h.symm
  · rfl
section XNC
variable {S : SPr} {d : Nat} {M : MI} {pc nx x y : Nat} {v : Int32} {w : Int64} {ls ls' st : List Value} {lay lay' : HL} {VI : VIT} {VL : VLT} {VR : VRT} {bc bs bc' bs' : Nat} {P : Post}
theorem x_newC {i N n : Nat} (hc : lkp (mC M) pc = some (.new i, 3, nx, x, y, v, w)) (hN : cnf x = N) (hn : lay.length = n) (hbc : bc = bc' + 1) (hbs : bs = bs' + N) (hl : lay ++ [.inr x] = lay') (z1 : VI n = fun _ => 0) (z2 : VL n = fun _ => 0) (z3 : VR n = fun _ => .null) (k : ExS S d M nx ls (.ref n :: st) lay' VI VL VR bc' bs' P) : ExS S d M pc ls st lay VI VL VR bc bs P :=
  x_new hc hN hn hbc hbs (by rw [uw_id z1, uw_id z2, uw_id z3, hl]; exact k)
theorem x_newiC {N n : Nat} {j : Int32} (hc : lkp (mC M) pc = some (.newarray .int, 2, nx, x, y, v, w)) (hN : j.toNatClampNeg = N) (hj : ¬ j < 0) (hle : N * 8 ≤ 536870912) (hn : lay.length = n) (hbc : bc = bc' + 1) (hbs : bs = bs' + N) (hl : lay ++ [.inl (0, N)] = lay') (z1 : VI n = fun _ => 0) (z2 : VL n = fun _ => 0) (z3 : VR n = fun _ => .null) (k : ExS S d M nx ls (.ref n :: st) lay' VI VL VR bc' bs' P) : ExS S d M pc ls (.int j :: st) lay VI VL VR bc bs P :=
  x_newi hc hN hj hle hn hbc hbs (by rw [uw_id z1, uw_id z2, uw_id z3, hl]; exact k)
theorem x_newbC {N n : Nat} {j : Int32} (hc : lkp (mC M) pc = some (.newarray .byte, 2, nx, x, y, v, w)) (hN : j.toNatClampNeg = N) (hj : ¬ j < 0) (hle : N * 8 ≤ 536870912) (hn : lay.length = n) (hbc : bc = bc' + 1) (hbs : bs = bs' + N) (hl : lay ++ [.inl (1, N)] = lay') (z1 : VI n = fun _ => 0) (z2 : VL n = fun _ => 0) (z3 : VR n = fun _ => .null) (k : ExS S d M nx ls (.ref n :: st) lay' VI VL VR bc' bs' P) : ExS S d M pc ls (.int j :: st) lay VI VL VR bc bs P :=
  x_newb hc hN hj hle hn hbc hbs (by rw [uw_id z1, uw_id z2, uw_id z3, hl]; exact k)
theorem x_newzC {N n : Nat} {j : Int32} (hc : lkp (mC M) pc = some (.newarray .boolean, 2, nx, x, y, v, w)) (hN : j.toNatClampNeg = N) (hj : ¬ j < 0) (hle : N * 8 ≤ 536870912) (hn : lay.length = n) (hbc : bc = bc' + 1) (hbs : bs = bs' + N) (hl : lay ++ [.inl (2, N)] = lay') (z1 : VI n = fun _ => 0) (z2 : VL n = fun _ => 0) (z3 : VR n = fun _ => .null) (k : ExS S d M nx ls (.ref n :: st) lay' VI VL VR bc' bs' P) : ExS S d M pc ls (.int j :: st) lay VI VL VR bc bs P :=
  x_newz hc hN hj hle hn hbc hbs (by rw [uw_id z1, uw_id z2, uw_id z3, hl]; exact k)
theorem x_newlC {N n : Nat} {j : Int32} (hc : lkp (mC M) pc = some (.newarray .long, 2, nx, x, y, v, w)) (hN : j.toNatClampNeg = N) (hj : ¬ j < 0) (hle : N * 8 ≤ 536870912) (hn : lay.length = n) (hbc : bc = bc' + 1) (hbs : bs = bs' + N) (hl : lay ++ [.inl (3, N)] = lay') (z1 : VI n = fun _ => 0) (z2 : VL n = fun _ => 0) (z3 : VR n = fun _ => .null) (k : ExS S d M nx ls (.ref n :: st) lay' VI VL VR bc' bs' P) : ExS S d M pc ls (.int j :: st) lay VI VL VR bc bs P :=
  x_newl hc hN hj hle hn hbc hbs (by rw [uw_id z1, uw_id z2, uw_id z3, hl]; exact k)
theorem x_anew4C {i N n : Nat} {j : Int32} (hc : lkp (mC M) pc = some (.anewarray i, 3, nx, 4, y, v, w)) (hN : j.toNatClampNeg = N) (hj : ¬ j < 0) (hle : N * 8 ≤ 536870912) (hn : lay.length = n) (hbc : bc = bc' + 1) (hbs : bs = bs' + N) (hl : lay ++ [.inl (4, N)] = lay') (z1 : VI n = fun _ => 0) (z2 : VL n = fun _ => 0) (z3 : VR n = fun _ => .null) (k : ExS S d M nx ls (.ref n :: st) lay' VI VL VR bc' bs' P) : ExS S d M pc ls (.int j :: st) lay VI VL VR bc bs P :=
  x_anew4 hc hN hj hle hn hbc hbs (by rw [uw_id z1, uw_id z2, uw_id z3, hl]; exact k)
theorem x_anew5C {i N n : Nat} {j : Int32} (hc : lkp (mC M) pc = some (.anewarray i, 3, nx, 5, y, v, w)) (hN : j.toNatClampNeg = N) (hj : ¬ j < 0) (hle : N * 8 ≤ 536870912) (hn : lay.length = n) (hbc : bc = bc' + 1) (hbs : bs = bs' + N) (hl : lay ++ [.inl (5, N)] = lay') (z1 : VI n = fun _ => 0) (z2 : VL n = fun _ => 0) (z3 : VR n = fun _ => .null) (k : ExS S d M nx ls (.ref n :: st) lay' VI VL VR bc' bs' P) : ExS S d M pc ls (.int j :: st) lay VI VL VR bc bs P :=
  x_anew5 hc hN hj hle hn hbc hbs (by rw [uw_id z1, uw_id z2, uw_id z3, hl]; exact k)
end XNC
def Z0 : VIT := fun _ _ => 0
def ZL : VLT := fun _ _ => 0
def ZR : VRT := fun _ _ => .null
def VIx_0 : VIT := up (up (up (up (up (up (up (up (up (up (up (up (Z0) 12 1 2) 3 15 (-1)) 24 1 2) 15 15 (-1)) 35 1 2) 26 15 (-1)) 37 1 (-1)) 56 1 2) 47 15 (-1)) 59 6 (-1)) 0 14 (-1)) 0 16 (-1)
def VIx : VIT := VIx_0
def VRx_0 : VRT := up (up (up (up (up (up (up (up (up (up (up (up (up (up (up (up (up (up (up (up (ZR) 1 0 (.ref 2)) 3 2 (.ref 4)) 3 3 (.ref 5)) 3 4 (.ref 6)) 3 7 (.ref 7)) 3 8 (.ref 8)) 3 10 (.ref 9)) 3 11 (.ref 10)) 3 12 (.ref 11)) 3 13 (.ref 12)) 3 16 (.ref 13)) 0 0 (.ref 3)) 0 1 (.ref 14)) 15 2 (.ref 16)) 15 3 (.ref 17)) 15 4 (.ref 18)) 15 7 (.ref 19)) 15 8 (.ref 20)) 15 10 (.ref 21)) 15 11 (.ref 22)
def VRx_1 : VRT := up (up (up (up (up (up (up (up (up (up (up (up (up (up (up (up (up (up (up (up (VRx_0) 15 12 (.ref 23)) 15 13 (.ref 24)) 15 16 (.ref 25)) 14 0 (.ref 15)) 26 2 (.ref 27)) 26 3 (.ref 28)) 26 4 (.ref 29)) 26 7 (.ref 30)) 26 8 (.ref 31)) 26 10 (.ref 32)) 26 11 (.ref 33)) 26 12 (.ref 34)) 26 13 (.ref 35)) 26 16 (.ref 36)) 14 1 (.ref 26)) 38 0 (.ref 39)) 38 1 (.ref 40)) 37 0 (.ref 38)) 37 2 (.ref 41)) 37 3 (.ref 42)
def VRx_2 : VRT := up (up (up (up (up (up (up (up (up (up (up (up (up (up (up (up (up (up (up (up (VRx_1) 0 2 (.ref 37)) 43 0 (.ref 3)) 43 1 (.ref 1)) 43 2 (.ref 44)) 0 3 (.ref 43)) 45 0 (.ref 3)) 45 1 (.ref 43)) 45 3 (.ref 46)) 47 2 (.ref 48)) 47 3 (.ref 49)) 47 4 (.ref 50)) 47 7 (.ref 51)) 47 8 (.ref 52)) 47 10 (.ref 53)) 47 11 (.ref 54)) 47 12 (.ref 55)) 47 13 (.ref 56)) 47 16 (.ref 57)) 45 4 (.ref 47)) 45 5 (.ref 58)
def VRx_3 : VRT := up (up (up (up (up (up (up (up (up (up (up (up (up (up (up (up (up (up (up (up (VRx_2) 0 4 (.ref 45)) 59 0 (.ref 3)) 59 1 (.ref 45)) 59 2 (.ref 1)) 59 3 (.ref 60)) 0 5 (.ref 59)) 61 0 (.ref 3)) 61 1 (.ref 43)) 61 2 (.ref 62)) 0 6 (.ref 61)) 63 0 (.ref 3)) 63 1 (.ref 61)) 63 2 (.ref 64)) 63 3 (.ref 65)) 63 4 (.ref 66)) 0 7 (.ref 63)) 67 0 (.ref 3)) 67 1 (.ref 61)) 67 2 (.ref 68)) 67 3 (.ref 69)
def VRx_4 : VRT := up (up (up (up (up (up (up (VRx_3) 0 8 (.ref 67)) 70 0 (.ref 3)) 70 1 (.ref 43)) 70 2 (.ref 71)) 0 9 (.ref 70)) 0 10 (.ref 72)) 0 11 (.ref 73)
def VRx : VRT := VRx_4
def VIm_0 : VIT := up (up (up (up (up (up (up (up (up (up (up (up (up (up (up (up (up (up (up (up (VIx) 80 0 ((116 : Int32).toInt8.toInt32)) 80 1 ((97 : Int32).toInt8.toInt32)) 80 2 ((107 : Int32).toInt8.toInt32)) 80 3 ((101 : Int32).toInt8.toInt32)) 80 4 ((115 : Int32).toInt8.toInt32)) 80 5 ((32 : Int32).toInt8.toInt32)) 80 6 ((115 : Int32).toInt8.toInt32)) 80 7 ((119 : Int32).toInt8.toInt32)) 80 8 ((97 : Int32).toInt8.toInt32)) 80 9 ((121 : Int32).toInt8.toInt32)) 80 10 ((115 : Int32).toInt8.toInt32)) 80 11 ((32 : Int32).toInt8.toInt32)) 80 12 ((98 : Int32).toInt8.toInt32)) 80 13 ((97 : Int32).toInt8.toInt32)) 80 14 ((114 : Int32).toInt8.toInt32)) 80 15 ((115 : Int32).toInt8.toInt32)) 80 16 ((32 : Int32).toInt8.toInt32)) 80 17 ((105 : Int32).toInt8.toInt32)) 80 18 ((102 : Int32).toInt8.toInt32)) 80 19 ((32 : Int32).toInt8.toInt32)
def VIm_1 : VIT := up (up (up (up (up (up (up (up (up (up (up (up (up (up (up (up (up (up (up (up (VIm_0) 80 20 ((111 : Int32).toInt8.toInt32)) 80 21 ((114 : Int32).toInt8.toInt32)) 80 22 ((32 : Int32).toInt8.toInt32)) 80 23 ((97 : Int32).toInt8.toInt32)) 80 24 ((110 : Int32).toInt8.toInt32)) 80 25 ((100 : Int32).toInt8.toInt32)) 80 26 ((32 : Int32).toInt8.toInt32)) 80 27 ((110 : Int32).toInt8.toInt32)) 80 28 ((111 : Int32).toInt8.toInt32)) 80 29 ((116 : Int32).toInt8.toInt32)) 80 30 ((32 : Int32).toInt8.toInt32)) 80 31 ((112 : Int32).toInt8.toInt32)) 80 32 ((101 : Int32).toInt8.toInt32)) 80 33 ((114 : Int32).toInt8.toInt32)) 80 34 ((115 : Int32).toInt8.toInt32)) 80 35 ((111 : Int32).toInt8.toInt32)) 80 36 ((110 : Int32).toInt8.toInt32)) 80 37 ((32 : Int32).toInt8.toInt32)) 80 38 ((111 : Int32).toInt8.toInt32)) 80 39 ((116 : Int32).toInt8.toInt32)
def VIm_2 : VIT := up (up (up (up (up (up (up (up (up (up (up (up (up (up (up (up (up (up (up (up (VIm_1) 80 40 ((104 : Int32).toInt8.toInt32)) 80 41 ((101 : Int32).toInt8.toInt32)) 80 42 ((114 : Int32).toInt8.toInt32)) 80 43 ((32 : Int32).toInt8.toInt32)) 80 44 ((105 : Int32).toInt8.toInt32)) 80 45 ((116 : Int32).toInt8.toInt32)) 80 46 ((115 : Int32).toInt8.toInt32)) 80 47 ((32 : Int32).toInt8.toInt32)) 80 48 ((102 : Int32).toInt8.toInt32)) 80 49 ((105 : Int32).toInt8.toInt32)) 80 50 ((114 : Int32).toInt8.toInt32)) 80 51 ((109 : Int32).toInt8.toInt32)) 80 52 ((32 : Int32).toInt8.toInt32)) 80 53 ((97 : Int32).toInt8.toInt32)) 80 54 ((103 : Int32).toInt8.toInt32)) 80 55 ((101 : Int32).toInt8.toInt32)) 80 56 ((32 : Int32).toInt8.toInt32)) 80 57 ((100 : Int32).toInt8.toInt32)) 80 58 ((97 : Int32).toInt8.toInt32)) 80 59 ((121 : Int32).toInt8.toInt32)
def VIm_3 : VIT := up (up (up (up (up (up (up (up (up (up (up (up (up (up (up (up (up (up (up (up (VIm_2) 80 60 ((32 : Int32).toInt8.toInt32)) 80 61 ((109 : Int32).toInt8.toInt32)) 80 62 ((111 : Int32).toInt8.toInt32)) 80 63 ((111 : Int32).toInt8.toInt32)) 80 64 ((100 : Int32).toInt8.toInt32)) 80 65 ((32 : Int32).toInt8.toInt32)) 80 66 ((109 : Int32).toInt8.toInt32)) 80 67 ((97 : Int32).toInt8.toInt32)) 80 68 ((114 : Int32).toInt8.toInt32)) 80 69 ((107 : Int32).toInt8.toInt32)) 80 70 ((32 : Int32).toInt8.toInt32)) 80 71 ((119 : Int32).toInt8.toInt32)) 80 72 ((101 : Int32).toInt8.toInt32)) 80 73 ((101 : Int32).toInt8.toInt32)) 80 74 ((107 : Int32).toInt8.toInt32)) 80 75 ((32 : Int32).toInt8.toInt32)) 80 76 ((100 : Int32).toInt8.toInt32)) 80 77 ((111 : Int32).toInt8.toInt32)) 80 78 ((110 : Int32).toInt8.toInt32)) 80 79 ((101 : Int32).toInt8.toInt32)
def VIm_4 : VIT := up (up (up (up (up (up (up (up (up (up (up (up (up (up (up (up (up (up (up (up (VIm_3) 80 80 ((32 : Int32).toInt8.toInt32)) 80 81 ((108 : Int32).toInt8.toInt32)) 80 82 ((97 : Int32).toInt8.toInt32)) 80 83 ((116 : Int32).toInt8.toInt32)) 80 84 ((101 : Int32).toInt8.toInt32)) 80 85 ((115 : Int32).toInt8.toInt32)) 80 86 ((116 : Int32).toInt8.toInt32)) 80 87 ((32 : Int32).toInt8.toInt32)) 80 88 ((108 : Int32).toInt8.toInt32)) 80 89 ((105 : Int32).toInt8.toInt32)) 80 90 ((118 : Int32).toInt8.toInt32)) 80 91 ((105 : Int32).toInt8.toInt32)) 80 92 ((110 : Int32).toInt8.toInt32)) 80 93 ((103 : Int32).toInt8.toInt32)) 80 94 ((32 : Int32).toInt8.toInt32)) 80 95 ((97 : Int32).toInt8.toInt32)) 80 96 ((103 : Int32).toInt8.toInt32)) 80 97 ((114 : Int32).toInt8.toInt32)) 80 98 ((101 : Int32).toInt8.toInt32)) 80 99 ((101 : Int32).toInt8.toInt32)
def VIm_5 : VIT := up (up (up (up (up (up (up (up (up (up (up (up (up (up (up (up (up (up (up (up (VIm_4) 80 100 ((115 : Int32).toInt8.toInt32)) 80 101 ((32 : Int32).toInt8.toInt32)) 80 102 ((116 : Int32).toInt8.toInt32)) 80 103 ((97 : Int32).toInt8.toInt32)) 80 104 ((108 : Int32).toInt8.toInt32)) 80 105 ((107 : Int32).toInt8.toInt32)) 80 106 ((32 : Int32).toInt8.toInt32)) 80 107 ((119 : Int32).toInt8.toInt32)) 80 108 ((105 : Int32).toInt8.toInt32)) 80 109 ((116 : Int32).toInt8.toInt32)) 80 110 ((104 : Int32).toInt8.toInt32)) 80 111 ((32 : Int32).toInt8.toInt32)) 80 112 ((111 : Int32).toInt8.toInt32)) 80 113 ((102 : Int32).toInt8.toInt32)) 80 114 ((32 : Int32).toInt8.toInt32)) 80 115 ((100 : Int32).toInt8.toInt32)) 80 116 ((101 : Int32).toInt8.toInt32)) 80 117 ((118 : Int32).toInt8.toInt32)) 80 118 ((101 : Int32).toInt8.toInt32)) 80 119 ((108 : Int32).toInt8.toInt32)
def VIm_6 : VIT := up (up (up (up (up (up (up (up (up (up (up (up (up (up (up (up (up (up (up (up (VIm_5) 80 120 ((111 : Int32).toInt8.toInt32)) 80 121 ((112 : Int32).toInt8.toInt32)) 80 122 ((32 : Int32).toInt8.toInt32)) 80 123 ((98 : Int32).toInt8.toInt32)) 80 124 ((117 : Int32).toInt8.toInt32)) 80 125 ((114 : Int32).toInt8.toInt32)) 80 126 ((121 : Int32).toInt8.toInt32)) 80 127 ((32 : Int32).toInt8.toInt32)) 80 128 ((112 : Int32).toInt8.toInt32)) 80 129 ((97 : Int32).toInt8.toInt32)) 80 130 ((115 : Int32).toInt8.toInt32)) 80 131 ((115 : Int32).toInt8.toInt32)) 80 132 ((32 : Int32).toInt8.toInt32)) 80 133 ((116 : Int32).toInt8.toInt32)) 80 134 ((105 : Int32).toInt8.toInt32)) 80 135 ((109 : Int32).toInt8.toInt32)) 80 136 ((101 : Int32).toInt8.toInt32)) 80 137 ((115 : Int32).toInt8.toInt32)) 80 138 ((32 : Int32).toInt8.toInt32)) 74 14 (-1)
def VIm_7 : VIT := up (up (up (up (VIm_6) 74 42 (-1)) 74 50 (-1)) 76 91 2) 76 97 (-1)
def VIm : VIT := VIm_7
def VRm_0 : VRT := up (up (up (up (up (up (up (up (up (up (up (up (up (up (up (up (up (up (up (up (VRx) 74 1 (.ref 75)) 74 2 (.ref 76)) 74 3 (.ref 77)) 74 4 (.ref 78)) 74 5 (.ref 79)) 74 7 (.ref 80)) 74 11 (.ref 81)) 74 12 (.ref 82)) 74 15 (.ref 83)) 74 16 (.ref 84)) 74 17 (.ref 85)) 74 26 (.ref 86)) 74 29 (.ref 87)) 74 30 (.ref 88)) 74 31 (.ref 89)) 74 33 (.ref 90)) 74 34 (.ref 91)) 74 35 (.ref 92)) 74 36 (.ref 93)) 74 38 (.ref 94)
def VRm_1 : VRT := up (up (up (up (up (VRm_0) 74 39 (.ref 95)) 74 40 (.ref 96)) 74 41 (.ref 97)) 74 48 (.ref 98)) 74 49 (.ref 99)
def VRm : VRT := VRm_1
set_option maxRecDepth 20000 in
set_option maxHeartbeats 8000000 in
theorem s_ctorX {d : Nat} {P : Post} (hP : P none (LY.take 74) VIx ZL VRx) : Ex (d + 2) mi108 0 (entL [.ref 0] 3) [] (LY.take 1) Z0 ZL ZR 73 19772 P := by
  refine x_aload_n rfl rfl ?_
  refine x_objInit rfl rfl ?_
  refine x_newC (n := 1) (lay' := LY.take 2) rfl rfl rfl rfl rfl rfl rfl rfl rfl ?_
  refine x_dup rfl rfl ?_
  refine x_callI (M' := mi76) (As := []) (bc1 := 1) (bs1 := 64) (bc2 := 71) (bs2 := 19707) rfl rfl rfl rfl ok76 rfl rfl rfl rfl rfl rfl rfl rfl ?_
  refine x_aload_n rfl rfl ?_
  refine x_objInit rfl rfl ?_
  refine x_aload_n rfl rfl ?_
  refine x_bipush rfl ?_
  refine x_newiC (N := 64) (n := 2) (lay' := LY.take 3) rfl rfl (by decide) (by decide) rfl rfl rfl rfl rfl rfl rfl ?_
  refine x_putR rfl rfl (Or.inr ⟨rfl, rfl, rfl⟩) rfl ?_
  refine x_vret rfl rfl ?_
  refine x_astore_n (ls' := [_, _, _]) rfl rfl rfl ?_
  refine x_aload_n rfl rfl ?_
  refine x_newC (n := 3) (lay' := LY.take 4) rfl rfl rfl rfl rfl rfl rfl rfl rfl ?_
  refine x_dup rfl rfl ?_
  refine x_callI (M' := mi88) (As := []) (bc1 := 10) (bs1 := 85) (bc2 := 60) (bs2 := 19605) rfl rfl rfl rfl ok88 rfl rfl rfl rfl rfl rfl rfl rfl ?_
  refine x_aload_n rfl rfl ?_
  refine x_objInit rfl rfl ?_
  refine x_aload_n rfl rfl ?_
  refine x_bipush rfl ?_
  refine x_newiC (N := 6) (n := 4) (lay' := LY.take 5) rfl rfl (by decide) (by decide) rfl rfl rfl rfl rfl rfl rfl ?_
  refine x_putR rfl rfl (Or.inr ⟨rfl, rfl, rfl⟩) rfl ?_
  refine x_aload_n rfl rfl ?_
  refine x_bipush rfl ?_
  refine x_newiC (N := 6) (n := 5) (lay' := LY.take 6) rfl rfl (by decide) (by decide) rfl rfl rfl rfl rfl rfl rfl ?_
  refine x_putR rfl rfl (Or.inr ⟨rfl, rfl, rfl⟩) rfl ?_
  refine x_aload_n rfl rfl ?_
  refine x_bipush rfl ?_
  refine x_newiC (N := 24) (n := 6) (lay' := LY.take 7) rfl rfl (by decide) (by decide) rfl rfl rfl rfl rfl rfl rfl ?_
  refine x_putR rfl rfl (Or.inr ⟨rfl, rfl, rfl⟩) rfl ?_
  refine x_aload_n rfl rfl ?_
  refine x_bipush rfl ?_
  refine x_newiC (N := 8) (n := 7) (lay' := LY.take 8) rfl rfl (by decide) (by decide) rfl rfl rfl rfl rfl rfl rfl ?_
  refine x_putR rfl rfl (Or.inr ⟨rfl, rfl, rfl⟩) rfl ?_
  refine x_aload_n rfl rfl ?_
  refine x_bipush rfl ?_
  refine x_newiC (N := 8) (n := 8) (lay' := LY.take 9) rfl rfl (by decide) (by decide) rfl rfl rfl rfl rfl rfl rfl ?_
  refine x_putR rfl rfl (Or.inr ⟨rfl, rfl, rfl⟩) rfl ?_
  refine x_aload_n rfl rfl ?_
  refine x_bipush rfl ?_
  refine x_newiC (N := 8) (n := 9) (lay' := LY.take 10) rfl rfl (by decide) (by decide) rfl rfl rfl rfl rfl rfl rfl ?_
  refine x_putR rfl rfl (Or.inr ⟨rfl, rfl, rfl⟩) rfl ?_
  refine x_aload_n rfl rfl ?_
  refine x_bipush rfl ?_
  refine x_newiC (N := 8) (n := 10) (lay' := LY.take 11) rfl rfl (by decide) (by decide) rfl rfl rfl rfl rfl rfl rfl ?_
  refine x_putR rfl rfl (Or.inr ⟨rfl, rfl, rfl⟩) rfl ?_
  refine x_aload_n rfl rfl ?_
  refine x_bipush rfl ?_
  refine x_newiC (N := 8) (n := 11) (lay' := LY.take 12) rfl rfl (by decide) (by decide) rfl rfl rfl rfl rfl rfl rfl ?_
  refine x_putR rfl rfl (Or.inr ⟨rfl, rfl, rfl⟩) rfl ?_
  refine x_aload_n rfl rfl ?_
  refine x_iconst rfl ?_
  refine x_newiC (N := 3) (n := 12) (lay' := LY.take 13) rfl rfl (by decide) (by decide) rfl rfl rfl rfl rfl rfl rfl ?_
  refine x_putR rfl rfl (Or.inr ⟨rfl, rfl, rfl⟩) rfl ?_
  refine x_aload_n rfl rfl ?_
  refine x_getR (u := .ref _) rfl rfl rfl rfl ?_
  refine x_iconst rfl ?_
  refine x_iconst rfl ?_
  refine x_iasN (j := 1) rfl rfl rfl (by decide) ?_
  refine x_aload_n rfl rfl ?_
  refine x_bipush rfl ?_
  refine x_anew5C (N := 6) (n := 13) (lay' := LY.take 14) rfl rfl (by decide) (by decide) rfl rfl rfl rfl rfl rfl rfl ?_
  refine x_putR rfl rfl (Or.inr ⟨rfl, rfl, rfl⟩) rfl ?_
  refine x_aload_n rfl rfl ?_
  refine x_iconst rfl ?_
  refine x_putI rfl rfl rfl rfl ?_
  refine x_vret rfl rfl ?_
  refine x_putR rfl rfl (Or.inr ⟨rfl, rfl, rfl⟩) rfl ?_
  refine x_aload_n rfl rfl ?_
  refine x_iconst rfl ?_
  refine x_anew4C (N := 2) (n := 14) (lay' := LY.take 15) rfl rfl (by decide) (by decide) rfl rfl rfl rfl rfl rfl rfl ?_
  refine x_putR rfl rfl (Or.inr ⟨rfl, rfl, rfl⟩) rfl ?_
  refine x_iconst rfl ?_
  refine x_istore_n (ls' := [_, _, _]) rfl rfl rfl ?_
  refine x_iload_n rfl rfl ?_
  refine x_iconst rfl ?_
  refine x_icmp_ge rfl (fun c => ?_) (fun c => ?_)
  · exact absurd c (by decide)
  refine x_aload_n rfl rfl ?_
  refine x_getR (u := .ref _) rfl rfl rfl rfl ?_
  refine x_iload_n rfl rfl ?_
  refine x_newC (n := 15) (lay' := LY.take 16) rfl rfl rfl rfl rfl rfl rfl rfl rfl ?_
  refine x_dup rfl rfl ?_
  refine x_callI (M' := mi88) (As := []) (bc1 := 10) (bs1 := 85) (bc2 := 48) (bs2 := 19501) rfl rfl rfl rfl ok88 rfl rfl rfl rfl rfl rfl rfl rfl ?_
  refine x_aload_n rfl rfl ?_
  refine x_objInit rfl rfl ?_
  refine x_aload_n rfl rfl ?_
  refine x_bipush rfl ?_
  refine x_newiC (N := 6) (n := 16) (lay' := LY.take 17) rfl rfl (by decide) (by decide) rfl rfl rfl rfl rfl rfl rfl ?_
  refine x_putR rfl rfl (Or.inr ⟨rfl, rfl, rfl⟩) rfl ?_
  refine x_aload_n rfl rfl ?_
  refine x_bipush rfl ?_
  refine x_newiC (N := 6) (n := 17) (lay' := LY.take 18) rfl rfl (by decide) (by decide) rfl rfl rfl rfl rfl rfl rfl ?_
  refine x_putR rfl rfl (Or.inr ⟨rfl, rfl, rfl⟩) rfl ?_
  refine x_aload_n rfl rfl ?_
  refine x_bipush rfl ?_
  refine x_newiC (N := 24) (n := 18) (lay' := LY.take 19) rfl rfl (by decide) (by decide) rfl rfl rfl rfl rfl rfl rfl ?_
  refine x_putR rfl rfl (Or.inr ⟨rfl, rfl, rfl⟩) rfl ?_
  refine x_aload_n rfl rfl ?_
  refine x_bipush rfl ?_
  refine x_newiC (N := 8) (n := 19) (lay' := LY.take 20) rfl rfl (by decide) (by decide) rfl rfl rfl rfl rfl rfl rfl ?_
  refine x_putR rfl rfl (Or.inr ⟨rfl, rfl, rfl⟩) rfl ?_
  refine x_aload_n rfl rfl ?_
  refine x_bipush rfl ?_
  refine x_newiC (N := 8) (n := 20) (lay' := LY.take 21) rfl rfl (by decide) (by decide) rfl rfl rfl rfl rfl rfl rfl ?_
  refine x_putR rfl rfl (Or.inr ⟨rfl, rfl, rfl⟩) rfl ?_
  refine x_aload_n rfl rfl ?_
  refine x_bipush rfl ?_
  refine x_newiC (N := 8) (n := 21) (lay' := LY.take 22) rfl rfl (by decide) (by decide) rfl rfl rfl rfl rfl rfl rfl ?_
  refine x_putR rfl rfl (Or.inr ⟨rfl, rfl, rfl⟩) rfl ?_
  refine x_aload_n rfl rfl ?_
  refine x_bipush rfl ?_
  refine x_newiC (N := 8) (n := 22) (lay' := LY.take 23) rfl rfl (by decide) (by decide) rfl rfl rfl rfl rfl rfl rfl ?_
  refine x_putR rfl rfl (Or.inr ⟨rfl, rfl, rfl⟩) rfl ?_
  refine x_aload_n rfl rfl ?_
  refine x_bipush rfl ?_
  refine x_newiC (N := 8) (n := 23) (lay' := LY.take 24) rfl rfl (by decide) (by decide) rfl rfl rfl rfl rfl rfl rfl ?_
  refine x_putR rfl rfl (Or.inr ⟨rfl, rfl, rfl⟩) rfl ?_
  refine x_aload_n rfl rfl ?_
  refine x_iconst rfl ?_
  refine x_newiC (N := 3) (n := 24) (lay' := LY.take 25) rfl rfl (by decide) (by decide) rfl rfl rfl rfl rfl rfl rfl ?_
  refine x_putR rfl rfl (Or.inr ⟨rfl, rfl, rfl⟩) rfl ?_
  refine x_aload_n rfl rfl ?_
  refine x_getR (u := .ref _) rfl rfl rfl rfl ?_
  refine x_iconst rfl ?_
  refine x_iconst rfl ?_
  refine x_iasN (j := 1) rfl rfl rfl (by decide) ?_
  refine x_aload_n rfl rfl ?_
  refine x_bipush rfl ?_
  refine x_anew5C (N := 6) (n := 25) (lay' := LY.take 26) rfl rfl (by decide) (by decide) rfl rfl rfl rfl rfl rfl rfl ?_
  refine x_putR rfl rfl (Or.inr ⟨rfl, rfl, rfl⟩) rfl ?_
  refine x_aload_n rfl rfl ?_
  refine x_iconst rfl ?_
  refine x_putI rfl rfl rfl rfl ?_
  refine x_vret rfl rfl ?_
  refine x_aastore4 rfl rfl rfl (vp_in_nI (n := 0) (by decide) (by decide)) ?_
  refine x_iinc (ls' := [_, _, _]) rfl rfl rfl rfl ?_
  refine x_goto rfl ?_
  refine x_iload_n rfl rfl ?_
  refine x_iconst rfl ?_
  refine x_icmp_ge rfl (fun c => ?_) (fun c => ?_)
  · exact absurd c (by decide)
  refine x_aload_n rfl rfl ?_
  refine x_getR (u := .ref _) rfl rfl rfl rfl ?_
  refine x_iload_n rfl rfl ?_
  refine x_newC (n := 26) (lay' := LY.take 27) rfl rfl rfl rfl rfl rfl rfl rfl rfl ?_
  refine x_dup rfl rfl ?_
  refine x_callI (M' := mi88) (As := []) (bc1 := 10) (bs1 := 85) (bc2 := 37) (bs2 := 19399) rfl rfl rfl rfl ok88 rfl rfl rfl rfl rfl rfl rfl rfl ?_
  refine x_aload_n rfl rfl ?_
  refine x_objInit rfl rfl ?_
  refine x_aload_n rfl rfl ?_
  refine x_bipush rfl ?_
  refine x_newiC (N := 6) (n := 27) (lay' := LY.take 28) rfl rfl (by decide) (by decide) rfl rfl rfl rfl rfl rfl rfl ?_
  refine x_putR rfl rfl (Or.inr ⟨rfl, rfl, rfl⟩) rfl ?_
  refine x_aload_n rfl rfl ?_
  refine x_bipush rfl ?_
  refine x_newiC (N := 6) (n := 28) (lay' := LY.take 29) rfl rfl (by decide) (by decide) rfl rfl rfl rfl rfl rfl rfl ?_
  refine x_putR rfl rfl (Or.inr ⟨rfl, rfl, rfl⟩) rfl ?_
  refine x_aload_n rfl rfl ?_
  refine x_bipush rfl ?_
  refine x_newiC (N := 24) (n := 29) (lay' := LY.take 30) rfl rfl (by decide) (by decide) rfl rfl rfl rfl rfl rfl rfl ?_
  refine x_putR rfl rfl (Or.inr ⟨rfl, rfl, rfl⟩) rfl ?_
  refine x_aload_n rfl rfl ?_
  refine x_bipush rfl ?_
  refine x_newiC (N := 8) (n := 30) (lay' := LY.take 31) rfl rfl (by decide) (by decide) rfl rfl rfl rfl rfl rfl rfl ?_
  refine x_putR rfl rfl (Or.inr ⟨rfl, rfl, rfl⟩) rfl ?_
  refine x_aload_n rfl rfl ?_
  refine x_bipush rfl ?_
  refine x_newiC (N := 8) (n := 31) (lay' := LY.take 32) rfl rfl (by decide) (by decide) rfl rfl rfl rfl rfl rfl rfl ?_
  refine x_putR rfl rfl (Or.inr ⟨rfl, rfl, rfl⟩) rfl ?_
  refine x_aload_n rfl rfl ?_
  refine x_bipush rfl ?_
  refine x_newiC (N := 8) (n := 32) (lay' := LY.take 33) rfl rfl (by decide) (by decide) rfl rfl rfl rfl rfl rfl rfl ?_
  refine x_putR rfl rfl (Or.inr ⟨rfl, rfl, rfl⟩) rfl ?_
  refine x_aload_n rfl rfl ?_
  refine x_bipush rfl ?_
  refine x_newiC (N := 8) (n := 33) (lay' := LY.take 34) rfl rfl (by decide) (by decide) rfl rfl rfl rfl rfl rfl rfl ?_
  refine x_putR rfl rfl (Or.inr ⟨rfl, rfl, rfl⟩) rfl ?_
  refine x_aload_n rfl rfl ?_
  refine x_bipush rfl ?_
  refine x_newiC (N := 8) (n := 34) (lay' := LY.take 35) rfl rfl (by decide) (by decide) rfl rfl rfl rfl rfl rfl rfl ?_
  refine x_putR rfl rfl (Or.inr ⟨rfl, rfl, rfl⟩) rfl ?_
  refine x_aload_n rfl rfl ?_
  refine x_iconst rfl ?_
  refine x_newiC (N := 3) (n := 35) (lay' := LY.take 36) rfl rfl (by decide) (by decide) rfl rfl rfl rfl rfl rfl rfl ?_
  refine x_putR rfl rfl (Or.inr ⟨rfl, rfl, rfl⟩) rfl ?_
  refine x_aload_n rfl rfl ?_
  refine x_getR (u := .ref _) rfl rfl rfl rfl ?_
  refine x_iconst rfl ?_
  refine x_iconst rfl ?_
  refine x_iasN (j := 1) rfl rfl rfl (by decide) ?_
  refine x_aload_n rfl rfl ?_
  refine x_bipush rfl ?_
  refine x_anew5C (N := 6) (n := 36) (lay' := LY.take 37) rfl rfl (by decide) (by decide) rfl rfl rfl rfl rfl rfl rfl ?_
  refine x_putR rfl rfl (Or.inr ⟨rfl, rfl, rfl⟩) rfl ?_
  refine x_aload_n rfl rfl ?_
  refine x_iconst rfl ?_
  refine x_putI rfl rfl rfl rfl ?_
  refine x_vret rfl rfl ?_
  refine x_aastore4 rfl rfl rfl (vp_in_nI (n := 1) (by decide) (by decide)) ?_
  refine x_iinc (ls' := [_, _, _]) rfl rfl rfl rfl ?_
  refine x_goto rfl ?_
  refine x_iload_n rfl rfl ?_
  refine x_iconst rfl ?_
  refine x_icmp_ge rfl (fun c => ?_) (fun c => ?_)
  rotate_left
  · exact absurd (by decide) c
  refine x_aload_n rfl rfl ?_
  refine x_newC (n := 37) (lay' := LY.take 38) rfl rfl rfl rfl rfl rfl rfl rfl rfl ?_
  refine x_dup rfl rfl ?_
  refine x_callI (M' := mi39) (As := []) (bc1 := 5) (bs1 := 1774) (bc2 := 31) (bs2 := 17617) rfl rfl rfl rfl ok39 rfl rfl rfl rfl rfl rfl rfl rfl ?_
  refine x_aload_n rfl rfl ?_
  refine x_objInit rfl rfl ?_
  refine x_aload_n rfl rfl ?_
  refine x_newC (n := 38) (lay' := LY.take 39) rfl rfl rfl rfl rfl rfl rfl rfl rfl ?_
  refine x_dup rfl rfl ?_
  refine x_sipush rfl ?_
  refine x_callI (M' := mi80) (As := [_]) (bc1 := 2) (bs1 := 968) (bc2 := 2) (bs2 := 802) rfl rfl rfl rfl ok80 rfl rfl rfl rfl rfl rfl rfl rfl ?_
  refine x_aload_n rfl rfl ?_
  refine x_objInit rfl rfl ?_
  refine x_aload_n rfl rfl ?_
  refine x_bipush rfl ?_
  refine x_newiC (N := 72) (n := 39) (lay' := LY.take 40) rfl rfl (by decide) (by decide) rfl rfl rfl rfl rfl rfl rfl ?_
  refine x_putR rfl rfl (Or.inr ⟨rfl, rfl, rfl⟩) rfl ?_
  refine x_aload_n rfl rfl ?_
  refine x_iload_n rfl rfl ?_
  refine x_iconst rfl ?_
  refine x_max rfl rfl ?_
  refine x_newiC (N := 896) (n := 40) (lay' := LY.take 41) rfl rfl (by decide) (by decide) rfl rfl rfl rfl rfl rfl rfl ?_
  refine x_putR rfl rfl (Or.inr ⟨rfl, rfl, rfl⟩) rfl ?_
  refine x_vret rfl rfl ?_
  refine x_putR rfl rfl (Or.inr ⟨rfl, rfl, rfl⟩) rfl ?_
  refine x_aload_n rfl rfl ?_
  refine x_sipush rfl ?_
  refine x_newiC (N := 401) (n := 41) (lay' := LY.take 42) rfl rfl (by decide) (by decide) rfl rfl rfl rfl rfl rfl rfl ?_
  refine x_putR rfl rfl (Or.inr ⟨rfl, rfl, rfl⟩) rfl ?_
  refine x_aload_n rfl rfl ?_
  refine x_sipush rfl ?_
  refine x_newiC (N := 401) (n := 42) (lay' := LY.take 43) rfl rfl (by decide) (by decide) rfl rfl rfl rfl rfl rfl rfl ?_
  refine x_putR rfl rfl (Or.inr ⟨rfl, rfl, rfl⟩) rfl ?_
  refine x_aload_n rfl rfl ?_
  refine x_iconst rfl ?_
  refine x_putI rfl rfl rfl rfl ?_
  refine x_vret rfl rfl ?_
  refine x_putR rfl rfl (Or.inr ⟨rfl, rfl, rfl⟩) rfl ?_
  refine x_aload_n rfl rfl ?_
  refine x_newC (n := 43) (lay' := LY.take 44) rfl rfl rfl rfl rfl rfl rfl rfl rfl ?_
  refine x_dup rfl rfl ?_
  refine x_aload_n rfl rfl ?_
  refine x_getR (u := .ref _) rfl rfl rfl rfl ?_
  refine x_aload_n rfl rfl ?_
  refine x_callI (M' := mi11) (As := [_, _]) (bc1 := 1) (bs1 := 9) (bc2 := 29) (bs2 := 17602) rfl rfl rfl rfl ok11 rfl rfl rfl rfl rfl rfl rfl rfl ?_
  refine x_aload_n rfl rfl ?_
  refine x_objInit rfl rfl ?_
  refine x_aload_n rfl rfl ?_
  refine x_aload_n rfl rfl ?_
  refine x_putR rfl rfl (Or.inr ⟨rfl, rfl, rfl⟩) rfl ?_
  refine x_aload_n rfl rfl ?_
  refine x_aload_n rfl rfl ?_
  refine x_putR rfl rfl (Or.inr ⟨rfl, rfl, rfl⟩) rfl ?_
  refine x_aload_n rfl rfl ?_
  refine x_bipush rfl ?_
  refine x_newiC (N := 9) (n := 44) (lay' := LY.take 45) rfl rfl (by decide) (by decide) rfl rfl rfl rfl rfl rfl rfl ?_
  refine x_putR rfl rfl (Or.inr ⟨rfl, rfl, rfl⟩) rfl ?_
  refine x_vret rfl rfl ?_
  refine x_putR rfl rfl (Or.inr ⟨rfl, rfl, rfl⟩) rfl ?_
  refine x_aload_n rfl rfl ?_
  refine x_newC (n := 45) (lay' := LY.take 46) rfl rfl rfl rfl rfl rfl rfl rfl rfl ?_
  refine x_dup rfl rfl ?_
  refine x_aload_n rfl rfl ?_
  refine x_getR (u := .ref _) rfl rfl rfl rfl ?_
  refine x_aload_n rfl rfl ?_
  refine x_getR (u := .ref _) rfl rfl rfl rfl ?_
  refine x_callI (M' := mi0) (As := [_, _]) (bc1 := 13) (bs1 := 134) (bc2 := 15) (bs2 := 17461) rfl rfl rfl rfl ok0 rfl rfl rfl rfl rfl rfl rfl rfl ?_
  refine x_aload_n rfl rfl ?_
  refine x_objInit rfl rfl ?_
  refine x_aload_n rfl rfl ?_
  refine x_aload_n rfl rfl ?_
  refine x_putR rfl rfl (Or.inr ⟨rfl, rfl, rfl⟩) rfl ?_
  refine x_aload_n rfl rfl ?_
  refine x_aload_n rfl rfl ?_
  refine x_putR rfl rfl (Or.inr ⟨rfl, rfl, rfl⟩) rfl ?_
  refine x_aload_n rfl rfl ?_
  refine x_bipush rfl ?_
  refine x_newiC (N := 16) (n := 46) (lay' := LY.take 47) rfl rfl (by decide) (by decide) rfl rfl rfl rfl rfl rfl rfl ?_
  refine x_putR rfl rfl (Or.inr ⟨rfl, rfl, rfl⟩) rfl ?_
  refine x_aload_n rfl rfl ?_
  refine x_newC (n := 47) (lay' := LY.take 48) rfl rfl rfl rfl rfl rfl rfl rfl rfl ?_
  refine x_dup rfl rfl ?_
  refine x_callI (M' := mi88) (As := []) (bc1 := 10) (bs1 := 85) (bc2 := 1) (bs2 := 16) rfl rfl rfl rfl ok88 rfl rfl rfl rfl rfl rfl rfl rfl ?_
  refine x_aload_n rfl rfl ?_
  refine x_objInit rfl rfl ?_
  refine x_aload_n rfl rfl ?_
  refine x_bipush rfl ?_
  refine x_newiC (N := 6) (n := 48) (lay' := LY.take 49) rfl rfl (by decide) (by decide) rfl rfl rfl rfl rfl rfl rfl ?_
  refine x_putR rfl rfl (Or.inr ⟨rfl, rfl, rfl⟩) rfl ?_
  refine x_aload_n rfl rfl ?_
  refine x_bipush rfl ?_
  refine x_newiC (N := 6) (n := 49) (lay' := LY.take 50) rfl rfl (by decide) (by decide) rfl rfl rfl rfl rfl rfl rfl ?_
  refine x_putR rfl rfl (Or.inr ⟨rfl, rfl, rfl⟩) rfl ?_
  refine x_aload_n rfl rfl ?_
  refine x_bipush rfl ?_
  refine x_newiC (N := 24) (n := 50) (lay' := LY.take 51) rfl rfl (by decide) (by decide) rfl rfl rfl rfl rfl rfl rfl ?_
  refine x_putR rfl rfl (Or.inr ⟨rfl, rfl, rfl⟩) rfl ?_
  refine x_aload_n rfl rfl ?_
  refine x_bipush rfl ?_
  refine x_newiC (N := 8) (n := 51) (lay' := LY.take 52) rfl rfl (by decide) (by decide) rfl rfl rfl rfl rfl rfl rfl ?_
  refine x_putR rfl rfl (Or.inr ⟨rfl, rfl, rfl⟩) rfl ?_
  refine x_aload_n rfl rfl ?_
  refine x_bipush rfl ?_
  refine x_newiC (N := 8) (n := 52) (lay' := LY.take 53) rfl rfl (by decide) (by decide) rfl rfl rfl rfl rfl rfl rfl ?_
  refine x_putR rfl rfl (Or.inr ⟨rfl, rfl, rfl⟩) rfl ?_
  refine x_aload_n rfl rfl ?_
  refine x_bipush rfl ?_
  refine x_newiC (N := 8) (n := 53) (lay' := LY.take 54) rfl rfl (by decide) (by decide) rfl rfl rfl rfl rfl rfl rfl ?_
  refine x_putR rfl rfl (Or.inr ⟨rfl, rfl, rfl⟩) rfl ?_
  refine x_aload_n rfl rfl ?_
  refine x_bipush rfl ?_
  refine x_newiC (N := 8) (n := 54) (lay' := LY.take 55) rfl rfl (by decide) (by decide) rfl rfl rfl rfl rfl rfl rfl ?_
  refine x_putR rfl rfl (Or.inr ⟨rfl, rfl, rfl⟩) rfl ?_
  refine x_aload_n rfl rfl ?_
  refine x_bipush rfl ?_
  refine x_newiC (N := 8) (n := 55) (lay' := LY.take 56) rfl rfl (by decide) (by decide) rfl rfl rfl rfl rfl rfl rfl ?_
  refine x_putR rfl rfl (Or.inr ⟨rfl, rfl, rfl⟩) rfl ?_
  refine x_aload_n rfl rfl ?_
  refine x_iconst rfl ?_
  refine x_newiC (N := 3) (n := 56) (lay' := LY.take 57) rfl rfl (by decide) (by decide) rfl rfl rfl rfl rfl rfl rfl ?_
  refine x_putR rfl rfl (Or.inr ⟨rfl, rfl, rfl⟩) rfl ?_
  refine x_aload_n rfl rfl ?_
  refine x_getR (u := .ref _) rfl rfl rfl rfl ?_
  refine x_iconst rfl ?_
  refine x_iconst rfl ?_
  refine x_iasN (j := 1) rfl rfl rfl (by decide) ?_
  refine x_aload_n rfl rfl ?_
  refine x_bipush rfl ?_
  refine x_anew5C (N := 6) (n := 57) (lay' := LY.take 58) rfl rfl (by decide) (by decide) rfl rfl rfl rfl rfl rfl rfl ?_
  refine x_putR rfl rfl (Or.inr ⟨rfl, rfl, rfl⟩) rfl ?_
  refine x_aload_n rfl rfl ?_
  refine x_iconst rfl ?_
  refine x_putI rfl rfl rfl rfl ?_
  refine x_vret rfl rfl ?_
  refine x_putR rfl rfl (Or.inr ⟨rfl, rfl, rfl⟩) rfl ?_
  refine x_aload_n rfl rfl ?_
  refine x_bipush rfl ?_
  refine x_newiC (N := 16) (n := 58) (lay' := LY.take 59) rfl rfl (by decide) (by decide) rfl rfl rfl rfl rfl rfl rfl ?_
  refine x_putR rfl rfl (Or.inr ⟨rfl, rfl, rfl⟩) rfl ?_
  refine x_vret rfl rfl ?_
  refine x_putR rfl rfl (Or.inr ⟨rfl, rfl, rfl⟩) rfl ?_
  refine x_aload_n rfl rfl ?_
  refine x_newC (n := 59) (lay' := LY.take 60) rfl rfl rfl rfl rfl rfl rfl rfl rfl ?_
  refine x_dup rfl rfl ?_
  refine x_aload_n rfl rfl ?_
  refine x_getR (u := .ref _) rfl rfl rfl rfl ?_
  refine x_aload_n rfl rfl ?_
  refine x_getR (u := .ref _) rfl rfl rfl rfl ?_
  refine x_aload_n rfl rfl ?_
  refine x_callI (M' := mi19) (As := [_, _, _]) (bc1 := 1) (bs1 := 36) (bc2 := 13) (bs2 := 17418) rfl rfl rfl rfl ok19 rfl rfl rfl rfl rfl rfl rfl rfl ?_
  refine x_aload_n rfl rfl ?_
  refine x_objInit rfl rfl ?_
  refine x_aload_n rfl rfl ?_
  refine x_aload_n rfl rfl ?_
  refine x_putR rfl rfl (Or.inr ⟨rfl, rfl, rfl⟩) rfl ?_
  refine x_aload_n rfl rfl ?_
  refine x_aload_n rfl rfl ?_
  refine x_putR rfl rfl (Or.inr ⟨rfl, rfl, rfl⟩) rfl ?_
  refine x_aload_n rfl rfl ?_
  refine x_aload_n rfl rfl ?_
  refine x_putR rfl rfl (Or.inr ⟨rfl, rfl, rfl⟩) rfl ?_
  refine x_aload_n rfl rfl ?_
  refine x_bipush rfl ?_
  refine x_newiC (N := 36) (n := 60) (lay' := LY.take 61) rfl rfl (by decide) (by decide) rfl rfl rfl rfl rfl rfl rfl ?_
  refine x_putR rfl rfl (Or.inr ⟨rfl, rfl, rfl⟩) rfl ?_
  refine x_aload_n rfl rfl ?_
  refine x_iconst rfl ?_
  refine x_putI rfl rfl rfl rfl ?_
  refine x_vret rfl rfl ?_
  refine x_putR rfl rfl (Or.inr ⟨rfl, rfl, rfl⟩) rfl ?_
  refine x_aload_n rfl rfl ?_
  refine x_newC (n := 61) (lay' := LY.take 62) rfl rfl rfl rfl rfl rfl rfl rfl rfl ?_
  refine x_dup rfl rfl ?_
  refine x_aload_n rfl rfl ?_
  refine x_getR (u := .ref _) rfl rfl rfl rfl ?_
  refine x_aload_n rfl rfl ?_
  refine x_getR (u := .ref _) rfl rfl rfl rfl ?_
  refine x_callI (M' := mi34) (As := [_, _]) (bc1 := 1) (bs1 := 576) (bc2 := 11) (bs2 := 16837) rfl rfl rfl rfl ok34 rfl rfl rfl rfl rfl rfl rfl rfl ?_
  refine x_aload_n rfl rfl ?_
  refine x_objInit rfl rfl ?_
  refine x_aload_n rfl rfl ?_
  refine x_aload_n rfl rfl ?_
  refine x_putR rfl rfl (Or.inr ⟨rfl, rfl, rfl⟩) rfl ?_
  refine x_aload_n rfl rfl ?_
  refine x_aload_n rfl rfl ?_
  refine x_putR rfl rfl (Or.inr ⟨rfl, rfl, rfl⟩) rfl ?_
  refine x_aload_n rfl rfl ?_
  refine x_sipush rfl ?_
  refine x_newiC (N := 576) (n := 62) (lay' := LY.take 63) rfl rfl (by decide) (by decide) rfl rfl rfl rfl rfl rfl rfl ?_
  refine x_putR rfl rfl (Or.inr ⟨rfl, rfl, rfl⟩) rfl ?_
  refine x_vret rfl rfl ?_
  refine x_putR rfl rfl (Or.inr ⟨rfl, rfl, rfl⟩) rfl ?_
  refine x_aload_n rfl rfl ?_
  refine x_newC (n := 63) (lay' := LY.take 64) rfl rfl rfl rfl rfl rfl rfl rfl rfl ?_
  refine x_dup rfl rfl ?_
  refine x_aload_n rfl rfl ?_
  refine x_getR (u := .ref _) rfl rfl rfl rfl ?_
  refine x_aload_n rfl rfl ?_
  refine x_getR (u := .ref _) rfl rfl rfl rfl ?_
  refine x_callI (M' := mi70) (As := [_, _]) (bc1 := 3) (bs1 := 12288) (bc2 := 7) (bs2 := 4540) rfl rfl rfl rfl ok70 rfl rfl rfl rfl rfl rfl rfl rfl ?_
  refine x_aload_n rfl rfl ?_
  refine x_objInit rfl rfl ?_
  refine x_aload_n rfl rfl ?_
  refine x_aload_n rfl rfl ?_
  refine x_putR rfl rfl (Or.inr ⟨rfl, rfl, rfl⟩) rfl ?_
  refine x_aload_n rfl rfl ?_
  refine x_aload_n rfl rfl ?_
  refine x_putR rfl rfl (Or.inr ⟨rfl, rfl, rfl⟩) rfl ?_
  refine x_aload_n rfl rfl ?_
  refine x_sipush rfl ?_
  refine x_newiC (N := 4096) (n := 64) (lay' := LY.take 65) rfl rfl (by decide) (by decide) rfl rfl rfl rfl rfl rfl rfl ?_
  refine x_putR rfl rfl (Or.inr ⟨rfl, rfl, rfl⟩) rfl ?_
  refine x_aload_n rfl rfl ?_
  refine x_sipush rfl ?_
  refine x_newiC (N := 4096) (n := 65) (lay' := LY.take 66) rfl rfl (by decide) (by decide) rfl rfl rfl rfl rfl rfl rfl ?_
  refine x_putR rfl rfl (Or.inr ⟨rfl, rfl, rfl⟩) rfl ?_
  refine x_aload_n rfl rfl ?_
  refine x_sipush rfl ?_
  refine x_newiC (N := 4096) (n := 66) (lay' := LY.take 67) rfl rfl (by decide) (by decide) rfl rfl rfl rfl rfl rfl rfl ?_
  refine x_putR rfl rfl (Or.inr ⟨rfl, rfl, rfl⟩) rfl ?_
  refine x_vret rfl rfl ?_
  refine x_putR rfl rfl (Or.inr ⟨rfl, rfl, rfl⟩) rfl ?_
  refine x_aload_n rfl rfl ?_
  refine x_newC (n := 67) (lay' := LY.take 68) rfl rfl rfl rfl rfl rfl rfl rfl rfl ?_
  refine x_dup rfl rfl ?_
  refine x_aload_n rfl rfl ?_
  refine x_getR (u := .ref _) rfl rfl rfl rfl ?_
  refine x_aload_n rfl rfl ?_
  refine x_getR (u := .ref _) rfl rfl rfl rfl ?_
  refine x_callI (M' := mi63) (As := [_, _]) (bc1 := 2) (bs1 := 4100) (bc2 := 4) (bs2 := 435) rfl rfl rfl rfl ok63 rfl rfl rfl rfl rfl rfl rfl rfl ?_
  refine x_aload_n rfl rfl ?_
  refine x_objInit rfl rfl ?_
  refine x_aload_n rfl rfl ?_
  refine x_aload_n rfl rfl ?_
  refine x_putR rfl rfl (Or.inr ⟨rfl, rfl, rfl⟩) rfl ?_
  refine x_aload_n rfl rfl ?_
  refine x_aload_n rfl rfl ?_
  refine x_putR rfl rfl (Or.inr ⟨rfl, rfl, rfl⟩) rfl ?_
  refine x_aload_n rfl rfl ?_
  refine x_sipush rfl ?_
  refine x_newiC (N := 4096) (n := 68) (lay' := LY.take 69) rfl rfl (by decide) (by decide) rfl rfl rfl rfl rfl rfl rfl ?_
  refine x_putR rfl rfl (Or.inr ⟨rfl, rfl, rfl⟩) rfl ?_
  refine x_aload_n rfl rfl ?_
  refine x_iconst rfl ?_
  refine x_newiC (N := 4) (n := 69) (lay' := LY.take 70) rfl rfl (by decide) (by decide) rfl rfl rfl rfl rfl rfl rfl ?_
  refine x_putR rfl rfl (Or.inr ⟨rfl, rfl, rfl⟩) rfl ?_
  refine x_vret rfl rfl ?_
  refine x_putR rfl rfl (Or.inr ⟨rfl, rfl, rfl⟩) rfl ?_
  refine x_aload_n rfl rfl ?_
  refine x_newC (n := 70) (lay' := LY.take 71) rfl rfl rfl rfl rfl rfl rfl rfl rfl ?_
  refine x_dup rfl rfl ?_
  refine x_aload_n rfl rfl ?_
  refine x_getR (u := .ref _) rfl rfl rfl rfl ?_
  refine x_aload_n rfl rfl ?_
  refine x_getR (u := .ref _) rfl rfl rfl rfl ?_
  refine x_callI (M' := mi24) (As := [_, _]) (bc1 := 1) (bs1 := 24) (bc2 := 2) (bs2 := 406) rfl rfl rfl rfl ok24 rfl rfl rfl rfl rfl rfl rfl rfl ?_
  refine x_aload_n rfl rfl ?_
  refine x_objInit rfl rfl ?_
  refine x_aload_n rfl rfl ?_
  refine x_aload_n rfl rfl ?_
  refine x_putR rfl rfl (Or.inr ⟨rfl, rfl, rfl⟩) rfl ?_
  refine x_aload_n rfl rfl ?_
  refine x_aload_n rfl rfl ?_
  refine x_putR rfl rfl (Or.inr ⟨rfl, rfl, rfl⟩) rfl ?_
  refine x_aload_n rfl rfl ?_
  refine x_bipush rfl ?_
  refine x_newiC (N := 24) (n := 71) (lay' := LY.take 72) rfl rfl (by decide) (by decide) rfl rfl rfl rfl rfl rfl rfl ?_
  refine x_putR rfl rfl (Or.inr ⟨rfl, rfl, rfl⟩) rfl ?_
  refine x_vret rfl rfl ?_
  refine x_putR rfl rfl (Or.inr ⟨rfl, rfl, rfl⟩) rfl ?_
  refine x_aload_n rfl rfl ?_
  refine x_sipush rfl ?_
  refine x_newiC (N := 400) (n := 72) (lay' := LY.take 73) rfl rfl (by decide) (by decide) rfl rfl rfl rfl rfl rfl rfl ?_
  refine x_putR rfl rfl (Or.inr ⟨rfl, rfl, rfl⟩) rfl ?_
  refine x_aload_n rfl rfl ?_
  refine x_bipush rfl ?_
  refine x_newiC (N := 6) (n := 73) (lay' := LY.take 74) rfl rfl (by decide) (by decide) rfl rfl rfl rfl rfl rfl rfl ?_
  refine x_putR rfl rfl (Or.inr ⟨rfl, rfl, rfl⟩) rfl ?_
  refine x_aload_n rfl rfl ?_
  refine x_iconst rfl ?_
  refine x_putI rfl rfl rfl rfl ?_
  refine x_aload_n rfl rfl ?_
  refine x_iconst rfl ?_
  refine x_putI rfl rfl rfl rfl ?_
  refine x_vret rfl rfl ?_
  exact hP
set_option maxRecDepth 20000 in
set_option maxHeartbeats 16000000 in
theorem s_ctorM {d : Nat} {P : Post} (hP : P none (LY.take 100) VIm ZL VRm) : Ex (d + 0) mi159 0 (entL [.ref 74] 1) [] (LY.take 75) VIx ZL VRx 25 41373 P := by
  refine x_aload_n rfl rfl ?_
  refine x_objInit rfl rfl ?_
  refine x_aload_n rfl rfl ?_
  refine x_bipush rfl ?_
  refine x_newiC (N := 7) (n := 75) (lay' := LY.take 76) rfl rfl (by decide) (by decide) rfl rfl rfl rfl rfl rfl rfl ?_
  refine x_putR rfl rfl (Or.inr ⟨rfl, rfl, rfl⟩) rfl ?_
  refine x_aload_n rfl rfl ?_
  refine x_sipush rfl ?_
  refine x_newiC (N := 5705) (n := 76) (lay' := LY.take 77) rfl rfl (by decide) (by decide) rfl rfl rfl rfl rfl rfl rfl ?_
  refine x_putR rfl rfl (Or.inr ⟨rfl, rfl, rfl⟩) rfl ?_
  refine x_aload_n rfl rfl ?_
  refine x_sipush rfl ?_
  refine x_newiC (N := 11410) (n := 77) (lay' := LY.take 78) rfl rfl (by decide) (by decide) rfl rfl rfl rfl rfl rfl rfl ?_
  refine x_putR rfl rfl (Or.inr ⟨rfl, rfl, rfl⟩) rfl ?_
  refine x_aload_n rfl rfl ?_
  refine x_iconst rfl ?_
  refine x_newzC (N := 2) (n := 78) (lay' := LY.take 79) rfl rfl (by decide) (by decide) rfl rfl rfl rfl rfl rfl rfl ?_
  refine x_putR rfl rfl (Or.inr ⟨rfl, rfl, rfl⟩) rfl ?_
  refine x_aload_n rfl rfl ?_
  refine x_bipush rfl ?_
  refine x_newiC (N := 78) (n := 79) (lay' := LY.take 80) rfl rfl (by decide) (by decide) rfl rfl rfl rfl rfl rfl rfl ?_
  refine x_putR rfl rfl (Or.inr ⟨rfl, rfl, rfl⟩) rfl ?_
  refine x_aload_n rfl rfl ?_
  refine x_sipush rfl ?_
  refine x_newbC (N := 139) (n := 80) (lay' := LY.take 81) rfl rfl (by decide) (by decide) rfl rfl rfl rfl rfl rfl rfl ?_
  refine x_dup rfl rfl ?_
  refine x_iconst rfl ?_
  refine x_bipush rfl ?_
  refine x_basN (j := 0) rfl rfl rfl (by decide) ?_
  refine x_dup rfl rfl ?_
  refine x_iconst rfl ?_
  refine x_bipush rfl ?_
  refine x_basN (j := 1) rfl rfl rfl (by decide) ?_
  refine x_dup rfl rfl ?_
  refine x_iconst rfl ?_
  refine x_bipush rfl ?_
  refine x_basN (j := 2) rfl rfl rfl (by decide) ?_
  refine x_dup rfl rfl ?_
  refine x_iconst rfl ?_
  refine x_bipush rfl ?_
  refine x_basN (j := 3) rfl rfl rfl (by decide) ?_
  refine x_dup rfl rfl ?_
  refine x_iconst rfl ?_
  refine x_bipush rfl ?_
  refine x_basN (j := 4) rfl rfl rfl (by decide) ?_
  refine x_dup rfl rfl ?_
  refine x_iconst rfl ?_
  refine x_bipush rfl ?_
  refine x_basN (j := 5) rfl rfl rfl (by decide) ?_
  refine x_dup rfl rfl ?_
  refine x_bipush rfl ?_
  refine x_bipush rfl ?_
  refine x_basN (j := 6) rfl rfl rfl (by decide) ?_
  refine x_dup rfl rfl ?_
  refine x_bipush rfl ?_
  refine x_bipush rfl ?_
  refine x_basN (j := 7) rfl rfl rfl (by decide) ?_
  refine x_dup rfl rfl ?_
  refine x_bipush rfl ?_
  refine x_bipush rfl ?_
  refine x_basN (j := 8) rfl rfl rfl (by decide) ?_
  refine x_dup rfl rfl ?_
  refine x_bipush rfl ?_
  refine x_bipush rfl ?_
  refine x_basN (j := 9) rfl rfl rfl (by decide) ?_
  refine x_dup rfl rfl ?_
  refine x_bipush rfl ?_
  refine x_bipush rfl ?_
  refine x_basN (j := 10) rfl rfl rfl (by decide) ?_
  refine x_dup rfl rfl ?_
  refine x_bipush rfl ?_
  refine x_bipush rfl ?_
  refine x_basN (j := 11) rfl rfl rfl (by decide) ?_
  refine x_dup rfl rfl ?_
  refine x_bipush rfl ?_
  refine x_bipush rfl ?_
  refine x_basN (j := 12) rfl rfl rfl (by decide) ?_
  refine x_dup rfl rfl ?_
  refine x_bipush rfl ?_
  refine x_bipush rfl ?_
  refine x_basN (j := 13) rfl rfl rfl (by decide) ?_
  refine x_dup rfl rfl ?_
  refine x_bipush rfl ?_
  refine x_bipush rfl ?_
  refine x_basN (j := 14) rfl rfl rfl (by decide) ?_
  refine x_dup rfl rfl ?_
  refine x_bipush rfl ?_
  refine x_bipush rfl ?_
  refine x_basN (j := 15) rfl rfl rfl (by decide) ?_
  refine x_dup rfl rfl ?_
  refine x_bipush rfl ?_
  refine x_bipush rfl ?_
  refine x_basN (j := 16) rfl rfl rfl (by decide) ?_
  refine x_dup rfl rfl ?_
  refine x_bipush rfl ?_
  refine x_bipush rfl ?_
  refine x_basN (j := 17) rfl rfl rfl (by decide) ?_
  refine x_dup rfl rfl ?_
  refine x_bipush rfl ?_
  refine x_bipush rfl ?_
  refine x_basN (j := 18) rfl rfl rfl (by decide) ?_
  refine x_dup rfl rfl ?_
  refine x_bipush rfl ?_
  refine x_bipush rfl ?_
  refine x_basN (j := 19) rfl rfl rfl (by decide) ?_
  refine x_dup rfl rfl ?_
  refine x_bipush rfl ?_
  refine x_bipush rfl ?_
  refine x_basN (j := 20) rfl rfl rfl (by decide) ?_
  refine x_dup rfl rfl ?_
  refine x_bipush rfl ?_
  refine x_bipush rfl ?_
  refine x_basN (j := 21) rfl rfl rfl (by decide) ?_
  refine x_dup rfl rfl ?_
  refine x_bipush rfl ?_
  refine x_bipush rfl ?_
  refine x_basN (j := 22) rfl rfl rfl (by decide) ?_
  refine x_dup rfl rfl ?_
  refine x_bipush rfl ?_
  refine x_bipush rfl ?_
  refine x_basN (j := 23) rfl rfl rfl (by decide) ?_
  refine x_dup rfl rfl ?_
  refine x_bipush rfl ?_
  refine x_bipush rfl ?_
  refine x_basN (j := 24) rfl rfl rfl (by decide) ?_
  refine x_dup rfl rfl ?_
  refine x_bipush rfl ?_
  refine x_bipush rfl ?_
  refine x_basN (j := 25) rfl rfl rfl (by decide) ?_
  refine x_dup rfl rfl ?_
  refine x_bipush rfl ?_
  refine x_bipush rfl ?_
  refine x_basN (j := 26) rfl rfl rfl (by decide) ?_
  refine x_dup rfl rfl ?_
  refine x_bipush rfl ?_
  refine x_bipush rfl ?_
  refine x_basN (j := 27) rfl rfl rfl (by decide) ?_
  refine x_dup rfl rfl ?_
  refine x_bipush rfl ?_
  refine x_bipush rfl ?_
  refine x_basN (j := 28) rfl rfl rfl (by decide) ?_
  refine x_dup rfl rfl ?_
  refine x_bipush rfl ?_
  refine x_bipush rfl ?_
  refine x_basN (j := 29) rfl rfl rfl (by decide) ?_
  refine x_dup rfl rfl ?_
  refine x_bipush rfl ?_
  refine x_bipush rfl ?_
  refine x_basN (j := 30) rfl rfl rfl (by decide) ?_
  refine x_dup rfl rfl ?_
  refine x_bipush rfl ?_
  refine x_bipush rfl ?_
  refine x_basN (j := 31) rfl rfl rfl (by decide) ?_
  refine x_dup rfl rfl ?_
  refine x_bipush rfl ?_
  refine x_bipush rfl ?_
  refine x_basN (j := 32) rfl rfl rfl (by decide) ?_
  refine x_dup rfl rfl ?_
  refine x_bipush rfl ?_
  refine x_bipush rfl ?_
  refine x_basN (j := 33) rfl rfl rfl (by decide) ?_
  refine x_dup rfl rfl ?_
  refine x_bipush rfl ?_
  refine x_bipush rfl ?_
  refine x_basN (j := 34) rfl rfl rfl (by decide) ?_
  refine x_dup rfl rfl ?_
  refine x_bipush rfl ?_
  refine x_bipush rfl ?_
  refine x_basN (j := 35) rfl rfl rfl (by decide) ?_
  refine x_dup rfl rfl ?_
  refine x_bipush rfl ?_
  refine x_bipush rfl ?_
  refine x_basN (j := 36) rfl rfl rfl (by decide) ?_
  refine x_dup rfl rfl ?_
  refine x_bipush rfl ?_
  refine x_bipush rfl ?_
  refine x_basN (j := 37) rfl rfl rfl (by decide) ?_
  refine x_dup rfl rfl ?_
  refine x_bipush rfl ?_
  refine x_bipush rfl ?_
  refine x_basN (j := 38) rfl rfl rfl (by decide) ?_
  refine x_dup rfl rfl ?_
  refine x_bipush rfl ?_
  refine x_bipush rfl ?_
  refine x_basN (j := 39) rfl rfl rfl (by decide) ?_
  refine x_dup rfl rfl ?_
  refine x_bipush rfl ?_
  refine x_bipush rfl ?_
  refine x_basN (j := 40) rfl rfl rfl (by decide) ?_
  refine x_dup rfl rfl ?_
  refine x_bipush rfl ?_
  refine x_bipush rfl ?_
  refine x_basN (j := 41) rfl rfl rfl (by decide) ?_
  refine x_dup rfl rfl ?_
  refine x_bipush rfl ?_
  refine x_bipush rfl ?_
  refine x_basN (j := 42) rfl rfl rfl (by decide) ?_
  refine x_dup rfl rfl ?_
  refine x_bipush rfl ?_
  refine x_bipush rfl ?_
  refine x_basN (j := 43) rfl rfl rfl (by decide) ?_
  refine x_dup rfl rfl ?_
  refine x_bipush rfl ?_
  refine x_bipush rfl ?_
  refine x_basN (j := 44) rfl rfl rfl (by decide) ?_
  refine x_dup rfl rfl ?_
  refine x_bipush rfl ?_
  refine x_bipush rfl ?_
  refine x_basN (j := 45) rfl rfl rfl (by decide) ?_
  refine x_dup rfl rfl ?_
  refine x_bipush rfl ?_
  refine x_bipush rfl ?_
  refine x_basN (j := 46) rfl rfl rfl (by decide) ?_
  refine x_dup rfl rfl ?_
  refine x_bipush rfl ?_
  refine x_bipush rfl ?_
  refine x_basN (j := 47) rfl rfl rfl (by decide) ?_
  refine x_dup rfl rfl ?_
  refine x_bipush rfl ?_
  refine x_bipush rfl ?_
  refine x_basN (j := 48) rfl rfl rfl (by decide) ?_
  refine x_dup rfl rfl ?_
  refine x_bipush rfl ?_
  refine x_bipush rfl ?_
  refine x_basN (j := 49) rfl rfl rfl (by decide) ?_
  refine x_dup rfl rfl ?_
  refine x_bipush rfl ?_
  refine x_bipush rfl ?_
  refine x_basN (j := 50) rfl rfl rfl (by decide) ?_
  refine x_dup rfl rfl ?_
  refine x_bipush rfl ?_
  refine x_bipush rfl ?_
  refine x_basN (j := 51) rfl rfl rfl (by decide) ?_
  refine x_dup rfl rfl ?_
  refine x_bipush rfl ?_
  refine x_bipush rfl ?_
  refine x_basN (j := 52) rfl rfl rfl (by decide) ?_
  refine x_dup rfl rfl ?_
  refine x_bipush rfl ?_
  refine x_bipush rfl ?_
  refine x_basN (j := 53) rfl rfl rfl (by decide) ?_
  refine x_dup rfl rfl ?_
  refine x_bipush rfl ?_
  refine x_bipush rfl ?_
  refine x_basN (j := 54) rfl rfl rfl (by decide) ?_
  refine x_dup rfl rfl ?_
  refine x_bipush rfl ?_
  refine x_bipush rfl ?_
  refine x_basN (j := 55) rfl rfl rfl (by decide) ?_
  refine x_dup rfl rfl ?_
  refine x_bipush rfl ?_
  refine x_bipush rfl ?_
  refine x_basN (j := 56) rfl rfl rfl (by decide) ?_
  refine x_dup rfl rfl ?_
  refine x_bipush rfl ?_
  refine x_bipush rfl ?_
  refine x_basN (j := 57) rfl rfl rfl (by decide) ?_
  refine x_dup rfl rfl ?_
  refine x_bipush rfl ?_
  refine x_bipush rfl ?_
  refine x_basN (j := 58) rfl rfl rfl (by decide) ?_
  refine x_dup rfl rfl ?_
  refine x_bipush rfl ?_
  refine x_bipush rfl ?_
  refine x_basN (j := 59) rfl rfl rfl (by decide) ?_
  refine x_dup rfl rfl ?_
  refine x_bipush rfl ?_
  refine x_bipush rfl ?_
  refine x_basN (j := 60) rfl rfl rfl (by decide) ?_
  refine x_dup rfl rfl ?_
  refine x_bipush rfl ?_
  refine x_bipush rfl ?_
  refine x_basN (j := 61) rfl rfl rfl (by decide) ?_
  refine x_dup rfl rfl ?_
  refine x_bipush rfl ?_
  refine x_bipush rfl ?_
  refine x_basN (j := 62) rfl rfl rfl (by decide) ?_
  refine x_dup rfl rfl ?_
  refine x_bipush rfl ?_
  refine x_bipush rfl ?_
  refine x_basN (j := 63) rfl rfl rfl (by decide) ?_
  refine x_dup rfl rfl ?_
  refine x_bipush rfl ?_
  refine x_bipush rfl ?_
  refine x_basN (j := 64) rfl rfl rfl (by decide) ?_
  refine x_dup rfl rfl ?_
  refine x_bipush rfl ?_
  refine x_bipush rfl ?_
  refine x_basN (j := 65) rfl rfl rfl (by decide) ?_
  refine x_dup rfl rfl ?_
  refine x_bipush rfl ?_
  refine x_bipush rfl ?_
  refine x_basN (j := 66) rfl rfl rfl (by decide) ?_
  refine x_dup rfl rfl ?_
  refine x_bipush rfl ?_
  refine x_bipush rfl ?_
  refine x_basN (j := 67) rfl rfl rfl (by decide) ?_
  refine x_dup rfl rfl ?_
  refine x_bipush rfl ?_
  refine x_bipush rfl ?_
  refine x_basN (j := 68) rfl rfl rfl (by decide) ?_
  refine x_dup rfl rfl ?_
  refine x_bipush rfl ?_
  refine x_bipush rfl ?_
  refine x_basN (j := 69) rfl rfl rfl (by decide) ?_
  refine x_dup rfl rfl ?_
  refine x_bipush rfl ?_
  refine x_bipush rfl ?_
  refine x_basN (j := 70) rfl rfl rfl (by decide) ?_
  refine x_dup rfl rfl ?_
  refine x_bipush rfl ?_
  refine x_bipush rfl ?_
  refine x_basN (j := 71) rfl rfl rfl (by decide) ?_
  refine x_dup rfl rfl ?_
  refine x_bipush rfl ?_
  refine x_bipush rfl ?_
  refine x_basN (j := 72) rfl rfl rfl (by decide) ?_
  refine x_dup rfl rfl ?_
  refine x_bipush rfl ?_
  refine x_bipush rfl ?_
  refine x_basN (j := 73) rfl rfl rfl (by decide) ?_
  refine x_dup rfl rfl ?_
  refine x_bipush rfl ?_
  refine x_bipush rfl ?_
  refine x_basN (j := 74) rfl rfl rfl (by decide) ?_
  refine x_dup rfl rfl ?_
  refine x_bipush rfl ?_
  refine x_bipush rfl ?_
  refine x_basN (j := 75) rfl rfl rfl (by decide) ?_
  refine x_dup rfl rfl ?_
  refine x_bipush rfl ?_
  refine x_bipush rfl ?_
  refine x_basN (j := 76) rfl rfl rfl (by decide) ?_
  refine x_dup rfl rfl ?_
  refine x_bipush rfl ?_
  refine x_bipush rfl ?_
  refine x_basN (j := 77) rfl rfl rfl (by decide) ?_
  refine x_dup rfl rfl ?_
  refine x_bipush rfl ?_
  refine x_bipush rfl ?_
  refine x_basN (j := 78) rfl rfl rfl (by decide) ?_
  refine x_dup rfl rfl ?_
  refine x_bipush rfl ?_
  refine x_bipush rfl ?_
  refine x_basN (j := 79) rfl rfl rfl (by decide) ?_
  refine x_dup rfl rfl ?_
  refine x_bipush rfl ?_
  refine x_bipush rfl ?_
  refine x_basN (j := 80) rfl rfl rfl (by decide) ?_
  refine x_dup rfl rfl ?_
  refine x_bipush rfl ?_
  refine x_bipush rfl ?_
  refine x_basN (j := 81) rfl rfl rfl (by decide) ?_
  refine x_dup rfl rfl ?_
  refine x_bipush rfl ?_
  refine x_bipush rfl ?_
  refine x_basN (j := 82) rfl rfl rfl (by decide) ?_
  refine x_dup rfl rfl ?_
  refine x_bipush rfl ?_
  refine x_bipush rfl ?_
  refine x_basN (j := 83) rfl rfl rfl (by decide) ?_
  refine x_dup rfl rfl ?_
  refine x_bipush rfl ?_
  refine x_bipush rfl ?_
  refine x_basN (j := 84) rfl rfl rfl (by decide) ?_
  refine x_dup rfl rfl ?_
  refine x_bipush rfl ?_
  refine x_bipush rfl ?_
  refine x_basN (j := 85) rfl rfl rfl (by decide) ?_
  refine x_dup rfl rfl ?_
  refine x_bipush rfl ?_
  refine x_bipush rfl ?_
  refine x_basN (j := 86) rfl rfl rfl (by decide) ?_
  refine x_dup rfl rfl ?_
  refine x_bipush rfl ?_
  refine x_bipush rfl ?_
  refine x_basN (j := 87) rfl rfl rfl (by decide) ?_
  refine x_dup rfl rfl ?_
  refine x_bipush rfl ?_
  refine x_bipush rfl ?_
  refine x_basN (j := 88) rfl rfl rfl (by decide) ?_
  refine x_dup rfl rfl ?_
  refine x_bipush rfl ?_
  refine x_bipush rfl ?_
  refine x_basN (j := 89) rfl rfl rfl (by decide) ?_
  refine x_dup rfl rfl ?_
  refine x_bipush rfl ?_
  refine x_bipush rfl ?_
  refine x_basN (j := 90) rfl rfl rfl (by decide) ?_
  refine x_dup rfl rfl ?_
  refine x_bipush rfl ?_
  refine x_bipush rfl ?_
  refine x_basN (j := 91) rfl rfl rfl (by decide) ?_
  refine x_dup rfl rfl ?_
  refine x_bipush rfl ?_
  refine x_bipush rfl ?_
  refine x_basN (j := 92) rfl rfl rfl (by decide) ?_
  refine x_dup rfl rfl ?_
  refine x_bipush rfl ?_
  refine x_bipush rfl ?_
  refine x_basN (j := 93) rfl rfl rfl (by decide) ?_
  refine x_dup rfl rfl ?_
  refine x_bipush rfl ?_
  refine x_bipush rfl ?_
  refine x_basN (j := 94) rfl rfl rfl (by decide) ?_
  refine x_dup rfl rfl ?_
  refine x_bipush rfl ?_
  refine x_bipush rfl ?_
  refine x_basN (j := 95) rfl rfl rfl (by decide) ?_
  refine x_dup rfl rfl ?_
  refine x_bipush rfl ?_
  refine x_bipush rfl ?_
  refine x_basN (j := 96) rfl rfl rfl (by decide) ?_
  refine x_dup rfl rfl ?_
  refine x_bipush rfl ?_
  refine x_bipush rfl ?_
  refine x_basN (j := 97) rfl rfl rfl (by decide) ?_
  refine x_dup rfl rfl ?_
  refine x_bipush rfl ?_
  refine x_bipush rfl ?_
  refine x_basN (j := 98) rfl rfl rfl (by decide) ?_
  refine x_dup rfl rfl ?_
  refine x_bipush rfl ?_
  refine x_bipush rfl ?_
  refine x_basN (j := 99) rfl rfl rfl (by decide) ?_
  refine x_dup rfl rfl ?_
  refine x_bipush rfl ?_
  refine x_bipush rfl ?_
  refine x_basN (j := 100) rfl rfl rfl (by decide) ?_
  refine x_dup rfl rfl ?_
  refine x_bipush rfl ?_
  refine x_bipush rfl ?_
  refine x_basN (j := 101) rfl rfl rfl (by decide) ?_
  refine x_dup rfl rfl ?_
  refine x_bipush rfl ?_
  refine x_bipush rfl ?_
  refine x_basN (j := 102) rfl rfl rfl (by decide) ?_
  refine x_dup rfl rfl ?_
  refine x_bipush rfl ?_
  refine x_bipush rfl ?_
  refine x_basN (j := 103) rfl rfl rfl (by decide) ?_
  refine x_dup rfl rfl ?_
  refine x_bipush rfl ?_
  refine x_bipush rfl ?_
  refine x_basN (j := 104) rfl rfl rfl (by decide) ?_
  refine x_dup rfl rfl ?_
  refine x_bipush rfl ?_
  refine x_bipush rfl ?_
  refine x_basN (j := 105) rfl rfl rfl (by decide) ?_
  refine x_dup rfl rfl ?_
  refine x_bipush rfl ?_
  refine x_bipush rfl ?_
  refine x_basN (j := 106) rfl rfl rfl (by decide) ?_
  refine x_dup rfl rfl ?_
  refine x_bipush rfl ?_
  refine x_bipush rfl ?_
  refine x_basN (j := 107) rfl rfl rfl (by decide) ?_
  refine x_dup rfl rfl ?_
  refine x_bipush rfl ?_
  refine x_bipush rfl ?_
  refine x_basN (j := 108) rfl rfl rfl (by decide) ?_
  refine x_dup rfl rfl ?_
  refine x_bipush rfl ?_
  refine x_bipush rfl ?_
  refine x_basN (j := 109) rfl rfl rfl (by decide) ?_
  refine x_dup rfl rfl ?_
  refine x_bipush rfl ?_
  refine x_bipush rfl ?_
  refine x_basN (j := 110) rfl rfl rfl (by decide) ?_
  refine x_dup rfl rfl ?_
  refine x_bipush rfl ?_
  refine x_bipush rfl ?_
  refine x_basN (j := 111) rfl rfl rfl (by decide) ?_
  refine x_dup rfl rfl ?_
  refine x_bipush rfl ?_
  refine x_bipush rfl ?_
  refine x_basN (j := 112) rfl rfl rfl (by decide) ?_
  refine x_dup rfl rfl ?_
  refine x_bipush rfl ?_
  refine x_bipush rfl ?_
  refine x_basN (j := 113) rfl rfl rfl (by decide) ?_
  refine x_dup rfl rfl ?_
  refine x_bipush rfl ?_
  refine x_bipush rfl ?_
  refine x_basN (j := 114) rfl rfl rfl (by decide) ?_
  refine x_dup rfl rfl ?_
  refine x_bipush rfl ?_
  refine x_bipush rfl ?_
  refine x_basN (j := 115) rfl rfl rfl (by decide) ?_
  refine x_dup rfl rfl ?_
  refine x_bipush rfl ?_
  refine x_bipush rfl ?_
  refine x_basN (j := 116) rfl rfl rfl (by decide) ?_
  refine x_dup rfl rfl ?_
  refine x_bipush rfl ?_
  refine x_bipush rfl ?_
  refine x_basN (j := 117) rfl rfl rfl (by decide) ?_
  refine x_dup rfl rfl ?_
  refine x_bipush rfl ?_
  refine x_bipush rfl ?_
  refine x_basN (j := 118) rfl rfl rfl (by decide) ?_
  refine x_dup rfl rfl ?_
  refine x_bipush rfl ?_
  refine x_bipush rfl ?_
  refine x_basN (j := 119) rfl rfl rfl (by decide) ?_
  refine x_dup rfl rfl ?_
  refine x_bipush rfl ?_
  refine x_bipush rfl ?_
  refine x_basN (j := 120) rfl rfl rfl (by decide) ?_
  refine x_dup rfl rfl ?_
  refine x_bipush rfl ?_
  refine x_bipush rfl ?_
  refine x_basN (j := 121) rfl rfl rfl (by decide) ?_
  refine x_dup rfl rfl ?_
  refine x_bipush rfl ?_
  refine x_bipush rfl ?_
  refine x_basN (j := 122) rfl rfl rfl (by decide) ?_
  refine x_dup rfl rfl ?_
  refine x_bipush rfl ?_
  refine x_bipush rfl ?_
  refine x_basN (j := 123) rfl rfl rfl (by decide) ?_
  refine x_dup rfl rfl ?_
  refine x_bipush rfl ?_
  refine x_bipush rfl ?_
  refine x_basN (j := 124) rfl rfl rfl (by decide) ?_
  refine x_dup rfl rfl ?_
  refine x_bipush rfl ?_
  refine x_bipush rfl ?_
  refine x_basN (j := 125) rfl rfl rfl (by decide) ?_
  refine x_dup rfl rfl ?_
  refine x_bipush rfl ?_
  refine x_bipush rfl ?_
  refine x_basN (j := 126) rfl rfl rfl (by decide) ?_
  refine x_dup rfl rfl ?_
  refine x_bipush rfl ?_
  refine x_bipush rfl ?_
  refine x_basN (j := 127) rfl rfl rfl (by decide) ?_
  refine x_dup rfl rfl ?_
  refine x_sipush rfl ?_
  refine x_bipush rfl ?_
  refine x_basN (j := 128) rfl rfl rfl (by decide) ?_
  refine x_dup rfl rfl ?_
  refine x_sipush rfl ?_
  refine x_bipush rfl ?_
  refine x_basN (j := 129) rfl rfl rfl (by decide) ?_
  refine x_dup rfl rfl ?_
  refine x_sipush rfl ?_
  refine x_bipush rfl ?_
  refine x_basN (j := 130) rfl rfl rfl (by decide) ?_
  refine x_dup rfl rfl ?_
  refine x_sipush rfl ?_
  refine x_bipush rfl ?_
  refine x_basN (j := 131) rfl rfl rfl (by decide) ?_
  refine x_dup rfl rfl ?_
  refine x_sipush rfl ?_
  refine x_bipush rfl ?_
  refine x_basN (j := 132) rfl rfl rfl (by decide) ?_
  refine x_dup rfl rfl ?_
  refine x_sipush rfl ?_
  refine x_bipush rfl ?_
  refine x_basN (j := 133) rfl rfl rfl (by decide) ?_
  refine x_dup rfl rfl ?_
  refine x_sipush rfl ?_
  refine x_bipush rfl ?_
  refine x_basN (j := 134) rfl rfl rfl (by decide) ?_
  refine x_dup rfl rfl ?_
  refine x_sipush rfl ?_
  refine x_bipush rfl ?_
  refine x_basN (j := 135) rfl rfl rfl (by decide) ?_
  refine x_dup rfl rfl ?_
  refine x_sipush rfl ?_
  refine x_bipush rfl ?_
  refine x_basN (j := 136) rfl rfl rfl (by decide) ?_
  refine x_dup rfl rfl ?_
  refine x_sipush rfl ?_
  refine x_bipush rfl ?_
  refine x_basN (j := 137) rfl rfl rfl (by decide) ?_
  refine x_dup rfl rfl ?_
  refine x_sipush rfl ?_
  refine x_bipush rfl ?_
  refine x_basN (j := 138) rfl rfl rfl (by decide) ?_
  refine x_putR rfl rfl (Or.inr ⟨rfl, rfl, rfl⟩) rfl ?_
  refine x_aload_n rfl rfl ?_
  refine x_sipush rfl ?_
  refine x_newbC (N := 400) (n := 81) (lay' := LY.take 82) rfl rfl (by decide) (by decide) rfl rfl rfl rfl rfl rfl rfl ?_
  refine x_putR rfl rfl (Or.inr ⟨rfl, rfl, rfl⟩) rfl ?_
  refine x_aload_n rfl rfl ?_
  refine x_iconst rfl ?_
  refine x_newiC (N := 5) (n := 82) (lay' := LY.take 83) rfl rfl (by decide) (by decide) rfl rfl rfl rfl rfl rfl rfl ?_
  refine x_putR rfl rfl (Or.inr ⟨rfl, rfl, rfl⟩) rfl ?_
  refine x_aload_n rfl rfl ?_
  refine x_iconst rfl ?_
  refine x_putI rfl rfl rfl rfl ?_
  refine x_aload_n rfl rfl ?_
  refine x_sipush rfl ?_
  refine x_newiC (N := 401) (n := 83) (lay' := LY.take 84) rfl rfl (by decide) (by decide) rfl rfl rfl rfl rfl rfl rfl ?_
  refine x_putR rfl rfl (Or.inr ⟨rfl, rfl, rfl⟩) rfl ?_
  refine x_aload_n rfl rfl ?_
  refine x_sipush rfl ?_
  refine x_newiC (N := 401) (n := 84) (lay' := LY.take 85) rfl rfl (by decide) (by decide) rfl rfl rfl rfl rfl rfl rfl ?_
  refine x_putR rfl rfl (Or.inr ⟨rfl, rfl, rfl⟩) rfl ?_
  refine x_aload_n rfl rfl ?_
  refine x_sipush rfl ?_
  refine x_newiC (N := 401) (n := 85) (lay' := LY.take 86) rfl rfl (by decide) (by decide) rfl rfl rfl rfl rfl rfl rfl ?_
  refine x_putR rfl rfl (Or.inr ⟨rfl, rfl, rfl⟩) rfl ?_
  refine x_aload_n rfl rfl ?_
  refine x_bipush rfl ?_
  refine x_newiC (N := 9) (n := 86) (lay' := LY.take 87) rfl rfl (by decide) (by decide) rfl rfl rfl rfl rfl rfl rfl ?_
  refine x_putR rfl rfl (Or.inr ⟨rfl, rfl, rfl⟩) rfl ?_
  refine x_aload_n rfl rfl ?_
  refine x_sipush rfl ?_
  refine x_newbC (N := 576) (n := 87) (lay' := LY.take 88) rfl rfl (by decide) (by decide) rfl rfl rfl rfl rfl rfl rfl ?_
  refine x_putR rfl rfl (Or.inr ⟨rfl, rfl, rfl⟩) rfl ?_
  refine x_aload_n rfl rfl ?_
  refine x_sipush rfl ?_
  refine x_newiC (N := 640) (n := 88) (lay' := LY.take 89) rfl rfl (by decide) (by decide) rfl rfl rfl rfl rfl rfl rfl ?_
  refine x_putR rfl rfl (Or.inr ⟨rfl, rfl, rfl⟩) rfl ?_
  refine x_aload_n rfl rfl ?_
  refine x_sipush rfl ?_
  refine x_newiC (N := 640) (n := 89) (lay' := LY.take 90) rfl rfl (by decide) (by decide) rfl rfl rfl rfl rfl rfl rfl ?_
  refine x_putR rfl rfl (Or.inr ⟨rfl, rfl, rfl⟩) rfl ?_
  refine x_aload_n rfl rfl ?_
  refine x_sipush rfl ?_
  refine x_newiC (N := 4096) (n := 90) (lay' := LY.take 91) rfl rfl (by decide) (by decide) rfl rfl rfl rfl rfl rfl rfl ?_
  refine x_putR rfl rfl (Or.inr ⟨rfl, rfl, rfl⟩) rfl ?_
  refine x_aload_n rfl rfl ?_
  refine x_sipush rfl ?_
  refine x_newiC (N := 4096) (n := 91) (lay' := LY.take 92) rfl rfl (by decide) (by decide) rfl rfl rfl rfl rfl rfl rfl ?_
  refine x_putR rfl rfl (Or.inr ⟨rfl, rfl, rfl⟩) rfl ?_
  refine x_aload_n rfl rfl ?_
  refine x_sipush rfl ?_
  refine x_newiC (N := 4096) (n := 92) (lay' := LY.take 93) rfl rfl (by decide) (by decide) rfl rfl rfl rfl rfl rfl rfl ?_
  refine x_putR rfl rfl (Or.inr ⟨rfl, rfl, rfl⟩) rfl ?_
  refine x_aload_n rfl rfl ?_
  refine x_sipush rfl ?_
  refine x_newzC (N := 4096) (n := 93) (lay' := LY.take 94) rfl rfl (by decide) (by decide) rfl rfl rfl rfl rfl rfl rfl ?_
  refine x_putR rfl rfl (Or.inr ⟨rfl, rfl, rfl⟩) rfl ?_
  refine x_aload_n rfl rfl ?_
  refine x_sipush rfl ?_
  refine x_newiC (N := 4096) (n := 94) (lay' := LY.take 95) rfl rfl (by decide) (by decide) rfl rfl rfl rfl rfl rfl rfl ?_
  refine x_putR rfl rfl (Or.inr ⟨rfl, rfl, rfl⟩) rfl ?_
  refine x_aload_n rfl rfl ?_
  refine x_bipush rfl ?_
  refine x_newiC (N := 24) (n := 95) (lay' := LY.take 96) rfl rfl (by decide) (by decide) rfl rfl rfl rfl rfl rfl rfl ?_
  refine x_putR rfl rfl (Or.inr ⟨rfl, rfl, rfl⟩) rfl ?_
  refine x_aload_n rfl rfl ?_
  refine x_iconst rfl ?_
  refine x_newiC (N := 4) (n := 96) (lay' := LY.take 97) rfl rfl (by decide) (by decide) rfl rfl rfl rfl rfl rfl rfl ?_
  refine x_putR rfl rfl (Or.inr ⟨rfl, rfl, rfl⟩) rfl ?_
  refine x_aload_n rfl rfl ?_
  refine x_bipush rfl ?_
  refine x_newiC (N := 24) (n := 97) (lay' := LY.take 98) rfl rfl (by decide) (by decide) rfl rfl rfl rfl rfl rfl rfl ?_
  refine x_putR rfl rfl (Or.inr ⟨rfl, rfl, rfl⟩) rfl ?_
  refine x_aload_n rfl rfl ?_
  refine x_iconst rfl ?_
  refine x_putI rfl rfl rfl rfl ?_
  refine x_aload_n rfl rfl ?_
  refine x_iconst rfl ?_
  refine x_newlC (N := 3) (n := 98) (lay' := LY.take 99) rfl rfl (by decide) (by decide) rfl rfl rfl rfl rfl rfl rfl ?_
  refine x_putR rfl rfl (Or.inr ⟨rfl, rfl, rfl⟩) rfl ?_
  refine x_aload_n rfl rfl ?_
  refine x_bipush rfl ?_
  refine x_newiC (N := 24) (n := 99) (lay' := LY.take 100) rfl rfl (by decide) (by decide) rfl rfl rfl rfl rfl rfl rfl ?_
  refine x_putR rfl rfl (Or.inr ⟨rfl, rfl, rfl⟩) rfl ?_
  refine x_aload_n rfl rfl ?_
  refine x_iconst rfl ?_
  refine x_putI rfl rfl rfl rfl ?_
  refine x_aload_n rfl rfl ?_
  refine x_getR (u := .ref _) rfl rfl rfl rfl ?_
  refine x_bipush rfl ?_
  refine x_iconst rfl ?_
  refine x_iasN (j := 91) rfl rfl rfl (by decide) ?_
  refine x_aload_n rfl rfl ?_
  refine x_getR (u := .ref _) rfl rfl rfl rfl ?_
  refine x_bipush rfl ?_
  refine x_iconst rfl ?_
  refine x_iasN (j := 97) rfl rfl rfl (by decide) ?_
  refine x_vret rfl rfl ?_
  exact hP
