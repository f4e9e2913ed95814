/-! ===== the class tells what a code tells ===== -/
def obr : Option Int → Int32
  | none => -2000000000
  | some v => Int32.ofInt v
def Stk : List Int → VIT → Prop
  | [], _ => True
  | a :: s, V => V 2 s.length = Int32.ofInt a ∧ Stk s V
def FrS (V0 V : VIT) : Prop := ∀ a k, a ≠ 2 → V a k = V0 a k
set_option maxRecDepth 20000 in
theorem FrS.up {V0 V : VIT} {k : Nat} {x : Int32} (h : FrS V0 V) : FrS V0 (up V 2 k x) := fun a i q => by rw [up_ne q]; exact h a i q
set_option maxRecDepth 20000 in
theorem Stk.up {V : VIT} {k : Nat} {x : Int32} : ∀ {s : List Int}, Stk s V → s.length ≤ k → Stk s (up V 2 k x)
  | [], _, _ => trivial
  | a :: s, h, hk => by
    have hk' : s.length + 1 ≤ k := hk
    exact ⟨(up_at' (by omega)).trans h.1, h.2.up (by omega)⟩
def Bd (m : Nat) (s : List Int) : Prop := ∀ a, a ∈ s → -(1000000000 + (m : Int)) ≤ a ∧ a ≤ 1000000000 + (m : Int)
set_option maxRecDepth 20000 in
theorem Bd.mono {m m' : Nat} {s : List Int} (h : Bd m s) (hm : m ≤ m') : Bd m' s := fun a ha => by have := h a ha; omega
set_option maxRecDepth 20000 in
theorem Bd.cons {m : Nat} {s : List Int} {a : Int} (h : Bd m s) (h1 : -(1000000000 + (m : Int)) ≤ a) (h2 : a ≤ 1000000000 + (m : Int)) : Bd m (a :: s) := fun x hx => by
  rcases List.mem_cons.mp hx with rfl | hx
  · exact ⟨h1, h2⟩
  · exact h x hx
set_option maxRecDepth 20000 in
theorem Bd.tail {m : Nat} {s : List Int} {a : Int} (h : Bd m (a :: s)) : Bd m s := fun x hx => h x (List.mem_cons_of_mem _ hx)
set_option maxRecDepth 20000 in
theorem Bd.head {m : Nat} {s : List Int} {a : Int} (h : Bd m (a :: s)) : -(1000000000 + (m : Int)) ≤ a ∧ a ≤ 1000000000 + (m : Int) := h a List.mem_cons_self
set_option maxRecDepth 20000 in
theorem oI_toInt {a : Int} (h1 : -2147483648 ≤ a) (h2 : a < 2147483648) : (Int32.ofInt a).toInt = a := by
  rw [Int32.toInt_ofInt, show Int32.size = 4294967296 from rfl, Int.bmod_eq_of_le (by omega) (by omega)]
set_option maxRecDepth 20000 in
theorem oI_nat {n : Nat} : nI n = Int32.ofInt (n : Int) := by
  rw [← Int32.toInt_inj, Int32.toInt_ofInt]
  show (Int32.ofNat n).toInt = _
  rw [Int32.toInt_ofNat']
set_option maxRecDepth 20000 in
theorem l2i_oI {r : Int64} : r.toInt32 = Int32.ofInt r.toInt := by
  rw [← Int32.toInt_inj, Int64.toInt_toInt32, Int32.toInt_ofInt]
set_option maxRecDepth 20000 in
theorem oI_eq0 {a : Int} (h1 : -2147483648 ≤ a) (h2 : a < 2147483648) : Int32.ofInt a = 0 ↔ a = 0 := by
  rw [← Int32.toInt_inj, oI_toInt h1 h2]; exact Iff.rfl
set_option maxRecDepth 20000 in
theorem max_nI {i c : Nat} (hi : i < 1073741824) (hc : c < 1073741824) : (if nI i < nI c - 2 then nI c - 2 else nI i) = nI (max i (c - 2)) := by
  have e1 : (nI c - 2 : Int32).toInt = (c : Int) - 2 := by
    rw [Int32.toInt_sub, nI_toInt (by omega), show (2 : Int32).toInt = 2 from rfl, Int.bmod_eq_of_le (by omega) (by omega)]
  rw [← Int32.toInt_inj]
  by_cases h : nI i < nI c - 2
  · rw [if_pos h, e1, nI_toInt (by omega)]
    rw [Int32.lt_iff_toInt_lt, e1, nI_toInt (by omega)] at h
    omega
  · rw [if_neg h, nI_toInt (by omega), nI_toInt (by omega)]
    rw [Int32.lt_iff_toInt_lt, e1, nI_toInt (by omega)] at h
    omega
set_option maxRecDepth 20000 in
theorem x_iincD {S : SPr} {d : Nat} {M : MI} {pc nx x y : Nat} {w : Int64} {ls ls' st : List Value} {lay : HL} {VI : VIT} {VL : VLT} {VR : VRT} {bc bs j q : Nat} {n : Int} {P : Post} (hc : lkp (mC M) pc = some (.iinc j n, 3, nx, x, y, -1, w)) (hl0 : ls[x]? = some (.int (nI (q + 1)))) (hs : st1 ls x (.int (nI q)) = ls') (hn : Nat.blt x (mL M) = true) (k : ExS S d M nx ls' st lay VI VL VR bc bs P) : ExS S d M pc ls st lay VI VL VR bc bs P := by
  have e : nI (q + 1) + (-1) = nI q := by
    rw [← nI_add, Int32.add_assoc, show nI 1 + (-1 : Int32) = 0 from rfl, Int32.add_zero]
  exact x_iinc hc hl0 (by rw [e]; exact hs) hn k
section Val
variable {d : Nat} {V0 V : VIT} {VL : VLT} {VR : VRT} {P : Post} {lay : HL}
set_option maxRecDepth 20000 in
theorem jo_tail {op a b r : Value} {x : Int64} (hP : P (some (.int (obr (bndI x.toInt)))) lay V VL VR) : Ex d mi78 237 [op, a, .retAddr 8, b, .retAddr 8, .long x, .retAddr 8] [] lay V VL VR 0 0 P := by
  have e1 : (1000000000 : Int64).toInt = 1000000000 := rfl
  have e2 : (-1000000000 : Int64).toInt = -1000000000 := rfl
  by_cases c : -1000000000 ≤ x.toInt ∧ x.toInt ≤ 1000000000
  · rw [bndI_some c] at hP
    refine x_lload rfl rfl ?_
    refine x_ldc2 rfl ?_
    refine x_lcmp rfl ?_
    refine x_if_gt rfl (fun c243 => ?_) (fun c243 => ?_)
    · exact absurd (lgT.mp c243) (by omega)
    refine x_lload rfl rfl ?_
    refine x_ldc2 rfl ?_
    refine x_lcmp rfl ?_
    refine x_if_ge rfl (fun c252 => ?_) (fun c252 => ?_)
    rotate_left
    · exact absurd (lgG.mpr (by omega)) c252
    refine x_lload rfl rfl ?_
    refine x_l2i rfl ?_
    rw [l2i_oI]
    refine x_iret rfl rfl ?_
    exact hP
  · rw [bndI_none c] at hP
    by_cases c2 : 1000000000 < x.toInt
    · refine x_lload rfl rfl ?_
      refine x_ldc2 rfl ?_
      refine x_lcmp rfl ?_
      refine x_if_gt rfl (fun c243 => ?_) (fun c243 => ?_)
      rotate_left
      · exact absurd (lgT.mpr (by omega)) c243
      refine x_ldc rfl ?_
      refine x_goto rfl ?_
      refine x_iret rfl rfl ?_
      exact hP
    · refine x_lload rfl rfl ?_
      refine x_ldc2 rfl ?_
      refine x_lcmp rfl ?_
      refine x_if_gt rfl (fun c243 => ?_) (fun c243 => ?_)
      · exact absurd (lgT.mp c243) (by omega)
      refine x_lload rfl rfl ?_
      refine x_ldc2 rfl ?_
      refine x_lcmp rfl ?_
      refine x_if_ge rfl (fun c252 => ?_) (fun c252 => ?_)
      · exact absurd (lgG.mp c252) (by omega)
      refine x_ldc rfl ?_
      refine x_goto rfl ?_
      refine x_iret rfl rfl ?_
      exact hP
set_option maxRecDepth 20000 in
theorem sw_def : ∀ k, k < 26 → k = 0 ∨ k = 5 ∨ k = 6 ∨ k = 8 ∨ k = 10 ∨ k = 23 ∨ k = 24 ∨ k = 25 ∨ (#[163, 231, 231, 231, 231, 135, 119, 231, 127, 231, 143, 231, 231, 231, 231, 231, 231, 231, 231, 231, 231, 231, 231, 183, 215, 199] : Array Int)[k]? = some 231 := by decide +kernel
set_option maxRecDepth 20000 in
theorem jn_bad {op : Nat} {a b : Int} (h : op ≠ 37 ∧ op ≠ 42 ∧ op ≠ 43 ∧ op ≠ 45 ∧ op ≠ 47 ∧ op ≠ 60 ∧ op ≠ 61 ∧ op ≠ 62) : jn op a b = none := by
  unfold jn
  rw [if_neg (by omega), if_neg (by omega), if_neg (by omega), if_neg (by omega), if_neg (by omega), if_neg (by omega), if_neg (by omega), if_neg (by omega)]
set_option maxRecDepth 20000 in
theorem x_joined {op : Nat} {a b : Int64} (ho : op < 1000000) (ha : -1000002000 ≤ a.toInt ∧ a.toInt ≤ 1000002000) (hb : -1000002000 ≤ b.toInt ∧ b.toInt ≤ 1000002000) (hP : P (some (.int (obr (jn op a.toInt b.toInt)))) lay V VL VR) : Ex d mi78 0 (entL [.int (nI op), .long a, .long b] 7) [] lay V VL VR 0 0 P := by
  have hot : (nI op).toInt = (op : Int) := nI_toInt (by omega)
  have hmul : (a.toInt * b.toInt).natAbs ≤ 1000002000 * 1000002000 := by
    rw [Int.natAbs_mul]; exact Nat.mul_le_mul (by omega) (by omega)
  have hdiv : (a.toInt.tdiv b.toInt).natAbs ≤ a.toInt.natAbs := by
    rw [Int.natAbs_tdiv]; exact Nat.div_le_self _ _
  have hmod : (a.toInt.tmod b.toInt).natAbs ≤ a.toInt.natAbs := by
    rw [Int.natAbs_tmod]; exact Nat.mod_le _ _
  refine x_iload_n rfl rfl ?_
  skip
  by_cases c1 : op = 43
  · subst c1
    refine x_swIn (tgt := 120) rfl (by rw [hot]; omega) (by rw [hot]; omega) rfl rfl ?_
    have e : jn 43 a.toInt b.toInt = bndI (a + b).toInt := by
      show bndI (a.toInt + b.toInt) = _
      rw [Int64.toInt_add, Int.bmod_eq_of_le (by omega) (by omega)]
    rw [e] at hP
    refine x_lload_n rfl rfl ?_
    refine x_lload_n rfl rfl ?_
    refine x_ladd rfl ?_
    refine x_lstore (ls' := [_, _, _, _, _, _, _]) rfl rfl rfl ?_
    refine x_goto rfl ?_
    exact jo_tail (r := .null) hP
  by_cases c2 : op = 45
  · subst c2
    refine x_swIn (tgt := 128) rfl (by rw [hot]; omega) (by rw [hot]; omega) rfl rfl ?_
    have e : jn 45 a.toInt b.toInt = bndI (a - b).toInt := by
      show bndI (a.toInt - b.toInt) = _
      rw [Int64.toInt_sub, Int.bmod_eq_of_le (by omega) (by omega)]
    rw [e] at hP
    refine x_lload_n rfl rfl ?_
    refine x_lload_n rfl rfl ?_
    refine x_lsub rfl ?_
    refine x_lstore (ls' := [_, _, _, _, _, _, _]) rfl rfl rfl ?_
    refine x_goto rfl ?_
    exact jo_tail (r := .null) hP
  by_cases c3 : op = 42
  · subst c3
    refine x_swIn (tgt := 136) rfl (by rw [hot]; omega) (by rw [hot]; omega) rfl rfl ?_
    have e : jn 42 a.toInt b.toInt = bndI (a * b).toInt := by
      show bndI (a.toInt * b.toInt) = _
      rw [Int64.toInt_mul, Int.bmod_eq_of_le (by omega) (by omega)]
    rw [e] at hP
    refine x_lload_n rfl rfl ?_
    refine x_lload_n rfl rfl ?_
    refine x_lmul rfl ?_
    refine x_lstore (ls' := [_, _, _, _, _, _, _]) rfl rfl rfl ?_
    refine x_goto rfl ?_
    exact jo_tail (r := .null) hP
  by_cases c4 : op = 47
  · subst c4
    refine x_swIn (tgt := 144) rfl (by rw [hot]; omega) (by rw [hot]; omega) rfl rfl ?_
    by_cases z : b.toInt = 0
    · have e : jn 47 a.toInt b.toInt = bndI (-2000000000 : Int64).toInt := by
        show (if b.toInt = 0 then none else bndI (Int.tdiv a.toInt b.toInt)) = _
        rw [if_pos z]; rfl
      rw [e] at hP
      refine x_lload_n rfl rfl ?_
      refine x_lconst rfl ?_
      refine x_lcmp rfl ?_
      refine x_if_ne rfl (fun c147 => ?_) (fun c147 => ?_)
      · exact absurd (lgE.mpr z) c147
      refine x_ldc2 rfl ?_
      refine x_goto rfl ?_
      refine x_lstore (ls' := [_, _, _, _, _, _, _]) rfl rfl rfl ?_
      refine x_goto rfl ?_
      exact jo_tail (r := .null) hP
    · have e : jn 47 a.toInt b.toInt = bndI (a / b).toInt := by
        show (if b.toInt = 0 then none else bndI (Int.tdiv a.toInt b.toInt)) = _
        rw [if_neg z, Int64.toInt_div, Int.bmod_eq_of_le (by omega) (by omega)]
      rw [e] at hP
      refine x_lload_n rfl rfl ?_
      refine x_lconst rfl ?_
      refine x_lcmp rfl ?_
      refine x_if_ne rfl (fun c147 => ?_) (fun c147 => ?_)
      rotate_left
      · exact absurd (lgE.mp c147) z
      refine x_lload_n rfl rfl ?_
      refine x_lload_n rfl rfl ?_
      refine x_ldiv rfl ((fun q => z (by rw [q]; rfl))) ?_
      refine x_lstore (ls' := [_, _, _, _, _, _, _]) rfl rfl rfl ?_
      refine x_goto rfl ?_
      exact jo_tail (r := .null) hP
  by_cases c5 : op = 37
  · subst c5
    refine x_swIn (tgt := 164) rfl (by rw [hot]; omega) (by rw [hot]; omega) rfl rfl ?_
    by_cases z : b.toInt = 0
    · have e : jn 37 a.toInt b.toInt = bndI (-2000000000 : Int64).toInt := by
        show (if b.toInt = 0 then none else bndI (Int.tmod a.toInt b.toInt)) = _
        rw [if_pos z]; rfl
      rw [e] at hP
      refine x_lload_n rfl rfl ?_
      refine x_lconst rfl ?_
      refine x_lcmp rfl ?_
      refine x_if_ne rfl (fun c167 => ?_) (fun c167 => ?_)
      · exact absurd (lgE.mpr z) c167
      refine x_ldc2 rfl ?_
      refine x_goto rfl ?_
      refine x_lstore (ls' := [_, _, _, _, _, _, _]) rfl rfl rfl ?_
      refine x_goto rfl ?_
      exact jo_tail (r := .null) hP
    · have e : jn 37 a.toInt b.toInt = bndI (a - a / b * b).toInt := by
        show (if b.toInt = 0 then none else bndI (Int.tmod a.toInt b.toInt)) = _
        have q3 := Int.mul_tdiv_add_tmod a.toInt b.toInt
        rw [Int.mul_comm] at q3
        have f1 : (a / b).toInt = a.toInt.tdiv b.toInt := by
          rw [Int64.toInt_div, Int.bmod_eq_of_le (by omega) (by omega)]
        have f2 : (a / b * b).toInt = a.toInt.tdiv b.toInt * b.toInt := by
          rw [Int64.toInt_mul, f1, Int.bmod_eq_of_le (by omega) (by omega)]
        rw [if_neg z, Int64.toInt_sub, f2, Int.bmod_eq_of_le (by omega) (by omega)]
        congr 1
        omega
      rw [e] at hP
      refine x_lload_n rfl rfl ?_
      refine x_lconst rfl ?_
      refine x_lcmp rfl ?_
      refine x_if_ne rfl (fun c167 => ?_) (fun c167 => ?_)
      rotate_left
      · exact absurd (lgE.mp c167) z
      refine x_lload_n rfl rfl ?_
      refine x_lload_n rfl rfl ?_
      refine x_lrem rfl ((fun q => z (by rw [q]; rfl))) ?_
      refine x_lstore (ls' := [_, _, _, _, _, _, _]) rfl rfl rfl ?_
      refine x_goto rfl ?_
      exact jo_tail (r := .null) hP
  by_cases c6 : op = 60
  · subst c6
    refine x_swIn (tgt := 184) rfl (by rw [hot]; omega) (by rw [hot]; omega) rfl rfl ?_
    have e : jn 60 a.toInt b.toInt = some (if a.toInt < b.toInt then 1 else 0) := rfl
    rw [e] at hP
    by_cases z : a.toInt < b.toInt
    · rw [if_pos z] at hP
      refine x_lload_n rfl rfl ?_
      refine x_lload_n rfl rfl ?_
      refine x_lcmp rfl ?_
      refine x_if_ge rfl (fun c187 => ?_) (fun c187 => ?_)
      · exact absurd (lgG.mp c187) (by omega)
      refine x_lconst rfl ?_
      refine x_goto rfl ?_
      refine x_lstore (ls' := [_, _, _, _, _, _, _]) rfl rfl rfl ?_
      refine x_goto rfl ?_
      exact jo_tail (r := .null) hP
    · rw [if_neg z] at hP
      refine x_lload_n rfl rfl ?_
      refine x_lload_n rfl rfl ?_
      refine x_lcmp rfl ?_
      refine x_if_ge rfl (fun c187 => ?_) (fun c187 => ?_)
      rotate_left
      · exact absurd (lgG.mpr (by omega)) c187
      refine x_lconst rfl ?_
      refine x_lstore (ls' := [_, _, _, _, _, _, _]) rfl rfl rfl ?_
      refine x_goto rfl ?_
      exact jo_tail (r := .null) hP
  by_cases c7 : op = 62
  · subst c7
    refine x_swIn (tgt := 200) rfl (by rw [hot]; omega) (by rw [hot]; omega) rfl rfl ?_
    have e : jn 62 a.toInt b.toInt = some (if b.toInt < a.toInt then 1 else 0) := rfl
    rw [e] at hP
    by_cases z : b.toInt < a.toInt
    · rw [if_pos z] at hP
      refine x_lload_n rfl rfl ?_
      refine x_lload_n rfl rfl ?_
      refine x_lcmp rfl ?_
      refine x_if_le rfl (fun c203 => ?_) (fun c203 => ?_)
      · exact absurd (lgL.mp c203) (by omega)
      refine x_lconst rfl ?_
      refine x_goto rfl ?_
      refine x_lstore (ls' := [_, _, _, _, _, _, _]) rfl rfl rfl ?_
      refine x_goto rfl ?_
      exact jo_tail (r := .null) hP
    · rw [if_neg z] at hP
      refine x_lload_n rfl rfl ?_
      refine x_lload_n rfl rfl ?_
      refine x_lcmp rfl ?_
      refine x_if_le rfl (fun c203 => ?_) (fun c203 => ?_)
      rotate_left
      · exact absurd (lgL.mpr (by omega)) c203
      refine x_lconst rfl ?_
      refine x_lstore (ls' := [_, _, _, _, _, _, _]) rfl rfl rfl ?_
      refine x_goto rfl ?_
      exact jo_tail (r := .null) hP
  by_cases c8 : op = 61
  · subst c8
    refine x_swIn (tgt := 216) rfl (by rw [hot]; omega) (by rw [hot]; omega) rfl rfl ?_
    have e : jn 61 a.toInt b.toInt = some (if a.toInt = b.toInt then 1 else 0) := rfl
    rw [e] at hP
    by_cases z : a.toInt = b.toInt
    · rw [if_pos z] at hP
      refine x_lload_n rfl rfl ?_
      refine x_lload_n rfl rfl ?_
      refine x_lcmp rfl ?_
      refine x_if_ne rfl (fun c219 => ?_) (fun c219 => ?_)
      · exact absurd (lgE.mpr z) c219
      refine x_lconst rfl ?_
      refine x_goto rfl ?_
      refine x_lstore (ls' := [_, _, _, _, _, _, _]) rfl rfl rfl ?_
      refine x_goto rfl ?_
      exact jo_tail (r := .null) hP
    · rw [if_neg z] at hP
      refine x_lload_n rfl rfl ?_
      refine x_lload_n rfl rfl ?_
      refine x_lcmp rfl ?_
      refine x_if_ne rfl (fun c219 => ?_) (fun c219 => ?_)
      rotate_left
      · exact absurd (lgE.mp c219) z
      refine x_lconst rfl ?_
      refine x_lstore (ls' := [_, _, _, _, _, _, _]) rfl rfl rfl ?_
      refine x_goto rfl ?_
      exact jo_tail (r := .null) hP
  have e : jn op a.toInt b.toInt = bndI (-2000000000 : Int64).toInt := jn_bad (by omega)
  rw [e] at hP
  by_cases c9 : op < 37 ∨ 62 < op
  · refine x_swOut (tgt := 232) rfl (by rw [hot]; omega) rfl ?_
    refine x_ldc2 rfl ?_
    refine x_lstore (ls' := [_, _, _, _, _, _, _]) rfl rfl rfl ?_
    exact jo_tail (r := .null) hP
  · refine x_swIn (tgt := 232) (off := 231) rfl (by rw [hot]; omega) (by rw [hot]; omega) ?_ rfl ?_
    · rw [hot, show ((op : Int) - 37).toNat = op - 37 by omega]
      rcases sw_def (op - 37) (by omega) with z | z | z | z | z | z | z | z | z <;> first | exact z | (exfalso; omega)
    · refine x_ldc2 rfl ?_
      refine x_lstore (ls' := [_, _, _, _, _, _, _]) rfl rfl rfl ?_
      exact jo_tail (r := .null) hP
end Val
