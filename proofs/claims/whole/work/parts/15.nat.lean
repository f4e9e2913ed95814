/-! ===== rules over nI ===== -/
theorem nb_s : ∀ n, n < 32 → ((nI n &&& 31).toBitVec.smod 32).toNat = n := by decide +kernel
theorem nb_shl {a b : Nat} (hb : b < 32) (h : a * 2 ^ b < 4294967296) : nI a <<< (nI b &&& 31) = nI (a * 2 ^ b) := pk_shlN _ b (nb_s b hb) h
theorem nb_shr {a b : Nat} (hb : b < 32) (h : a < 2147483648) : nI a >>> (nI b &&& 31) = nI (a / 2 ^ b) := pk_shrN h _ b (nb_s b hb)
theorem nb_bv (n : Nat) : (nI n).toBitVec = BitVec.ofNat 32 n := rfl
theorem nb_inj {a b : Int32} (h : a.toBitVec = b.toBitVec) : a = b := Int32.toBitVec_inj.mp h
theorem nb_and (a b : Nat) : nI a &&& nI b = nI (a &&& b) := nb_inj (by rw [Int32.toBitVec_and, nb_bv, nb_bv, nb_bv]; exact (BitVec.ofNat_and ..).symm)
theorem nb_or (a b : Nat) : nI a ||| nI b = nI (a ||| b) := nb_inj (by rw [Int32.toBitVec_or, nb_bv, nb_bv, nb_bv]; exact (BitVec.ofNat_or ..).symm)
theorem nb_xor (a b : Nat) : nI a ^^^ nI b = nI (a ^^^ b) := nb_inj (by rw [Int32.toBitVec_xor, nb_bv, nb_bv, nb_bv]; exact (BitVec.ofNat_xor ..).symm)
section XNn
variable {S : SPr} {d : Nat} {M : MI} {pc nx x y : Nat} {v : Int32} {w : Int64} {ls ls' st : List Value} {lay : HL} {VI : VIT} {VL : VLT} {VR : VRT} {bc bs : Nat} {P : Post}
theorem x_iaddN (hc : lkp (mC M) pc = some (.iadd, 1, nx, x, y, v, w)) {a b : Nat} (k : ExS S d M nx ls (.int (nI (a + b)) :: st) lay VI VL VR bc bs P)  : ExS S d M pc ls (.int (nI b) :: .int (nI a) :: st) lay VI VL VR bc bs P := by
  refine x_iadd hc ?_
  rw [nI_add]
  exact k
theorem x_imulN (hc : lkp (mC M) pc = some (.imul, 1, nx, x, y, v, w)) {a b : Nat} (k : ExS S d M nx ls (.int (nI (a * b)) :: st) lay VI VL VR bc bs P)  : ExS S d M pc ls (.int (nI b) :: .int (nI a) :: st) lay VI VL VR bc bs P := by
  refine x_imul hc ?_
  rw [pk_mul]
  exact k
theorem x_isubN (hc : lkp (mC M) pc = some (.isub, 1, nx, x, y, v, w)) {a b : Nat} (k : ExS S d M nx ls (.int (nI (a - b)) :: st) lay VI VL VR bc bs P) (h : b ≤ a := by omega) : ExS S d M pc ls (.int (nI b) :: .int (nI a) :: st) lay VI VL VR bc bs P := by
  refine x_isub hc ?_
  rw [pk_sub h]
  exact k
theorem x_iandN (hc : lkp (mC M) pc = some (.iand, 1, nx, x, y, v, w)) {a b : Nat} (k : ExS S d M nx ls (.int (nI (a &&& b)) :: st) lay VI VL VR bc bs P)  : ExS S d M pc ls (.int (nI b) :: .int (nI a) :: st) lay VI VL VR bc bs P := by
  refine x_iand hc ?_
  rw [nb_and]
  exact k
theorem x_iandM1 (hc : lkp (mC M) pc = some (.iand, 1, nx, x, y, v, w)) {a : Nat} (k : ExS S d M nx ls (.int (nI (a % 2)) :: st) lay VI VL VR bc bs P) : ExS S d M pc ls (.int (nI 1) :: .int (nI a) :: st) lay VI VL VR bc bs P := by
  refine x_iandN (b := 1) hc ?_
  rw [show a &&& 1 = a % 2 from Nat.and_two_pow_sub_one_eq_mod a 1]
  exact k
theorem x_iandM3 (hc : lkp (mC M) pc = some (.iand, 1, nx, x, y, v, w)) {a : Nat} (k : ExS S d M nx ls (.int (nI (a % 4)) :: st) lay VI VL VR bc bs P) : ExS S d M pc ls (.int (nI 3) :: .int (nI a) :: st) lay VI VL VR bc bs P := by
  refine x_iandN (b := 3) hc ?_
  rw [show a &&& 3 = a % 4 from Nat.and_two_pow_sub_one_eq_mod a 2]
  exact k
theorem x_iandM7 (hc : lkp (mC M) pc = some (.iand, 1, nx, x, y, v, w)) {a : Nat} (k : ExS S d M nx ls (.int (nI (a % 8)) :: st) lay VI VL VR bc bs P) : ExS S d M pc ls (.int (nI 7) :: .int (nI a) :: st) lay VI VL VR bc bs P := by
  refine x_iandN (b := 7) hc ?_
  rw [show a &&& 7 = a % 8 from Nat.and_two_pow_sub_one_eq_mod a 3]
  exact k
theorem x_iandM31 (hc : lkp (mC M) pc = some (.iand, 1, nx, x, y, v, w)) {a : Nat} (k : ExS S d M nx ls (.int (nI (a % 32)) :: st) lay VI VL VR bc bs P) : ExS S d M pc ls (.int (nI 31) :: .int (nI a) :: st) lay VI VL VR bc bs P := by
  refine x_iandN (b := 31) hc ?_
  rw [show a &&& 31 = a % 32 from Nat.and_two_pow_sub_one_eq_mod a 5]
  exact k
theorem x_iandM63 (hc : lkp (mC M) pc = some (.iand, 1, nx, x, y, v, w)) {a : Nat} (k : ExS S d M nx ls (.int (nI (a % 64)) :: st) lay VI VL VR bc bs P) : ExS S d M pc ls (.int (nI 63) :: .int (nI a) :: st) lay VI VL VR bc bs P := by
  refine x_iandN (b := 63) hc ?_
  rw [show a &&& 63 = a % 64 from Nat.and_two_pow_sub_one_eq_mod a 6]
  exact k
theorem x_iandM255 (hc : lkp (mC M) pc = some (.iand, 1, nx, x, y, v, w)) {a : Nat} (k : ExS S d M nx ls (.int (nI (a % 256)) :: st) lay VI VL VR bc bs P) : ExS S d M pc ls (.int (nI 255) :: .int (nI a) :: st) lay VI VL VR bc bs P := by
  refine x_iandN (b := 255) hc ?_
  rw [show a &&& 255 = a % 256 from Nat.and_two_pow_sub_one_eq_mod a 8]
  exact k
theorem x_iorN (hc : lkp (mC M) pc = some (.ior, 1, nx, x, y, v, w)) {a b : Nat} (k : ExS S d M nx ls (.int (nI (a ||| b)) :: st) lay VI VL VR bc bs P)  : ExS S d M pc ls (.int (nI b) :: .int (nI a) :: st) lay VI VL VR bc bs P := by
  refine x_ior hc ?_
  rw [nb_or]
  exact k
theorem x_ixorN (hc : lkp (mC M) pc = some (.ixor, 1, nx, x, y, v, w)) {a b : Nat} (k : ExS S d M nx ls (.int (nI (a ^^^ b)) :: st) lay VI VL VR bc bs P)  : ExS S d M pc ls (.int (nI b) :: .int (nI a) :: st) lay VI VL VR bc bs P := by
  refine x_ixor hc ?_
  rw [nb_xor]
  exact k
theorem x_ishlN (hc : lkp (mC M) pc = some (.ishl, 1, nx, x, y, v, w)) {a b : Nat} (k : ExS S d M nx ls (.int (nI (a * 2 ^ b)) :: st) lay VI VL VR bc bs P) (hb : b < 32 := by omega) (h : a * 2 ^ b < 4294967296 := by omega) : ExS S d M pc ls (.int (nI b) :: .int (nI a) :: st) lay VI VL VR bc bs P := by
  refine x_ishl hc ?_
  rw [nb_shl hb h]
  exact k
theorem x_ishrN (hc : lkp (mC M) pc = some (.ishr, 1, nx, x, y, v, w)) {a b : Nat} (k : ExS S d M nx ls (.int (nI (a / 2 ^ b)) :: st) lay VI VL VR bc bs P) (hb : b < 32 := by omega) (h : a < 2147483648 := by omega) : ExS S d M pc ls (.int (nI b) :: .int (nI a) :: st) lay VI VL VR bc bs P := by
  refine x_ishr hc ?_
  rw [nb_shr hb h]
  exact k
theorem x_idivN (hc : lkp (mC M) pc = some (.idiv, 1, nx, x, y, v, w)) {a b : Nat} (k : ExS S d M nx ls (.int (nI (a / b)) :: st) lay VI VL VR bc bs P) (h0 : 0 < b := by omega) (ha : a < 2147483648 := by omega) (hb : b < 2147483648 := by omega) : ExS S d M pc ls (.int (nI b) :: .int (nI a) :: st) lay VI VL VR bc bs P := by
  refine x_idiv hc (nI_ne0 h0 (by omega)) ?_
  rw [pk_div ha h0 hb]
  exact k
theorem x_iremN (hc : lkp (mC M) pc = some (.irem, 1, nx, x, y, v, w)) {a b : Nat} (k : ExS S d M nx ls (.int (nI (a % b)) :: st) lay VI VL VR bc bs P) (h0 : 0 < b := by omega) (ha : a < 2147483648 := by omega) (hb : b < 2147483648 := by omega) : ExS S d M pc ls (.int (nI b) :: .int (nI a) :: st) lay VI VL VR bc bs P := by
  refine x_irem hc (nI_ne0 h0 (by omega)) ?_
  rw [pk_rem ha h0 hb]
  exact k
theorem x_icmpN_eq {off : Int} (hc : lkp (mC M) pc = some (.if_icmp .eq off, 3, nx, x, y, v, w)) {i j : Nat} (kt : i = j → ExS S d M x ls st lay VI VL VR bc bs P) (kf : ¬ i = j → ExS S d M nx ls st lay VI VL VR bc bs P) (hi : i < 2147483648 := by omega) (hj : j < 2147483648 := by omega) : ExS S d M pc ls (.int (nI j) :: .int (nI i) :: st) lay VI VL VR bc bs P :=
  x_icmp_eq hc (fun h => kt ((nI_eq hi hj).mp h)) (fun h => kf (fun e => h (congrArg nI e)))
theorem x_icmpN_ne {off : Int} (hc : lkp (mC M) pc = some (.if_icmp .ne off, 3, nx, x, y, v, w)) {i j : Nat} (kt : ¬ i = j → ExS S d M x ls st lay VI VL VR bc bs P) (kf : i = j → ExS S d M nx ls st lay VI VL VR bc bs P) (hi : i < 2147483648 := by omega) (hj : j < 2147483648 := by omega) : ExS S d M pc ls (.int (nI j) :: .int (nI i) :: st) lay VI VL VR bc bs P :=
  x_icmp_ne hc (fun h => kt (fun e => h (congrArg nI e))) (fun h => kf ((nI_eq hi hj).mp h))
theorem x_icmpN_lt {off : Int} (hc : lkp (mC M) pc = some (.if_icmp .lt off, 3, nx, x, y, v, w)) {i j : Nat} (kt : i < j → ExS S d M x ls st lay VI VL VR bc bs P) (kf : j ≤ i → ExS S d M nx ls st lay VI VL VR bc bs P) (hi : i < 2147483648 := by omega) (hj : j < 2147483648 := by omega) : ExS S d M pc ls (.int (nI j) :: .int (nI i) :: st) lay VI VL VR bc bs P :=
  x_icmp_lt hc (fun h => kt ((nI_ltI hi hj).mp h)) (fun h => kf (Nat.not_lt.mp (fun e => h ((nI_ltI hi hj).mpr e))))
theorem x_icmpN_ge {off : Int} (hc : lkp (mC M) pc = some (.if_icmp .ge off, 3, nx, x, y, v, w)) {i j : Nat} (kt : j ≤ i → ExS S d M x ls st lay VI VL VR bc bs P) (kf : i < j → ExS S d M nx ls st lay VI VL VR bc bs P) (hi : i < 2147483648 := by omega) (hj : j < 2147483648 := by omega) : ExS S d M pc ls (.int (nI j) :: .int (nI i) :: st) lay VI VL VR bc bs P :=
  x_icmp_ge hc (fun h => kt ((nI_leI hj hi).mp h)) (fun h => kf (Nat.not_le.mp (fun e => h ((nI_leI hj hi).mpr e))))
theorem x_icmpN_gt {off : Int} (hc : lkp (mC M) pc = some (.if_icmp .gt off, 3, nx, x, y, v, w)) {i j : Nat} (kt : j < i → ExS S d M x ls st lay VI VL VR bc bs P) (kf : i ≤ j → ExS S d M nx ls st lay VI VL VR bc bs P) (hi : i < 2147483648 := by omega) (hj : j < 2147483648 := by omega) : ExS S d M pc ls (.int (nI j) :: .int (nI i) :: st) lay VI VL VR bc bs P :=
  x_icmp_gt hc (fun h => kt ((nI_ltI hj hi).mp h)) (fun h => kf (Nat.not_lt.mp (fun e => h ((nI_ltI hj hi).mpr e))))
theorem x_icmpN_le {off : Int} (hc : lkp (mC M) pc = some (.if_icmp .le off, 3, nx, x, y, v, w)) {i j : Nat} (kt : i ≤ j → ExS S d M x ls st lay VI VL VR bc bs P) (kf : j < i → ExS S d M nx ls st lay VI VL VR bc bs P) (hi : i < 2147483648 := by omega) (hj : j < 2147483648 := by omega) : ExS S d M pc ls (.int (nI j) :: .int (nI i) :: st) lay VI VL VR bc bs P :=
  x_icmp_le hc (fun h => kt ((nI_leI hi hj).mp h)) (fun h => kf (Nat.not_le.mp (fun e => h ((nI_leI hi hj).mpr e))))
theorem x_ifN_eq {off : Int} (hc : lkp (mC M) pc = some (.ifCond .eq off, 3, nx, x, y, v, w)) {i : Nat} (kt : i = 0 → ExS S d M x ls st lay VI VL VR bc bs P) (kf : 0 < i → ExS S d M nx ls st lay VI VL VR bc bs P) (hi : i < 2147483648 := by omega) : ExS S d M pc ls (.int (nI i) :: st) lay VI VL VR bc bs P :=
  x_if_eq hc (fun h => kt (by rcases Nat.eq_zero_or_pos i with q | q; exact q; exact absurd h (nI_ne0 q (by omega)))) (fun h => kf (Nat.pos_of_ne_zero (fun e => h (by rw [e]; rfl))))
theorem x_ifN_ne {off : Int} (hc : lkp (mC M) pc = some (.ifCond .ne off, 3, nx, x, y, v, w)) {i : Nat} (kt : 0 < i → ExS S d M x ls st lay VI VL VR bc bs P) (kf : i = 0 → ExS S d M nx ls st lay VI VL VR bc bs P) (hi : i < 2147483648 := by omega) : ExS S d M pc ls (.int (nI i) :: st) lay VI VL VR bc bs P :=
  x_if_ne hc (fun h => kt (Nat.pos_of_ne_zero (fun e => h (by rw [e]; rfl)))) (fun h => kf (by rcases Nat.eq_zero_or_pos i with q | q; exact q; exact absurd h (nI_ne0 q (by omega))))
theorem x_ifN_lt {off : Int} (hc : lkp (mC M) pc = some (.ifCond .lt off, 3, nx, x, y, v, w)) {i : Nat} (kf : ExS S d M nx ls st lay VI VL VR bc bs P) (hi : i < 2147483648 := by omega) : ExS S d M pc ls (.int (nI i) :: st) lay VI VL VR bc bs P :=
  x_if_lt hc (fun h => absurd h (nI_pos (by omega))) (fun _ => kf)
theorem x_ifN_ge {off : Int} (hc : lkp (mC M) pc = some (.ifCond .ge off, 3, nx, x, y, v, w)) {i : Nat} (kt : ExS S d M x ls st lay VI VL VR bc bs P) (hi : i < 2147483648 := by omega) : ExS S d M pc ls (.int (nI i) :: st) lay VI VL VR bc bs P :=
  x_if_ge hc (fun _ => kt) (fun h => absurd (nI_pos' (by omega)) h)
theorem x_ifN_le {off : Int} (hc : lkp (mC M) pc = some (.ifCond .le off, 3, nx, x, y, v, w)) {i : Nat} (kt : i = 0 → ExS S d M x ls st lay VI VL VR bc bs P) (kf : 0 < i → ExS S d M nx ls st lay VI VL VR bc bs P) (hi : i < 2147483648 := by omega) : ExS S d M pc ls (.int (nI i) :: st) lay VI VL VR bc bs P :=
  x_if_le hc (fun h => kt (by rcases Nat.eq_zero_or_pos i with q | q; exact q; exact absurd h (nI_nle q (by omega)))) (fun h => kf (Nat.pos_of_ne_zero (fun e => h (by rw [e]; decide))))
theorem x_ifN_gt {off : Int} (hc : lkp (mC M) pc = some (.ifCond .gt off, 3, nx, x, y, v, w)) {i : Nat} (kt : 0 < i → ExS S d M x ls st lay VI VL VR bc bs P) (kf : i = 0 → ExS S d M nx ls st lay VI VL VR bc bs P) (hi : i < 2147483648 := by omega) : ExS S d M pc ls (.int (nI i) :: st) lay VI VL VR bc bs P :=
  x_if_gt hc (fun h => kt (Nat.pos_of_ne_zero (fun e => by rw [e] at h; exact absurd h (by decide)))) (fun h => kf (by rcases Nat.eq_zero_or_pos i with q | q; exact q; exact absurd (Int32.not_le.mp (nI_nle q (by omega))) h))
theorem x_iincN {j : Nat} {n : Int} {q : Nat} (hc : lkp (mC M) pc = some (.iinc j n, 3, nx, x, y, nI q, w)) {a : Nat} (hl0 : ls[x]? = some (.int (nI a))) (hs : st1 ls x (.int (nI (a + q))) = ls') (hn : Nat.blt x (mL M) = true) (k : ExS S d M nx ls' st lay VI VL VR bc bs P) : ExS S d M pc ls st lay VI VL VR bc bs P :=
  x_iinc hc hl0 (by rw [nI_add]; exact hs) hn k
theorem x_iconstN {n : Int} {q : Nat} (hc : lkp (mC M) pc = some (.iconst n, 1, nx, x, y, nI q, w)) (k : ExS S d M nx ls (.int (nI q) :: st) lay VI VL VR bc bs P) : ExS S d M pc ls st lay VI VL VR bc bs P := x_iconst hc k
theorem x_bipushN {n : Int} {q : Nat} (hc : lkp (mC M) pc = some (.bipush n, 2, nx, x, y, nI q, w)) (k : ExS S d M nx ls (.int (nI q) :: st) lay VI VL VR bc bs P) : ExS S d M pc ls st lay VI VL VR bc bs P := x_bipush hc k
theorem x_sipushN {n : Int} {q : Nat} (hc : lkp (mC M) pc = some (.sipush n, 3, nx, x, y, nI q, w)) (k : ExS S d M nx ls (.int (nI q) :: st) lay VI VL VR bc bs P) : ExS S d M pc ls st lay VI VL VR bc bs P := x_sipush hc k
theorem x_ldcN {i q : Nat} (hc : lkp (mC M) pc = some (.ldc i, 2, nx, 0, y, nI q, w)) (k : ExS S d M nx ls (.int (nI q) :: st) lay VI VL VR bc bs P) : ExS S d M pc ls st lay VI VL VR bc bs P := x_ldc hc k
theorem x_getE {i : Nat} (hc : lkp (mC M) pc = some (.getfield i, 3, nx, x, y, v, w)) {a : Nat} {u : Int32} (hy : lay[a]? = some (.inr x)) (ht : intTy (cty x y) = true) (e : VI a y = u) (k : ExS S d M nx ls (.int u :: st) lay VI VL VR bc bs P) (hx13 : x < 13 := by decide) : ExS S d M pc ls (.ref a :: st) lay VI VL VR bc bs P :=
  x_getI hc hy ht (e ▸ k) hx13
theorem x_ialE {a n j : Nat} {i u : Int32} (hc : lkp (mC M) pc = some (.iaload, 1, nx, x, y, v, w)) (hy : lay[a]? = some (.inl (0, n))) (e : i = nI j) (hj : j < n) (e2 : VI a j = u) (k : ExS S d M nx ls (.int u :: st) lay VI VL VR bc bs P) (hn : Nat.blt n 2147483648 = true := by rfl) : ExS S d M pc ls (.int i :: .ref a :: st) lay VI VL VR bc bs P :=
  x_ialN hc hy e hj (e2 ▸ k) hn
end XNn
theorem P_i {P : Post} {a b : Int32} {lay : HL} {VI : VIT} {VL : VLT} {VR : VRT} (e : a = b) (h : P (some (.int b)) lay VI VL VR) : P (some (.int a)) lay VI VL VR := e ▸ h
