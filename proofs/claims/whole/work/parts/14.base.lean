/-! ===== array rules by Nat places ===== -/
theorem nI_lit (n : Nat) : (OfNat.ofNat n : Int32) = nI n := rfl
section XNat
variable {S : SPr} {d : Nat} {M : MI} {pc nx x y : Nat} {v : Int32} {w : Int64} {ls ls' st : List Value} {lay : HL} {VI : VIT} {VL : VLT} {VR : VRT} {bc bs : Nat} {P : Post}
theorem x_ialN {a n j : Nat} {i : Int32} (hc : lkp (mC M) pc = some (.iaload, 1, nx, x, y, v, w)) (hy : lay[a]? = some (.inl (0, n))) (e : i = nI j) (hj : j < n) (k : ExS S d M nx ls (.int (VI a j) :: st) lay VI VL VR bc bs P) (hn : Nat.blt n 2147483648 = true := by rfl) : ExS S d M pc ls (.int i :: .ref a :: st) lay VI VL VR bc bs P := by
  have hn2 : n < 2147483648 := by simpa using hn
  subst e
  refine x_iaload hc hy (vp_in_nI hj (by omega)) ?_
  rw [nI_clamp (by omega)]
  exact k
theorem x_balN {a n j : Nat} {i : Int32} (hc : lkp (mC M) pc = some (.baload, 1, nx, x, y, v, w)) (hy : lay[a]? = some (.inl (1, n))) (e : i = nI j) (hj : j < n) (k : ExS S d M nx ls (.int (VI a j) :: st) lay VI VL VR bc bs P) (hn : Nat.blt n 2147483648 = true := by rfl) : ExS S d M pc ls (.int i :: .ref a :: st) lay VI VL VR bc bs P := by
  have hn2 : n < 2147483648 := by simpa using hn
  subst e
  refine x_baload hc hy (vp_in_nI hj (by omega)) ?_
  rw [nI_clamp (by omega)]
  exact k
theorem x_zalN {a n j : Nat} {i : Int32} (hc : lkp (mC M) pc = some (.baload, 1, nx, x, y, v, w)) (hy : lay[a]? = some (.inl (2, n))) (e : i = nI j) (hj : j < n) (k : ExS S d M nx ls (.int (VI a j) :: st) lay VI VL VR bc bs P) (hn : Nat.blt n 2147483648 = true := by rfl) : ExS S d M pc ls (.int i :: .ref a :: st) lay VI VL VR bc bs P := by
  have hn2 : n < 2147483648 := by simpa using hn
  subst e
  refine x_zaload hc hy (vp_in_nI hj (by omega)) ?_
  rw [nI_clamp (by omega)]
  exact k
theorem x_lalN {a n j : Nat} {i : Int32} (hc : lkp (mC M) pc = some (.laload, 1, nx, x, y, v, w)) (hy : lay[a]? = some (.inl (3, n))) (e : i = nI j) (hj : j < n) (k : ExS S d M nx ls (.long (VL a j) :: st) lay VI VL VR bc bs P) (hn : Nat.blt n 2147483648 = true := by rfl) : ExS S d M pc ls (.int i :: .ref a :: st) lay VI VL VR bc bs P := by
  have hn2 : n < 2147483648 := by simpa using hn
  subst e
  refine x_laload hc hy (vp_in_nI hj (by omega)) ?_
  rw [nI_clamp (by omega)]
  exact k
theorem x_iasN {a n j : Nat} {i u : Int32} (hc : lkp (mC M) pc = some (.iastore, 1, nx, x, y, v, w)) (hy : lay[a]? = some (.inl (0, n))) (e : i = nI j) (hj : j < n) (k : ExS S d M nx ls st lay (up VI a j u) VL VR bc bs P) (hn : Nat.blt n 2147483648 = true := by rfl) : ExS S d M pc ls (.int u :: .int i :: .ref a :: st) lay VI VL VR bc bs P := by
  have hn2 : n < 2147483648 := by simpa using hn
  subst e
  refine x_iastore hc hy (vp_in_nI hj (by omega)) ?_
  rw [nI_clamp (by omega)]
  exact k
theorem x_basN {a n j : Nat} {i u : Int32} (hc : lkp (mC M) pc = some (.bastore, 1, nx, x, y, v, w)) (hy : lay[a]? = some (.inl (1, n))) (e : i = nI j) (hj : j < n) (k : ExS S d M nx ls st lay (up VI a j u.toInt8.toInt32) VL VR bc bs P) (hn : Nat.blt n 2147483648 = true := by rfl) : ExS S d M pc ls (.int u :: .int i :: .ref a :: st) lay VI VL VR bc bs P := by
  have hn2 : n < 2147483648 := by simpa using hn
  subst e
  refine x_bastore hc hy (vp_in_nI hj (by omega)) ?_
  rw [nI_clamp (by omega)]
  exact k
theorem x_zasN {a n j : Nat} {i u : Int32} (hc : lkp (mC M) pc = some (.bastore, 1, nx, x, y, v, w)) (hy : lay[a]? = some (.inl (2, n))) (e : i = nI j) (hj : j < n) (k : ExS S d M nx ls st lay (up VI a j (vp_nar .boolean u)) VL VR bc bs P) (hn : Nat.blt n 2147483648 = true := by rfl) : ExS S d M pc ls (.int u :: .int i :: .ref a :: st) lay VI VL VR bc bs P := by
  have hn2 : n < 2147483648 := by simpa using hn
  subst e
  refine x_zastore hc hy (vp_in_nI hj (by omega)) ?_
  rw [nI_clamp (by omega)]
  exact k
theorem x_lasN {a n j : Nat} {i : Int32} {u : Int64} (hc : lkp (mC M) pc = some (.lastore, 1, nx, x, y, v, w)) (hy : lay[a]? = some (.inl (3, n))) (e : i = nI j) (hj : j < n) (k : ExS S d M nx ls st lay VI (up VL a j u) VR bc bs P) (hn : Nat.blt n 2147483648 = true := by rfl) : ExS S d M pc ls (.long u :: .int i :: .ref a :: st) lay VI VL VR bc bs P := by
  have hn2 : n < 2147483648 := by simpa using hn
  subst e
  refine x_lastore hc hy (vp_in_nI hj (by omega)) ?_
  rw [nI_clamp (by omega)]
  exact k
end XNat
