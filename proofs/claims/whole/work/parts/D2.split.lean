/-! ===== both sides split a tape ===== -/
def sB (t : Nat) : Int32 := (nI t).toInt8.toInt32
set_option maxRecDepth 20000 in
theorem sB_lt : ∀ t, t < 128 → sB t = nI t := by decide +kernel
set_option maxRecDepth 20000 in
theorem sB_ge : ∀ t, t < 256 → 128 ≤ t → sB t < 0 := by decide +kernel
set_option maxRecDepth 20000 in
theorem sB_and : ∀ t, t < 256 → sB t &&& 255 = nI t := by decide +kernel
set_option maxRecDepth 20000 in
theorem sB_eq {c t : Nat} (hc : c < 128) (ht : t < 256) : nI c = sB t ↔ c = t := by
  by_cases h : t < 128
  · rw [sB_lt t h]
    exact ⟨fun z => Classical.byContradiction (fun n => nI_ne (by omega) (by omega) n z), fun z => by rw [z]⟩
  · refine ⟨fun z => ?_, fun z => by omega⟩
    have h1 := sB_ge t ht (by omega)
    rw [← z, Int32.lt_iff_toInt_lt, nI_toInt (by omega), show (0 : Int32).toInt = 0 from rfl] at h1
    omega
def ltr (t : Nat) : Bool := decide (97 ≤ t ∧ t ≤ 122)
def dgt (t : Nat) : Bool := decide (48 ≤ t ∧ t ≤ 57)
set_option maxRecDepth 20000 in
theorem sB_ltr : ∀ t, t < 256 → (ltr t = true ↔ ¬ sB t < 97 ∧ ¬ 122 < sB t) := by decide +kernel
set_option maxRecDepth 20000 in
theorem sB_dgt : ∀ t, t < 256 → (dgt t = true ↔ ¬ sB t < 48 ∧ ¬ 57 < sB t) := by decide +kernel
set_option maxRecDepth 20000 in
theorem mW_V : ∀ j, j < 139 → VIm 80 j = nI (mW j) := by decide +kernel
/-- the end of a run of bytes -/
def rnE (p : Nat → Bool) (T : Nat → Nat) (n : Nat) : Nat → Nat → Nat
  | 0, k => k
  | m + 1, k => if k < n ∧ p (T k) = true then rnE p T n m (k + 1) else k
set_option maxRecDepth 20000 in
theorem rnE_le {p : Nat → Bool} {T : Nat → Nat} {n : Nat} : ∀ (m k : Nat), k ≤ rnE p T n m k ∧ (k ≤ n → rnE p T n m k ≤ n)
  | 0, k => ⟨Nat.le_refl _, fun h => h⟩
  | m + 1, k => by
    unfold rnE
    split
    · rename_i h
      have := rnE_le (p := p) (T := T) (n := n) m (k + 1)
      exact ⟨by omega, fun _ => this.2 (by omega)⟩
    · exact ⟨Nat.le_refl _, fun h => h⟩
/-- the end of the token that begins at k -/
def tkE (T : Nat → Nat) (n k : Nat) : Nat := if ltr (T k) = true then rnE ltr T n (n - (k + 1)) (k + 1) else if dgt (T k) = true then rnE dgt T n (n - (k + 1)) (k + 1) else k + 1
set_option maxRecDepth 20000 in
theorem tkE_lt {T : Nat → Nat} {n k : Nat} (h : k < n) : k < tkE T n k ∧ tkE T n k ≤ n := by
  unfold tkE
  split
  · have := rnE_le (p := ltr) (T := T) (n := n) (n - (k + 1)) (k + 1)
    exact ⟨by omega, this.2 (by omega)⟩
  · split
    · have := rnE_le (p := dgt) (T := T) (n := n) (n - (k + 1)) (k + 1)
      exact ⟨by omega, this.2 (by omega)⟩
    · omega
/-- the tokens of a tape: from, to -/
def tks (T : Nat → Nat) (n : Nat) : Nat → Nat → List (Nat × Nat)
  | 0, _ => []
  | m + 1, k => if k < n then (if T k = 32 then tks T n m (k + 1) else (k, tkE T n k) :: tks T n m (tkE T n k)) else []
abbrev Tks (T : Nat → Nat) (n : Nat) : List (Nat × Nat) := tks T n n 0
set_option maxRecDepth 20000 in
theorem tks_len {T : Nat → Nat} {n : Nat} : ∀ (m k : Nat), (tks T n m k).length ≤ n - k
  | 0, k => Nat.zero_le _
  | m + 1, k => by
    unfold tks
    split
    · rename_i h
      split
      · have := tks_len (T := T) (n := n) m (k + 1); omega
      · have := tks_len (T := T) (n := n) m (tkE T n k)
        have h2 := tkE_lt (T := T) h
        simp only [List.length_cons]
        omega
    · exact Nat.zero_le _
def nmC (T : Nat → Nat) : Nat → Nat → Nat → Nat
  | 0, _, x => x
  | m + 1, k, x => nmC T m (k + 1) (if 1000000 < x * 10 + T k - 48 then 1000000 else x * 10 + T k - 48)
def nmM (T : Nat → Nat) : Nat → Nat → Nat → Nat
  | 0, _, x => x
  | m + 1, k, x => nmM T m (k + 1) (if 1000000 < x then x else 10 * x + T k - 48)
set_option maxRecDepth 20000 in
theorem nm_same {T : Nat → Nat} : ∀ (m k x y : Nat), x = min y 1000000 → (∀ i, k ≤ i → i < k + m → 48 ≤ T i ∧ T i ≤ 57) → nmC T m k x = min (nmM T m k y) 1000000
  | 0, _, x, y, h, _ => h
  | m + 1, k, x, y, h, hT => by
    have h1 := hT k (by omega) (by omega)
    unfold nmC nmM
    refine nm_same m (k + 1) _ _ ?_ (fun i a b => hT i (by omega) (by omega))
    by_cases c : 1000000 < y
    · rw [if_pos c]
      split <;> omega
    · rw [if_neg c]
      split <;> omega
/-- what the class makes of a token -/
def CTk (T : Nat → Nat) (a b t : Nat) : Prop := (ltr (T a) = true ∧ WrC T a b t) ∨ (ltr (T a) = false ∧ dgt (T a) = true ∧ t = 1000 + nmC T (b - a) a 0) ∨ (ltr (T a) = false ∧ dgt (T a) = false ∧ t = T a)
/-- what the model makes of a token -/
def MTk (T : Nat → Nat) (a b c v : Nat) : Prop := (ltr (T a) = true ∧ WrM T a b c ∧ v = 0) ∨ (ltr (T a) = false ∧ dgt (T a) = true ∧ c = 50 ∧ v = nmM T (b - a) a 0) ∨ (ltr (T a) = false ∧ dgt (T a) = false ∧ c = 100 + T a ∧ v = 0)
section Split
variable {d : Nat} {V0 V : VIT} {VL : VLT} {G : VRT} {P : Post} {ext : HL} {T : Nat → Nat} {tn n : Nat}
set_option maxRecDepth 20000 in
theorem x_isLetter {lay : HL} {VR : VRT} {t : Nat} (ht : t < 256) (hP : P (some (.int (b1 (ltr t)))) lay V VL VR) : Ex d mi46 0 (entL [.int (nI t)] 1) [] lay V VL VR 0 0 P := by
  by_cases c : 97 ≤ t ∧ t ≤ 122
  · have e : ltr t = true := decide_eq_true c
    rw [e] at hP
    refine x_iload_n rfl rfl ?_
    refine x_bipushN (q := 97) rfl ?_
    refine x_icmpN_lt rfl (fun c3 => ?_) (fun c3 => ?_)
    · exact absurd c3 (by first | decide | omega)
    refine x_iload_n rfl rfl ?_
    refine x_bipushN (q := 122) rfl ?_
    refine x_icmpN_gt rfl (fun c9 => ?_) (fun c9 => ?_)
    · exact absurd c9 (by first | decide | omega)
    refine x_iconstN (q := 1) rfl ?_
    refine x_goto rfl ?_
    refine x_zret rfl rfl (by first | exact Or.inl rfl | exact Or.inr rfl) ?_
    exact hP
  · have e : ltr t = false := decide_eq_false c
    rw [e] at hP
    refine x_iload_n rfl rfl ?_
    refine x_bipushN (q := 97) rfl ?_
    refine x_icmpN_lt rfl (fun c3 => ?_) (fun c3 => ?_)
    · refine x_iconstN (q := 0) rfl ?_
      refine x_zret rfl rfl (by first | exact Or.inl rfl | exact Or.inr rfl) ?_
      exact hP
    · refine x_iload_n rfl rfl ?_
      refine x_bipushN (q := 122) rfl ?_
      refine x_icmpN_gt rfl (fun c9 => ?_) (fun c9 => ?_)
      · refine x_iconstN (q := 0) rfl ?_
        refine x_zret rfl rfl (by first | exact Or.inl rfl | exact Or.inr rfl) ?_
        exact hP
      · exact absurd (⟨by omega, by omega⟩ : 97 ≤ t ∧ t ≤ 122) c
set_option maxRecDepth 20000 in
theorem x_isDigit {lay : HL} {VR : VRT} {t : Nat} (ht : t < 256) (hP : P (some (.int (b1 (dgt t)))) lay V VL VR) : Ex d mi47 0 (entL [.int (nI t)] 1) [] lay V VL VR 0 0 P := by
  by_cases c : 48 ≤ t ∧ t ≤ 57
  · have e : dgt t = true := decide_eq_true c
    rw [e] at hP
    refine x_iload_n rfl rfl ?_
    refine x_bipushN (q := 48) rfl ?_
    refine x_icmpN_lt rfl (fun c3 => ?_) (fun c3 => ?_)
    · exact absurd c3 (by first | decide | omega)
    refine x_iload_n rfl rfl ?_
    refine x_bipushN (q := 57) rfl ?_
    refine x_icmpN_gt rfl (fun c9 => ?_) (fun c9 => ?_)
    · exact absurd c9 (by first | decide | omega)
    refine x_iconstN (q := 1) rfl ?_
    refine x_goto rfl ?_
    refine x_zret rfl rfl (by first | exact Or.inl rfl | exact Or.inr rfl) ?_
    exact hP
  · have e : dgt t = false := decide_eq_false c
    rw [e] at hP
    refine x_iload_n rfl rfl ?_
    refine x_bipushN (q := 48) rfl ?_
    refine x_icmpN_lt rfl (fun c3 => ?_) (fun c3 => ?_)
    · refine x_iconstN (q := 0) rfl ?_
      refine x_zret rfl rfl (by first | exact Or.inl rfl | exact Or.inr rfl) ?_
      exact hP
    · refine x_iload_n rfl rfl ?_
      refine x_bipushN (q := 57) rfl ?_
      refine x_icmpN_gt rfl (fun c9 => ?_) (fun c9 => ?_)
      · refine x_iconstN (q := 0) rfl ?_
        refine x_zret rfl rfl (by first | exact Or.inl rfl | exact Or.inr rfl) ?_
        exact hP
      · exact absurd (⟨by omega, by omega⟩ : 48 ≤ t ∧ t ≤ 57) c
set_option maxRecDepth 20000 in
theorem m_isSmall {lay : HL} {VR : VRT} {t : Nat} (ht : t < 256) (hP : P (some (.int (b1 (ltr t)))) lay V VL VR) : Ex d mi190 0 (entL [.int (sB t)] 1) [] lay V VL VR 0 0 P := by
  cases c : ltr t with
  | true =>
    obtain ⟨a1, a2⟩ := (sB_ltr t ht).mp c
    rw [c] at hP
    refine x_iload_n rfl rfl ?_
    refine x_bipush rfl ?_
    refine x_icmp_lt rfl (fun c3 => ?_) (fun c3 => ?_)
    · exact absurd c3 a1
    refine x_iload_n rfl rfl ?_
    refine x_bipush rfl ?_
    refine x_icmp_gt rfl (fun c9 => ?_) (fun c9 => ?_)
    · exact absurd c9 a2
    refine x_iconst rfl ?_
    refine x_goto rfl ?_
    refine x_zret rfl rfl (by first | exact Or.inl rfl | exact Or.inr rfl) ?_
    exact hP | false =>
    rw [c] at hP
    refine x_iload_n rfl rfl ?_
    refine x_bipush rfl ?_
    refine x_icmp_lt rfl (fun c3 => ?_) (fun c3 => ?_)
    · refine x_iconst rfl ?_
      refine x_zret rfl rfl (by first | exact Or.inl rfl | exact Or.inr rfl) ?_
      exact hP
    · refine x_iload_n rfl rfl ?_
      refine x_bipush rfl ?_
      refine x_icmp_gt rfl (fun c9 => ?_) (fun c9 => ?_)
      · refine x_iconst rfl ?_
        refine x_zret rfl rfl (by first | exact Or.inl rfl | exact Or.inr rfl) ?_
        exact hP
      · exact absurd ((sB_ltr t ht).mpr ⟨c3, c9⟩) (by rw [c]; decide)
set_option maxRecDepth 20000 in
theorem m_isDigit {lay : HL} {VR : VRT} {t : Nat} (ht : t < 256) (hP : P (some (.int (b1 (dgt t)))) lay V VL VR) : Ex d mi191 0 (entL [.int (sB t)] 1) [] lay V VL VR 0 0 P := by
  cases c : dgt t with
  | true =>
    obtain ⟨a1, a2⟩ := (sB_dgt t ht).mp c
    rw [c] at hP
    refine x_iload_n rfl rfl ?_
    refine x_bipush rfl ?_
    refine x_icmp_lt rfl (fun c3 => ?_) (fun c3 => ?_)
    · exact absurd c3 a1
    refine x_iload_n rfl rfl ?_
    refine x_bipush rfl ?_
    refine x_icmp_gt rfl (fun c9 => ?_) (fun c9 => ?_)
    · exact absurd c9 a2
    refine x_iconst rfl ?_
    refine x_goto rfl ?_
    refine x_zret rfl rfl (by first | exact Or.inl rfl | exact Or.inr rfl) ?_
    exact hP | false =>
    rw [c] at hP
    refine x_iload_n rfl rfl ?_
    refine x_bipush rfl ?_
    refine x_icmp_lt rfl (fun c3 => ?_) (fun c3 => ?_)
    · refine x_iconst rfl ?_
      refine x_zret rfl rfl (by first | exact Or.inl rfl | exact Or.inr rfl) ?_
      exact hP
    · refine x_iload_n rfl rfl ?_
      refine x_bipush rfl ?_
      refine x_icmp_gt rfl (fun c9 => ?_) (fun c9 => ?_)
      · refine x_iconst rfl ?_
        refine x_zret rfl rfl (by first | exact Or.inl rfl | exact Or.inr rfl) ?_
        exact hP
      · exact absurd ((sB_dgt t ht).mpr ⟨c3, c9⟩) (by rw [c]; decide)
set_option maxRecDepth 20000 in
theorem nmC_le {T : Nat → Nat} : ∀ (m k x : Nat), x ≤ 1000000 → nmC T m k x ≤ 1000000
  | 0, _, _, h => h
  | m + 1, k, x, h => by
    unfold nmC
    refine nmC_le m (k + 1) _ ?_
    split <;> omega
set_option maxRecDepth 20000 in
theorem minI {a b : Nat} (ha : a < 2147483648) (hb : b < 2147483648) : (if nI b < nI a then nI b else nI a) = nI (if b < a then b else a) := by
  simp only [Int32.lt_iff_toInt_lt, nI_toInt ha, nI_toInt hb, Int.ofNat_lt]
  split <;> rfl
set_option maxRecDepth 20000 in
theorem x_numberAt (hT : ∀ k, k < tn → T k < 256 ∧ V 72 k = nI (T k)) (htn : tn ≤ 400) {a b : Nat} (hb : b ≤ tn) (hd : ∀ i, a ≤ i → i < b → 48 ≤ T i ∧ T i ≤ 57) (hP : P (some (.int (nI (1000 + nmC T (b - a) a 0)))) (LY ++ ext) V VL (vr G)) (hab : a ≤ b) : Ex d mi43 0 (entL [.ref 72, .int (nI a), .int (nI b)] 5) [] (LY ++ ext) V VL (vr G) 0 0 P := by
  have hlp : ∀ (m k x : Nat), k + m = b → a ≤ k → x ≤ 1000000 → nmC T m k x = nmC T (b - a) a 0 → Ex (d + 0) mi43 5 [.ref 72, .int (nI a), .int (nI b), .int (nI x), .int (nI k)] [] (LY ++ ext) V VL (vr G) 0 0 P := by
    intro m
    induction m with
    | zero =>
      intro k x hk ha hx he
      have he2 : x = nmC T (b - a) a 0 := he
      rw [← he2] at hP
      refine x_iload rfl rfl ?_
      refine x_iload_n rfl rfl ?_
      refine x_icmpN_ge rfl (fun c8 => ?_) (fun c8 => ?_)
      rotate_left
      · exact absurd c8 (by first | decide | omega)
      refine x_sipushN (q := 1000) rfl ?_
      refine x_iload_n rfl rfl ?_
      refine x_iaddN rfl ?_
      refine x_iret rfl rfl ?_
      exact hP | succ m ih =>
      intro k x hk ha hx he
      obtain ⟨t1, t2⟩ := hT k (by omega)
      have hd2 := hd k ha (by omega)
      refine x_iload rfl rfl ?_
      refine x_iload_n rfl rfl ?_
      refine x_icmpN_ge rfl (fun c8 => ?_) (fun c8 => ?_)
      · exact absurd c8 (by first | decide | omega)
      refine x_iload_n rfl rfl ?_
      refine x_bipushN (q := 10) rfl ?_
      refine x_imulN rfl ?_
      refine x_aload_n rfl rfl ?_
      refine x_iload rfl rfl ?_
      refine x_ialE (j := k) rfl rfl (rfl) (by omega) (t2) ?_
      refine x_iaddN rfl ?_
      refine x_bipushN (q := 48) rfl ?_
      refine x_isubN rfl ?_
      refine x_ldcN (q := 1000000) rfl ?_
      refine x_min rfl rfl ?_
      rw [minI (by omega) (by omega)]
      refine x_istore_n (ls' := [_, _, _, _, _]) rfl rfl rfl ?_
      refine x_iincN (q := 1) (ls' := [_, _, _, _, _]) rfl rfl rfl rfl ?_
      refine x_goto rfl ?_
      exact ih (k + 1) _ (by omega) (by omega) (by split <;> omega) he
  refine x_iconstN (q := 0) rfl ?_
  refine x_istore_n (ls' := [_, _, _, _, _]) rfl rfl rfl ?_
  refine x_iload_n rfl rfl ?_
  refine x_istore (ls' := [_, _, _, _, _]) rfl rfl rfl ?_
  exact hlp (b - a) a 0 (by omega) (Nat.le_refl _) (by omega) rfl
set_option maxRecDepth 20000 in
theorem x_add {i t p : Nat} (hc : V 37 4 = nI i) (hi : i < 401) (hP : P none (LY ++ ext) (up (up (up V 41 i (nI t)) 42 i (nI p)) 37 4 (nI (i + 1))) VL (vr G)) : Ex d mi42 0 (entL [.ref 37, .int (nI t), .int (nI p)] 3) [] (LY ++ ext) V VL (vr G) 0 0 P := by
  refine x_aload_n rfl rfl ?_
  refine x_getE (y := 4) rfl rfl rfl hc ?_
  refine x_aload_n rfl rfl ?_
  refine x_getR (u := .ref _) rfl rfl rfl rfl ?_
  refine x_alen0 rfl rfl ?_
  refine x_icmpN_ge rfl (fun c9 => ?_) (fun c9 => ?_)
  · exact absurd c9 (by first | decide | omega)
  refine x_aload_n rfl rfl ?_
  refine x_getR (u := .ref _) rfl rfl rfl rfl ?_
  refine x_aload_n rfl rfl ?_
  refine x_getE (y := 4) rfl rfl rfl hc ?_
  refine x_iload_n rfl rfl ?_
  refine x_iasN (j := i) rfl rfl (rfl) (by omega) ?_
  refine x_aload_n rfl rfl ?_
  refine x_getR (u := .ref _) rfl rfl rfl rfl ?_
  refine x_aload_n rfl rfl ?_
  refine x_getE (y := 4) rfl rfl rfl ((up_ne2 (by omega)).trans hc) ?_
  refine x_iload_n rfl rfl ?_
  refine x_iasN (j := i) rfl rfl (rfl) (by omega) ?_
  refine x_aload_n rfl rfl ?_
  refine x_dup rfl rfl ?_
  refine x_getE (y := 4) rfl rfl rfl ((up_ne2 (by omega)).trans ((up_ne2 (by omega)).trans hc)) ?_
  refine x_iconstN (q := 1) rfl ?_
  refine x_iaddN rfl ?_
  refine x_putI rfl rfl rfl rfl ?_
  refine x_vret rfl rfl ?_
  exact hP
end Split
