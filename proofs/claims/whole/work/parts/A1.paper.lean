/-! ===== rows on paper ===== -/
set_option maxRecDepth 20000 in
theorem setD_sh {s t r m : Nat} : setD (s + t) (r * 2 ^ t) m = setD s r m * 2 ^ t := by
  have ht : 0 < 2 ^ t := Nat.pow_pos (by omega)
  unfold setD
  rw [show s + t + 2 = s + 2 + t by omega, Nat.pow_add 2 (s + 2) t, Nat.pow_add 2 s t, Nat.mul_div_mul_right _ _ ht, Nat.mul_mod_mul_right]
  simp only [Nat.add_mul, Nat.mul_assoc]
set_option maxRecDepth 20000 in
theorem dg_lt {n r p : Nat} : dg n r p < 4 := Nat.mod_lt _ (by omega)
set_option maxRecDepth 20000 in
theorem r6_lt {n r : Nat} (hn : n ≤ 6) (h : r < 4 ^ n) : r * 4 ^ (6 - n) < 4096 := by
  have h1 : 0 < 4 ^ (6 - n) := Nat.pow_pos (by omega)
  have h2 : r * 4 ^ (6 - n) < 4 ^ n * 4 ^ (6 - n) := Nat.mul_lt_mul_of_pos_right h h1
  rw [← Nat.pow_add, show n + (6 - n) = 6 by omega] at h2
  exact h2
set_option maxRecDepth 20000 in
theorem set6 {n r p m : Nat} (hn : n ≤ 6) (hp : p < n) : setD (2 * (5 - p)) (r * 4 ^ (6 - n)) m = setD (2 * (n - 1 - p)) r m * 4 ^ (6 - n) := by
  rw [pow4_2, show 2 * (5 - p) = 2 * (n - 1 - p) + 2 * (6 - n) by omega]
  exact setD_sh
set_option maxRecDepth 20000 in
theorem setD_lt4 {n r p m : Nat} (hn : n ≤ 6) (hp : p < n) (hr : r < 4 ^ n) (hm : m < 4) : setD (2 * (n - 1 - p)) r m < 4 ^ n := by
  have h1 := setD_lt (k := 5 - p) (m := m) (by omega) (r6_lt hn hr) hm
  rw [set6 hn hp] at h1
  have h2 : (4096 : Nat) = 4 ^ n * 4 ^ (6 - n) := by rw [← Nat.pow_add, show n + (6 - n) = 6 by omega]
  rw [h2] at h1
  exact Nat.lt_of_mul_lt_mul_right h1
set_option maxRecDepth 20000 in
theorem dis_and : ∀ k, k < 6 → ∀ l, l < 6 → ∀ m, m < 4 → k ≠ l → m * 2 ^ (2 * k) &&& (4294967295 ^^^ (3 * 2 ^ (2 * l))) = m * 2 ^ (2 * k) := by decide +kernel
set_option maxRecDepth 20000 in
theorem or_and_r (a b c : Nat) : (a ||| b) &&& c = (a &&& c) ||| (b &&& c) := by
  apply Nat.eq_of_testBit_eq
  intro i
  simp only [Nat.testBit_and, Nat.testBit_or]
  cases a.testBit i <;> cases b.testBit i <;> cases c.testBit i <;> rfl
set_option maxRecDepth 20000 in
theorem set_and {k row m : Nat} (hk : k ≤ 5) (hr : row < 4096) (hm : m < 4) : setD (2 * k) row m = (row &&& (4294967295 ^^^ (3 * 2 ^ (2 * k)))) ||| m * 2 ^ (2 * k) := by rw [clr_and hk hr, setD_or hm]
set_option maxRecDepth 20000 in
theorem set2_and {k l row x y : Nat} (hk : k ≤ 5) (hl : l ≤ 5) (hkl : k ≠ l) (hr : row < 4096) (hx : x < 4) (hy : y < 4) : setD (2 * l) (setD (2 * k) row x) y = ((row &&& (4294967295 ^^^ (3 * 2 ^ (2 * k))) &&& (4294967295 ^^^ (3 * 2 ^ (2 * l)))) ||| x * 2 ^ (2 * k)) ||| y * 2 ^ (2 * l) := by
  rw [set_and hl (setD_lt hk hr hx) hy, set_and hk hr hx, or_and_r, dis_and k (by omega) l (by omega) x hx hkl]
set_option maxRecDepth 20000 in
theorem set_comm {k l row x y : Nat} (hk : k ≤ 5) (hl : l ≤ 5) (hkl : k ≠ l) (hr : row < 4096) (hx : x < 4) (hy : y < 4) : setD (2 * l) (setD (2 * k) row x) y = setD (2 * k) (setD (2 * l) row y) x := by
  rw [set2_and hk hl hkl hr hx hy, set2_and hl hk (Ne.symm hkl) hr hy hx]
  apply Nat.eq_of_testBit_eq
  intro i
  simp only [Nat.testBit_and, Nat.testBit_or]
  cases row.testBit i <;> cases (4294967295 ^^^ 3 * 2 ^ (2 * k)).testBit i <;> cases (4294967295 ^^^ 3 * 2 ^ (2 * l)).testBit i <;> cases (x * 2 ^ (2 * k)).testBit i <;> cases (y * 2 ^ (2 * l)).testBit i <;> rfl
set_option maxRecDepth 20000 in
theorem clrI2 {row a b : Nat} (hr : row < 4096) : nI row &&& (nI (a ||| b) ^^^ (-1)) = nI (row &&& (4294967295 ^^^ a) &&& (4294967295 ^^^ b)) := by
  rw [show (-1 : Int32) = nI 4294967295 from rfl, nb_xor, nb_and]
  congr 1
  apply Nat.eq_of_testBit_eq
  intro i
  simp only [Nat.testBit_and, Nat.testBit_or, Nat.testBit_xor]
  by_cases h : i < 32
  · have e : (4294967295 : Nat).testBit i = true := by
      rw [show (4294967295 : Nat) = 2 ^ 32 - 1 from rfl, Nat.testBit_two_pow_sub_one]
      exact decide_eq_true h
    rw [e]
    cases row.testBit i <;> cases a.testBit i <;> cases b.testBit i <;> rfl
  · have e : row.testBit i = false := Nat.testBit_lt_two_pow (Nat.lt_of_lt_of_le hr (Nat.le_trans (show 4096 ≤ 2 ^ 12 by decide) (Nat.pow_le_pow_right (by omega) (by omega))))
    rw [e]; rfl
set_option maxRecDepth 20000 in
theorem agI_b {o : Option Nat} (h : ∀ c, o = some c → c < 16) : (agI o).toInt8.toInt32 = agI o := by
  cases o with
  | none => rfl
  | some c =>
    have hc := h c rfl
    have : ∀ c, c < 16 → (nI c).toInt8.toInt32 = nI c := by decide +kernel
    exact this c hc
/-- the row behind a talk on paper -/
def raK (K : KT) (dy r p q : Nat) : Option Nat := (outK K p q dy (dg (K 93) r p) (dg (K 93) r q) (K 38)).map (fun c => setD (2 * (K 93 - 1 - q)) (setD (2 * (K 93 - 1 - p)) r (c / 4)) (c % 4))
set_option maxRecDepth 20000 in
theorem raK_lt {K : KT} (hW : WF K) {dy r p q t : Nat} (hp : p < K 93) (hq : q < K 93) (hr : r < 4 ^ K 93) (h : raK K dy r p q = some t) : t < 4 ^ K 93 := by
  unfold raK at h
  cases ho : outK K p q dy (dg (K 93) r p) (dg (K 93) r q) (K 38) with
  | none => rw [ho] at h; cases h
  | some c =>
    rw [ho] at h
    have hc := outK_lt dg_lt dg_lt ho
    rw [← Option.some.inj h]
    exact setD_lt4 hW.n hq (setD_lt4 hW.n hp hr (by omega)) (by omega)
set_option maxRecDepth 20000 in
theorem outK_sym {K : KT} {p q dy m1 m2 wk : Nat} (hpq : p ≠ q) (h1 : m1 < 4) (h2 : m2 < 4) : outK K q p dy m2 m1 wk = (outK K p q dy m1 m2 wk).map (fun c => c % 4 * 4 + c / 4) := by
  have a1 := tkN_lt (K := K) (p := p) (q := q) (dy := dy) (m1 := m1) (m2 := m2) (wk := wk) (prv_lt (K := K) (p := p) (q := q) (dy := dy) (wk := wk) h1 h2)
  have a2 := tkN_lt (K := K) (p := q) (q := p) (dy := dy) (m1 := m2) (m2 := m1) (wk := wk) (prv_lt (K := K) (p := p) (q := q) (dy := dy) (wk := wk) h1 h2)
  unfold outK
  rw [prv_sym hpq]
  by_cases c : brN K p q dy m1 m2 wk = 1 ∨ brN K q p dy m2 m1 wk = 1
  · rw [if_pos c, if_pos (Or.comm.mp c)]; rfl
  · rw [if_neg c, if_neg (fun z => c (Or.comm.mp z))]
    rw [Option.map_some]
    congr 1
    omega
set_option maxRecDepth 20000 in
theorem raK_sym {K : KT} (hW : WF K) {dy r p q : Nat} (hpq : p ≠ q) (hp : p < K 93) (hq : q < K 93) (hr : r < 4 ^ K 93) : raK K dy r q p = raK K dy r p q := by
  have h6 := hW.n
  have h4 : r < 4096 := Nat.lt_of_lt_of_le hr (pow4_6 h6)
  unfold raK
  rw [outK_sym hpq dg_lt dg_lt]
  cases ho : outK K p q dy (dg (K 93) r p) (dg (K 93) r q) (K 38) with
  | none => rfl
  | some c =>
    have hc := outK_lt dg_lt dg_lt ho
    simp only [Option.map_some]
    rw [show (c % 4 * 4 + c / 4) / 4 = c % 4 by omega, show (c % 4 * 4 + c / 4) % 4 = c / 4 by omega]
    congr 1
    exact set_comm (by omega) (by omega) (by omega) h4 (by omega) (by omega)
def OutX (K : KT) (dy : Nat) (V : VIT) : Prop := ∀ p q mk, p < K 93 → q < K 93 → p ≠ q → mk < 16 → V 62 ((p * 6 + q) * 16 + mk) = -2 ∨ V 62 ((p * 6 + q) * 16 + mk) = agI (outK K p q dy (mk / 4) (mk % 4) (K 38))
/-- the class's paper stands open for the day -/
def PaX (K : KT) (dy : Nat) (ext : HL) (G : VRT) (V : VIT) : Prop := RW 3 K V ∧ Laws K 13 (LY ++ ext) V (vr G) ∧ V 61 3 = nI dy ∧ OutX K dy V
def FrQ (V0 V : VIT) : Prop := ∀ a k, a ≠ 2 → a ≠ 43 → a ≠ 44 → a ≠ 62 → V a k = V0 a k
set_option maxRecDepth 20000 in
theorem FrQ.refl {V : VIT} : FrQ V V := fun _ _ _ _ _ _ => rfl
set_option maxRecDepth 20000 in
theorem FrQ.trans {V V1 V2 : VIT} (h : FrQ V V1) (h1 : FrQ V1 V2) : FrQ V V2 := fun a k q1 q2 q3 q4 => (h1 a k q1 q2 q3 q4).trans (h a k q1 q2 q3 q4)
set_option maxRecDepth 20000 in
theorem FrQ.row {V V1 : VIT} (h : FrQ V V1) (a : Nat) (h1 : a ≠ 2) (h2 : a ≠ 43) (h3 : a ≠ 44) (h4 : a ≠ 62) : V1 a = V a := funext (fun k => h a k h1 h2 h3 h4)
set_option maxRecDepth 20000 in
theorem PaX.set {K : KT} {dy : Nat} {ext : HL} {G : VRT} {V V' : VIT} (h : PaX K dy ext G V) (hW : WF K) (e : ∀ a k, (a < 61 ∨ 99 < a ∨ (a = 61 ∧ k = 3) ∨ a = 62) → V' a k = V a k) : PaX K dy ext G V' := by
  obtain ⟨h1, h2, h3, h4⟩ := h
  have er : ∀ a, (a < 61 ∨ 99 < a ∨ a = 62) → V' a = V a := fun a q => funext (fun k => e a k (by omega))
  refine ⟨h1.same (fun a _ _ => er a (by omega)), h2.sameV hW.l6 (fun a _ => er a (by omega)), by rw [e 61 3 (by omega)]; exact h3, ?_⟩
  unfold OutX
  rw [er 62 (by omega)]
  exact h4
section Paper
variable {d : Nat} {V : VIT} {VL : VLT} {G : VRT} {P : Post} {ext : HL} {K : KT} {p q dy r : Nat}
set_option maxRecDepth 20000 in
theorem ra_tail {o : Option Nat} {mk pl : Value} (h6 : K 93 ≤ 6) (hp : p < K 93) (hq : q < K 93) (hpq : p ≠ q) (hr : r < 4096) (ho : ∀ c, o = some c → c < 16) (hP : P (some (.int (agI (o.map (fun c => setD (2 * (K 93 - 1 - q)) (setD (2 * (K 93 - 1 - p)) r (c / 4)) (c % 4)))))) (LY ++ ext) V VL (vr G)) : Ex (d + 4) mi36 127 [.ref 61, .int (nI r), .int (nI p), .int (nI q), .int (nI (2 * (K 93 - 1 - p))), .int (nI (2 * (K 93 - 1 - q))), mk, pl, .int (agI o)] [] (LY ++ ext) V VL (vr G) 0 0 P := by
  cases o with
  | none =>
    refine x_iload rfl rfl ?_
    refine x_iconst rfl ?_
    refine x_icmp_ne rfl (fun c130 => ?_) (fun c130 => ?_)
    · exact absurd rfl c130
    refine x_iconst rfl ?_
    refine x_iret rfl rfl ?_
    exact hP | some c =>
    have hc := ho c rfl
    have e1 : 2 ^ (2 * (K 93 - 1 - p)) ≤ 1024 := Nat.le_trans (Nat.pow_le_pow_right (by omega) (show 2 * (K 93 - 1 - p) ≤ 10 by omega)) (by decide)
    have e2 : 2 ^ (2 * (K 93 - 1 - q)) ≤ 1024 := Nat.le_trans (Nat.pow_le_pow_right (by omega) (show 2 * (K 93 - 1 - q) ≤ 10 by omega)) (by decide)
    have e3 : c / 4 * 2 ^ (2 * (K 93 - 1 - p)) ≤ 3 * 1024 := Nat.mul_le_mul (by omega) e1
    have e4 : c % 4 * 2 ^ (2 * (K 93 - 1 - q)) ≤ 3 * 1024 := Nat.mul_le_mul (by omega) e2
    have hP2 : P (some (.int (nI (((r &&& (4294967295 ^^^ (3 * 2 ^ (2 * (K 93 - 1 - p)))) &&& (4294967295 ^^^ (3 * 2 ^ (2 * (K 93 - 1 - q))))) ||| c / 4 * 2 ^ (2 * (K 93 - 1 - p))) ||| c % 4 * 2 ^ (2 * (K 93 - 1 - q)))))) (LY ++ ext) V VL (vr G) := by
      rw [← set2_and (by omega) (by omega) (by omega) hr (by omega) (by omega)]
      exact hP
    refine x_iload rfl rfl ?_
    refine x_iconst rfl ?_
    refine x_icmp_ne rfl (fun c130 => ?_) (fun c130 => ?_)
    rotate_left
    · exact absurd c130 (nI_m1 (by omega))
    refine x_iload_n rfl rfl ?_
    refine x_iconstN (q := 3) rfl ?_
    refine x_iload rfl rfl ?_
    refine x_ishlN rfl ?_
    refine x_iconstN (q := 3) rfl ?_
    refine x_iload rfl rfl ?_
    refine x_ishlN rfl ?_
    refine x_iorN rfl ?_
    refine x_iconst rfl ?_
    refine x_ixor rfl ?_
    refine x_iand rfl ?_
    rw [clrI2 hr]
    refine x_iload rfl rfl ?_
    refine x_iconstN (q := 4) rfl ?_
    refine x_idivN rfl ?_
    refine x_iload rfl rfl ?_
    refine x_ishlN rfl ?_
    refine x_iorN rfl ?_
    refine x_iload rfl rfl ?_
    refine x_iconstN (q := 4) rfl ?_
    refine x_iremN rfl ?_
    refine x_iload rfl rfl ?_
    refine x_ishlN rfl ?_
    refine x_iorN rfl ?_
    refine x_iret rfl rfl ?_
    exact hP2
set_option maxRecDepth 20000 in
theorem s_rowAfter (hA : PaX K dy ext G V) (hW : WF K) (hd4 : dy < 4) (hp : p < K 93) (hq : q < K 93) (hpq : p ≠ q) (hr : r < 4 ^ K 93) (hP : ∀ V' : VIT, FrQ V V' → PaX K dy ext G V' → P (some (.int (agI (raK K dy r p q)))) (LY ++ ext) V' VL (vr G)) : Ex (d + 4) mi36 0 (entL [.ref 61, .int (nI r), .int (nI p), .int (nI q)] 9) [] (LY ++ ext) V VL (vr G) 0 0 P := by
  have h6 := hW.n
  obtain ⟨hX, hL, h3, hO⟩ := hA
  have h4 : r < 4096 := Nat.lt_of_lt_of_le hr (pow4_6 h6)
  have h38 : K 38 ≤ 999 := hW.2.2.2.2.2.1
  have d1 : dg (K 93) r p < 4 := dg_lt
  have d2 : dg (K 93) r q < 4 := dg_lt
  have d1' : r / 2 ^ (2 * (K 93 - 1 - p)) % 4 < 4 := dg_lt
  have d2' : r / 2 ^ (2 * (K 93 - 1 - q)) % 4 < 4 := dg_lt
  have ed : (dg (K 93) r p * 4 + dg (K 93) r q) / 4 = dg (K 93) r p := by omega
  have em : (dg (K 93) r p * 4 + dg (K 93) r q) % 4 = dg (K 93) r q := by omega
  have hpl : (p * 6 + q) * 16 + (dg (K 93) r p * 4 + dg (K 93) r q) < 576 := by omega
  have hOc := hO p q (dg (K 93) r p * 4 + dg (K 93) r q) hp hq hpq (by omega)
  rw [ed, em] at hOc
  have hlt : ∀ c, outK K p q dy (dg (K 93) r p) (dg (K 93) r q) (K 38) = some c → c < 16 := fun c h => outK_lt dg_lt dg_lt h
  refine x_aload_n rfl rfl ?_
  refine x_getR (u := .ref _) rfl rfl rfl rfl ?_
  refine x_iload_n rfl rfl ?_
  refine x_callV (M' := mi95) (As := [_]) (bc1 := 0) (bs1 := 0) (bc2 := 0) (bs2 := 0) rfl rfl rfl rfl ok95 rfl rfl (by decide) rfl rfl rfl rfl rfl rfl ?_
  refine s_hasPerson_in hX.n hp h6 ?_
  refine x_if_eq rfl (fun c8 => ?_) (fun c8 => ?_)
  · exact absurd c8 (by first | decide | omega)
  refine x_aload_n rfl rfl ?_
  refine x_getR (u := .ref _) rfl rfl rfl rfl ?_
  refine x_iload_n rfl rfl ?_
  refine x_callV (M' := mi95) (As := [_]) (bc1 := 0) (bs1 := 0) (bc2 := 0) (bs2 := 0) rfl rfl rfl rfl ok95 rfl rfl (by decide) rfl rfl rfl rfl rfl rfl ?_
  refine s_hasPerson_in hX.n hq h6 ?_
  refine x_if_ne rfl (fun c19 => ?_) (fun c19 => ?_)
  rotate_left
  · exact absurd c19 (by first | decide | omega)
  refine x_aload_n rfl rfl ?_
  refine x_getR (u := .ref _) rfl rfl rfl rfl ?_
  refine x_iload_n rfl rfl ?_
  refine x_callV (M' := mi103) (As := [_]) (bc1 := 0) (bs1 := 0) (bc2 := 0) (bs2 := 0) rfl rfl rfl rfl ok103 rfl rfl (by decide) rfl rfl rfl rfl rfl rfl ?_
  refine s_shiftOf_in hX.n hp h6 ?_
  refine x_istore (ls' := [_, _, _, _, _, _, _, _, _]) rfl rfl rfl ?_
  refine x_aload_n rfl rfl ?_
  refine x_getR (u := .ref _) rfl rfl rfl rfl ?_
  refine x_iload_n rfl rfl ?_
  refine x_callV (M' := mi103) (As := [_]) (bc1 := 0) (bs1 := 0) (bc2 := 0) (bs2 := 0) rfl rfl rfl rfl ok103 rfl rfl (by decide) rfl rfl rfl rfl rfl rfl ?_
  refine s_shiftOf_in hX.n hq h6 ?_
  refine x_istore (ls' := [_, _, _, _, _, _, _, _, _]) rfl rfl rfl ?_
  refine x_iload_n rfl rfl ?_
  refine x_iload rfl rfl ?_
  refine x_ishrN rfl ?_
  refine x_iconstN (q := 3) rfl ?_
  refine x_iandM3 rfl ?_
  refine x_iconstN (q := 4) rfl ?_
  refine x_imulN rfl ?_
  refine x_iload_n rfl rfl ?_
  refine x_iload rfl rfl ?_
  refine x_ishrN rfl ?_
  refine x_iconstN (q := 3) rfl ?_
  refine x_iandM3 rfl ?_
  refine x_iaddN rfl ?_
  refine x_istore (ls' := [_, _, _, _, _, _, _, _, _]) rfl rfl rfl ?_
  refine x_iload_n rfl rfl ?_
  refine x_bipushN (q := 6) rfl ?_
  refine x_imulN rfl ?_
  refine x_iload_n rfl rfl ?_
  refine x_iaddN rfl ?_
  refine x_bipushN (q := 16) rfl ?_
  refine x_imulN rfl ?_
  refine x_iload rfl rfl ?_
  refine x_iaddN rfl ?_
  refine x_istore (ls' := [_, _, _, _, _, _, _, _, _]) rfl rfl rfl ?_
  skip
  rcases hOc with hO1 | hO1
  · refine x_aload_n rfl rfl ?_
    refine x_getR (u := .ref _) rfl rfl rfl rfl ?_
    refine x_iload rfl rfl ?_
    refine x_ialE (j := (p * 6 + q) * 16 + (dg (K 93) r p * 4 + dg (K 93) r q)) rfl rfl (rfl) (by omega) (hO1) ?_
    refine x_bipush rfl ?_
    refine x_icmp_ne rfl (fun c84 => ?_) (fun c84 => ?_)
    · exact absurd rfl c84
    refine x_aload_n rfl rfl ?_
    refine x_getR (u := .ref _) rfl rfl rfl rfl ?_
    refine x_iload rfl rfl ?_
    refine x_aload_n rfl rfl ?_
    refine x_getR (u := .ref _) rfl rfl rfl rfl ?_
    refine x_iload_n rfl rfl ?_
    refine x_iload_n rfl rfl ?_
    refine x_aload_n rfl rfl ?_
    refine x_getE (y := 3) rfl rfl rfl h3 ?_
    refine x_iload rfl rfl ?_
    refine x_aload_n rfl rfl ?_
    refine x_getR (u := .ref _) rfl rfl rfl rfl ?_
    refine x_getR (u := .ref _) rfl rfl rfl rfl ?_
    refine x_iconstN (q := 0) rfl ?_
    refine x_ialE (j := 0) rfl rfl (rfl) (by omega) (hX.t0) ?_
    refine x_callV (M' := mi12) (As := [_, _, _, _, _]) (bc1 := 0) (bs1 := 0) (bc2 := 0) (bs2 := 0) rfl rfl rfl rfl ok12 rfl rfl (by decide) rfl rfl rfl rfl rfl rfl ?_
    refine s_outcome (mk := dg (K 93) r p * 4 + dg (K 93) r q) hX hW hL hp hq hd4 (by omega) (by omega) (fun V1 hF => ?_)
    rw [ed, em]
    refine x_iasN (j := (p * 6 + q) * 16 + (dg (K 93) r p * 4 + dg (K 93) r q)) rfl rfl (rfl) (by omega) ?_
    refine x_aload_n rfl rfl ?_
    refine x_getR (u := .ref _) rfl rfl rfl rfl ?_
    refine x_iload rfl rfl ?_
    refine x_ialE (j := (p * 6 + q) * 16 + (dg (K 93) r p * 4 + dg (K 93) r q)) rfl rfl (rfl) (by omega) (up_at) ?_
    refine x_istore (ls' := [_, _, _, _, _, _, _, _, _]) rfl rfl rfl ?_
    skip
    refine ra_tail h6 hp hq hpq h4 hlt (hP _ (fun a k q1 q2 q3 q4 => by rw [up_ne q4]; exact hF a k q1 q3 (by omega)) ⟨?_, ?_, ?_, ?_⟩)
    · exact (hF.RW hX).same (fun a _ _ => up_ne (by omega))
    · exact (hF.Laws hW hL).sameV hW.l6 (fun a _ => up_ne (by omega))
    · rw [up_ne (by omega), hF.row 61 (by omega) (by omega) (by omega)]; exact h3
    · intro p' q' mk' a1 a2 a3 a4
      by_cases c : (p' * 6 + q') * 16 + mk' = (p * 6 + q) * 16 + (dg (K 93) r p * 4 + dg (K 93) r q)
      · have e1 : p' = p := by omega
        have e2 : q' = q := by omega
        have e3 : mk' = dg (K 93) r p * 4 + dg (K 93) r q := by omega
        subst e1 e2 e3
        rw [up_at, ed, em]
        exact Or.inr rfl
      · rw [up_at' c, hF.row 62 (by omega) (by omega) (by omega)]
        exact hO p' q' mk' a1 a2 a3 a4
  · have hv1 : V 62 ((p * 6 + q) * 16 + (dg (K 93) r p * 4 + dg (K 93) r q)) = agI (outK K p q dy (dg (K 93) r p) (dg (K 93) r q) (K 38)) := hO1
    have hne : ¬ agI (outK K p q dy (dg (K 93) r p) (dg (K 93) r q) (K 38)) = -2 := by
      cases ho : outK K p q dy (dg (K 93) r p) (dg (K 93) r q) (K 38) with
      | none => exact (by decide : ¬ (-1 : Int32) = -2)
      | some c =>
        have hc := hlt c ho
        have : ∀ c, c < 16 → ¬ nI c = -2 := by decide +kernel
        exact this c hc
    refine x_aload_n rfl rfl ?_
    refine x_getR (u := .ref _) rfl rfl rfl rfl ?_
    refine x_iload rfl rfl ?_
    refine x_ialE (j := (p * 6 + q) * 16 + (dg (K 93) r p * 4 + dg (K 93) r q)) rfl rfl (rfl) (by omega) (hv1) ?_
    refine x_bipush rfl ?_
    refine x_icmp_ne rfl (fun c84 => ?_) (fun c84 => ?_)
    rotate_left
    · exact absurd c84 hne
    refine x_aload_n rfl rfl ?_
    refine x_getR (u := .ref _) rfl rfl rfl rfl ?_
    refine x_iload rfl rfl ?_
    refine x_ialE (j := (p * 6 + q) * 16 + (dg (K 93) r p * 4 + dg (K 93) r q)) rfl rfl (rfl) (by omega) (hv1) ?_
    refine x_istore (ls' := [_, _, _, _, _, _, _, _, _]) rfl rfl rfl ?_
    exact ra_tail h6 hp hq hpq h4 hlt (hP V FrQ.refl ⟨hX, hL, h3, hO⟩)
set_option maxRecDepth 20000 in
theorem s_fill_loop {V0 : VIT} (hP : ∀ V' : VIT, (∀ a k, a ≠ 62 → V' a k = V0 a k) → (∀ k, k < 576 → V' 62 k = -2) → P none (LY ++ ext) V' VL (vr G)) : ∀ (m i : Nat) (V : VIT), i + m = 576 → (∀ a k, a ≠ 62 → V a k = V0 a k) → (∀ k, k < i → V 62 k = -2) → Ex d mi283 5 [.ref 62, .int (-2), .int (nI i), .int (nI 576)] [] (LY ++ ext) V VL (vr G) 0 0 P := by
  intro m
  induction m with
  | zero =>
    intro i V hi hF h2
    have e : i = 576 := by omega
    subst e
    refine x_iload_n rfl rfl ?_
    refine x_iload_n rfl rfl ?_
    refine x_icmpN_ge rfl (fun c7 => ?_) (fun c7 => ?_)
    rotate_left
    · exact absurd c7 (by first | decide | omega)
    refine x_vret rfl rfl ?_
    exact hP V hF h2 | succ m ih =>
    intro i V hi hF h2
    refine x_iload_n rfl rfl ?_
    refine x_iload_n rfl rfl ?_
    refine x_icmpN_ge rfl (fun c7 => ?_) (fun c7 => ?_)
    · exact absurd c7 (by first | decide | omega)
    refine x_aload_n rfl rfl ?_
    refine x_iload_n rfl rfl ?_
    refine x_iload_n rfl rfl ?_
    refine x_iasN (j := i) rfl rfl (rfl) (by omega) ?_
    refine x_iincN (q := 1) (ls' := [_, _, _, _]) rfl rfl rfl rfl ?_
    refine x_goto rfl ?_
    exact ih (i + 1) _ (by omega) (fun a k h => by rw [up_ne h]; exact hF a k h) (fun k hk => by by_cases c : k = i; subst c; exact up_at; rw [up_at' c]; exact h2 k (by omega))
set_option maxRecDepth 20000 in
theorem s_open (hX : RW 3 K V) (hW : WF K) (hL : Laws K 13 (LY ++ ext) V (vr G)) (hP : ∀ V' : VIT, (∀ a k, a ≠ 62 → ¬ (a = 61 ∧ k = 3) → V' a k = V a k) → PaX K dy ext G V' → P none (LY ++ ext) V' VL (vr G)) : Ex (d + 1) mi35 0 (entL [.ref 61, .int (nI dy)] 2) [] (LY ++ ext) V VL (vr G) 0 0 P := by
  refine x_aload_n rfl rfl ?_
  refine x_iload_n rfl rfl ?_
  refine x_putI rfl rfl rfl rfl ?_
  refine x_aload_n rfl rfl ?_
  refine x_getR (u := .ref _) rfl rfl rfl rfl ?_
  refine x_bipush rfl ?_
  refine x_callS (M' := mi283) (As := [_, _]) (bc1 := 0) (bs1 := 0) (bc2 := 0) (bs2 := 0) rfl rfl rfl rfl ok283 rfl rfl rfl rfl rfl rfl ?_
  refine x_iconst rfl ?_
  refine x_istore_n (ls' := [_, _, _, _]) rfl rfl rfl ?_
  refine x_aload_n rfl rfl ?_
  refine x_alen0 rfl rfl ?_
  refine x_istore_n (ls' := [_, _, _, _]) rfl rfl rfl ?_
  refine s_fill_loop (V0 := up V 61 3 (nI dy)) (fun V1 hF h2 => ?_) 576 0 _ (by omega) (fun _ _ _ => rfl) (fun k hk => absurd hk (by omega))
  refine x_vret rfl rfl ?_
  refine hP V1 (fun a k q1 q2 => by rw [hF a k q1, up_ne2 q2]) ⟨hX.same (fun a _ _ => funext (fun k => by rw [hF a k (by omega), up_ne (by omega)])), hL.sameV hW.l6 (fun a _ => funext (fun k => by rw [hF a k (by omega), up_ne (by omega)])), by rw [hF 61 3 (by omega), up_at], fun p q mk a1 a2 a3 a4 => Or.inl (h2 _ (by have := hW.n; omega))⟩
def OutM (K : KT) (dy : Nat) (V : VIT) : Prop := ∀ p q k, p < q → q < K 93 → k < 16 → V 87 (16 * (6 * p + q) + k) = agI (outK K p q dy (k / 4) (k % 4) (K 38))
def FrL (V0 V : VIT) : Prop := ∀ a k, a ≠ 86 → a ≠ 87 → ¬ (a = 74 ∧ (k = 22 ∨ k = 23 ∨ k = 24 ∨ k = 25)) → V a k = V0 a k
set_option maxRecDepth 20000 in
theorem FrL.row {V V1 : VIT} (h : FrL V V1) (a : Nat) (h1 : a ≠ 86) (h2 : a ≠ 87) (h3 : a ≠ 74) : V1 a = V a := funext (fun k => h a k h1 h2 (by omega))
def DnT (K : KT) (dy p q k : Nat) (V : VIT) : Prop := ∀ p' q' k', p' < q' → q' < K 93 → k' < 16 → (p' < p ∨ (p' = p ∧ (q' < q ∨ (q' = q ∧ k' < k)))) → V 87 (16 * (6 * p' + q') + k') = agI (outK K p' q' dy (k' / 4) (k' % 4) (K 38))
set_option maxRecDepth 20000 in
theorem lt_k {V0 : VIT} (hM : RK (V0 76) K) (hW : WF K) (hL : LwK K) (hd4 : dy < 4) (hpq : p < q) (hq : q < K 93) (hP : ∀ (V' : VIT) (z4 : Value), FrL V0 V' → DnT K dy p (q + 1) 0 V' → Ex (d + 45) mi233 77 [.ref 74, .int (nI dy), .int (nI p), .int (nI q), z4] [] (LY ++ ext) V' VL (vr G) 0 0 P) : ∀ (m k : Nat) (V : VIT), k + m = 16 → FrL V0 V → DnT K dy p q k V → Ex (d + 45) mi233 31 [.ref 74, .int (nI dy), .int (nI p), .int (nI q), .int (nI k)] [] (LY ++ ext) V VL (vr G) 0 0 P := by
  have h6 := hW.n
  intro m
  induction m with
  | zero =>
    intro k V hk hF hD
    have e : k = 16 := by omega
    subst e
    refine x_iload rfl rfl ?_
    refine x_bipushN (q := 16) rfl ?_
    refine x_icmpN_ge rfl (fun c35 => ?_) (fun c35 => ?_)
    rotate_left
    · exact absurd c35 (by first | decide | omega)
    exact hP V _ hF (fun p' q' k' a1 a2 a3 a4 => hD p' q' k' a1 a2 a3 (by omega)) | succ m ih =>
    intro k V hk hF hD
    have hM1 : RK (V 76) K := by rw [hF.row 76 (by omega) (by omega) (by omega)]; exact hM
    have hb : (agI (outK K p q dy (k / 4) (k % 4) (K 38))).toInt8.toInt32 = agI (outK K p q dy (k / 4) (k % 4) (K 38)) := agI_b (fun c h => outK_lt (by omega) (by omega) h)
    refine x_iload rfl rfl ?_
    refine x_bipushN (q := 16) rfl ?_
    refine x_icmpN_ge rfl (fun c35 => ?_) (fun c35 => ?_)
    · exact absurd c35 (by first | decide | omega)
    refine x_aload_n rfl rfl ?_
    refine x_getR (u := .ref _) rfl rfl rfl rfl ?_
    refine x_bipushN (q := 16) rfl ?_
    refine x_bipushN (q := 6) rfl ?_
    refine x_iload_n rfl rfl ?_
    refine x_imulN rfl ?_
    refine x_iload_n rfl rfl ?_
    refine x_iaddN rfl ?_
    refine x_imulN rfl ?_
    refine x_iload rfl rfl ?_
    refine x_iaddN rfl ?_
    refine x_aload_n rfl rfl ?_
    refine x_iload_n rfl rfl ?_
    refine x_iload_n rfl rfl ?_
    refine x_iload_n rfl rfl ?_
    refine x_iload rfl rfl ?_
    refine x_iconstN (q := 4) rfl ?_
    refine x_idivN rfl ?_
    refine x_iload rfl rfl ?_
    refine x_iconstN (q := 4) rfl ?_
    refine x_iremN rfl ?_
    refine x_callV (M' := mi232) (As := [_, _, _, _, _]) (bc1 := 0) (bs1 := 0) (bc2 := 0) (bs2 := 0) rfl rfl rfl rfl ok232 rfl rfl (by decide) rfl rfl rfl rfl rfl rfl ?_
    refine m_talked hM1 hW hL (by omega) hq hd4 (by omega) (by omega) rfl (by omega) (fun V1 hF1 => ?_)
    refine x_i2b rfl ?_
    refine x_basN (j := 16 * (6 * p + q) + k) rfl rfl (rfl) (by omega) ?_
    skip
    rw [hb]
    try rw [hb]
    refine x_iincN (q := 1) (ls' := [_, _, _, _, _]) rfl rfl rfl rfl ?_
    refine x_goto rfl ?_
    refine ih (k + 1) _ (by omega) (fun a i q1 q2 q3 => by rw [up_ne q2, hF1 a i q1 q3]; exact hF a i q1 q2 q3) (fun p' q' k' a1 a2 a3 a4 => ?_)
    by_cases c : 16 * (6 * p' + q') + k' = 16 * (6 * p + q) + k
    · have e1 : p' = p := by omega
      have e2 : q' = q := by omega
      have e3 : k' = k := by omega
      subst e1 e2 e3
      exact up_at
    · rw [up_at' c, hF1.row 87 (by omega) (by omega)]
      exact hD p' q' k' a1 a2 a3 (by omega)
set_option maxRecDepth 20000 in
theorem lt_q {V0 : VIT} (hM : RK (V0 76) K) (hW : WF K) (hL : LwK K) (hd4 : dy < 4) (hp : p < K 93) (hP : ∀ (V' : VIT) (z3 z4 : Value), FrL V0 V' → DnT K dy (p + 1) (p + 2) 0 V' → Ex (d + 45) mi233 83 [.ref 74, .int (nI dy), .int (nI p), z3, z4] [] (LY ++ ext) V' VL (vr G) 0 0 P) : ∀ (m q : Nat) (V : VIT) (z4 : Value), q + m = K 93 → p < q → FrL V0 V → DnT K dy p q 0 V → Ex (d + 45) mi233 17 [.ref 74, .int (nI dy), .int (nI p), .int (nI q), z4] [] (LY ++ ext) V VL (vr G) 0 0 P := by
  have h6 := hW.n
  intro m
  induction m with
  | zero =>
    intro q V z4 hk hpq hF hD
    have hM1 : RK (V 76) K := by rw [hF.row 76 (by omega) (by omega) (by omega)]; exact hM
    refine x_iload_n rfl rfl ?_
    refine x_aload_n rfl rfl ?_
    refine x_getR (u := .ref _) rfl rfl rfl rfl ?_
    refine x_bipushN (q := 93) rfl ?_
    refine x_ialE (j := 93) rfl rfl (rfl) (by omega) (hM1.at 93) ?_
    refine x_icmpN_ge rfl (fun c25 => ?_) (fun c25 => ?_)
    rotate_left
    · exact absurd c25 (by first | decide | omega)
    exact hP V _ _ hF (fun p' q' k' a1 a2 a3 a4 => hD p' q' k' a1 a2 a3 (by omega)) | succ m ih =>
    intro q V z4 hk hpq hF hD
    have hM1 : RK (V 76) K := by rw [hF.row 76 (by omega) (by omega) (by omega)]; exact hM
    refine x_iload_n rfl rfl ?_
    refine x_aload_n rfl rfl ?_
    refine x_getR (u := .ref _) rfl rfl rfl rfl ?_
    refine x_bipushN (q := 93) rfl ?_
    refine x_ialE (j := 93) rfl rfl (rfl) (by omega) (hM1.at 93) ?_
    refine x_icmpN_ge rfl (fun c25 => ?_) (fun c25 => ?_)
    · exact absurd c25 (by first | decide | omega)
    refine x_iconstN (q := 0) rfl ?_
    refine x_istore (ls' := [_, _, _, _, _]) rfl rfl rfl ?_
    skip
    refine lt_k hM hW hL hd4 hpq (by omega) (fun V1 z4 hF1 hD1 => ?_) 16 0 V (by omega) hF hD
    refine x_iincN (q := 1) (ls' := [_, _, _, _, _]) rfl rfl rfl rfl ?_
    refine x_goto rfl ?_
    exact ih (q + 1) V1 _ (by omega) (by omega) hF1 hD1
set_option maxRecDepth 20000 in
theorem m_laysTalks (hM : RK (V 76) K) (hW : WF K) (hL : LwK K) (hd4 : dy < 4) (hP : ∀ V' : VIT, FrL V V' → OutM K dy V' → P none (LY ++ ext) V' VL (vr G)) : Ex (d + 45) mi233 0 (entL [.ref 74, .int (nI dy)] 5) [] (LY ++ ext) V VL (vr G) 0 0 P := by
  have h6 := hW.n
  have hlp : ∀ (m p : Nat) (V1 : VIT) (z3 z4 : Value), p + m = K 93 → FrL V V1 → DnT K dy p (p + 1) 0 V1 → Ex (d + 45) mi233 2 [.ref 74, .int (nI dy), .int (nI p), z3, z4] [] (LY ++ ext) V1 VL (vr G) 0 0 P := by
    intro m
    induction m with
    | zero =>
      intro p V1 z3 z4 hk hF hD
      have hM1 : RK (V1 76) K := by rw [hF.row 76 (by omega) (by omega) (by omega)]; exact hM
      refine x_iload_n rfl rfl ?_
      refine x_aload_n rfl rfl ?_
      refine x_getR (u := .ref _) rfl rfl rfl rfl ?_
      refine x_bipushN (q := 93) rfl ?_
      refine x_ialE (j := 93) rfl rfl (rfl) (by omega) (hM1.at 93) ?_
      refine x_icmpN_ge rfl (fun c10 => ?_) (fun c10 => ?_)
      rotate_left
      · exact absurd c10 (by first | decide | omega)
      refine x_vret rfl rfl ?_
      exact hP V1 hF (fun p' q' k' a1 a2 a3 => hD p' q' k' a1 a2 a3 (by omega)) | succ m ih =>
      intro p V1 z3 z4 hk hF hD
      have hM1 : RK (V1 76) K := by rw [hF.row 76 (by omega) (by omega) (by omega)]; exact hM
      refine x_iload_n rfl rfl ?_
      refine x_aload_n rfl rfl ?_
      refine x_getR (u := .ref _) rfl rfl rfl rfl ?_
      refine x_bipushN (q := 93) rfl ?_
      refine x_ialE (j := 93) rfl rfl (rfl) (by omega) (hM1.at 93) ?_
      refine x_icmpN_ge rfl (fun c10 => ?_) (fun c10 => ?_)
      · exact absurd c10 (by first | decide | omega)
      refine x_iload_n rfl rfl ?_
      refine x_iconstN (q := 1) rfl ?_
      refine x_iaddN rfl ?_
      refine x_istore_n (ls' := [_, _, _, _, _]) rfl rfl rfl ?_
      skip
      refine lt_q hM hW hL hd4 (by omega) (fun V2 z3 z4 hF2 hD2 => ?_) (K 93 - (p + 1)) (p + 1) V1 _ (by omega) (by omega) hF hD
      refine x_iincN (q := 1) (ls' := [_, _, _, _, _]) rfl rfl rfl rfl ?_
      refine x_goto rfl ?_
      exact ih (p + 1) V2 _ _ (by omega) hF2 hD2
  refine x_iconstN (q := 0) rfl ?_
  refine x_istore_n (ls' := [_, _, _, _, _]) rfl rfl rfl ?_
  exact hlp (K 93) 0 V _ _ (by omega) (fun _ _ _ _ _ => rfl) (fun p' q' k' a1 a2 a3 a4 => absurd a4 (by omega))
def sh6 (K : KT) (o : Option Nat) : Option Nat := o.map (fun t => t * 4 ^ (6 - K 93))
set_option maxRecDepth 20000 in
theorem m_rowBehind (hO : OutM K dy V) (hW : WF K) (hpq : p < q) (hq : q < K 93) (hr : r < 4 ^ K 93) (hP : P (some (.int (agI (sh6 K (raK K dy r p q))))) (LY ++ ext) V VL (vr G)) : Ex (d + 2) mi234 0 (entL [.ref 74, .int (nI (r * 4 ^ (6 - K 93))), .int (nI p), .int (nI q)] 5) [] (LY ++ ext) V VL (vr G) 0 0 P := by
  have h6 := hW.n
  have h4 := r6_lt h6 hr
  have d1 : dg (K 93) r p < 4 := dg_lt
  have d2 : dg (K 93) r q < 4 := dg_lt
  have e1 : dg 6 (r * 4 ^ (6 - K 93)) p = dg (K 93) r p := dg6 h6 (by omega)
  have e2 : dg 6 (r * 4 ^ (6 - K 93)) q = dg (K 93) r q := dg6 h6 hq
  have hv := hO p q (4 * dg (K 93) r p + dg (K 93) r q) hpq hq (by omega)
  rw [show (4 * dg (K 93) r p + dg (K 93) r q) / 4 = dg (K 93) r p by omega, show (4 * dg (K 93) r p + dg (K 93) r q) % 4 = dg (K 93) r q by omega] at hv
  refine x_aload_n rfl rfl ?_
  refine x_getR (u := .ref _) rfl rfl rfl rfl ?_
  refine x_bipushN (q := 16) rfl ?_
  refine x_bipushN (q := 6) rfl ?_
  refine x_iload_n rfl rfl ?_
  refine x_imulN rfl ?_
  refine x_iload_n rfl rfl ?_
  refine x_iaddN rfl ?_
  refine x_imulN rfl ?_
  refine x_iconstN (q := 4) rfl ?_
  refine x_iload_n rfl rfl ?_
  refine x_iload_n rfl rfl ?_
  refine x_callS (M' := mi179) (As := [_, _]) (bc1 := 0) (bs1 := 0) (bc2 := 0) (bs2 := 0) rfl rfl rfl rfl ok179 rfl rfl rfl rfl rfl rfl ?_
  refine m_markIn h4 (by omega) ?_
  rw [e1]
  refine x_imulN rfl ?_
  refine x_iaddN rfl ?_
  refine x_iload_n rfl rfl ?_
  refine x_iload_n rfl rfl ?_
  refine x_callS (M' := mi179) (As := [_, _]) (bc1 := 0) (bs1 := 0) (bc2 := 0) (bs2 := 0) rfl rfl rfl rfl ok179 rfl rfl rfl rfl rfl rfl ?_
  refine m_markIn h4 (by omega) ?_
  rw [e2]
  refine x_iaddN rfl ?_
  skip
  refine x_balN (j := 16 * (6 * p + q) + (4 * dg (K 93) r p + dg (K 93) r q)) rfl rfl (congrArg nI (by omega)) (by omega) ?_
  rw [hv]
  unfold sh6 raK at hP
  cases ho : outK K p q dy (dg (K 93) r p) (dg (K 93) r q) (K 38) with
  | none =>
    rw [ho] at hP
    refine x_istore (ls' := [_, _, _, _, _]) rfl rfl rfl ?_
    refine x_iload rfl rfl ?_
    refine x_iconst rfl ?_
    refine x_icmp_ne rfl (fun c33 => ?_) (fun c33 => ?_)
    · exact absurd rfl c33
    refine x_iconst rfl ?_
    refine x_goto rfl ?_
    refine x_iret rfl rfl ?_
    exact hP | some c =>
    rw [ho] at hP
    have hc := outK_lt dg_lt dg_lt ho
    have l1 : setD (2 * (5 - p)) (r * 4 ^ (6 - K 93)) (c / 4) < 4096 := setD_lt (by omega) h4 (by omega)
    refine x_istore (ls' := [_, _, _, _, _]) rfl rfl rfl ?_
    refine x_iload rfl rfl ?_
    refine x_iconst rfl ?_
    refine x_icmp_ne rfl (fun c33 => ?_) (fun c33 => ?_)
    rotate_left
    · exact absurd c33 (nI_m1 (by omega))
    refine x_iload_n rfl rfl ?_
    refine x_iload_n rfl rfl ?_
    refine x_iload rfl rfl ?_
    refine x_iconstN (q := 4) rfl ?_
    refine x_idivN rfl ?_
    refine x_callS (M' := mi180) (As := [_, _, _]) (bc1 := 0) (bs1 := 0) (bc2 := 0) (bs2 := 0) rfl rfl rfl rfl ok180 rfl rfl rfl rfl rfl rfl ?_
    refine m_rowWith h4 (by omega) (by omega) ?_
    refine x_iload_n rfl rfl ?_
    refine x_iload rfl rfl ?_
    refine x_iconstN (q := 4) rfl ?_
    refine x_iremN rfl ?_
    refine x_callS (M' := mi180) (As := [_, _, _]) (bc1 := 0) (bs1 := 0) (bc2 := 0) (bs2 := 0) rfl rfl rfl rfl ok180 rfl rfl rfl rfl rfl rfl ?_
    refine m_rowWith l1 (by omega) (by omega) ?_
    refine x_iret rfl rfl ?_
    rw [set6 h6 (by omega), set6 h6 hq]
    exact hP
end Paper
