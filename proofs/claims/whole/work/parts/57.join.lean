set_option maxRecDepth 20000 in
theorem nI_back {a : Int32} (h0 : ¬ a < 0) : ∃ k : Nat, a = nI k ∧ (k : Int) = a.toInt := by
  have h : 0 ≤ a.toInt := by rw [Int32.lt_iff_toInt_lt] at h0; have e0 : (0 : Int32).toInt = 0 := rfl; omega
  refine ⟨a.toInt.toNat, ?_, by omega⟩
  have h2 := a.toInt_lt
  apply Int32.toInt_inj.mp
  rw [nI_toInt (by omega)]
  omega
set_option maxRecDepth 20000 in
theorem in17 {a : Int32} (h0 : ¬ a < 0) (h1 : ¬ 17 ≤ a) : ∃ k : Nat, k < 17 ∧ a = nI k := by
  obtain ⟨k, e, hk⟩ := nI_back h0
  exact ⟨k, by rw [Int32.le_iff_toInt_le] at h1; have e0 : (17 : Int32).toInt = 17 := rfl; omega, e⟩
set_option maxRecDepth 20000 in
theorem in3 {a : Int32} (h0 : ¬ a < 0) (h1 : ¬ 3 ≤ a) : a = 0 ∨ a = 1 ∨ a = 2 := by
  obtain ⟨k, e, hk⟩ := nI_back h0
  have : k < 3 := by rw [Int32.le_iff_toInt_le] at h1; have e0 : (3 : Int32).toInt = 3 := rfl; omega
  match k, this with
  | 0, _ => exact Or.inl e
  | 1, _ => exact Or.inr (Or.inl e)
  | 2, _ => exact Or.inr (Or.inr e)
set_option maxRecDepth 20000 in
theorem in2 {a : Int32} (h0 : ¬ a < 0) (h1 : ¬ 2 ≤ a) : a = 0 ∨ a = 1 := by
  obtain ⟨k, e, hk⟩ := nI_back h0
  have : k < 2 := by rw [Int32.le_iff_toInt_le] at h1; have e0 : (2 : Int32).toInt = 2 := rfl; omega
  match k, this with
  | 0, _ => exact Or.inl e
  | 1, _ => exact Or.inr e
set_option maxRecDepth 20000 in
theorem fc0 {a b c : Int32} : Pr 100 mi109 mi173 [.int a, .int b, .int c] (LY ++ []) VIm ZL (vr ZR) (fun lay _ _ _ => ∃ ext, lay = LY ++ ext) := by
  by_cases hc : canF a b c = true
  · exact Pr_of 0 (fun P h => cx_person hc h) (fun VI P hF h => cm_person hc hF h)
  · have hc := Bool.eq_false_iff.mpr hc
    exact Pr_of (-1) (fun P h => cx_person0 hc h) (fun VI P hF h => cm_person0 hc hF h)
set_option maxRecDepth 20000 in
theorem fc1 {a b : Int32} : Pr 100 mi110 mi174 [.int a, .int b] (LY ++ []) VIm ZL (vr ZR) (fun lay _ _ _ => ∃ ext, lay = LY ++ ext) := by
  exact Pr_of (-1) (fun P h => fx_of h) (fun VI P hF h => fm_of hF h)
set_option maxRecDepth 20000 in
theorem fc2 {a b : Int32} : Pr 100 mi111 mi175 [.int a, .int b] (LY ++ []) VIm ZL (vr ZR) (fun lay _ _ _ => ∃ ext, lay = LY ++ ext) := by
  exact Pr_of (-1) (fun P h => fx_roll h) (fun VI P hF h => fm_roll hF h)
set_option maxRecDepth 20000 in
theorem fc3 {a b : Int32} : Pr 100 mi112 mi183 [.int a, .int b] (LY ++ []) VIm ZL (vr ZR) (fun lay _ _ _ => ∃ ext, lay = LY ++ ext) := by
  exact Pr_of (-1) (fun P h => fx_at h) (fun VI P hF h => fm_at hF h)
set_option maxRecDepth 20000 in
theorem fc4 {a b : Int32} : Pr 100 mi113 mi185 [.int a, .int b] (LY ++ []) VIm ZL (vr ZR) (fun lay _ _ _ => ∃ ext, lay = LY ++ ext) := by
  by_cases hb : a < 0 ∨ 3 ≤ a ∨ b < 0 ∨ ¬ b ≤ mostF a
  · exact Pr_of (-1) (fun P h => fx_terms_bad hb h) (fun VI P hF h => fm_terms_bad hb h)
  · simp only [not_or, Decidable.not_not] at hb
    obtain ⟨h0, h1, h2, h3⟩ := hb
    rcases in3 h0 h1 with e | e | e
    · subst e
      have h4 : b ≤ 999 := h3
      exact Pr_of 0 (fun P h => cx_terms0 h2 h4 h) (fun VI P hF h => cm_terms0 h2 (Int32.not_lt.mpr h4) hF h)
    · subst e
      have h4 : b ≤ 10 := h3
      exact Pr_of 2 (fun P h => cx_terms1 h2 h4 h) (fun VI P hF h => cm_terms1 h2 (Int32.not_lt.mpr h4) hF h)
    · subst e
      have h4 : b ≤ 9 := h3
      exact Pr_of 0 (fun P h => cx_terms2 h2 h4 h) (fun VI P hF h => cm_terms2 h2 (Int32.not_lt.mpr h4) hF h)
set_option maxRecDepth 20000 in
theorem fc5 {a b c d e : Int32} : Pr 100 mi114 mi188 [.int a, .int b, .int c, .int d, .int e] (LY ++ []) VIm ZL (vr ZR) (fun lay _ _ _ => ∃ ext, lay = LY ++ ext) := by
  exact Pr_of (20) (fun P h => cx_feed h) (fun VI P hF h => cm_feed hF h)
set_option maxRecDepth 20000 in
theorem fc6 {a : Int32} : Pr 100 mi115 mi189 [.int a] (LY ++ []) VIm ZL (vr ZR) (fun lay _ _ _ => ∃ ext, lay = LY ++ ext) := by
  exact Pr_of _ (fun P h => fx_end h) (fun VI P hF h => fm_end hF h)
set_option maxRecDepth 20000 in
theorem fc7 : Pr 100 mi116 mi186 [] (LY ++ []) VIm ZL (vr ZR) (fun lay _ _ _ => ∃ ext, lay = LY ++ ext) := by
  exact Pr_of (-6) (fun P h => fx_row h) (fun VI P hF h => fm_row hF h)
set_option maxRecDepth 20000 in
theorem fc8 : Pr 100 mi117 mi187 [] (LY ++ []) VIm ZL (vr ZR) (fun lay _ _ _ => ∃ ext, lay = LY ++ ext) := by
  exact Pr_of (0) (fun P h => fx_grain h) (fun VI P hF h => fm_grain hF h)
set_option maxRecDepth 20000 in
theorem fc9 : Pr 100 mi118 mi213 [] (LY ++ []) VIm ZL (vr ZR) (fun lay _ _ _ => ∃ ext, lay = LY ++ ext) := by
  exact Pr_of (-6) (fun P h => cx_law h) (fun VI P hF h => cm_law hF h)
set_option maxRecDepth 20000 in
theorem fc10 : Pr 100 mi119 mi269 [] (LY ++ []) VIm ZL (vr ZR) (fun lay _ _ _ => ∃ ext, lay = LY ++ ext) := by
  exact Pr_of (-6) (fun P h => cx_orders h) (fun VI P hF h => cm_orders hF h)
set_option maxRecDepth 20000 in
theorem fc11 : Pr 100 mi120 mi214 [] (LY ++ []) VIm ZL (vr ZR) (fun lay _ _ _ => ∃ ext, lay = LY ++ ext) := by
  exact Pr_of (-1) (fun P h => fx_fault h) (fun VI P hF h => fm_fault hF h)
set_option maxRecDepth 20000 in
theorem fc12 : Pr 100 mi121 mi268 [] (LY ++ []) VIm ZL (vr ZR) (fun lay _ _ _ => ∃ ext, lay = LY ++ ext) := by
  exact Pr_of (-1) (fun P h => fx_stopped h) (fun VI P hF h => fm_stopped hF h)
set_option maxRecDepth 20000 in
theorem fc13 {a : Int32} : Pr 100 mi122 mi215 [.int a] (LY ++ []) VIm ZL (vr ZR) (fun lay _ _ _ => ∃ ext, lay = LY ++ ext) := by
  exact Pr_of _ (fun P h => fx_force h) (fun VI P hF h => fm_force hF h)
set_option maxRecDepth 20000 in
theorem fc14 {a b c d : Int32} : Pr 100 mi123 mi231 [.int a, .int b, .int c, .int d] (LY ++ []) VIm ZL (vr ZR) (fun lay _ _ _ => ∃ ext, lay = LY ++ ext) := by
  exact Pr_of (-1) (fun P h => fx_asks h) (fun VI P hF h => fm_asks hF h)
set_option maxRecDepth 20000 in
theorem fc15 {a b c : Int32} : Pr 100 mi124 mi244 [.int a, .int b, .int c] (LY ++ []) VIm ZL (vr ZR) (fun lay _ _ _ => ∃ ext, lay = LY ++ ext) := by
  exact Pr_of _ (fun P h => fx_talk h) (fun VI P hF h => fm_talk hF h)
set_option maxRecDepth 20000 in
theorem fc16 {a : Int32} : Pr 100 mi125 mi245 [.int a] (LY ++ []) VIm ZL (vr ZR) (fun lay _ _ _ => ∃ ext, lay = LY ++ ext) := by
  exact Pr_of (-2) (fun P h => fx_develop h) (fun VI P hF h => fm_develop hF h)
set_option maxRecDepth 20000 in
theorem fc17 {a : Int32} : Pr 100 mi126 mi246 [.int a] (LY ++ []) VIm ZL (vr ZR) (fun lay _ _ _ => ∃ ext, lay = LY ++ ext) := by
  exact Pr_of (-2) (fun P h => fx_bury h) (fun VI P hF h => fm_bury hF h)
set_option maxRecDepth 20000 in
theorem fc18 : Pr 100 mi127 mi247 [] (LY ++ []) VIm ZL (vr ZR) (fun lay _ _ _ => ∃ ext, lay = LY ++ ext) := by
  exact Pr_of (1) (fun P h => cx_pass h) (fun VI P hF h => cm_pass hF h)
set_option maxRecDepth 20000 in
theorem fc19 : Pr 100 mi128 mi236 [] (LY ++ []) VIm ZL (vr ZR) (fun lay _ _ _ => ∃ ext, lay = LY ++ ext) := by
  exact Pr_of (-3) (fun P h => cx_undo h) (fun VI P hF h => cm_undo hF h)
set_option maxRecDepth 20000 in
theorem fc20 {a b : Int32} : Pr 100 mi129 mi251 [.int a, .int b] (LY ++ []) VIm ZL (vr ZR) (fun lay _ _ _ => ∃ ext, lay = LY ++ ext) := by
  exact Pr_of (-1) (fun P h => fx_soonest h) (fun VI P hF h => fm_soonest hF h)
set_option maxRecDepth 20000 in
theorem fc21 {a : Int32} : Pr 100 mi130 mi252 [.int a] (LY ++ []) VIm ZL (vr ZR) (fun lay _ _ _ => ∃ ext, lay = LY ++ ext) := by
  exact Pr_of (-1) (fun P h => fx_ends h) (fun VI P hF h => fm_ends hF h)
set_option maxRecDepth 20000 in
theorem fc22 {a b : Int32} : Pr 100 mi131 mi253 [.int a, .int b] (LY ++ []) VIm ZL (vr ZR) (fun lay _ _ _ => ∃ ext, lay = LY ++ ext) := by
  exact Pr_of (-1) (fun P h => fx_house h) (fun VI P hF h => fm_house hF h)
set_option maxRecDepth 20000 in
theorem fc23 {a : Int32} : Pr 100 mi132 mi257 [.int a] (LY ++ []) VIm ZL (vr ZR) (fun lay _ _ _ => ∃ ext, lay = LY ++ ext) := by
  exact Pr_of _ (fun P h => fx_givings h) (fun VI P hF h => fm_givings hF h)
set_option maxRecDepth 20000 in
theorem fc24 {a b c : Int32} : Pr 100 mi133 mi258 [.int a, .int b, .int c] (LY ++ []) VIm ZL (vr ZR) (fun lay _ _ _ => ∃ ext, lay = LY ++ ext) := by
  exact Pr_of _ (fun P h => fx_told h) (fun VI P hF h => fm_told hF h)
set_option maxRecDepth 20000 in
theorem fc25 : Pr 100 mi134 mi259 [] (LY ++ []) VIm ZL (vr ZR) (fun lay _ _ _ => ∃ ext, lay = LY ++ ext) := by
  exact Pr_of (0) (fun P h => fx_forget h) (fun VI P hF h => fm_forget hF h)
set_option maxRecDepth 20000 in
theorem fc26 {a b c : Int32} : Pr 100 mi135 mi262 [.int a, .int b, .int c] (LY ++ []) VIm ZL (vr ZR) (fun lay _ _ _ => ∃ ext, lay = LY ++ ext) := by
  rcases hasF_01 4 a with hd | hd
  · exact Pr_of (-1) (fun P h => fx_were_bad hd h) (fun VI P hF h => fm_were_bad hF (Or.inl hd) h)
  · by_cases hi : b = -1
    · subst hi
      exact Pr_of 1 (fun P h => cx_were hd h) (fun VI P hF h => cm_were hd hF h)
    · exact Pr_of (-1) (fun P h => fx_were_i hi h) (fun VI P hF h => fm_were_bad hF (Or.inr hi) h)
set_option maxRecDepth 20000 in
theorem fc27 {a b : Int32} : Pr 100 mi136 mi263 [.int a, .int b] (LY ++ []) VIm ZL (vr ZR) (fun lay _ _ _ => ∃ ext, lay = LY ++ ext) := by
  by_cases hb : hasF 4 a = 0 ∨ b < 0 ∨ 2 ≤ b
  · exact Pr_of (-1) (fun P h => fx_ask_bad hb h) (fun VI P hF h => fm_ask_bad hb h)
  · simp only [not_or] at hb
    obtain ⟨h0, h1, h2⟩ := hb
    have hd := (hasF_01 4 a).resolve_left h0
    rcases in2 h1 h2 with e | e
    · subst e
      exact Pr_of (-1) (fun P h => cx_ask0 hd h) (fun VI P hF h => cm_ask0 hd hF h)
    · subst e
      exact Pr_of (-1) (fun P h => cx_ask1 hd h) (fun VI P hF h => cm_ask1 hd hF h)
set_option maxRecDepth 20000 in
theorem fc28 {a b : Int32} : Pr 100 mi137 mi264 [.int a, .int b] (LY ++ []) VIm ZL (vr ZR) (fun lay _ _ _ => ∃ ext, lay = LY ++ ext) := by
  by_cases hb : hasF 4 a = 0 ∨ ¬ b = -1
  · exact Pr_of (-1) (fun P h => fx_chatter_bad hb h) (fun VI P hF h => fm_chatter_bad hF hb h)
  · simp only [not_or, Decidable.not_not] at hb
    obtain ⟨h0, e⟩ := hb
    have hd := (hasF_01 4 a).resolve_left h0
    subst e
    exact Pr_of 1 (fun P h => cx_chatter hd h) (fun VI P hF h => cm_chatter hd hF h)
set_option maxRecDepth 20000 in
theorem fc29 {a b : Int32} : Pr 100 mi138 mi267 [.int a, .int b] (LY ++ []) VIm ZL (vr ZR) (fun lay _ _ _ => ∃ ext, lay = LY ++ ext) := by
  exact Pr_of (-1) (fun P h => fx_chance h) (fun VI P hF h => fm_chance hF h)
set_option maxRecDepth 20000 in
theorem fc30 {a b : Int32} : Pr 100 mi139 mi275 [.int a, .int b] (LY ++ []) VIm ZL (vr ZR) (fun lay _ _ _ => ∃ ext, lay = LY ++ ext) := by
  exact Pr_of _ (fun P h => fx_years h) (fun VI P hF h => fm_years hF h)
set_option maxRecDepth 20000 in
theorem fc31 {a b : Int32} : Pr 100 mi140 mi276 [.int a, .int b] (LY ++ []) VIm ZL (vr ZR) (fun lay _ _ _ => ∃ ext, lay = LY ++ ext) := by
  exact Pr_of (-1) (fun P h => fx_drawn h) (fun VI P hF h => fm_drawn hF h)
set_option maxRecDepth 20000 in
theorem fc32 {a : Int32} : Pr 100 mi141 mi162 [.int a] (LY ++ []) VIm ZL (vr ZR) (fun lay _ _ _ => ∃ ext, lay = LY ++ ext) := by
  by_cases hb : a < 0 ∨ 2 ≤ a
  · exact Pr_of (-1) (fun P h => fx_image_bad hb h) (fun VI P hF h => fm_image_bad hb h)
  · simp only [not_or] at hb
    rcases in2 hb.1 hb.2 with e | e
    · subst e
      exact Pr_of 0 (fun P h => cx_image0 h) (fun VI P hF h => fm_image (j := 0) (by decide) h)
    · subst e
      exact Pr_of 0 (fun P h => cx_image1 h) (fun VI P hF h => fm_image (j := 1) (by decide) h)
set_option maxRecDepth 20000 in
theorem fc33 {a : Int32} : Pr 100 mi142 mi163 [.int a] (LY ++ []) VIm ZL (vr ZR) (fun lay _ _ _ => ∃ ext, lay = LY ++ ext) := by
  exact Pr_of _ (fun P h => fx_back h) (fun VI P hF h => fm_back hF h)
set_option maxRecDepth 20000 in
theorem fc34 {a : Int32} : Pr 100 mi143 mi278 [.int a] (LY ++ []) VIm ZL (vr ZR) (fun lay _ _ _ => ∃ ext, lay = LY ++ ext) := by
  by_cases hb : a < 0 ∨ 17 ≤ a
  · exact Pr_of (-1) (fun P h => fx_count_bad hb h) (fun VI P hF h => fm_count_bad hb h)
  · simp only [not_or] at hb
    obtain ⟨k, hk, e⟩ := in17 hb.1 hb.2
    subst e
    match k, hk with
    | 0, _ => exact Pr_of 0 (fun P h => cx_count0 h) (fun VI P hF h => cm_count0 hF h)
    | 1, _ => exact Pr_of 0 (fun P h => cx_count1 h) (fun VI P hF h => cm_count1 hF h)
    | 2, _ => exact Pr_of 0 (fun P h => cx_count2 h) (fun VI P hF h => cm_count2 hF h)
    | 3, _ => exact Pr_of 0 (fun P h => cx_count3 h) (fun VI P hF h => cm_count3 hF h)
    | 4, _ => exact Pr_of 0 (fun P h => cx_count4 h) (fun VI P hF h => cm_count4 hF h)
    | 5, _ => exact Pr_of 0 (fun P h => cx_count5 h) (fun VI P hF h => cm_count5 hF h)
    | 6, _ => exact Pr_of 0 (fun P h => cx_count6 h) (fun VI P hF h => cm_count6 hF h)
    | 7, _ => exact Pr_of 0 (fun P h => cx_count7 h) (fun VI P hF h => cm_count7 hF h)
    | 8, _ => exact Pr_of 0 (fun P h => cx_count8 h) (fun VI P hF h => cm_count8 hF h)
    | 9, _ => exact Pr_of 0 (fun P h => cx_count9 h) (fun VI P hF h => cm_count9 hF h)
    | 10, _ => exact Pr_of 0 (fun P h => cx_count10 h) (fun VI P hF h => cm_count10 hF h)
    | 11, _ => exact Pr_of 0 (fun P h => cx_count11 h) (fun VI P hF h => cm_count11 hF h)
    | 12, _ => exact Pr_of 0 (fun P h => cx_count12 h) (fun VI P hF h => cm_count12 hF h)
    | 13, _ => exact Pr_of (-1) (fun P h => cx_count13 h) (fun VI P hF h => cm_count13 hF h)
    | 14, _ => exact Pr_of 0 (fun P h => cx_count14 h) (fun VI P hF h => cm_count14 hF h)
    | 15, _ => exact Pr_of 2 (fun P h => cx_count15 h) (fun VI P hF h => cm_count15 hF h)
    | 16, _ => exact Pr_of 0 (fun P h => cx_count16 h) (fun VI P hF h => cm_count16 hF h)
    | n + 17, h => exact absurd h (by omega)
set_option maxRecDepth 20000 in
theorem fc35 : Pr 100 mi144 mi279 [] (LY ++ []) VIm ZL (vr ZR) (fun lay _ _ _ => ∃ ext, lay = LY ++ ext) := by
  exact Pr_of (0) (fun P h => fx_status h) (fun VI P hF h => fm_status hF h)
set_option maxRecDepth 20000 in
theorem fresh_call {c : Nat} (hc : c < 36) {a : List Int32} (ha : a.length = 5) : Call 100 c a (LY ++ []) VIm ZL (vr ZR) (fun lay _ _ _ => ∃ ext, lay = LY ++ ext) := by
  match a, ha with
  | [a, b, c1, d, e], _ =>
    match c, hc with
    | 0, _ => exact fc0
    | 1, _ => exact fc1
    | 2, _ => exact fc2
    | 3, _ => exact fc3
    | 4, _ => exact fc4
    | 5, _ => exact fc5
    | 6, _ => exact fc6
    | 7, _ => exact fc7
    | 8, _ => exact fc8
    | 9, _ => exact fc9
    | 10, _ => exact fc10
    | 11, _ => exact fc11
    | 12, _ => exact fc12
    | 13, _ => exact fc13
    | 14, _ => exact fc14
    | 15, _ => exact fc15
    | 16, _ => exact fc16
    | 17, _ => exact fc17
    | 18, _ => exact fc18
    | 19, _ => exact fc19
    | 20, _ => exact fc20
    | 21, _ => exact fc21
    | 22, _ => exact fc22
    | 23, _ => exact fc23
    | 24, _ => exact fc24
    | 25, _ => exact fc25
    | 26, _ => exact fc26
    | 27, _ => exact fc27
    | 28, _ => exact fc28
    | 29, _ => exact fc29
    | 30, _ => exact fc30
    | 31, _ => exact fc31
    | 32, _ => exact fc32
    | 33, _ => exact fc33
    | 34, _ => exact fc34
    | 35, _ => exact fc35
    | n + 36, h => exact absurd h (by omega)
