/-! ===== every call, from every state between two calls ===== -/
section Calls
variable {j : Nat} {lay : HL} {VI : VIT} {VL : VLT} {VR : VRT}
set_option maxRecDepth 20000 in
theorem all_calls {c : Nat} (hj : j ≤ 1000) (hc : c < 36) {a : List Int32} (ha : a.length = 5) (h : Inv j lay VI VL VR) : Call 100 c a lay VI VL VR (Inv (j + 1)) := by
  match a, ha with
  | [a, b, c1, d, e], _ =>
    match c, hc with
    | 0, _ => exact (j_person h : Pr 100 mi109 mi173 [.int a, .int b, .int c1] lay VI VL VR (Inv (j + 1)))
    | 1, _ => exact (j_of h : Pr 100 mi110 mi174 [.int a, .int b] lay VI VL VR (Inv (j + 1)))
    | 2, _ => exact (j_roll h : Pr 100 mi111 mi175 [.int a, .int b] lay VI VL VR (Inv (j + 1)))
    | 3, _ => exact (j_at h : Pr 100 mi112 mi183 [.int a, .int b] lay VI VL VR (Inv (j + 1)))
    | 4, _ => exact (j_terms h : Pr 100 mi113 mi185 [.int a, .int b] lay VI VL VR (Inv (j + 1)))
    | 5, _ => exact (j_feed h : Pr 100 mi114 mi188 [.int a, .int b, .int c1, .int d, .int e] lay VI VL VR (Inv (j + 1)))
    | 6, _ => exact (j_end h : Pr 100 mi115 mi189 [.int a] lay VI VL VR (Inv (j + 1)))
    | 7, _ => exact (j_row h : Pr 100 mi116 mi186 [] lay VI VL VR (Inv (j + 1)))
    | 8, _ => exact (j_grain h : Pr 100 mi117 mi187 [] lay VI VL VR (Inv (j + 1)))
    | 9, _ => exact (j_law h : Pr 100 mi118 mi213 [] lay VI VL VR (Inv (j + 1)))
    | 10, _ => exact (j_orders h : Pr 100 mi119 mi269 [] lay VI VL VR (Inv (j + 1)))
    | 11, _ => exact (j_fault h : Pr 100 mi120 mi214 [] lay VI VL VR (Inv (j + 1)))
    | 12, _ => exact (j_stopped h : Pr 100 mi121 mi268 [] lay VI VL VR (Inv (j + 1)))
    | 13, _ => exact (j_force h : Pr 100 mi122 mi215 [.int a] lay VI VL VR (Inv (j + 1)))
    | 14, _ => exact (j_asks h : Pr 100 mi123 mi231 [.int a, .int b, .int c1, .int d] lay VI VL VR (Inv (j + 1)))
    | 15, _ => exact (j_talk h : Pr 100 mi124 mi244 [.int a, .int b, .int c1] lay VI VL VR (Inv (j + 1)))
    | 16, _ => exact (j_develop h : Pr 100 mi125 mi245 [.int a] lay VI VL VR (Inv (j + 1)))
    | 17, _ => exact (j_bury h : Pr 100 mi126 mi246 [.int a] lay VI VL VR (Inv (j + 1)))
    | 18, _ => exact (j_pass h : Pr 100 mi127 mi247 [] lay VI VL VR (Inv (j + 1)))
    | 19, _ => exact (j_undo h : Pr 100 mi128 mi236 [] lay VI VL VR (Inv (j + 1)))
    | 20, _ => exact (j_soonest hj h : Pr 100 mi129 mi251 [.int a, .int b] lay VI VL VR (Inv (j + 1)))
    | 21, _ => exact (j_ends hj h : Pr 100 mi130 mi252 [.int a] lay VI VL VR (Inv (j + 1)))
    | 22, _ => exact (j_house hj h : Pr 100 mi131 mi253 [.int a, .int b] lay VI VL VR (Inv (j + 1)))
    | 23, _ => exact (j_givings h : Pr 100 mi132 mi257 [.int a] lay VI VL VR (Inv (j + 1)))
    | 24, _ => exact (j_told h : Pr 100 mi133 mi258 [.int a, .int b, .int c1] lay VI VL VR (Inv (j + 1)))
    | 25, _ => exact (j_forget h : Pr 100 mi134 mi259 [] lay VI VL VR (Inv (j + 1)))
    | 26, _ => exact (j_were h : Pr 100 mi135 mi262 [.int a, .int b, .int c1] lay VI VL VR (Inv (j + 1)))
    | 27, _ => exact (j_ask h : Pr 100 mi136 mi263 [.int a, .int b] lay VI VL VR (Inv (j + 1)))
    | 28, _ => exact (j_chatter h : Pr 100 mi137 mi264 [.int a, .int b] lay VI VL VR (Inv (j + 1)))
    | 29, _ => exact (j_chance h : Pr 100 mi138 mi267 [.int a, .int b] lay VI VL VR (Inv (j + 1)))
    | 30, _ => exact (j_years h : Pr 100 mi139 mi275 [.int a, .int b] lay VI VL VR (Inv (j + 1)))
    | 31, _ => exact (j_drawn h : Pr 100 mi140 mi276 [.int a, .int b] lay VI VL VR (Inv (j + 1)))
    | 32, _ => exact (j_image h : Pr 100 mi141 mi162 [.int a] lay VI VL VR (Inv (j + 1)))
    | 33, _ => exact (j_back h : Pr 100 mi142 mi163 [.int a] lay VI VL VR (Inv (j + 1)))
    | 34, _ => exact (j_count h : Pr 100 mi143 mi278 [.int a] lay VI VL VR (Inv (j + 1)))
    | 35, _ => exact (j_status h : Pr 100 mi144 mi279 [] lay VI VL VR (Inv (j + 1)))
    | n + 36, h => exact absurd h (by omega)
end Calls
/-! ===== the first state ===== -/
def K00 : KT := fun i => if i = 91 then 2 else 0
set_option maxRecDepth 20000 in
theorem VIm76 (i : Nat) : VIm 76 i = if i = 97 then -1 else if i = 91 then 2 else 0 := rfl
set_option maxRecDepth 20000 in
theorem VIm73 (k : Nat) : VIm 73 k = 0 := rfl
set_option maxRecDepth 20000 in
theorem VIm75 (k : Nat) : VIm 75 k = 0 := rfl
set_option maxRecDepth 20000 in
theorem VIm_a : VIm 0 17 = 0 := rfl
set_option maxRecDepth 20000 in
theorem VIm_b : VIm 74 0 = 0 := rfl
set_option maxRecDepth 20000 in
theorem VIm_c : VIm 0 14 = -1 := rfl
set_option maxRecDepth 20000 in
theorem VIm_d : VIm 74 14 = -1 := rfl
set_option maxRecDepth 20000 in
theorem VIm_e : VIm 0 15 = 0 := rfl
set_option maxRecDepth 20000 in
theorem VIm_f : VIm 74 6 = 0 := rfl
set_option maxRecDepth 20000 in
theorem VIm_g : VIm 0 16 = -1 := rfl
set_option maxRecDepth 20000 in
theorem VIm_h : VIm 74 42 = -1 := rfl
set_option maxRecDepth 20000 in
theorem VIm_i : VIm 45 2 = 0 := rfl
set_option maxRecDepth 20000 in
theorem VIm_j : VIm 74 32 = 0 := rfl
set_option maxRecDepth 20000 in
theorem VIm_k : VIm 70 3 = 0 := rfl
set_option maxRecDepth 20000 in
theorem VIm_l : VIm 74 50 = -1 := rfl
set_option maxRecDepth 20000 in
theorem misc_0 : Misc VIm := ⟨VIm_a.trans VIm_b.symm, VIm_c.trans VIm_d.symm, VIm_e.trans VIm_f.symm, VIm_g.trans VIm_h.symm, fun k _ => (VIm73 k).trans (VIm75 (k + 1)).symm⟩
set_option maxRecDepth 20000 in
theorem rw_0 : RW 3 K00 VIm := ⟨rfl, rfl, rfl, rfl, rfl, rfl, rfl, fun p hp => absurd hp (Nat.not_lt_zero _), fun p q hp => absurd hp (Nat.not_lt_zero _), fun r hr => absurd hr (Nat.not_lt_zero _), fun k hk => absurd hk (Nat.not_lt_zero _), rfl, rfl, rfl⟩
set_option maxRecDepth 20000 in
theorem stamp_0 : Stamp 0 VIm := ⟨0, by omega, rfl, fun k _ => ⟨0, by omega, rfl⟩⟩
set_option maxRecDepth 20000 in
theorem inv_0 : Inv 0 (LY ++ []) VIm ZL (vr ZR) := by
  refine St.inv (K := K00) (tn := 0) (T := fun _ => 0) (u := 0) (US := fun _ => K00) (lg := fun _ => 0) ⟨?_, ?_, ?_, ?_, ?_, ?_, ?_, ?_, ?_, ?_, rfl, ?_⟩
  · exact ⟨by decide, by decide, by decide, by decide, by decide, by decide, by decide, by decide, fun p hp => absurd hp (Nat.not_lt_zero _), fun p q hp => absurd hp (Nat.not_lt_zero _), fun r hr => absurd hr (Nat.not_lt_zero _), fun k hk => absurd hk (Nat.not_lt_zero _)⟩
  · exact rw_0
  · refine ⟨fun i hi hn => ?_, rfl⟩
    rw [VIm76, if_neg hn]
    unfold K00
    by_cases c : i = 91
    · rw [if_pos c, if_pos c]; rfl
    · rw [if_neg c, if_neg c]; rfl
  · exact misc_0
  · exact ⟨by omega, rfl, rfl, fun k hk => absurd hk (Nat.not_lt_zero _)⟩
  · exact Und.none VIm_i VIm_j
  · exact Or.inl ⟨VIm_k, VIm_l⟩
  · exact stamp_0
  · refine ⟨0, by omega, rfl, fun k _ => ?_, fun k _ hb => ?_⟩
    · rw [Nat.zero_div]; rfl
    · rw [Nat.zero_div] at hb
      exact absurd hb (by decide)
  · exact fun t ht => absurd ht (Nat.not_lt_zero _)
  · intro w hw i _
    rcases hw with rfl | rfl | rfl | rfl <;> exact Or.inl rfl
