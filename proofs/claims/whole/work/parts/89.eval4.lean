/-! ===== the model tells a law's words and numbers ===== -/
def AskE (e : Env) (V : VIT) : Prop := ∀ k, k < 9 → (V 86 k).toInt = e (8 + k) ∧ -1000000000 ≤ e (8 + k) ∧ e (8 + k) ≤ 1000000000
section Ev4
variable {d : Nat} {V0 : VIT} {VL : VLT} {G : VRT} {P : Post} {ext : HL} {K : KT} {B n : Nat} {tc tv : Nat → Nat} {e : Env}
set_option maxRecDepth 20000 in
theorem lf_fin {l b : Nat} {V : VIT} {x : Int} {u : Int32} (hl : l ≤ 1) (hb1 : b ≤ 1) (hu : u.toInt = x) (h1 : -1000000000 ≤ x) (h2 : x ≤ 1000000000) : Rel 1 0 (some x) u.toInt64 0 := by
  refine ⟨fun _ _ => ⟨fun a ha => ?_, fun z => (by cases z)⟩, fun z => by omega⟩
  cases ha
  exact ⟨by rw [Int32.toInt_toInt64]; exact hu, h1, h2, rfl⟩
set_option maxRecDepth 20000 in
theorem lf_law (hE : EvS K B n tc V0) (hO : V0 74 25 = nI 0) (hv : ∀ i, i < n → tv i = K (2905 + (B + i))) (hA9 : AskE e V0) : LfOK V0 VL G ext B n e false tc tv := by
  intro f dp i p x l b V D hD hi hl hF hA c hr
  have hE1 := hE.fr hF
  have hn4 := hE.2.2.2.1
  have hB4 := hE.2.2.1
  have h7c := hE.2.2.2.2.2.2 i
  have hO1 : V 74 25 = nI 0 := (hF 74 25 (by omega)).trans hO
  have e9 : prs false tc tv (f + 1) 9 dp i p x = (if tc i = 191 then (if 8 ≤ dp then (0, i, p, x) else pbd (prs false tc tv f 5 (dp + 1) (i + 1) p x) (fun i' p' y => if tc i' = 193 then (1, i' + 1, p', y) else (0, i', p', y)))
      else if 50 ≤ p then (0, i, p, x)
      else if tc i = 50 ∧ tv i ≤ 1000 then (1, i + 1, p + 1, dNum (tv i))
      else if 8 ≤ tc i ∧ tc i ≤ 16 then (1, i + 1, p + 1, dWord (tc i)) else (0, i, p, x)) := rfl
  rw [e9, if_neg c] at hr ⊢
  by_cases c1 : 50 ≤ p
  · rw [if_pos c1] at hr; exact absurd hr (by show ¬ 0 = 1; omega)
  rw [if_neg c1] at hr ⊢
  obtain ⟨d, rfl⟩ : ∃ d, D = d + 2 := ⟨D - 2, by omega⟩
  have hgo : ∀ {q : Int32}, up V 74 22 q 74 24 = nI b := fun {q} => (up_at' (by omega)).trans hA.2.1
  have hgo2 : ∀ {q : Int32}, up V 74 22 q 74 25 = nI 0 := fun {q} => (up_at' (by omega)).trans hO1
  have hin : i < n := Nat.lt_of_not_le (fun z => by
    have := hE.2.2.2.2.2.1 i z
    rw [if_neg (by omega), if_neg (by omega)] at hr
    exact absurd hr (by show ¬ 0 = 1; omega))
  by_cases c2 : tc i = 50 ∧ tv i ≤ 1000
  · rw [if_pos c2] at hr ⊢
    intro P hP
    have hk : K (2905 + (B + i)) = tv i := (hv i hin).symm
    rcases (show l = 0 ∨ l = 1 by omega) with rfl | rfl
    · refine x_aload_n rfl rfl ?_
      refine x_bipushN (q := 91) rfl ?_
      refine x_callS (M' := mi199) (As := [_]) (bc1 := 0) (bs1 := 0) (bc2 := 0) (bs2 := 0) rfl rfl rfl rfl ok199 rfl rfl rfl rfl rfl rfl ?_
      refine m_sign (by omega) ?_
      refine x_callV (M' := mi217) (As := [_]) (bc1 := 0) (bs1 := 0) (bc2 := 0) (bs2 := 0) rfl rfl rfl rfl ok217 rfl rfl (by decide) rfl rfl rfl rfl rfl rfl ?_
      refine m_passes_no hE1 hA.1 (by omega) (by omega) c ?_
      refine x_ifN_eq rfl (fun c9 => ?_) (fun c9 => ?_)
      rotate_left
      · exact absurd c9 (by first | decide | omega)
      refine x_aload_n rfl rfl ?_
      refine x_aload_n rfl rfl ?_
      refine x_getE (y := 22) rfl rfl rfl (hA.1) ?_
      refine x_callV (M' := mi216) (As := [_]) (bc1 := 0) (bs1 := 0) (bc2 := 0) (bs2 := 0) rfl rfl rfl rfl ok216 rfl rfl (by decide) rfl rfl rfl rfl rfl rfl ?_
      refine m_codeAt hE1 (by omega) ?_
      rw [c2.1]
      refine x_istore_n (ls' := [_, _, _, _]) rfl rfl rfl ?_
      refine x_iconstN (q := 0) rfl ?_
      refine x_istore_n (ls' := [_, _, _, _]) rfl rfl rfl ?_
      refine x_aload_n rfl rfl ?_
      refine x_dup rfl rfl ?_
      refine x_getE (y := 22) rfl rfl rfl (hA.1) ?_
      refine x_iconstN (q := 1) rfl ?_
      refine x_iaddN rfl ?_
      refine x_putI rfl rfl rfl rfl ?_
      refine x_aload_n rfl rfl ?_
      refine x_getE (y := 25) rfl rfl rfl (hO1) ?_
      refine x_ifN_eq rfl (fun c55 => ?_) (fun c55 => ?_)
      rotate_left
      · exact absurd c55 (by first | decide | omega)
      refine x_iload_n rfl rfl ?_
      refine x_ifN_eq rfl (fun c95 => ?_) (fun c95 => ?_)
      rotate_left
      · exact absurd c95 (by first | decide | omega)
      refine x_lconst rfl ?_
      refine x_lret rfl rfl ?_
      exact hP 0 _ b hF.go ⟨up_at, hgo, hA.2.2⟩ ⟨fun z => absurd z (by omega), fun _ => rfl⟩
    · rcases (show b = 0 ∨ b = 1 by have := hA.2.2; omega) with rfl | rfl
      · refine x_aload_n rfl rfl ?_
        refine x_bipushN (q := 91) rfl ?_
        refine x_callS (M' := mi199) (As := [_]) (bc1 := 0) (bs1 := 0) (bc2 := 0) (bs2 := 0) rfl rfl rfl rfl ok199 rfl rfl rfl rfl rfl rfl ?_
        refine m_sign (by omega) ?_
        refine x_callV (M' := mi217) (As := [_]) (bc1 := 0) (bs1 := 0) (bc2 := 0) (bs2 := 0) rfl rfl rfl rfl ok217 rfl rfl (by decide) rfl rfl rfl rfl rfl rfl ?_
        refine m_passes_no hE1 hA.1 (by omega) (by omega) c ?_
        refine x_ifN_eq rfl (fun c9 => ?_) (fun c9 => ?_)
        rotate_left
        · exact absurd c9 (by first | decide | omega)
        refine x_aload_n rfl rfl ?_
        refine x_aload_n rfl rfl ?_
        refine x_getE (y := 22) rfl rfl rfl (hA.1) ?_
        refine x_callV (M' := mi216) (As := [_]) (bc1 := 0) (bs1 := 0) (bc2 := 0) (bs2 := 0) rfl rfl rfl rfl ok216 rfl rfl (by decide) rfl rfl rfl rfl rfl rfl ?_
        refine m_codeAt hE1 (by omega) ?_
        rw [c2.1]
        refine x_istore_n (ls' := [_, _, _, _]) rfl rfl rfl ?_
        refine x_iconstN (q := 0) rfl ?_
        refine x_istore_n (ls' := [_, _, _, _]) rfl rfl rfl ?_
        refine x_aload_n rfl rfl ?_
        refine x_dup rfl rfl ?_
        refine x_getE (y := 22) rfl rfl rfl (hA.1) ?_
        refine x_iconstN (q := 1) rfl ?_
        refine x_iaddN rfl ?_
        refine x_putI rfl rfl rfl rfl ?_
        refine x_aload_n rfl rfl ?_
        refine x_getE (y := 25) rfl rfl rfl (hO1) ?_
        refine x_ifN_eq rfl (fun c55 => ?_) (fun c55 => ?_)
        rotate_left
        · exact absurd c55 (by first | decide | omega)
        refine x_iload_n rfl rfl ?_
        refine x_ifN_eq rfl (fun c95 => ?_) (fun c95 => ?_)
        · exact absurd c95 (by first | decide | omega)
        refine x_aload_n rfl rfl ?_
        refine x_getE (y := 24) rfl rfl rfl (hgo) ?_
        refine x_ifN_eq rfl (fun c102 => ?_) (fun c102 => ?_)
        rotate_left
        · exact absurd c102 (by first | decide | omega)
        refine x_iload_n rfl rfl ?_
        refine x_bipushN (q := 50) rfl ?_
        refine x_icmpN_ne rfl (fun c110 => ?_) (fun c110 => ?_)
        · exact absurd c110 (by first | decide | omega)
        skip
        refine x_aload_n rfl rfl ?_
        refine x_getR (u := .ref _) rfl rfl rfl rfl ?_
        refine x_sipushN (q := 2905) rfl ?_
        refine x_aload_n rfl rfl ?_
        refine x_getE (y := 22) rfl rfl rfl (up_at) ?_
        refine x_iaddN rfl ?_
        refine x_iconstN (q := 1) rfl ?_
        refine x_isubN rfl ?_
        refine x_ialE (j := 2905 + (B + i)) rfl rfl ((by rw [show 2905 + (B + i + 1) - 1 = 2905 + (B + i) by omega])) (by omega) (hE1.1.at (2905 + (B + i))) ?_
        rw [hk]
        refine x_i2l rfl ?_
        refine x_lret rfl rfl ?_
        exact hP _ _ 0 hF.go ⟨up_at, hgo, by omega⟩ (lf_fin (l := 1) (b := 0) (V := V) (by omega) (by omega) (nI_toInt (by omega)) (by omega) (by omega))
      · refine x_aload_n rfl rfl ?_
        refine x_bipushN (q := 91) rfl ?_
        refine x_callS (M' := mi199) (As := [_]) (bc1 := 0) (bs1 := 0) (bc2 := 0) (bs2 := 0) rfl rfl rfl rfl ok199 rfl rfl rfl rfl rfl rfl ?_
        refine m_sign (by omega) ?_
        refine x_callV (M' := mi217) (As := [_]) (bc1 := 0) (bs1 := 0) (bc2 := 0) (bs2 := 0) rfl rfl rfl rfl ok217 rfl rfl (by decide) rfl rfl rfl rfl rfl rfl ?_
        refine m_passes_no hE1 hA.1 (by omega) (by omega) c ?_
        refine x_ifN_eq rfl (fun c9 => ?_) (fun c9 => ?_)
        rotate_left
        · exact absurd c9 (by first | decide | omega)
        refine x_aload_n rfl rfl ?_
        refine x_aload_n rfl rfl ?_
        refine x_getE (y := 22) rfl rfl rfl (hA.1) ?_
        refine x_callV (M' := mi216) (As := [_]) (bc1 := 0) (bs1 := 0) (bc2 := 0) (bs2 := 0) rfl rfl rfl rfl ok216 rfl rfl (by decide) rfl rfl rfl rfl rfl rfl ?_
        refine m_codeAt hE1 (by omega) ?_
        rw [c2.1]
        refine x_istore_n (ls' := [_, _, _, _]) rfl rfl rfl ?_
        refine x_iconstN (q := 0) rfl ?_
        refine x_istore_n (ls' := [_, _, _, _]) rfl rfl rfl ?_
        refine x_aload_n rfl rfl ?_
        refine x_dup rfl rfl ?_
        refine x_getE (y := 22) rfl rfl rfl (hA.1) ?_
        refine x_iconstN (q := 1) rfl ?_
        refine x_iaddN rfl ?_
        refine x_putI rfl rfl rfl rfl ?_
        refine x_aload_n rfl rfl ?_
        refine x_getE (y := 25) rfl rfl rfl (hO1) ?_
        refine x_ifN_eq rfl (fun c55 => ?_) (fun c55 => ?_)
        rotate_left
        · exact absurd c55 (by first | decide | omega)
        refine x_iload_n rfl rfl ?_
        refine x_ifN_eq rfl (fun c95 => ?_) (fun c95 => ?_)
        · exact absurd c95 (by first | decide | omega)
        refine x_aload_n rfl rfl ?_
        refine x_getE (y := 24) rfl rfl rfl (hgo) ?_
        refine x_ifN_eq rfl (fun c102 => ?_) (fun c102 => ?_)
        · exact absurd c102 (by first | decide | omega)
        refine x_lconst rfl ?_
        refine x_lret rfl rfl ?_
        exact hP 0 _ 1 hF.go ⟨up_at, hgo, by omega⟩ ⟨fun _ z => absurd z (by omega), fun _ => rfl⟩
  · rw [if_neg c2] at hr ⊢
    by_cases c3 : 8 ≤ tc i ∧ tc i ≤ 16
    · rw [if_pos c3] at hr ⊢
      intro P hP
      obtain ⟨a1, a2, a3⟩ := hA9 (tc i - 8) (by omega)
      rw [show 8 + (tc i - 8) = tc i by omega] at a1 a2 a3
      have a86 : V 86 (tc i - 8) = V0 86 (tc i - 8) := hF 86 _ (by omega)
      rcases (show l = 0 ∨ l = 1 by omega) with rfl | rfl
      · refine x_aload_n rfl rfl ?_
        refine x_bipushN (q := 91) rfl ?_
        refine x_callS (M' := mi199) (As := [_]) (bc1 := 0) (bs1 := 0) (bc2 := 0) (bs2 := 0) rfl rfl rfl rfl ok199 rfl rfl rfl rfl rfl rfl ?_
        refine m_sign (by omega) ?_
        refine x_callV (M' := mi217) (As := [_]) (bc1 := 0) (bs1 := 0) (bc2 := 0) (bs2 := 0) rfl rfl rfl rfl ok217 rfl rfl (by decide) rfl rfl rfl rfl rfl rfl ?_
        refine m_passes_no hE1 hA.1 (by omega) (by omega) c ?_
        refine x_ifN_eq rfl (fun c9 => ?_) (fun c9 => ?_)
        rotate_left
        · exact absurd c9 (by first | decide | omega)
        refine x_aload_n rfl rfl ?_
        refine x_aload_n rfl rfl ?_
        refine x_getE (y := 22) rfl rfl rfl (hA.1) ?_
        refine x_callV (M' := mi216) (As := [_]) (bc1 := 0) (bs1 := 0) (bc2 := 0) (bs2 := 0) rfl rfl rfl rfl ok216 rfl rfl (by decide) rfl rfl rfl rfl rfl rfl ?_
        refine m_codeAt hE1 (by omega) ?_
        refine x_istore_n (ls' := [_, _, _, _]) rfl rfl rfl ?_
        refine x_iconstN (q := 0) rfl ?_
        refine x_istore_n (ls' := [_, _, _, _]) rfl rfl rfl ?_
        refine x_aload_n rfl rfl ?_
        refine x_dup rfl rfl ?_
        refine x_getE (y := 22) rfl rfl rfl (hA.1) ?_
        refine x_iconstN (q := 1) rfl ?_
        refine x_iaddN rfl ?_
        refine x_putI rfl rfl rfl rfl ?_
        refine x_aload_n rfl rfl ?_
        refine x_getE (y := 25) rfl rfl rfl (hO1) ?_
        refine x_ifN_eq rfl (fun c55 => ?_) (fun c55 => ?_)
        rotate_left
        · exact absurd c55 (by first | decide | omega)
        refine x_iload_n rfl rfl ?_
        refine x_ifN_eq rfl (fun c95 => ?_) (fun c95 => ?_)
        rotate_left
        · exact absurd c95 (by first | decide | omega)
        refine x_lconst rfl ?_
        refine x_lret rfl rfl ?_
        exact hP 0 _ b hF.go ⟨up_at, hgo, hA.2.2⟩ ⟨fun z => absurd z (by omega), fun _ => rfl⟩
      · rcases (show b = 0 ∨ b = 1 by have := hA.2.2; omega) with rfl | rfl
        · refine x_aload_n rfl rfl ?_
          refine x_bipushN (q := 91) rfl ?_
          refine x_callS (M' := mi199) (As := [_]) (bc1 := 0) (bs1 := 0) (bc2 := 0) (bs2 := 0) rfl rfl rfl rfl ok199 rfl rfl rfl rfl rfl rfl ?_
          refine m_sign (by omega) ?_
          refine x_callV (M' := mi217) (As := [_]) (bc1 := 0) (bs1 := 0) (bc2 := 0) (bs2 := 0) rfl rfl rfl rfl ok217 rfl rfl (by decide) rfl rfl rfl rfl rfl rfl ?_
          refine m_passes_no hE1 hA.1 (by omega) (by omega) c ?_
          refine x_ifN_eq rfl (fun c9 => ?_) (fun c9 => ?_)
          rotate_left
          · exact absurd c9 (by first | decide | omega)
          refine x_aload_n rfl rfl ?_
          refine x_aload_n rfl rfl ?_
          refine x_getE (y := 22) rfl rfl rfl (hA.1) ?_
          refine x_callV (M' := mi216) (As := [_]) (bc1 := 0) (bs1 := 0) (bc2 := 0) (bs2 := 0) rfl rfl rfl rfl ok216 rfl rfl (by decide) rfl rfl rfl rfl rfl rfl ?_
          refine m_codeAt hE1 (by omega) ?_
          refine x_istore_n (ls' := [_, _, _, _]) rfl rfl rfl ?_
          refine x_iconstN (q := 0) rfl ?_
          refine x_istore_n (ls' := [_, _, _, _]) rfl rfl rfl ?_
          refine x_aload_n rfl rfl ?_
          refine x_dup rfl rfl ?_
          refine x_getE (y := 22) rfl rfl rfl (hA.1) ?_
          refine x_iconstN (q := 1) rfl ?_
          refine x_iaddN rfl ?_
          refine x_putI rfl rfl rfl rfl ?_
          refine x_aload_n rfl rfl ?_
          refine x_getE (y := 25) rfl rfl rfl (hO1) ?_
          refine x_ifN_eq rfl (fun c55 => ?_) (fun c55 => ?_)
          rotate_left
          · exact absurd c55 (by first | decide | omega)
          refine x_iload_n rfl rfl ?_
          refine x_ifN_eq rfl (fun c95 => ?_) (fun c95 => ?_)
          · exact absurd c95 (by first | decide | omega)
          refine x_aload_n rfl rfl ?_
          refine x_getE (y := 24) rfl rfl rfl (hgo) ?_
          refine x_ifN_eq rfl (fun c102 => ?_) (fun c102 => ?_)
          rotate_left
          · exact absurd c102 (by first | decide | omega)
          refine x_iload_n rfl rfl ?_
          refine x_bipushN (q := 50) rfl ?_
          refine x_icmpN_ne rfl (fun c110 => ?_) (fun c110 => ?_)
          rotate_left
          · exact absurd c110 (by first | decide | omega)
          refine x_aload_n rfl rfl ?_
          refine x_getE (y := 25) rfl rfl rfl (hO1) ?_
          refine x_ifN_eq rfl (fun c134 => ?_) (fun c134 => ?_)
          rotate_left
          · exact absurd c134 (by first | decide | omega)
          refine x_aload_n rfl rfl ?_
          refine x_getR (u := .ref _) rfl rfl rfl rfl ?_
          refine x_iload_n rfl rfl ?_
          refine x_bipushN (q := 8) rfl ?_
          refine x_isubN rfl ?_
          refine x_ialN (j := tc i - 8) rfl rfl (rfl) (by omega) ?_
          rw [show up V 74 22 (nI (B + i + 1)) 86 (tc i - 8) = V0 86 (tc i - 8) from a86]
          refine x_i2l rfl ?_
          refine x_lret rfl rfl ?_
          exact hP _ _ 0 hF.go ⟨up_at, hgo, by omega⟩ (lf_fin (l := 1) (b := 0) (V := V) (by omega) (by omega) a1 a2 a3)
        · refine x_aload_n rfl rfl ?_
          refine x_bipushN (q := 91) rfl ?_
          refine x_callS (M' := mi199) (As := [_]) (bc1 := 0) (bs1 := 0) (bc2 := 0) (bs2 := 0) rfl rfl rfl rfl ok199 rfl rfl rfl rfl rfl rfl ?_
          refine m_sign (by omega) ?_
          refine x_callV (M' := mi217) (As := [_]) (bc1 := 0) (bs1 := 0) (bc2 := 0) (bs2 := 0) rfl rfl rfl rfl ok217 rfl rfl (by decide) rfl rfl rfl rfl rfl rfl ?_
          refine m_passes_no hE1 hA.1 (by omega) (by omega) c ?_
          refine x_ifN_eq rfl (fun c9 => ?_) (fun c9 => ?_)
          rotate_left
          · exact absurd c9 (by first | decide | omega)
          refine x_aload_n rfl rfl ?_
          refine x_aload_n rfl rfl ?_
          refine x_getE (y := 22) rfl rfl rfl (hA.1) ?_
          refine x_callV (M' := mi216) (As := [_]) (bc1 := 0) (bs1 := 0) (bc2 := 0) (bs2 := 0) rfl rfl rfl rfl ok216 rfl rfl (by decide) rfl rfl rfl rfl rfl rfl ?_
          refine m_codeAt hE1 (by omega) ?_
          refine x_istore_n (ls' := [_, _, _, _]) rfl rfl rfl ?_
          refine x_iconstN (q := 0) rfl ?_
          refine x_istore_n (ls' := [_, _, _, _]) rfl rfl rfl ?_
          refine x_aload_n rfl rfl ?_
          refine x_dup rfl rfl ?_
          refine x_getE (y := 22) rfl rfl rfl (hA.1) ?_
          refine x_iconstN (q := 1) rfl ?_
          refine x_iaddN rfl ?_
          refine x_putI rfl rfl rfl rfl ?_
          refine x_aload_n rfl rfl ?_
          refine x_getE (y := 25) rfl rfl rfl (hO1) ?_
          refine x_ifN_eq rfl (fun c55 => ?_) (fun c55 => ?_)
          rotate_left
          · exact absurd c55 (by first | decide | omega)
          refine x_iload_n rfl rfl ?_
          refine x_ifN_eq rfl (fun c95 => ?_) (fun c95 => ?_)
          · exact absurd c95 (by first | decide | omega)
          refine x_aload_n rfl rfl ?_
          refine x_getE (y := 24) rfl rfl rfl (hgo) ?_
          refine x_ifN_eq rfl (fun c102 => ?_) (fun c102 => ?_)
          · exact absurd c102 (by first | decide | omega)
          refine x_lconst rfl ?_
          refine x_lret rfl rfl ?_
          exact hP 0 _ 1 hF.go ⟨up_at, hgo, by omega⟩ ⟨fun _ z => absurd z (by omega), fun _ => rfl⟩
    · rw [if_neg c3] at hr; exact absurd hr (by show ¬ 0 = 1; omega)
end Ev4
