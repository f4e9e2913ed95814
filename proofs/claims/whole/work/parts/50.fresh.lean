/-! ===== a fresh object: every first call, on both sides ===== -/
def Fm (VI : VIT) : Prop := ∀ a, 74 ≤ a → VI a = VIm a
set_option maxRecDepth 20000 in
theorem Fm0 : Fm VIm := fun _ _ => rfl
set_option maxRecDepth 20000 in
theorem Fm_up {VI : VIT} {a k : Nat} {x : Int32} (h : Fm VI) (ha : a < 74) : Fm (up VI a k x) := fun b hb => by rw [up_ne (by omega)]; exact h b hb
set_option maxRecDepth 20000 in
theorem Fm_uw {VI : VIT} {a : Nat} {g : Nat → Int32} (h : Fm VI) (ha : a < 74) : Fm (uw VI a g) := fun b hb => by rw [uw_ne (by omega)]; exact h b hb
set_option maxRecDepth 20000 in
theorem Fm.at {VI : VIT} (h : Fm VI) {a k : Nat} {v : Int32} (ha : 74 ≤ a) (e : VIm a k = v) : VI a k = v := by rw [h a ha]; exact e
set_option maxRecDepth 20000 in
theorem hasF_z (p : Int32) : hasF 0 p = 0 := by
  unfold hasF
  split
  · rfl
  · rename_i h
    rw [if_pos (Int32.not_lt.mp h)]
set_option maxRecDepth 20000 in
theorem liesF_z (v : Int32) : liesF v 0 (0 - 1) = false := by
  simp only [liesF, decide_eq_false_iff_not, not_and, Int32.lt_iff_toInt_lt]
  intro h1 h2
  have e1 : (0 : Int32).toInt = 0 := rfl
  have e2 : (0 - 1 : Int32).toInt = -1 := rfl
  rw [e1] at h1
  rw [e2] at h2
  omega
set_option maxRecDepth 20000 in
theorem two01 {k : Int32} (h1 : ¬ k < 0) (h2 : k < 2) : k = 0 ∨ k = 1 := by
  rw [Int32.lt_iff_toInt_lt] at h1 h2
  have e2 : (2 : Int32).toInt = 2 := rfl
  have e0 : (0 : Int32).toInt = 0 := rfl
  have e1 : (1 : Int32).toInt = 1 := rfl
  have h3 : k.toInt = 0 ∨ k.toInt = 1 := by omega
  rcases h3 with h | h
  · exact Or.inl (Int32.toInt_inj.mp (h.trans e0.symm))
  · exact Or.inr (Int32.toInt_inj.mp (h.trans e1.symm))
section Fresh
variable {d : Nat} {VI : VIT} {VL : VLT} {G : VRT} {P : Post} {ext : HL}
set_option maxRecDepth 20000 in
theorem s_hasPerson_z {p : Int32} (h : VI 3 0 = 0) (hP : P (some (.int 0)) (LY ++ ext) VI VL (vr G)) : Ex d mi95 0 (entL [.ref 3, .int p] 2) [] (LY ++ ext) VI VL (vr G) 0 0 P := s_hasPerson (by rw [h, hasF_z]; exact hP)
set_option maxRecDepth 20000 in
theorem s_hasRoll_z {p : Int32} (h : VI 3 5 = 0) (hP : P (some (.int 0)) (LY ++ ext) VI VL (vr G)) : Ex d mi96 0 (entL [.ref 3, .int p] 2) [] (LY ++ ext) VI VL (vr G) 0 0 P := s_hasRoll (by rw [h, hasF_z]; exact hP)
set_option maxRecDepth 20000 in
theorem s_hasLaw_z {p : Int32} (h : VI 3 14 = 0) (hP : P (some (.int 0)) (LY ++ ext) VI VL (vr G)) : Ex d mi97 0 (entL [.ref 3, .int p] 2) [] (LY ++ ext) VI VL (vr G) 0 0 P := s_hasLaw (by rw [h, hasF_z]; exact hP)
set_option maxRecDepth 20000 in
theorem m_isPerson_z {p : Int32} (h : VI 76 93 = 0) (hP : P (some (.int 0)) (LY ++ ext) VI VL (vr G)) : Ex (d + 1) mi164 0 (entL [.ref 74, .int p] 2) [] (LY ++ ext) VI VL (vr G) 0 0 P := m_isPerson (by rw [h, liesF_z]; exact hP)
set_option maxRecDepth 20000 in
theorem m_isRoll_z {p : Int32} (h : VI 76 94 = 0) (hP : P (some (.int 0)) (LY ++ ext) VI VL (vr G)) : Ex (d + 1) mi165 0 (entL [.ref 74, .int p] 2) [] (LY ++ ext) VI VL (vr G) 0 0 P := m_isRoll (by rw [h, liesF_z]; exact hP)
end Fresh
abbrev PX (P : Post) (a : Int32) : Prop := ∀ VI', Fm VI' → P (some (.int a)) (LY ++ []) VI' ZL (vr ZR)
abbrev PM (P : Post) (a : Int32) : Prop := ∀ VI', P (some (.int a)) (LY ++ []) VI' ZL (vr ZR)
set_option maxRecDepth 20000 in
theorem PX.c {P : Post} {a b : Int32} {VI : VIT} (h : PX P a) (e : b = a) (hF : Fm VI) : P (some (.int b)) (LY ++ []) VI ZL (vr ZR) := e ▸ h VI hF
set_option maxRecDepth 20000 in
theorem PM.c {P : Post} {a b : Int32} {VI : VIT} (h : PM P a) (e : b = a) : P (some (.int b)) (LY ++ []) VI ZL (vr ZR) := e ▸ h VI
set_option maxRecDepth 20000 in
theorem Pr_of {D : Nat} {xm mm : MI} {As : List Value} (a : Int32) (hx : ∀ P, PX P a → Ex D xm 0 (entL (.ref 0 :: As) (mL xm)) [] (LY ++ []) VIm ZL (vr ZR) 0 0 P) (hm : ∀ VI P, Fm VI → PM P a → Ex D mm 0 (entL (.ref 74 :: As) (mL mm)) [] (LY ++ []) VI ZL (vr ZR) 0 0 P) : Pr D xm mm As (LY ++ []) VIm ZL (vr ZR) (fun lay _ _ _ => ∃ ext, lay = LY ++ ext) := by
  refine ExS.budget (bc := 0) (bs := 0) (hx _ (fun VI' hF => ⟨a, [], rfl, rfl, hm VI' _ hF (fun VI'' => ⟨rfl, [], rfl⟩)⟩)) (by omega) (by omega)
section FreshX
variable {d : Nat} {P : Post}
set_option maxRecDepth 20000 in
theorem fx_of {p w : Int32} (hP : PX P (-1)) : Ex (d + 2) mi110 0 (entL [.ref 0, .int p, .int w] 3) [] (LY ++ []) VIm ZL (vr ZR) 0 0 P := by
  refine x_aload_n rfl rfl ?_
  refine x_getR (u := .ref _) rfl rfl rfl rfl ?_
  refine x_iload_n rfl rfl ?_
  refine x_callV (M' := mi95) (As := [_]) (bc1 := 0) (bs1 := 0) (bc2 := 0) (bs2 := 0) rfl rfl rfl rfl ok95 rfl rfl (by decide) rfl rfl rfl rfl rfl rfl ?_
  refine s_hasPerson_z rfl ?_
  refine x_if_ne rfl (fun c8 => ?_) (fun c8 => ?_)
  · exact absurd rfl c8
  refine x_iconst rfl ?_
  refine x_iret rfl rfl ?_
  exact hP _ Fm0
set_option maxRecDepth 20000 in
theorem fx_at {p w : Int32} (hP : PX P (-1)) : Ex (d + 4) mi112 0 (entL [.ref 0, .int p, .int w] 3) [] (LY ++ []) VIm ZL (vr ZR) 0 0 P := by
  refine x_aload_n rfl rfl ?_
  refine x_getR (u := .ref _) rfl rfl rfl rfl ?_
  refine x_iload_n rfl rfl ?_
  refine x_callV (M' := mi96) (As := [_]) (bc1 := 0) (bs1 := 0) (bc2 := 0) (bs2 := 0) rfl rfl rfl rfl ok96 rfl rfl (by decide) rfl rfl rfl rfl rfl rfl ?_
  refine s_hasRoll_z rfl ?_
  refine x_if_ne rfl (fun c8 => ?_) (fun c8 => ?_)
  · exact absurd rfl c8
  refine x_iconst rfl ?_
  refine x_iret rfl rfl ?_
  exact hP _ Fm0
set_option maxRecDepth 20000 in
theorem fx_grain (hP : PX P 0) : Ex d mi117 0 (entL [.ref 0] 1) [] (LY ++ []) VIm ZL (vr ZR) 0 0 P := by
  refine x_aload_n rfl rfl ?_
  refine x_getI rfl rfl rfl ?_
  refine x_iret rfl rfl ?_
  exact hP _ Fm0
set_option maxRecDepth 20000 in
theorem fx_fault (hP : PX P (-1)) : Ex d mi120 0 (entL [.ref 0] 1) [] (LY ++ []) VIm ZL (vr ZR) 0 0 P := by
  refine x_aload_n rfl rfl ?_
  refine x_getI rfl rfl rfl ?_
  refine x_iret rfl rfl ?_
  exact hP _ Fm0
set_option maxRecDepth 20000 in
theorem fx_stopped (hP : PX P (-1)) : Ex d mi121 0 (entL [.ref 0] 1) [] (LY ++ []) VIm ZL (vr ZR) 0 0 P := by
  refine x_aload_n rfl rfl ?_
  refine x_getI rfl rfl rfl ?_
  refine x_iret rfl rfl ?_
  exact hP _ Fm0
set_option maxRecDepth 20000 in
theorem fx_status (hP : PX P 0) : Ex d mi144 0 (entL [.ref 0] 1) [] (LY ++ []) VIm ZL (vr ZR) 0 0 P := by
  refine x_aload_n rfl rfl ?_
  refine x_getI rfl rfl rfl ?_
  refine x_iret rfl rfl ?_
  exact hP _ Fm0
set_option maxRecDepth 20000 in
theorem fx_row (hP : PX P (-6)) : Ex (d + 2) mi116 0 (entL [.ref 0] 3) [] (LY ++ []) VIm ZL (vr ZR) 0 0 P := by
  refine x_aload_n rfl rfl ?_
  refine x_getI rfl rfl rfl ?_
  refine x_if_ne rfl (fun c4 => ?_) (fun c4 => ?_)
  · exact absurd rfl c4
  refine x_aload_n rfl rfl ?_
  refine x_bipush rfl ?_
  refine x_callV (M' := mi145) (As := [_]) (bc1 := 0) (bs1 := 0) (bc2 := 0) (bs2 := 0) rfl rfl rfl rfl ok145 rfl rfl (by decide) rfl rfl rfl rfl rfl rfl ?_
  refine s_settled_ref 5 rfl (by decide) ?_
  refine x_iret rfl rfl ?_
  exact hP _ (Fm_up (Fm_up Fm0 (by decide)) (by decide))
set_option maxRecDepth 20000 in
theorem fx_end {n : Int32} (hP : PX P (if n < 0 then -1 else if n ≤ 0 then n else -1)) : Ex d mi115 0 (entL [.ref 0, .int n] 2) [] (LY ++ []) VIm ZL (vr ZR) 0 0 P := by
  refine x_iload_n rfl rfl ?_
  refine x_if_lt rfl (fun c1 => ?_) (fun c1 => ?_)
  · refine x_iconst rfl ?_
    refine x_iret rfl rfl ?_
    first | exact hP.c (by rw [if_pos c1]) Fm0 | exact hP.c (by rw [if_neg c1, if_neg (show ¬ n ≤ 0 from c9)]) Fm0
  · refine x_iload_n rfl rfl ?_
    refine x_aload_n rfl rfl ?_
    refine x_getE rfl rfl rfl ((rfl : VIm 0 13 = 0)) ?_
    refine x_icmp_le rfl (fun c9 => ?_) (fun c9 => ?_)
    · refine x_aload_n rfl rfl ?_
      refine x_iload_n rfl rfl ?_
      refine x_putI rfl rfl rfl rfl ?_
      refine x_iload_n rfl rfl ?_
      refine x_iret rfl rfl ?_
      exact hP.c (by rw [if_neg c1, if_pos (show n ≤ 0 from c9)]) (Fm_up Fm0 (by decide))
    · refine x_iconst rfl ?_
      refine x_iret rfl rfl ?_
      first | exact hP.c (by rw [if_pos c1]) Fm0 | exact hP.c (by rw [if_neg c1, if_neg (show ¬ n ≤ 0 from c9)]) Fm0
set_option maxRecDepth 20000 in
theorem fx_force {l : Int32} (hP : PX P (if l = -1 then -1 else -2)) : Ex (d + 1) mi122 0 (entL [.ref 0, .int l] 3) [] (LY ++ []) VIm ZL (vr ZR) 0 0 P := by
  refine x_iload_n rfl rfl ?_
  refine x_iconst rfl ?_
  refine x_icmp_eq rfl (fun c2 => ?_) (fun c2 => ?_)
  · refine x_aload_n rfl rfl ?_
    refine x_getR (u := .ref _) rfl rfl rfl rfl ?_
    refine x_getI rfl rfl rfl ?_
    refine x_istore_n (ls' := [_, _, _]) rfl rfl rfl ?_
    refine x_aload_n rfl rfl ?_
    refine x_getR (u := .ref _) rfl rfl rfl rfl ?_
    refine x_iload_n rfl rfl ?_
    refine x_putI rfl rfl rfl rfl ?_
    refine x_aload_n rfl rfl ?_
    refine x_iconst rfl ?_
    refine x_putI rfl rfl rfl rfl ?_
    refine x_iload_n rfl rfl ?_
    refine x_iret rfl rfl ?_
    exact hP.c (by rw [if_pos c2]; rfl) (Fm_up (Fm_up Fm0 (by decide)) (by decide))
  · refine x_aload_n rfl rfl ?_
    refine x_getR (u := .ref _) rfl rfl rfl rfl ?_
    refine x_iload_n rfl rfl ?_
    refine x_callV (M' := mi97) (As := [_]) (bc1 := 0) (bs1 := 0) (bc2 := 0) (bs2 := 0) rfl rfl rfl rfl ok97 rfl rfl (by decide) rfl rfl rfl rfl rfl rfl ?_
    refine s_hasLaw_z rfl ?_
    refine x_if_ne rfl (fun c13 => ?_) (fun c13 => ?_)
    · exact absurd rfl c13
    refine x_aload_n rfl rfl ?_
    refine x_bipush rfl ?_
    refine x_callV (M' := mi145) (As := [_]) (bc1 := 0) (bs1 := 0) (bc2 := 0) (bs2 := 0) rfl rfl rfl rfl ok145 rfl rfl (by decide) rfl rfl rfl rfl rfl rfl ?_
    refine s_settled_ref 1 rfl (by decide) ?_
    refine x_iret rfl rfl ?_
    exact hP.c (by simp [*]) (Fm_up (Fm_up Fm0 (by decide)) (by decide))
set_option maxRecDepth 20000 in
theorem fx_asks {p q e w : Int32} (hP : PX P (-1)) : Ex (d + 5) mi123 0 (entL [.ref 0, .int p, .int q, .int e, .int w] 5) [] (LY ++ []) VIm ZL (vr ZR) 0 0 P := by
  refine x_aload_n rfl rfl ?_
  refine x_getR (u := .ref _) rfl rfl rfl rfl ?_
  refine x_iload_n rfl rfl ?_
  refine x_callV (M' := mi95) (As := [_]) (bc1 := 0) (bs1 := 0) (bc2 := 0) (bs2 := 0) rfl rfl rfl rfl ok95 rfl rfl (by decide) rfl rfl rfl rfl rfl rfl ?_
  refine s_hasPerson_z rfl ?_
  refine x_if_eq rfl (fun c8 => ?_) (fun c8 => ?_)
  rotate_left
  · exact absurd rfl c8
  refine x_iconst rfl ?_
  refine x_iret rfl rfl ?_
  exact hP _ Fm0
set_option maxRecDepth 20000 in
theorem fx_soonest {p w : Int32} (hP : PX P (-1)) : Ex (d + 7) mi129 0 (entL [.ref 0, .int p, .int w] 3) [] (LY ++ []) VIm ZL (vr ZR) 0 0 P := by
  refine x_aload_n rfl rfl ?_
  refine x_getR (u := .ref _) rfl rfl rfl rfl ?_
  refine x_iload_n rfl rfl ?_
  refine x_callV (M' := mi96) (As := [_]) (bc1 := 0) (bs1 := 0) (bc2 := 0) (bs2 := 0) rfl rfl rfl rfl ok96 rfl rfl (by decide) rfl rfl rfl rfl rfl rfl ?_
  refine s_hasRoll_z rfl ?_
  refine x_if_eq rfl (fun c8 => ?_) (fun c8 => ?_)
  rotate_left
  · exact absurd rfl c8
  refine x_iconst rfl ?_
  refine x_iret rfl rfl ?_
  exact hP _ Fm0
set_option maxRecDepth 20000 in
theorem fx_ends {p : Int32} (hP : PX P (-1)) : Ex (d + 7) mi130 0 (entL [.ref 0, .int p] 2) [] (LY ++ []) VIm ZL (vr ZR) 0 0 P := by
  refine x_aload_n rfl rfl ?_
  refine x_getR (u := .ref _) rfl rfl rfl rfl ?_
  refine x_iload_n rfl rfl ?_
  refine x_callV (M' := mi96) (As := [_]) (bc1 := 0) (bs1 := 0) (bc2 := 0) (bs2 := 0) rfl rfl rfl rfl ok96 rfl rfl (by decide) rfl rfl rfl rfl rfl rfl ?_
  refine s_hasRoll_z rfl ?_
  refine x_if_eq rfl (fun c8 => ?_) (fun c8 => ?_)
  rotate_left
  · exact absurd rfl c8
  refine x_iconst rfl ?_
  refine x_iret rfl rfl ?_
  exact hP _ Fm0
set_option maxRecDepth 20000 in
theorem fx_house {p w : Int32} (hP : PX P (-1)) : Ex (d + 7) mi131 0 (entL [.ref 0, .int p, .int w] 4) [] (LY ++ []) VIm ZL (vr ZR) 0 0 P := by
  refine x_aload_n rfl rfl ?_
  refine x_getR (u := .ref _) rfl rfl rfl rfl ?_
  refine x_iload_n rfl rfl ?_
  refine x_callV (M' := mi96) (As := [_]) (bc1 := 0) (bs1 := 0) (bc2 := 0) (bs2 := 0) rfl rfl rfl rfl ok96 rfl rfl (by decide) rfl rfl rfl rfl rfl rfl ?_
  refine s_hasRoll_z rfl ?_
  refine x_if_eq rfl (fun c8 => ?_) (fun c8 => ?_)
  rotate_left
  · exact absurd rfl c8
  refine x_iconst rfl ?_
  refine x_iret rfl rfl ?_
  exact hP _ Fm0
set_option maxRecDepth 20000 in
theorem fx_chance {p w : Int32} (hP : PX P (-1)) : Ex (d + 4) mi138 0 (entL [.ref 0, .int p, .int w] 3) [] (LY ++ []) VIm ZL (vr ZR) 0 0 P := by
  refine x_aload_n rfl rfl ?_
  refine x_getR (u := .ref _) rfl rfl rfl rfl ?_
  refine x_iload_n rfl rfl ?_
  refine x_callV (M' := mi96) (As := [_]) (bc1 := 0) (bs1 := 0) (bc2 := 0) (bs2 := 0) rfl rfl rfl rfl ok96 rfl rfl (by decide) rfl rfl rfl rfl rfl rfl ?_
  refine s_hasRoll_z rfl ?_
  refine x_if_eq rfl (fun c8 => ?_) (fun c8 => ?_)
  rotate_left
  · exact absurd rfl c8
  refine x_iconst rfl ?_
  refine x_iret rfl rfl ?_
  exact hP _ Fm0
set_option maxRecDepth 20000 in
theorem fx_forget (hP : PX P 0) : Ex d mi134 0 (entL [.ref 0] 2) [] (LY ++ []) VIm ZL (vr ZR) 0 0 P := by
  refine x_aload_n rfl rfl ?_
  refine x_getR (u := .ref _) rfl rfl rfl rfl ?_
  refine x_getI rfl rfl rfl ?_
  refine x_istore_n (ls' := [_, _]) rfl rfl rfl ?_
  refine x_aload_n rfl rfl ?_
  refine x_getR (u := .ref _) rfl rfl rfl rfl ?_
  refine x_iconst rfl ?_
  refine x_putI rfl rfl rfl rfl ?_
  refine x_iload_n rfl rfl ?_
  refine x_iret rfl rfl ?_
  exact hP _ (Fm_up Fm0 (by decide))
set_option maxRecDepth 20000 in
theorem fx_roll {q o : Int32} (hP : PX P (-1)) : Ex (d + 1) mi111 0 (entL [.ref 0, .int q, .int o] 3) [] (LY ++ []) VIm ZL (vr ZR) 0 0 P := by
  refine x_iload_n rfl rfl ?_
  refine x_callS (M' := mi150) (As := [_]) (bc1 := 0) (bs1 := 0) (bc2 := 0) (bs2 := 0) rfl rfl rfl rfl ok150 rfl rfl rfl rfl rfl rfl ?_
  refine s_isDay ?_
  refine x_if_eq rfl (fun c4 => ?_) (fun c4 => ?_)
  · refine x_aload_n rfl rfl ?_
    refine x_iconst rfl ?_
    refine x_callV (M' := mi145) (As := [_]) (bc1 := 0) (bs1 := 0) (bc2 := 0) (bs2 := 0) rfl rfl rfl rfl ok145 rfl rfl (by decide) rfl rfl rfl rfl rfl rfl ?_
    refine s_settled_ref 0 rfl (by decide) ?_
    refine x_iret rfl rfl ?_
    exact hP _ (Fm_up (Fm_up Fm0 (by decide)) (by decide))
  · refine x_iload_n rfl rfl ?_
    refine x_if_le rfl (fun c8 => ?_) (fun c8 => ?_)
    · refine x_aload_n rfl rfl ?_
      refine x_iconst rfl ?_
      refine x_callV (M' := mi145) (As := [_]) (bc1 := 0) (bs1 := 0) (bc2 := 0) (bs2 := 0) rfl rfl rfl rfl ok145 rfl rfl (by decide) rfl rfl rfl rfl rfl rfl ?_
      refine s_settled_ref 0 rfl (by decide) ?_
      refine x_iret rfl rfl ?_
      exact hP _ (Fm_up (Fm_up Fm0 (by decide)) (by decide))
    · refine x_iload_n rfl rfl ?_
      refine x_iconst rfl ?_
      refine x_aload_n rfl rfl ?_
      refine x_getR (u := .ref _) rfl rfl rfl rfl ?_
      refine x_getI rfl rfl rfl ?_
      refine x_ishl rfl ?_
      refine x_icmp_lt rfl (fun c21 => ?_) (fun c21 => ?_)
      · exact absurd c21 (by have h1 : ¬ o ≤ 0 := c8; intro h; exact h1 (by have e : (1 : Int32) <<< (VIm 3 0 &&& 31) = 1 := rfl; rw [e] at h; rw [Int32.lt_iff_toInt_lt] at h; rw [Int32.le_iff_toInt_le]; have e1 : (1 : Int32).toInt = 1 := rfl; have e0 : (0 : Int32).toInt = 0 := rfl; omega))
      refine x_aload_n rfl rfl ?_
      refine x_iconst rfl ?_
      refine x_callV (M' := mi145) (As := [_]) (bc1 := 0) (bs1 := 0) (bc2 := 0) (bs2 := 0) rfl rfl rfl rfl ok145 rfl rfl (by decide) rfl rfl rfl rfl rfl rfl ?_
      refine s_settled_ref 0 rfl (by decide) ?_
      refine x_iret rfl rfl ?_
      exact hP _ (Fm_up (Fm_up Fm0 (by decide)) (by decide))
set_option maxRecDepth 20000 in
theorem fx_told {p q e : Int32} (hP : PX P (if hasF 4 e = 0 ∨ p = q then -1 else -2)) : Ex (d + 1) mi133 0 (entL [.ref 0, .int p, .int q, .int e] 4) [] (LY ++ []) VIm ZL (vr ZR) 0 0 P := by
  refine x_iload_n rfl rfl ?_
  refine x_callS (M' := mi150) (As := [_]) (bc1 := 0) (bs1 := 0) (bc2 := 0) (bs2 := 0) rfl rfl rfl rfl ok150 rfl rfl rfl rfl rfl rfl ?_
  refine s_isDay ?_
  refine x_if_eq rfl (fun c4 => ?_) (fun c4 => ?_)
  · refine x_aload_n rfl rfl ?_
    refine x_iconst rfl ?_
    refine x_callV (M' := mi145) (As := [_]) (bc1 := 0) (bs1 := 0) (bc2 := 0) (bs2 := 0) rfl rfl rfl rfl ok145 rfl rfl (by decide) rfl rfl rfl rfl rfl rfl ?_
    refine s_settled_ref 0 rfl (by decide) ?_
    refine x_iret rfl rfl ?_
    exact hP.c (by simp [*]) (Fm_up (Fm_up Fm0 (by decide)) (by decide))
  · refine x_iload_n rfl rfl ?_
    refine x_iload_n rfl rfl ?_
    refine x_icmp_ne rfl (fun c9 => ?_) (fun c9 => ?_)
    · refine x_aload_n rfl rfl ?_
      refine x_getR (u := .ref _) rfl rfl rfl rfl ?_
      refine x_iload_n rfl rfl ?_
      refine x_callV (M' := mi95) (As := [_]) (bc1 := 0) (bs1 := 0) (bc2 := 0) (bs2 := 0) rfl rfl rfl rfl ok95 rfl rfl (by decide) rfl rfl rfl rfl rfl rfl ?_
      refine s_hasPerson_z rfl ?_
      refine x_if_eq rfl (fun c26 => ?_) (fun c26 => ?_)
      rotate_left
      · exact absurd rfl c26
      refine x_aload_n rfl rfl ?_
      refine x_bipush rfl ?_
      refine x_callV (M' := mi145) (As := [_]) (bc1 := 0) (bs1 := 0) (bc2 := 0) (bs2 := 0) rfl rfl rfl rfl ok145 rfl rfl (by decide) rfl rfl rfl rfl rfl rfl ?_
      refine s_settled_ref 1 rfl (by decide) ?_
      refine x_iret rfl rfl ?_
      exact hP.c (by simp [*]) (Fm_up (Fm_up Fm0 (by decide)) (by decide))
    · refine x_aload_n rfl rfl ?_
      refine x_iconst rfl ?_
      refine x_callV (M' := mi145) (As := [_]) (bc1 := 0) (bs1 := 0) (bc2 := 0) (bs2 := 0) rfl rfl rfl rfl ok145 rfl rfl (by decide) rfl rfl rfl rfl rfl rfl ?_
      refine s_settled_ref 0 rfl (by decide) ?_
      refine x_iret rfl rfl ?_
      exact hP.c (by simp [*]) (Fm_up (Fm_up Fm0 (by decide)) (by decide))
set_option maxRecDepth 20000 in
theorem fx_years {s n : Int32} (hP : PX P (if s < 0 ∨ 1000000 < s ∨ n < 1 ∨ 100 < n then -1 else -3)) : Ex (d + 6) mi139 0 (entL [.ref 0, .int s, .int n] 3) [] (LY ++ []) VIm ZL (vr ZR) 0 0 P := by
  refine x_iload_n rfl rfl ?_
  refine x_if_lt rfl (fun c1 => ?_) (fun c1 => ?_)
  · refine x_aload_n rfl rfl ?_
    refine x_iconst rfl ?_
    refine x_callV (M' := mi145) (As := [_]) (bc1 := 0) (bs1 := 0) (bc2 := 0) (bs2 := 0) rfl rfl rfl rfl ok145 rfl rfl (by decide) rfl rfl rfl rfl rfl rfl ?_
    refine s_settled_ref 0 rfl (by decide) ?_
    refine x_iret rfl rfl ?_
    exact hP.c (by simp [*]) (Fm_up (Fm_up Fm0 (by decide)) (by decide))
  · refine x_iload_n rfl rfl ?_
    refine x_ldc_w rfl ?_
    refine x_icmp_gt rfl (fun c8 => ?_) (fun c8 => ?_)
    · refine x_aload_n rfl rfl ?_
      refine x_iconst rfl ?_
      refine x_callV (M' := mi145) (As := [_]) (bc1 := 0) (bs1 := 0) (bc2 := 0) (bs2 := 0) rfl rfl rfl rfl ok145 rfl rfl (by decide) rfl rfl rfl rfl rfl rfl ?_
      refine s_settled_ref 0 rfl (by decide) ?_
      refine x_iret rfl rfl ?_
      exact hP.c (by simp [*]) (Fm_up (Fm_up Fm0 (by decide)) (by decide))
    · refine x_iload_n rfl rfl ?_
      refine x_iconst rfl ?_
      refine x_icmp_lt rfl (fun c13 => ?_) (fun c13 => ?_)
      · refine x_aload_n rfl rfl ?_
        refine x_iconst rfl ?_
        refine x_callV (M' := mi145) (As := [_]) (bc1 := 0) (bs1 := 0) (bc2 := 0) (bs2 := 0) rfl rfl rfl rfl ok145 rfl rfl (by decide) rfl rfl rfl rfl rfl rfl ?_
        refine s_settled_ref 0 rfl (by decide) ?_
        refine x_iret rfl rfl ?_
        exact hP.c (by simp [*]) (Fm_up (Fm_up Fm0 (by decide)) (by decide))
      · refine x_iload_n rfl rfl ?_
        refine x_bipush rfl ?_
        refine x_icmp_le rfl (fun c19 => ?_) (fun c19 => ?_)
        · refine x_aload_n rfl rfl ?_
          refine x_aload_n rfl rfl ?_
          refine x_getR (u := .ref _) rfl rfl rfl rfl ?_
          refine x_getI rfl rfl rfl ?_
          refine x_if_ne rfl (fun c36 => ?_) (fun c36 => ?_)
          · exact absurd rfl c36
          refine x_bipush rfl ?_
          refine x_goto rfl ?_
          refine x_callV (M' := mi145) (As := [_]) (bc1 := 0) (bs1 := 0) (bc2 := 0) (bs2 := 0) rfl rfl rfl rfl ok145 rfl rfl (by decide) rfl rfl rfl rfl rfl rfl ?_
          refine s_settled_ref 2 rfl (by decide) ?_
          refine x_iret rfl rfl ?_
          exact hP.c (by rw [if_neg]; simp only [not_or, *]; exact ⟨not_false, not_false, not_false, Int32.not_lt.mpr c19⟩) (Fm_up (Fm_up Fm0 (by decide)) (by decide))
        · refine x_aload_n rfl rfl ?_
          refine x_iconst rfl ?_
          refine x_callV (M' := mi145) (As := [_]) (bc1 := 0) (bs1 := 0) (bc2 := 0) (bs2 := 0) rfl rfl rfl rfl ok145 rfl rfl (by decide) rfl rfl rfl rfl rfl rfl ?_
          refine s_settled_ref 0 rfl (by decide) ?_
          refine x_iret rfl rfl ?_
          exact hP.c (by simp [*]) (Fm_up (Fm_up Fm0 (by decide)) (by decide))
set_option maxRecDepth 20000 in
theorem fx_back {k : Int32} (hP : PX P (if k < 0 ∨ 2 ≤ k then -1 else -2)) : Ex (d + 1) mi142 0 (entL [.ref 0, .int k] 2) [] (LY ++ []) VIm ZL (vr ZR) 0 0 P := by
  refine x_iload_n rfl rfl ?_
  refine x_if_lt rfl (fun c1 => ?_) (fun c1 => ?_)
  · refine x_aload_n rfl rfl ?_
    refine x_iconst rfl ?_
    refine x_callV (M' := mi145) (As := [_]) (bc1 := 0) (bs1 := 0) (bc2 := 0) (bs2 := 0) rfl rfl rfl rfl ok145 rfl rfl (by decide) rfl rfl rfl rfl rfl rfl ?_
    refine s_settled_ref 0 rfl (by decide) ?_
    refine x_iret rfl rfl ?_
    exact hP.c (by simp [*, Int32.not_lt.mp]) (Fm_up (Fm_up Fm0 (by decide)) (by decide))
  · refine x_iload_n rfl rfl ?_
    refine x_iconst rfl ?_
    refine x_icmp_lt rfl (fun c6 => ?_) (fun c6 => ?_)
    · refine x_aload_n rfl rfl ?_
      refine x_getI rfl rfl rfl ?_
      refine x_iload_n rfl rfl ?_
      refine x_ishr rfl ?_
      refine x_iconst rfl ?_
      refine x_iand rfl ?_
      refine x_if_ne rfl (fun c23 => ?_) (fun c23 => ?_)
      · exact absurd (by rcases two01 c1 c6 with rfl | rfl <;> rfl) c23
      refine x_aload_n rfl rfl ?_
      refine x_bipush rfl ?_
      refine x_callV (M' := mi145) (As := [_]) (bc1 := 0) (bs1 := 0) (bc2 := 0) (bs2 := 0) rfl rfl rfl rfl ok145 rfl rfl (by decide) rfl rfl rfl rfl rfl rfl ?_
      refine s_settled_ref 1 rfl (by decide) ?_
      refine x_iret rfl rfl ?_
      exact hP.c (by rw [if_neg]; simp only [not_or]; exact ⟨c1, Int32.not_le.mpr c6⟩) (Fm_up (Fm_up Fm0 (by decide)) (by decide))
    · refine x_aload_n rfl rfl ?_
      refine x_iconst rfl ?_
      refine x_callV (M' := mi145) (As := [_]) (bc1 := 0) (bs1 := 0) (bc2 := 0) (bs2 := 0) rfl rfl rfl rfl ok145 rfl rfl (by decide) rfl rfl rfl rfl rfl rfl ?_
      refine s_settled_ref 0 rfl (by decide) ?_
      refine x_iret rfl rfl ?_
      exact hP.c (by simp [*, Int32.not_lt.mp]) (Fm_up (Fm_up Fm0 (by decide)) (by decide))
end FreshX
