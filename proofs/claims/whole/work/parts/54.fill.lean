/-! ===== Arrays.fill and Paper.open at the fresh state ===== -/
def Gx (VI : VIT) : Prop := ∀ a, a ≠ 61 → a ≠ 62 → VI a = VIm a
set_option maxRecDepth 20000 in
theorem Gx.at {VI : VIT} (h : Gx VI) {a k : Nat} {v : Int32} (h1 : a ≠ 61) (h2 : a ≠ 62) (e : VIm a k = v) : VI a k = v := by rw [h a h1 h2]; exact e
set_option maxRecDepth 20000 in
theorem Fm_of {VI : VIT} (h : Gx VI) : Fm VI := fun a ha => h a (by omega) (by omega)
section Fill
variable {d : Nat} {P : Post}
set_option maxRecDepth 20000 in
theorem s_fillG_loop {v : Int32} (hP : ∀ VI', Gx VI' → P none (LY ++ []) VI' ZL (vr ZR)) : ∀ (m i : Nat) (VI : VIT), i + m = 576 → Gx VI → Ex d mi283 5 [.ref 62, .int v, .int (nI i), .int (nI 576)] [] (LY ++ []) VI ZL (vr ZR) 0 0 P := by
  intro m
  induction m with
  | zero =>
    intro i VI hi hG
    have e : i = 576 := by omega
    subst e
    refine x_iload_n rfl rfl ?_
    refine x_iload_n rfl rfl ?_
    refine x_icmpN_ge rfl (fun c7 => ?_) (fun c7 => ?_)
    rotate_left
    · exact absurd c7 (by first | decide | omega)
    refine x_vret rfl rfl ?_
    exact hP _ hG | succ m ih =>
    intro i VI hi hG
    refine x_iload_n rfl rfl ?_
    refine x_iload_n rfl rfl ?_
    refine x_icmpN_ge rfl (fun c7 => ?_) (fun c7 => ?_)
    · exact absurd c7 (by first | decide | omega)
    refine x_aload_n rfl rfl ?_
    refine x_iload_n rfl rfl ?_
    refine x_iload_n rfl rfl ?_
    refine x_iasN (j := i) rfl rfl (rfl) (by omega) ?_
    refine x_iincN (q := 1) (ls' := [_, _, _, _]) rfl rfl rfl rfl ?_
    refine x_goto rfl ?_
    exact ih (i + 1) _ (by omega) (fun b h1 h2 => by rw [up_ne h2]; exact hG b h1 h2)
set_option maxRecDepth 20000 in
theorem s_openG {VI : VIT} {q : Int32} (hP : ∀ VI', Gx VI' → P none (LY ++ []) VI' ZL (vr ZR)) (hG : Gx VI) : Ex (d + 1) mi35 0 (entL [.ref 61, .int q] 2) [] (LY ++ []) VI ZL (vr ZR) 0 0 P := by
  refine x_aload_n rfl rfl ?_
  refine x_iload_n rfl rfl ?_
  refine x_putI rfl rfl rfl rfl ?_
  refine x_aload_n rfl rfl ?_
  refine x_getR (u := .ref _) rfl rfl rfl rfl ?_
  refine x_bipush rfl ?_
  refine x_callS (M' := mi283) (As := [_, _]) (bc1 := 0) (bs1 := 0) (bc2 := 0) (bs2 := 0) rfl rfl rfl rfl ok283 rfl rfl rfl rfl rfl rfl ?_
  refine x_iconst rfl ?_
  refine x_istore_n (ls' := [_, _, _, _]) rfl rfl rfl ?_
  refine x_aload_n rfl rfl ?_
  refine x_alen0 rfl rfl ?_
  refine x_istore_n (ls' := [_, _, _, _]) rfl rfl rfl ?_
  refine s_fillG_loop (fun VI' hG' => ?_) 576 0 _ (by omega) (fun b h1 h2 => by rw [up_ne h1]; exact hG b h1 h2)
  refine x_vret rfl rfl ?_
  exact hP _ hG'
end Fill
