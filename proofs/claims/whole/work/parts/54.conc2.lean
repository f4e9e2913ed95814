/-! ===== a fresh object: image, count, terms ===== -/
theorem up_id {α : Type} {f : Nat → Nat → α} {a k : Nat} {x : α} (h : f a k = x) : up f a k x = f := by
  funext b
  unfold up
  split
  · rename_i e
    funext j
    split
    · rename_i e2; rw [e, e2]; exact h.symm
    · rfl
  · rfl
theorem x_aastore5C {S : SPr} {d : Nat} {M : MI} {pc nx x y : Nat} {v : Int32} {w : Int64} {ls st : List Value} {lay : HL} {VI : VIT} {VL : VLT} {VR : VRT} {bc bs : Nat} {P : Post} {a n j : Nat} {i : Int32} (hc : lkp (mC M) pc = some (.aastore, 1, nx, x, y, v, w)) (hy : lay[a]? = some (.inl (5, n))) (e : i = nI j) (hj : j < n) (hu : VR a j = .null) (k : ExS S d M nx ls st lay VI VL VR bc bs P) (hn : Nat.blt n 2147483648 = true := by rfl) : ExS S d M pc ls (.null :: .int i :: .ref a :: st) lay VI VL VR bc bs P := by
  have hn2 : n < 2147483648 := by simpa using hn
  subst e
  refine x_aastore5N hc hy (vp_in_nI hj (by omega)) ?_
  rw [nI_clamp (by omega), up_id hu]
  exact k
set_option maxRecDepth 20000 in
set_option maxHeartbeats 8000000 in
theorem cx_image0 {d : Nat} {P : Post} (hP : PX P 0) : Ex (d + 1) mi141 0 (entL [.ref 0, .int 0] 2) [] (LY ++ []) VIm ZL (vr ZR) 0 0 P := by
  refine x_iload_n rfl rfl ?_
  refine x_if_lt rfl (fun c => ?_) (fun c => ?_)
  · exact absurd c (by decide)
  refine x_iload_n rfl rfl ?_
  refine x_iconst rfl ?_
  refine x_icmp_lt rfl (fun c => ?_) (fun c => ?_)
  rotate_left
  · exact absurd c (by decide)
  refine x_aload_n rfl rfl ?_
  refine x_getR (u := .ref _) rfl rfl rfl rfl ?_
  refine x_iload_n rfl rfl ?_
  refine x_aaload4 rfl rfl (vp_in_nI (n := 0) (by decide) (by decide)) (show vr ZR 14 0 = .ref 15 from rfl) ?_
  refine x_aload_n rfl rfl ?_
  refine x_getR (u := .ref _) rfl rfl rfl rfl ?_
  refine x_callV (M' := mi89) (As := [_]) (bc1 := 0) (bs1 := 0) (bc2 := 0) (bs2 := 0) rfl rfl rfl rfl ok89 rfl rfl (by decide) rfl rfl rfl rfl rfl rfl ?_
  refine x_aload_n rfl rfl ?_
  refine x_aload_n rfl rfl ?_
  refine x_getE (y := 0) (u := 0) rfl rfl rfl rfl ?_
  refine x_putI rfl rfl rfl rfl ?_
  refine x_aload_n rfl rfl ?_
  refine x_aload_n rfl rfl ?_
  refine x_getE (y := 1) (u := 0) rfl rfl rfl rfl ?_
  refine x_putI rfl rfl rfl rfl ?_
  refine x_aload_n rfl rfl ?_
  refine x_aload_n rfl rfl ?_
  refine x_getE (y := 5) (u := 0) rfl rfl rfl rfl ?_
  refine x_putI rfl rfl rfl rfl ?_
  refine x_aload_n rfl rfl ?_
  refine x_aload_n rfl rfl ?_
  refine x_getE (y := 6) (u := 0) rfl rfl rfl rfl ?_
  refine x_putI rfl rfl rfl rfl ?_
  refine x_aload_n rfl rfl ?_
  refine x_aload_n rfl rfl ?_
  refine x_getE (y := 9) (u := 0) rfl rfl rfl rfl ?_
  refine x_putI rfl rfl rfl rfl ?_
  refine x_aload_n rfl rfl ?_
  refine x_aload_n rfl rfl ?_
  refine x_getE (y := 14) (u := 0) rfl rfl rfl rfl ?_
  refine x_putI rfl rfl rfl rfl ?_
  refine x_aload_n rfl rfl ?_
  refine x_aload_n rfl rfl ?_
  refine x_getE (y := 15) (u := (-1)) rfl rfl rfl rfl ?_
  refine x_putI rfl rfl rfl rfl ?_
  refine x_aload_n rfl rfl ?_
  refine x_getR (u := .ref _) rfl rfl rfl rfl ?_
  refine x_iconst rfl ?_
  refine x_aload_n rfl rfl ?_
  refine x_getR (u := .ref _) rfl rfl rfl rfl ?_
  refine x_iconst rfl ?_
  refine x_bipush rfl ?_
  refine x_copy rfl rfl rfl (by decide) (by decide) (by decide) (by decide) (by decide) rfl ?_
  refine x_aload_n rfl rfl ?_
  refine x_getR (u := .ref _) rfl rfl rfl rfl ?_
  refine x_iconst rfl ?_
  refine x_aload_n rfl rfl ?_
  refine x_getR (u := .ref _) rfl rfl rfl rfl ?_
  refine x_iconst rfl ?_
  refine x_bipush rfl ?_
  refine x_copy rfl rfl rfl (by decide) (by decide) (by decide) (by decide) (by decide) rfl ?_
  refine x_aload_n rfl rfl ?_
  refine x_getR (u := .ref _) rfl rfl rfl rfl ?_
  refine x_iconst rfl ?_
  refine x_aload_n rfl rfl ?_
  refine x_getR (u := .ref _) rfl rfl rfl rfl ?_
  refine x_iconst rfl ?_
  refine x_bipush rfl ?_
  refine x_copy rfl rfl rfl (by decide) (by decide) (by decide) (by decide) (by decide) rfl ?_
  refine x_aload_n rfl rfl ?_
  refine x_getR (u := .ref _) rfl rfl rfl rfl ?_
  refine x_iconst rfl ?_
  refine x_aload_n rfl rfl ?_
  refine x_getR (u := .ref _) rfl rfl rfl rfl ?_
  refine x_iconst rfl ?_
  refine x_bipush rfl ?_
  refine x_copy rfl rfl rfl (by decide) (by decide) (by decide) (by decide) (by decide) rfl ?_
  refine x_aload_n rfl rfl ?_
  refine x_getR (u := .ref _) rfl rfl rfl rfl ?_
  refine x_iconst rfl ?_
  refine x_aload_n rfl rfl ?_
  refine x_getR (u := .ref _) rfl rfl rfl rfl ?_
  refine x_iconst rfl ?_
  refine x_bipush rfl ?_
  refine x_copy rfl rfl rfl (by decide) (by decide) (by decide) (by decide) (by decide) rfl ?_
  refine x_aload_n rfl rfl ?_
  refine x_getR (u := .ref _) rfl rfl rfl rfl ?_
  refine x_iconst rfl ?_
  refine x_aload_n rfl rfl ?_
  refine x_getR (u := .ref _) rfl rfl rfl rfl ?_
  refine x_iconst rfl ?_
  refine x_bipush rfl ?_
  refine x_copy rfl rfl rfl (by decide) (by decide) (by decide) (by decide) (by decide) rfl ?_
  refine x_aload_n rfl rfl ?_
  refine x_getR (u := .ref _) rfl rfl rfl rfl ?_
  refine x_iconst rfl ?_
  refine x_aload_n rfl rfl ?_
  refine x_getR (u := .ref _) rfl rfl rfl rfl ?_
  refine x_iconst rfl ?_
  refine x_bipush rfl ?_
  refine x_copy rfl rfl rfl (by decide) (by decide) (by decide) (by decide) (by decide) rfl ?_
  refine x_aload_n rfl rfl ?_
  refine x_getR (u := .ref _) rfl rfl rfl rfl ?_
  refine x_iconst rfl ?_
  refine x_aload_n rfl rfl ?_
  refine x_getR (u := .ref _) rfl rfl rfl rfl ?_
  refine x_iconst rfl ?_
  refine x_bipush rfl ?_
  refine x_copy rfl rfl rfl (by decide) (by decide) (by decide) (by decide) (by decide) rfl ?_
  refine x_aload_n rfl rfl ?_
  refine x_getR (u := .ref _) rfl rfl rfl rfl ?_
  refine x_iconst rfl ?_
  refine x_aload_n rfl rfl ?_
  refine x_getR (u := .ref _) rfl rfl rfl rfl ?_
  refine x_iconst rfl ?_
  refine x_iconst rfl ?_
  refine x_copy rfl rfl rfl (by decide) (by decide) (by decide) (by decide) (by decide) rfl ?_
  refine x_iconst rfl ?_
  refine x_istore_n (ls' := [_, _, _]) rfl rfl rfl ?_
  refine x_iload_n rfl rfl ?_
  refine x_bipush rfl ?_
  refine x_icmp_ge rfl (fun c => ?_) (fun c => ?_)
  · exact absurd c (by decide)
  refine x_aload_n rfl rfl ?_
  refine x_getR (u := .ref _) rfl rfl rfl rfl ?_
  refine x_iload_n rfl rfl ?_
  refine x_aload_n rfl rfl ?_
  refine x_getR (u := .ref _) rfl rfl rfl rfl ?_
  refine x_iload_n rfl rfl ?_
  refine x_aaload5N rfl rfl (vp_in_nI (n := 0) (by decide) (by decide)) rfl ?_
  refine x_aastore5C (j := 0) rfl rfl rfl (by decide) rfl ?_
  refine x_iinc (ls' := [_, _, _]) rfl rfl rfl rfl ?_
  refine x_goto rfl ?_
  refine x_iload_n rfl rfl ?_
  refine x_bipush rfl ?_
  refine x_icmp_ge rfl (fun c => ?_) (fun c => ?_)
  · exact absurd c (by decide)
  refine x_aload_n rfl rfl ?_
  refine x_getR (u := .ref _) rfl rfl rfl rfl ?_
  refine x_iload_n rfl rfl ?_
  refine x_aload_n rfl rfl ?_
  refine x_getR (u := .ref _) rfl rfl rfl rfl ?_
  refine x_iload_n rfl rfl ?_
  refine x_aaload5N rfl rfl (vp_in_nI (n := 1) (by decide) (by decide)) rfl ?_
  refine x_aastore5C (j := 1) rfl rfl rfl (by decide) rfl ?_
  refine x_iinc (ls' := [_, _, _]) rfl rfl rfl rfl ?_
  refine x_goto rfl ?_
  refine x_iload_n rfl rfl ?_
  refine x_bipush rfl ?_
  refine x_icmp_ge rfl (fun c => ?_) (fun c => ?_)
  · exact absurd c (by decide)
  refine x_aload_n rfl rfl ?_
  refine x_getR (u := .ref _) rfl rfl rfl rfl ?_
  refine x_iload_n rfl rfl ?_
  refine x_aload_n rfl rfl ?_
  refine x_getR (u := .ref _) rfl rfl rfl rfl ?_
  refine x_iload_n rfl rfl ?_
  refine x_aaload5N rfl rfl (vp_in_nI (n := 2) (by decide) (by decide)) rfl ?_
  refine x_aastore5C (j := 2) rfl rfl rfl (by decide) rfl ?_
  refine x_iinc (ls' := [_, _, _]) rfl rfl rfl rfl ?_
  refine x_goto rfl ?_
  refine x_iload_n rfl rfl ?_
  refine x_bipush rfl ?_
  refine x_icmp_ge rfl (fun c => ?_) (fun c => ?_)
  · exact absurd c (by decide)
  refine x_aload_n rfl rfl ?_
  refine x_getR (u := .ref _) rfl rfl rfl rfl ?_
  refine x_iload_n rfl rfl ?_
  refine x_aload_n rfl rfl ?_
  refine x_getR (u := .ref _) rfl rfl rfl rfl ?_
  refine x_iload_n rfl rfl ?_
  refine x_aaload5N rfl rfl (vp_in_nI (n := 3) (by decide) (by decide)) rfl ?_
  refine x_aastore5C (j := 3) rfl rfl rfl (by decide) rfl ?_
  refine x_iinc (ls' := [_, _, _]) rfl rfl rfl rfl ?_
  refine x_goto rfl ?_
  refine x_iload_n rfl rfl ?_
  refine x_bipush rfl ?_
  refine x_icmp_ge rfl (fun c => ?_) (fun c => ?_)
  · exact absurd c (by decide)
  refine x_aload_n rfl rfl ?_
  refine x_getR (u := .ref _) rfl rfl rfl rfl ?_
  refine x_iload_n rfl rfl ?_
  refine x_aload_n rfl rfl ?_
  refine x_getR (u := .ref _) rfl rfl rfl rfl ?_
  refine x_iload_n rfl rfl ?_
  refine x_aaload5N rfl rfl (vp_in_nI (n := 4) (by decide) (by decide)) rfl ?_
  refine x_aastore5C (j := 4) rfl rfl rfl (by decide) rfl ?_
  refine x_iinc (ls' := [_, _, _]) rfl rfl rfl rfl ?_
  refine x_goto rfl ?_
  refine x_iload_n rfl rfl ?_
  refine x_bipush rfl ?_
  refine x_icmp_ge rfl (fun c => ?_) (fun c => ?_)
  · exact absurd c (by decide)
  refine x_aload_n rfl rfl ?_
  refine x_getR (u := .ref _) rfl rfl rfl rfl ?_
  refine x_iload_n rfl rfl ?_
  refine x_aload_n rfl rfl ?_
  refine x_getR (u := .ref _) rfl rfl rfl rfl ?_
  refine x_iload_n rfl rfl ?_
  refine x_aaload5N rfl rfl (vp_in_nI (n := 5) (by decide) (by decide)) rfl ?_
  refine x_aastore5C (j := 5) rfl rfl rfl (by decide) rfl ?_
  refine x_iinc (ls' := [_, _, _]) rfl rfl rfl rfl ?_
  refine x_goto rfl ?_
  refine x_iload_n rfl rfl ?_
  refine x_bipush rfl ?_
  refine x_icmp_ge rfl (fun c => ?_) (fun c => ?_)
  rotate_left
  · exact absurd c (by decide)
  refine x_vret rfl rfl ?_
  refine x_aload_n rfl rfl ?_
  refine x_dup rfl rfl ?_
  refine x_getE (y := 12) (u := 0) rfl rfl rfl rfl ?_
  refine x_iconst rfl ?_
  refine x_iload_n rfl rfl ?_
  refine x_ishl rfl ?_
  refine x_lit (b := 1) (by decide) ?_
  refine x_ior rfl ?_
  refine x_lit (b := 1) (by decide) ?_
  refine x_putI rfl rfl rfl rfl ?_
  refine x_aload_n rfl rfl ?_
  refine x_iconst rfl ?_
  refine x_callV (M' := mi145) (As := [_]) (bc1 := 0) (bs1 := 0) (bc2 := 0) (bs2 := 0) rfl rfl rfl rfl ok145 rfl rfl (by decide) rfl rfl rfl rfl rfl rfl ?_
  refine x_aload_n rfl rfl ?_
  refine x_iload_n rfl rfl ?_
  refine x_iconst rfl ?_
  refine x_min rfl rfl ?_
  refine x_lit (b := 0) (by decide) ?_
  refine x_putI rfl rfl rfl rfl ?_
  refine x_iload_n rfl rfl ?_
  refine x_if_ge rfl (fun c => ?_) (fun c => ?_)
  rotate_left
  · exact absurd c (by decide)
  refine x_iload_n rfl rfl ?_
  refine x_iret rfl rfl ?_
  refine x_iret rfl rfl ?_
  exact hP _ (Fm_up (Fm_up (Fm_uw (Fm_uw (Fm_uw (Fm_uw (Fm_uw (Fm_uw (Fm_uw (Fm_uw (Fm_uw (Fm_up (Fm_up (Fm_up (Fm_up (Fm_up (Fm_up (Fm_up (Fm0) (by decide)) (by decide)) (by decide)) (by decide)) (by decide)) (by decide)) (by decide)) (by decide)) (by decide)) (by decide)) (by decide)) (by decide)) (by decide)) (by decide)) (by decide)) (by decide)) (by decide)) (by decide))
set_option maxRecDepth 20000 in
set_option maxHeartbeats 8000000 in
theorem cx_image1 {d : Nat} {P : Post} (hP : PX P 0) : Ex (d + 1) mi141 0 (entL [.ref 0, .int 1] 2) [] (LY ++ []) VIm ZL (vr ZR) 0 0 P := by
  refine x_iload_n rfl rfl ?_
  refine x_if_lt rfl (fun c => ?_) (fun c => ?_)
  · exact absurd c (by decide)
  refine x_iload_n rfl rfl ?_
  refine x_iconst rfl ?_
  refine x_icmp_lt rfl (fun c => ?_) (fun c => ?_)
  rotate_left
  · exact absurd c (by decide)
  refine x_aload_n rfl rfl ?_
  refine x_getR (u := .ref _) rfl rfl rfl rfl ?_
  refine x_iload_n rfl rfl ?_
  refine x_aaload4 rfl rfl (vp_in_nI (n := 1) (by decide) (by decide)) (show vr ZR 14 1 = .ref 26 from rfl) ?_
  refine x_aload_n rfl rfl ?_
  refine x_getR (u := .ref _) rfl rfl rfl rfl ?_
  refine x_callV (M' := mi89) (As := [_]) (bc1 := 0) (bs1 := 0) (bc2 := 0) (bs2 := 0) rfl rfl rfl rfl ok89 rfl rfl (by decide) rfl rfl rfl rfl rfl rfl ?_
  refine x_aload_n rfl rfl ?_
  refine x_aload_n rfl rfl ?_
  refine x_getE (y := 0) (u := 0) rfl rfl rfl rfl ?_
  refine x_putI rfl rfl rfl rfl ?_
  refine x_aload_n rfl rfl ?_
  refine x_aload_n rfl rfl ?_
  refine x_getE (y := 1) (u := 0) rfl rfl rfl rfl ?_
  refine x_putI rfl rfl rfl rfl ?_
  refine x_aload_n rfl rfl ?_
  refine x_aload_n rfl rfl ?_
  refine x_getE (y := 5) (u := 0) rfl rfl rfl rfl ?_
  refine x_putI rfl rfl rfl rfl ?_
  refine x_aload_n rfl rfl ?_
  refine x_aload_n rfl rfl ?_
  refine x_getE (y := 6) (u := 0) rfl rfl rfl rfl ?_
  refine x_putI rfl rfl rfl rfl ?_
  refine x_aload_n rfl rfl ?_
  refine x_aload_n rfl rfl ?_
  refine x_getE (y := 9) (u := 0) rfl rfl rfl rfl ?_
  refine x_putI rfl rfl rfl rfl ?_
  refine x_aload_n rfl rfl ?_
  refine x_aload_n rfl rfl ?_
  refine x_getE (y := 14) (u := 0) rfl rfl rfl rfl ?_
  refine x_putI rfl rfl rfl rfl ?_
  refine x_aload_n rfl rfl ?_
  refine x_aload_n rfl rfl ?_
  refine x_getE (y := 15) (u := (-1)) rfl rfl rfl rfl ?_
  refine x_putI rfl rfl rfl rfl ?_
  refine x_aload_n rfl rfl ?_
  refine x_getR (u := .ref _) rfl rfl rfl rfl ?_
  refine x_iconst rfl ?_
  refine x_aload_n rfl rfl ?_
  refine x_getR (u := .ref _) rfl rfl rfl rfl ?_
  refine x_iconst rfl ?_
  refine x_bipush rfl ?_
  refine x_copy rfl rfl rfl (by decide) (by decide) (by decide) (by decide) (by decide) rfl ?_
  refine x_aload_n rfl rfl ?_
  refine x_getR (u := .ref _) rfl rfl rfl rfl ?_
  refine x_iconst rfl ?_
  refine x_aload_n rfl rfl ?_
  refine x_getR (u := .ref _) rfl rfl rfl rfl ?_
  refine x_iconst rfl ?_
  refine x_bipush rfl ?_
  refine x_copy rfl rfl rfl (by decide) (by decide) (by decide) (by decide) (by decide) rfl ?_
  refine x_aload_n rfl rfl ?_
  refine x_getR (u := .ref _) rfl rfl rfl rfl ?_
  refine x_iconst rfl ?_
  refine x_aload_n rfl rfl ?_
  refine x_getR (u := .ref _) rfl rfl rfl rfl ?_
  refine x_iconst rfl ?_
  refine x_bipush rfl ?_
  refine x_copy rfl rfl rfl (by decide) (by decide) (by decide) (by decide) (by decide) rfl ?_
  refine x_aload_n rfl rfl ?_
  refine x_getR (u := .ref _) rfl rfl rfl rfl ?_
  refine x_iconst rfl ?_
  refine x_aload_n rfl rfl ?_
  refine x_getR (u := .ref _) rfl rfl rfl rfl ?_
  refine x_iconst rfl ?_
  refine x_bipush rfl ?_
  refine x_copy rfl rfl rfl (by decide) (by decide) (by decide) (by decide) (by decide) rfl ?_
  refine x_aload_n rfl rfl ?_
  refine x_getR (u := .ref _) rfl rfl rfl rfl ?_
  refine x_iconst rfl ?_
  refine x_aload_n rfl rfl ?_
  refine x_getR (u := .ref _) rfl rfl rfl rfl ?_
  refine x_iconst rfl ?_
  refine x_bipush rfl ?_
  refine x_copy rfl rfl rfl (by decide) (by decide) (by decide) (by decide) (by decide) rfl ?_
  refine x_aload_n rfl rfl ?_
  refine x_getR (u := .ref _) rfl rfl rfl rfl ?_
  refine x_iconst rfl ?_
  refine x_aload_n rfl rfl ?_
  refine x_getR (u := .ref _) rfl rfl rfl rfl ?_
  refine x_iconst rfl ?_
  refine x_bipush rfl ?_
  refine x_copy rfl rfl rfl (by decide) (by decide) (by decide) (by decide) (by decide) rfl ?_
  refine x_aload_n rfl rfl ?_
  refine x_getR (u := .ref _) rfl rfl rfl rfl ?_
  refine x_iconst rfl ?_
  refine x_aload_n rfl rfl ?_
  refine x_getR (u := .ref _) rfl rfl rfl rfl ?_
  refine x_iconst rfl ?_
  refine x_bipush rfl ?_
  refine x_copy rfl rfl rfl (by decide) (by decide) (by decide) (by decide) (by decide) rfl ?_
  refine x_aload_n rfl rfl ?_
  refine x_getR (u := .ref _) rfl rfl rfl rfl ?_
  refine x_iconst rfl ?_
  refine x_aload_n rfl rfl ?_
  refine x_getR (u := .ref _) rfl rfl rfl rfl ?_
  refine x_iconst rfl ?_
  refine x_bipush rfl ?_
  refine x_copy rfl rfl rfl (by decide) (by decide) (by decide) (by decide) (by decide) rfl ?_
  refine x_aload_n rfl rfl ?_
  refine x_getR (u := .ref _) rfl rfl rfl rfl ?_
  refine x_iconst rfl ?_
  refine x_aload_n rfl rfl ?_
  refine x_getR (u := .ref _) rfl rfl rfl rfl ?_
  refine x_iconst rfl ?_
  refine x_iconst rfl ?_
  refine x_copy rfl rfl rfl (by decide) (by decide) (by decide) (by decide) (by decide) rfl ?_
  refine x_iconst rfl ?_
  refine x_istore_n (ls' := [_, _, _]) rfl rfl rfl ?_
  refine x_iload_n rfl rfl ?_
  refine x_bipush rfl ?_
  refine x_icmp_ge rfl (fun c => ?_) (fun c => ?_)
  · exact absurd c (by decide)
  refine x_aload_n rfl rfl ?_
  refine x_getR (u := .ref _) rfl rfl rfl rfl ?_
  refine x_iload_n rfl rfl ?_
  refine x_aload_n rfl rfl ?_
  refine x_getR (u := .ref _) rfl rfl rfl rfl ?_
  refine x_iload_n rfl rfl ?_
  refine x_aaload5N rfl rfl (vp_in_nI (n := 0) (by decide) (by decide)) rfl ?_
  refine x_aastore5C (j := 0) rfl rfl rfl (by decide) rfl ?_
  refine x_iinc (ls' := [_, _, _]) rfl rfl rfl rfl ?_
  refine x_goto rfl ?_
  refine x_iload_n rfl rfl ?_
  refine x_bipush rfl ?_
  refine x_icmp_ge rfl (fun c => ?_) (fun c => ?_)
  · exact absurd c (by decide)
  refine x_aload_n rfl rfl ?_
  refine x_getR (u := .ref _) rfl rfl rfl rfl ?_
  refine x_iload_n rfl rfl ?_
  refine x_aload_n rfl rfl ?_
  refine x_getR (u := .ref _) rfl rfl rfl rfl ?_
  refine x_iload_n rfl rfl ?_
  refine x_aaload5N rfl rfl (vp_in_nI (n := 1) (by decide) (by decide)) rfl ?_
  refine x_aastore5C (j := 1) rfl rfl rfl (by decide) rfl ?_
  refine x_iinc (ls' := [_, _, _]) rfl rfl rfl rfl ?_
  refine x_goto rfl ?_
  refine x_iload_n rfl rfl ?_
  refine x_bipush rfl ?_
  refine x_icmp_ge rfl (fun c => ?_) (fun c => ?_)
  · exact absurd c (by decide)
  refine x_aload_n rfl rfl ?_
  refine x_getR (u := .ref _) rfl rfl rfl rfl ?_
  refine x_iload_n rfl rfl ?_
  refine x_aload_n rfl rfl ?_
  refine x_getR (u := .ref _) rfl rfl rfl rfl ?_
  refine x_iload_n rfl rfl ?_
  refine x_aaload5N rfl rfl (vp_in_nI (n := 2) (by decide) (by decide)) rfl ?_
  refine x_aastore5C (j := 2) rfl rfl rfl (by decide) rfl ?_
  refine x_iinc (ls' := [_, _, _]) rfl rfl rfl rfl ?_
  refine x_goto rfl ?_
  refine x_iload_n rfl rfl ?_
  refine x_bipush rfl ?_
  refine x_icmp_ge rfl (fun c => ?_) (fun c => ?_)
  · exact absurd c (by decide)
  refine x_aload_n rfl rfl ?_
  refine x_getR (u := .ref _) rfl rfl rfl rfl ?_
  refine x_iload_n rfl rfl ?_
  refine x_aload_n rfl rfl ?_
  refine x_getR (u := .ref _) rfl rfl rfl rfl ?_
  refine x_iload_n rfl rfl ?_
  refine x_aaload5N rfl rfl (vp_in_nI (n := 3) (by decide) (by decide)) rfl ?_
  refine x_aastore5C (j := 3) rfl rfl rfl (by decide) rfl ?_
  refine x_iinc (ls' := [_, _, _]) rfl rfl rfl rfl ?_
  refine x_goto rfl ?_
  refine x_iload_n rfl rfl ?_
  refine x_bipush rfl ?_
  refine x_icmp_ge rfl (fun c => ?_) (fun c => ?_)
  · exact absurd c (by decide)
  refine x_aload_n rfl rfl ?_
  refine x_getR (u := .ref _) rfl rfl rfl rfl ?_
  refine x_iload_n rfl rfl ?_
  refine x_aload_n rfl rfl ?_
  refine x_getR (u := .ref _) rfl rfl rfl rfl ?_
  refine x_iload_n rfl rfl ?_
  refine x_aaload5N rfl rfl (vp_in_nI (n := 4) (by decide) (by decide)) rfl ?_
  refine x_aastore5C (j := 4) rfl rfl rfl (by decide) rfl ?_
  refine x_iinc (ls' := [_, _, _]) rfl rfl rfl rfl ?_
  refine x_goto rfl ?_
  refine x_iload_n rfl rfl ?_
  refine x_bipush rfl ?_
  refine x_icmp_ge rfl (fun c => ?_) (fun c => ?_)
  · exact absurd c (by decide)
  refine x_aload_n rfl rfl ?_
  refine x_getR (u := .ref _) rfl rfl rfl rfl ?_
  refine x_iload_n rfl rfl ?_
  refine x_aload_n rfl rfl ?_
  refine x_getR (u := .ref _) rfl rfl rfl rfl ?_
  refine x_iload_n rfl rfl ?_
  refine x_aaload5N rfl rfl (vp_in_nI (n := 5) (by decide) (by decide)) rfl ?_
  refine x_aastore5C (j := 5) rfl rfl rfl (by decide) rfl ?_
  refine x_iinc (ls' := [_, _, _]) rfl rfl rfl rfl ?_
  refine x_goto rfl ?_
  refine x_iload_n rfl rfl ?_
  refine x_bipush rfl ?_
  refine x_icmp_ge rfl (fun c => ?_) (fun c => ?_)
  rotate_left
  · exact absurd c (by decide)
  refine x_vret rfl rfl ?_
  refine x_aload_n rfl rfl ?_
  refine x_dup rfl rfl ?_
  refine x_getE (y := 12) (u := 0) rfl rfl rfl rfl ?_
  refine x_iconst rfl ?_
  refine x_iload_n rfl rfl ?_
  refine x_ishl rfl ?_
  refine x_lit (b := 2) (by decide) ?_
  refine x_ior rfl ?_
  refine x_lit (b := 2) (by decide) ?_
  refine x_putI rfl rfl rfl rfl ?_
  refine x_aload_n rfl rfl ?_
  refine x_iconst rfl ?_
  refine x_callV (M' := mi145) (As := [_]) (bc1 := 0) (bs1 := 0) (bc2 := 0) (bs2 := 0) rfl rfl rfl rfl ok145 rfl rfl (by decide) rfl rfl rfl rfl rfl rfl ?_
  refine x_aload_n rfl rfl ?_
  refine x_iload_n rfl rfl ?_
  refine x_iconst rfl ?_
  refine x_min rfl rfl ?_
  refine x_lit (b := 0) (by decide) ?_
  refine x_putI rfl rfl rfl rfl ?_
  refine x_iload_n rfl rfl ?_
  refine x_if_ge rfl (fun c => ?_) (fun c => ?_)
  rotate_left
  · exact absurd c (by decide)
  refine x_iload_n rfl rfl ?_
  refine x_iret rfl rfl ?_
  refine x_iret rfl rfl ?_
  exact hP _ (Fm_up (Fm_up (Fm_uw (Fm_uw (Fm_uw (Fm_uw (Fm_uw (Fm_uw (Fm_uw (Fm_uw (Fm_uw (Fm_up (Fm_up (Fm_up (Fm_up (Fm_up (Fm_up (Fm_up (Fm0) (by decide)) (by decide)) (by decide)) (by decide)) (by decide)) (by decide)) (by decide)) (by decide)) (by decide)) (by decide)) (by decide)) (by decide)) (by decide)) (by decide)) (by decide)) (by decide)) (by decide)) (by decide))
set_option maxRecDepth 20000 in
set_option maxHeartbeats 8000000 in
theorem cx_count0 {d : Nat} {P : Post} (hP : PX P 0) : Ex (d + 1) mi143 0 (entL [.ref 0, .int 0] 2) [] (LY ++ []) VIm ZL (vr ZR) 0 0 P := by
  refine x_iload_n rfl rfl ?_
  refine x_swIn (tgt := 72) rfl (by decide) (by decide) rfl (by decide) ?_
  refine x_aload_n rfl rfl ?_
  refine x_getR (u := .ref _) rfl rfl rfl rfl ?_
  refine x_getE (y := 0) (u := 0) rfl rfl rfl rfl ?_
  refine x_iret rfl rfl ?_
  exact hP _ (Fm0)
set_option maxRecDepth 20000 in
set_option maxHeartbeats 8000000 in
theorem cm_count0 {d : Nat} {P : Post} {VI : VIT} (hF : Fm VI) (hP : PM P 0) : Ex (d + 2) mi278 0 (entL [.ref 74, .int 0] 2) [] (LY ++ []) VI ZL (vr ZR) 0 0 P := by
  refine x_iload_n rfl rfl ?_
  refine x_swIn (tgt := 84) rfl (by decide) (by decide) rfl (by decide) ?_
  refine x_aload_n rfl rfl ?_
  refine x_getR (u := .ref _) rfl rfl rfl rfl ?_
  refine x_bipush rfl ?_
  refine x_ialE (j := 93) (u := 0) rfl rfl rfl (by decide) (hF.at (by decide) rfl : VI 76 93 = 0) ?_
  refine x_iret rfl rfl ?_
  exact hP _
set_option maxRecDepth 20000 in
set_option maxHeartbeats 8000000 in
theorem cx_count1 {d : Nat} {P : Post} (hP : PX P 0) : Ex (d + 1) mi143 0 (entL [.ref 0, .int 1] 2) [] (LY ++ []) VIm ZL (vr ZR) 0 0 P := by
  refine x_iload_n rfl rfl ?_
  refine x_swIn (tgt := 80) rfl (by decide) (by decide) rfl (by decide) ?_
  refine x_aload_n rfl rfl ?_
  refine x_getR (u := .ref _) rfl rfl rfl rfl ?_
  refine x_getE (y := 1) (u := 0) rfl rfl rfl rfl ?_
  refine x_callS (M' := mi280) (As := [_]) (bc1 := 0) (bs1 := 0) (bc2 := 0) (bs2 := 0) rfl rfl rfl rfl ok280 rfl rfl rfl rfl rfl rfl ?_
  refine x_iload_n rfl rfl ?_
  refine x_iload_n rfl rfl ?_
  refine x_iconst rfl ?_
  refine x_iushr rfl ?_
  refine x_lit (b := 0) (by decide) ?_
  refine x_ldc_w rfl ?_
  refine x_iand rfl ?_
  refine x_lit (b := 0) (by decide) ?_
  refine x_isub rfl ?_
  refine x_lit (b := 0) (by decide) ?_
  refine x_istore_n (ls' := [_]) rfl rfl rfl ?_
  refine x_iload_n rfl rfl ?_
  refine x_ldc_w rfl ?_
  refine x_iand rfl ?_
  refine x_lit (b := 0) (by decide) ?_
  refine x_iload_n rfl rfl ?_
  refine x_iconst rfl ?_
  refine x_iushr rfl ?_
  refine x_lit (b := 0) (by decide) ?_
  refine x_ldc_w rfl ?_
  refine x_iand rfl ?_
  refine x_lit (b := 0) (by decide) ?_
  refine x_iadd rfl ?_
  refine x_lit (b := 0) (by decide) ?_
  refine x_istore_n (ls' := [_]) rfl rfl rfl ?_
  refine x_iload_n rfl rfl ?_
  refine x_iload_n rfl rfl ?_
  refine x_iconst rfl ?_
  refine x_iushr rfl ?_
  refine x_lit (b := 0) (by decide) ?_
  refine x_iadd rfl ?_
  refine x_lit (b := 0) (by decide) ?_
  refine x_ldc_w rfl ?_
  refine x_iand rfl ?_
  refine x_lit (b := 0) (by decide) ?_
  refine x_istore_n (ls' := [_]) rfl rfl rfl ?_
  refine x_iload_n rfl rfl ?_
  refine x_iload_n rfl rfl ?_
  refine x_bipush rfl ?_
  refine x_iushr rfl ?_
  refine x_lit (b := 0) (by decide) ?_
  refine x_iadd rfl ?_
  refine x_lit (b := 0) (by decide) ?_
  refine x_istore_n (ls' := [_]) rfl rfl rfl ?_
  refine x_iload_n rfl rfl ?_
  refine x_iload_n rfl rfl ?_
  refine x_bipush rfl ?_
  refine x_iushr rfl ?_
  refine x_lit (b := 0) (by decide) ?_
  refine x_iadd rfl ?_
  refine x_lit (b := 0) (by decide) ?_
  refine x_istore_n (ls' := [_]) rfl rfl rfl ?_
  refine x_iload_n rfl rfl ?_
  refine x_bipush rfl ?_
  refine x_iand rfl ?_
  refine x_lit (b := 0) (by decide) ?_
  refine x_iret rfl rfl ?_
  refine x_iret rfl rfl ?_
  exact hP _ (Fm0)
set_option maxRecDepth 20000 in
set_option maxHeartbeats 8000000 in
theorem cm_count1 {d : Nat} {P : Post} {VI : VIT} (hF : Fm VI) (hP : PM P 0) : Ex (d + 2) mi278 0 (entL [.ref 74, .int 1] 2) [] (LY ++ []) VI ZL (vr ZR) 0 0 P := by
  refine x_iload_n rfl rfl ?_
  refine x_swIn (tgt := 92) rfl (by decide) (by decide) rfl (by decide) ?_
  refine x_aload_n rfl rfl ?_
  refine x_callV (M' := mi170) (As := []) (bc1 := 0) (bs1 := 0) (bc2 := 0) (bs2 := 0) rfl rfl rfl rfl ok170 rfl rfl (by decide) rfl rfl rfl rfl rfl rfl ?_
  refine x_iconst rfl ?_
  refine x_istore_n (ls' := [_, _, _]) rfl rfl rfl ?_
  refine x_iconst rfl ?_
  refine x_istore_n (ls' := [_, _, _]) rfl rfl rfl ?_
  refine x_iload_n rfl rfl ?_
  refine x_aload_n rfl rfl ?_
  refine x_getR (u := .ref _) rfl rfl rfl rfl ?_
  refine x_bipush rfl ?_
  refine x_ialE (j := 93) (u := 0) rfl rfl rfl (by decide) (hF.at (by decide) rfl : VI 76 93 = 0) ?_
  refine x_icmp_ge rfl (fun c => ?_) (fun c => ?_)
  rotate_left
  · exact absurd c (by decide)
  refine x_iload_n rfl rfl ?_
  refine x_iret rfl rfl ?_
  refine x_callS (M' := mi158) (As := [_]) (bc1 := 0) (bs1 := 0) (bc2 := 0) (bs2 := 0) rfl rfl rfl rfl ok158 rfl rfl rfl rfl rfl rfl ?_
  refine x_iconst rfl ?_
  refine x_istore_n (ls' := [_, _, _]) rfl rfl rfl ?_
  refine x_iconst rfl ?_
  refine x_istore_n (ls' := [_, _, _]) rfl rfl rfl ?_
  refine x_iload_n rfl rfl ?_
  refine x_bipush rfl ?_
  refine x_icmp_ge rfl (fun c => ?_) (fun c => ?_)
  · exact absurd c (by decide)
  refine x_iload_n rfl rfl ?_
  refine x_iload_n rfl rfl ?_
  refine x_iload_n rfl rfl ?_
  refine x_ishr rfl ?_
  refine x_lit (b := 0) (by decide) ?_
  refine x_iconst rfl ?_
  refine x_iand rfl ?_
  refine x_lit (b := 0) (by decide) ?_
  refine x_iadd rfl ?_
  refine x_lit (b := 0) (by decide) ?_
  refine x_istore_n (ls' := [_, _, _]) rfl rfl rfl ?_
  refine x_iinc (ls' := [_, _, _]) rfl rfl rfl rfl ?_
  refine x_goto rfl ?_
  refine x_iload_n rfl rfl ?_
  refine x_bipush rfl ?_
  refine x_icmp_ge rfl (fun c => ?_) (fun c => ?_)
  · exact absurd c (by decide)
  refine x_iload_n rfl rfl ?_
  refine x_iload_n rfl rfl ?_
  refine x_iload_n rfl rfl ?_
  refine x_ishr rfl ?_
  refine x_lit (b := 0) (by decide) ?_
  refine x_iconst rfl ?_
  refine x_iand rfl ?_
  refine x_lit (b := 0) (by decide) ?_
  refine x_iadd rfl ?_
  refine x_lit (b := 0) (by decide) ?_
  refine x_istore_n (ls' := [_, _, _]) rfl rfl rfl ?_
  refine x_iinc (ls' := [_, _, _]) rfl rfl rfl rfl ?_
  refine x_goto rfl ?_
  refine x_iload_n rfl rfl ?_
  refine x_bipush rfl ?_
  refine x_icmp_ge rfl (fun c => ?_) (fun c => ?_)
  · exact absurd c (by decide)
  refine x_iload_n rfl rfl ?_
  refine x_iload_n rfl rfl ?_
  refine x_iload_n rfl rfl ?_
  refine x_ishr rfl ?_
  refine x_lit (b := 0) (by decide) ?_
  refine x_iconst rfl ?_
  refine x_iand rfl ?_
  refine x_lit (b := 0) (by decide) ?_
  refine x_iadd rfl ?_
  refine x_lit (b := 0) (by decide) ?_
  refine x_istore_n (ls' := [_, _, _]) rfl rfl rfl ?_
  refine x_iinc (ls' := [_, _, _]) rfl rfl rfl rfl ?_
  refine x_goto rfl ?_
  refine x_iload_n rfl rfl ?_
  refine x_bipush rfl ?_
  refine x_icmp_ge rfl (fun c => ?_) (fun c => ?_)
  · exact absurd c (by decide)
  refine x_iload_n rfl rfl ?_
  refine x_iload_n rfl rfl ?_
  refine x_iload_n rfl rfl ?_
  refine x_ishr rfl ?_
  refine x_lit (b := 0) (by decide) ?_
  refine x_iconst rfl ?_
  refine x_iand rfl ?_
  refine x_lit (b := 0) (by decide) ?_
  refine x_iadd rfl ?_
  refine x_lit (b := 0) (by decide) ?_
  refine x_istore_n (ls' := [_, _, _]) rfl rfl rfl ?_
  refine x_iinc (ls' := [_, _, _]) rfl rfl rfl rfl ?_
  refine x_goto rfl ?_
  refine x_iload_n rfl rfl ?_
  refine x_bipush rfl ?_
  refine x_icmp_ge rfl (fun c => ?_) (fun c => ?_)
  · exact absurd c (by decide)
  refine x_iload_n rfl rfl ?_
  refine x_iload_n rfl rfl ?_
  refine x_iload_n rfl rfl ?_
  refine x_ishr rfl ?_
  refine x_lit (b := 0) (by decide) ?_
  refine x_iconst rfl ?_
  refine x_iand rfl ?_
  refine x_lit (b := 0) (by decide) ?_
  refine x_iadd rfl ?_
  refine x_lit (b := 0) (by decide) ?_
  refine x_istore_n (ls' := [_, _, _]) rfl rfl rfl ?_
  refine x_iinc (ls' := [_, _, _]) rfl rfl rfl rfl ?_
  refine x_goto rfl ?_
  refine x_iload_n rfl rfl ?_
  refine x_bipush rfl ?_
  refine x_icmp_ge rfl (fun c => ?_) (fun c => ?_)
  · exact absurd c (by decide)
  refine x_iload_n rfl rfl ?_
  refine x_iload_n rfl rfl ?_
  refine x_iload_n rfl rfl ?_
  refine x_ishr rfl ?_
  refine x_lit (b := 0) (by decide) ?_
  refine x_iconst rfl ?_
  refine x_iand rfl ?_
  refine x_lit (b := 0) (by decide) ?_
  refine x_iadd rfl ?_
  refine x_lit (b := 0) (by decide) ?_
  refine x_istore_n (ls' := [_, _, _]) rfl rfl rfl ?_
  refine x_iinc (ls' := [_, _, _]) rfl rfl rfl rfl ?_
  refine x_goto rfl ?_
  refine x_iload_n rfl rfl ?_
  refine x_bipush rfl ?_
  refine x_icmp_ge rfl (fun c => ?_) (fun c => ?_)
  rotate_left
  · exact absurd c (by decide)
  refine x_iload_n rfl rfl ?_
  refine x_iret rfl rfl ?_
  refine x_iret rfl rfl ?_
  exact hP _
set_option maxRecDepth 20000 in
set_option maxHeartbeats 8000000 in
theorem cx_count2 {d : Nat} {P : Post} (hP : PX P 0) : Ex (d + 1) mi143 0 (entL [.ref 0, .int 2] 2) [] (LY ++ []) VIm ZL (vr ZR) 0 0 P := by
  refine x_iload_n rfl rfl ?_
  refine x_swIn (tgt := 91) rfl (by decide) (by decide) rfl (by decide) ?_
  refine x_aload_n rfl rfl ?_
  refine x_getR (u := .ref _) rfl rfl rfl rfl ?_
  refine x_getE (y := 5) (u := 0) rfl rfl rfl rfl ?_
  refine x_iret rfl rfl ?_
  exact hP _ (Fm0)
set_option maxRecDepth 20000 in
set_option maxHeartbeats 8000000 in
theorem cm_count2 {d : Nat} {P : Post} {VI : VIT} (hF : Fm VI) (hP : PM P 0) : Ex (d + 2) mi278 0 (entL [.ref 74, .int 2] 2) [] (LY ++ []) VI ZL (vr ZR) 0 0 P := by
  refine x_iload_n rfl rfl ?_
  refine x_swIn (tgt := 100) rfl (by decide) (by decide) rfl (by decide) ?_
  refine x_aload_n rfl rfl ?_
  refine x_getR (u := .ref _) rfl rfl rfl rfl ?_
  refine x_bipush rfl ?_
  refine x_ialE (j := 94) (u := 0) rfl rfl rfl (by decide) (hF.at (by decide) rfl : VI 76 94 = 0) ?_
  refine x_iret rfl rfl ?_
  exact hP _
set_option maxRecDepth 20000 in
set_option maxHeartbeats 8000000 in
theorem cx_count3 {d : Nat} {P : Post} (hP : PX P 0) : Ex (d + 1) mi143 0 (entL [.ref 0, .int 3] 2) [] (LY ++ []) VIm ZL (vr ZR) 0 0 P := by
  refine x_iload_n rfl rfl ?_
  refine x_swIn (tgt := 99) rfl (by decide) (by decide) rfl (by decide) ?_
  refine x_aload_n rfl rfl ?_
  refine x_getR (u := .ref _) rfl rfl rfl rfl ?_
  refine x_getE (y := 6) (u := 0) rfl rfl rfl rfl ?_
  refine x_callS (M' := mi280) (As := [_]) (bc1 := 0) (bs1 := 0) (bc2 := 0) (bs2 := 0) rfl rfl rfl rfl ok280 rfl rfl rfl rfl rfl rfl ?_
  refine x_iload_n rfl rfl ?_
  refine x_iload_n rfl rfl ?_
  refine x_iconst rfl ?_
  refine x_iushr rfl ?_
  refine x_lit (b := 0) (by decide) ?_
  refine x_ldc_w rfl ?_
  refine x_iand rfl ?_
  refine x_lit (b := 0) (by decide) ?_
  refine x_isub rfl ?_
  refine x_lit (b := 0) (by decide) ?_
  refine x_istore_n (ls' := [_]) rfl rfl rfl ?_
  refine x_iload_n rfl rfl ?_
  refine x_ldc_w rfl ?_
  refine x_iand rfl ?_
  refine x_lit (b := 0) (by decide) ?_
  refine x_iload_n rfl rfl ?_
  refine x_iconst rfl ?_
  refine x_iushr rfl ?_
  refine x_lit (b := 0) (by decide) ?_
  refine x_ldc_w rfl ?_
  refine x_iand rfl ?_
  refine x_lit (b := 0) (by decide) ?_
  refine x_iadd rfl ?_
  refine x_lit (b := 0) (by decide) ?_
  refine x_istore_n (ls' := [_]) rfl rfl rfl ?_
  refine x_iload_n rfl rfl ?_
  refine x_iload_n rfl rfl ?_
  refine x_iconst rfl ?_
  refine x_iushr rfl ?_
  refine x_lit (b := 0) (by decide) ?_
  refine x_iadd rfl ?_
  refine x_lit (b := 0) (by decide) ?_
  refine x_ldc_w rfl ?_
  refine x_iand rfl ?_
  refine x_lit (b := 0) (by decide) ?_
  refine x_istore_n (ls' := [_]) rfl rfl rfl ?_
  refine x_iload_n rfl rfl ?_
  refine x_iload_n rfl rfl ?_
  refine x_bipush rfl ?_
  refine x_iushr rfl ?_
  refine x_lit (b := 0) (by decide) ?_
  refine x_iadd rfl ?_
  refine x_lit (b := 0) (by decide) ?_
  refine x_istore_n (ls' := [_]) rfl rfl rfl ?_
  refine x_iload_n rfl rfl ?_
  refine x_iload_n rfl rfl ?_
  refine x_bipush rfl ?_
  refine x_iushr rfl ?_
  refine x_lit (b := 0) (by decide) ?_
  refine x_iadd rfl ?_
  refine x_lit (b := 0) (by decide) ?_
  refine x_istore_n (ls' := [_]) rfl rfl rfl ?_
  refine x_iload_n rfl rfl ?_
  refine x_bipush rfl ?_
  refine x_iand rfl ?_
  refine x_lit (b := 0) (by decide) ?_
  refine x_iret rfl rfl ?_
  refine x_iret rfl rfl ?_
  exact hP _ (Fm0)
set_option maxRecDepth 20000 in
set_option maxHeartbeats 8000000 in
theorem cm_count3 {d : Nat} {P : Post} {VI : VIT} (hF : Fm VI) (hP : PM P 0) : Ex (d + 2) mi278 0 (entL [.ref 74, .int 3] 2) [] (LY ++ []) VI ZL (vr ZR) 0 0 P := by
  refine x_iload_n rfl rfl ?_
  refine x_swIn (tgt := 108) rfl (by decide) (by decide) rfl (by decide) ?_
  refine x_aload_n rfl rfl ?_
  refine x_callV (M' := mi277) (As := []) (bc1 := 0) (bs1 := 0) (bc2 := 0) (bs2 := 0) rfl rfl rfl rfl ok277 rfl rfl (by decide) rfl rfl rfl rfl rfl rfl ?_
  refine x_iconst rfl ?_
  refine x_istore_n (ls' := [_, _, _]) rfl rfl rfl ?_
  refine x_iconst rfl ?_
  refine x_istore_n (ls' := [_, _, _]) rfl rfl rfl ?_
  refine x_iload_n rfl rfl ?_
  refine x_aload_n rfl rfl ?_
  refine x_getR (u := .ref _) rfl rfl rfl rfl ?_
  refine x_bipush rfl ?_
  refine x_ialE (j := 94) (u := 0) rfl rfl rfl (by decide) (hF.at (by decide) rfl : VI 76 94 = 0) ?_
  refine x_icmp_ge rfl (fun c => ?_) (fun c => ?_)
  rotate_left
  · exact absurd c (by decide)
  refine x_iload_n rfl rfl ?_
  refine x_iret rfl rfl ?_
  refine x_iret rfl rfl ?_
  exact hP _
set_option maxRecDepth 20000 in
set_option maxHeartbeats 8000000 in
theorem cx_count4 {d : Nat} {P : Post} (hP : PX P 0) : Ex (d + 1) mi143 0 (entL [.ref 0, .int 4] 2) [] (LY ++ []) VIm ZL (vr ZR) 0 0 P := by
  refine x_iload_n rfl rfl ?_
  refine x_swIn (tgt := 110) rfl (by decide) (by decide) rfl (by decide) ?_
  refine x_aload_n rfl rfl ?_
  refine x_getR (u := .ref _) rfl rfl rfl rfl ?_
  refine x_getE (y := 9) (u := 0) rfl rfl rfl rfl ?_
  refine x_iret rfl rfl ?_
  exact hP _ (Fm0)
set_option maxRecDepth 20000 in
set_option maxHeartbeats 8000000 in
theorem cm_count4 {d : Nat} {P : Post} {VI : VIT} (hF : Fm VI) (hP : PM P 0) : Ex (d + 2) mi278 0 (entL [.ref 74, .int 4] 2) [] (LY ++ []) VI ZL (vr ZR) 0 0 P := by
  refine x_iload_n rfl rfl ?_
  refine x_swIn (tgt := 113) rfl (by decide) (by decide) rfl (by decide) ?_
  refine x_aload_n rfl rfl ?_
  refine x_getR (u := .ref _) rfl rfl rfl rfl ?_
  refine x_bipush rfl ?_
  refine x_ialE (j := 95) (u := 0) rfl rfl rfl (by decide) (hF.at (by decide) rfl : VI 76 95 = 0) ?_
  refine x_iret rfl rfl ?_
  exact hP _
set_option maxRecDepth 20000 in
set_option maxHeartbeats 8000000 in
theorem cx_count5 {d : Nat} {P : Post} (hP : PX P 0) : Ex (d + 1) mi143 0 (entL [.ref 0, .int 5] 2) [] (LY ++ []) VIm ZL (vr ZR) 0 0 P := by
  refine x_iload_n rfl rfl ?_
  refine x_swIn (tgt := 118) rfl (by decide) (by decide) rfl (by decide) ?_
  refine x_aload_n rfl rfl ?_
  refine x_getR (u := .ref _) rfl rfl rfl rfl ?_
  refine x_getE (y := 14) (u := 0) rfl rfl rfl rfl ?_
  refine x_iret rfl rfl ?_
  exact hP _ (Fm0)
set_option maxRecDepth 20000 in
set_option maxHeartbeats 8000000 in
theorem cm_count5 {d : Nat} {P : Post} {VI : VIT} (hF : Fm VI) (hP : PM P 0) : Ex (d + 2) mi278 0 (entL [.ref 74, .int 5] 2) [] (LY ++ []) VI ZL (vr ZR) 0 0 P := by
  refine x_iload_n rfl rfl ?_
  refine x_swIn (tgt := 121) rfl (by decide) (by decide) rfl (by decide) ?_
  refine x_aload_n rfl rfl ?_
  refine x_getR (u := .ref _) rfl rfl rfl rfl ?_
  refine x_bipush rfl ?_
  refine x_ialE (j := 96) (u := 0) rfl rfl rfl (by decide) (hF.at (by decide) rfl : VI 76 96 = 0) ?_
  refine x_iret rfl rfl ?_
  exact hP _
set_option maxRecDepth 20000 in
set_option maxHeartbeats 8000000 in
theorem cx_count6 {d : Nat} {P : Post} (hP : PX P 0) : Ex (d + 1) mi143 0 (entL [.ref 0, .int 6] 2) [] (LY ++ []) VIm ZL (vr ZR) 0 0 P := by
  refine x_iload_n rfl rfl ?_
  refine x_swIn (tgt := 126) rfl (by decide) (by decide) rfl (by decide) ?_
  refine x_aload_n rfl rfl ?_
  refine x_getR (u := .ref _) rfl rfl rfl rfl ?_
  refine x_getE (y := 2) (u := 0) rfl rfl rfl rfl ?_
  refine x_iret rfl rfl ?_
  exact hP _ (Fm0)
set_option maxRecDepth 20000 in
set_option maxHeartbeats 8000000 in
theorem cm_count6 {d : Nat} {P : Post} {VI : VIT} (hF : Fm VI) (hP : PM P 0) : Ex (d + 2) mi278 0 (entL [.ref 74, .int 6] 2) [] (LY ++ []) VI ZL (vr ZR) 0 0 P := by
  refine x_iload_n rfl rfl ?_
  refine x_swIn (tgt := 129) rfl (by decide) (by decide) rfl (by decide) ?_
  refine x_aload_n rfl rfl ?_
  refine x_getE (y := 32) (u := 0) rfl rfl rfl (hF.at (by decide) rfl : VI 74 32 = 0) ?_
  refine x_iret rfl rfl ?_
  exact hP _
set_option maxRecDepth 20000 in
set_option maxHeartbeats 8000000 in
theorem cx_count7 {d : Nat} {P : Post} (hP : PX P 0) : Ex (d + 1) mi143 0 (entL [.ref 0, .int 7] 2) [] (LY ++ []) VIm ZL (vr ZR) 0 0 P := by
  refine x_iload_n rfl rfl ?_
  refine x_swIn (tgt := 134) rfl (by decide) (by decide) rfl (by decide) ?_
  refine x_aload_n rfl rfl ?_
  refine x_getE (y := 13) (u := 0) rfl rfl rfl rfl ?_
  refine x_iret rfl rfl ?_
  exact hP _ (Fm0)
set_option maxRecDepth 20000 in
set_option maxHeartbeats 8000000 in
theorem cm_count7 {d : Nat} {P : Post} {VI : VIT} (hF : Fm VI) (hP : PM P 0) : Ex (d + 2) mi278 0 (entL [.ref 74, .int 7] 2) [] (LY ++ []) VI ZL (vr ZR) 0 0 P := by
  refine x_iload_n rfl rfl ?_
  refine x_swIn (tgt := 134) rfl (by decide) (by decide) rfl (by decide) ?_
  refine x_aload_n rfl rfl ?_
  refine x_getE (y := 13) (u := 0) rfl rfl rfl (hF.at (by decide) rfl : VI 74 13 = 0) ?_
  refine x_iret rfl rfl ?_
  exact hP _
set_option maxRecDepth 20000 in
set_option maxHeartbeats 8000000 in
theorem cx_count8 {d : Nat} {P : Post} (hP : PX P 0) : Ex (d + 1) mi143 0 (entL [.ref 0, .int 8] 2) [] (LY ++ []) VIm ZL (vr ZR) 0 0 P := by
  refine x_iload_n rfl rfl ?_
  refine x_swIn (tgt := 139) rfl (by decide) (by decide) rfl (by decide) ?_
  refine x_aload_n rfl rfl ?_
  refine x_iconst rfl ?_
  refine x_callV (M' := mi146) (As := [_]) (bc1 := 0) (bs1 := 0) (bc2 := 0) (bs2 := 0) rfl rfl rfl rfl ok146 rfl rfl (by decide) rfl rfl rfl rfl rfl rfl ?_
  refine x_iload_n rfl rfl ?_
  refine x_if_ge rfl (fun c => ?_) (fun c => ?_)
  · exact absurd c (by decide)
  refine x_iload_n rfl rfl ?_
  refine x_bipush rfl ?_
  refine x_icmp_lt rfl (fun c => ?_) (fun c => ?_)
  · exact absurd c (by decide)
  refine x_aload_n rfl rfl ?_
  refine x_getR (u := .ref _) rfl rfl rfl rfl ?_
  refine x_iload_n rfl rfl ?_
  refine x_ineg rfl ?_
  refine x_lit (b := 1) (by decide) ?_
  refine x_iconst rfl ?_
  refine x_isub rfl ?_
  refine x_lit (b := 0) (by decide) ?_
  refine x_ialE (j := 0) (u := 0) rfl rfl rfl (by decide) rfl ?_
  refine x_goto rfl ?_
  refine x_iret rfl rfl ?_
  refine x_iret rfl rfl ?_
  exact hP _ (Fm0)
set_option maxRecDepth 20000 in
set_option maxHeartbeats 8000000 in
theorem cm_count8 {d : Nat} {P : Post} {VI : VIT} (hF : Fm VI) (hP : PM P 0) : Ex (d + 2) mi278 0 (entL [.ref 74, .int 8] 2) [] (LY ++ []) VI ZL (vr ZR) 0 0 P := by
  refine x_iload_n rfl rfl ?_
  refine x_swIn (tgt := 139) rfl (by decide) (by decide) rfl (by decide) ?_
  refine x_aload_n rfl rfl ?_
  refine x_getR (u := .ref _) rfl rfl rfl rfl ?_
  refine x_iload_n rfl rfl ?_
  refine x_bipush rfl ?_
  refine x_isub rfl ?_
  refine x_lit (b := 1) (by decide) ?_
  refine x_ialE (j := 1) (u := 0) rfl rfl rfl (by decide) (hF.at (by decide) rfl : VI 75 1 = 0) ?_
  refine x_iret rfl rfl ?_
  exact hP _
set_option maxRecDepth 20000 in
set_option maxHeartbeats 8000000 in
theorem cx_count9 {d : Nat} {P : Post} (hP : PX P 0) : Ex (d + 1) mi143 0 (entL [.ref 0, .int 9] 2) [] (LY ++ []) VIm ZL (vr ZR) 0 0 P := by
  refine x_iload_n rfl rfl ?_
  refine x_swIn (tgt := 145) rfl (by decide) (by decide) rfl (by decide) ?_
  refine x_aload_n rfl rfl ?_
  refine x_bipush rfl ?_
  refine x_callV (M' := mi146) (As := [_]) (bc1 := 0) (bs1 := 0) (bc2 := 0) (bs2 := 0) rfl rfl rfl rfl ok146 rfl rfl (by decide) rfl rfl rfl rfl rfl rfl ?_
  refine x_iload_n rfl rfl ?_
  refine x_if_ge rfl (fun c => ?_) (fun c => ?_)
  · exact absurd c (by decide)
  refine x_iload_n rfl rfl ?_
  refine x_bipush rfl ?_
  refine x_icmp_lt rfl (fun c => ?_) (fun c => ?_)
  · exact absurd c (by decide)
  refine x_aload_n rfl rfl ?_
  refine x_getR (u := .ref _) rfl rfl rfl rfl ?_
  refine x_iload_n rfl rfl ?_
  refine x_ineg rfl ?_
  refine x_lit (b := 2) (by decide) ?_
  refine x_iconst rfl ?_
  refine x_isub rfl ?_
  refine x_lit (b := 1) (by decide) ?_
  refine x_ialE (j := 1) (u := 0) rfl rfl rfl (by decide) rfl ?_
  refine x_goto rfl ?_
  refine x_iret rfl rfl ?_
  refine x_iret rfl rfl ?_
  exact hP _ (Fm0)
set_option maxRecDepth 20000 in
set_option maxHeartbeats 8000000 in
theorem cm_count9 {d : Nat} {P : Post} {VI : VIT} (hF : Fm VI) (hP : PM P 0) : Ex (d + 2) mi278 0 (entL [.ref 74, .int 9] 2) [] (LY ++ []) VI ZL (vr ZR) 0 0 P := by
  refine x_iload_n rfl rfl ?_
  refine x_swIn (tgt := 139) rfl (by decide) (by decide) rfl (by decide) ?_
  refine x_aload_n rfl rfl ?_
  refine x_getR (u := .ref _) rfl rfl rfl rfl ?_
  refine x_iload_n rfl rfl ?_
  refine x_bipush rfl ?_
  refine x_isub rfl ?_
  refine x_lit (b := 2) (by decide) ?_
  refine x_ialE (j := 2) (u := 0) rfl rfl rfl (by decide) (hF.at (by decide) rfl : VI 75 2 = 0) ?_
  refine x_iret rfl rfl ?_
  exact hP _
set_option maxRecDepth 20000 in
set_option maxHeartbeats 8000000 in
theorem cx_count10 {d : Nat} {P : Post} (hP : PX P 0) : Ex (d + 1) mi143 0 (entL [.ref 0, .int 10] 2) [] (LY ++ []) VIm ZL (vr ZR) 0 0 P := by
  refine x_iload_n rfl rfl ?_
  refine x_swIn (tgt := 152) rfl (by decide) (by decide) rfl (by decide) ?_
  refine x_aload_n rfl rfl ?_
  refine x_bipush rfl ?_
  refine x_callV (M' := mi146) (As := [_]) (bc1 := 0) (bs1 := 0) (bc2 := 0) (bs2 := 0) rfl rfl rfl rfl ok146 rfl rfl (by decide) rfl rfl rfl rfl rfl rfl ?_
  refine x_iload_n rfl rfl ?_
  refine x_if_ge rfl (fun c => ?_) (fun c => ?_)
  · exact absurd c (by decide)
  refine x_iload_n rfl rfl ?_
  refine x_bipush rfl ?_
  refine x_icmp_lt rfl (fun c => ?_) (fun c => ?_)
  · exact absurd c (by decide)
  refine x_aload_n rfl rfl ?_
  refine x_getR (u := .ref _) rfl rfl rfl rfl ?_
  refine x_iload_n rfl rfl ?_
  refine x_ineg rfl ?_
  refine x_lit (b := 3) (by decide) ?_
  refine x_iconst rfl ?_
  refine x_isub rfl ?_
  refine x_lit (b := 2) (by decide) ?_
  refine x_ialE (j := 2) (u := 0) rfl rfl rfl (by decide) rfl ?_
  refine x_goto rfl ?_
  refine x_iret rfl rfl ?_
  refine x_iret rfl rfl ?_
  exact hP _ (Fm0)
set_option maxRecDepth 20000 in
set_option maxHeartbeats 8000000 in
theorem cm_count10 {d : Nat} {P : Post} {VI : VIT} (hF : Fm VI) (hP : PM P 0) : Ex (d + 2) mi278 0 (entL [.ref 74, .int 10] 2) [] (LY ++ []) VI ZL (vr ZR) 0 0 P := by
  refine x_iload_n rfl rfl ?_
  refine x_swIn (tgt := 139) rfl (by decide) (by decide) rfl (by decide) ?_
  refine x_aload_n rfl rfl ?_
  refine x_getR (u := .ref _) rfl rfl rfl rfl ?_
  refine x_iload_n rfl rfl ?_
  refine x_bipush rfl ?_
  refine x_isub rfl ?_
  refine x_lit (b := 3) (by decide) ?_
  refine x_ialE (j := 3) (u := 0) rfl rfl rfl (by decide) (hF.at (by decide) rfl : VI 75 3 = 0) ?_
  refine x_iret rfl rfl ?_
  exact hP _
set_option maxRecDepth 20000 in
set_option maxHeartbeats 8000000 in
theorem cx_count11 {d : Nat} {P : Post} (hP : PX P 0) : Ex (d + 1) mi143 0 (entL [.ref 0, .int 11] 2) [] (LY ++ []) VIm ZL (vr ZR) 0 0 P := by
  refine x_iload_n rfl rfl ?_
  refine x_swIn (tgt := 159) rfl (by decide) (by decide) rfl (by decide) ?_
  refine x_aload_n rfl rfl ?_
  refine x_bipush rfl ?_
  refine x_callV (M' := mi146) (As := [_]) (bc1 := 0) (bs1 := 0) (bc2 := 0) (bs2 := 0) rfl rfl rfl rfl ok146 rfl rfl (by decide) rfl rfl rfl rfl rfl rfl ?_
  refine x_iload_n rfl rfl ?_
  refine x_if_ge rfl (fun c => ?_) (fun c => ?_)
  · exact absurd c (by decide)
  refine x_iload_n rfl rfl ?_
  refine x_bipush rfl ?_
  refine x_icmp_lt rfl (fun c => ?_) (fun c => ?_)
  · exact absurd c (by decide)
  refine x_aload_n rfl rfl ?_
  refine x_getR (u := .ref _) rfl rfl rfl rfl ?_
  refine x_iload_n rfl rfl ?_
  refine x_ineg rfl ?_
  refine x_lit (b := 5) (by decide) ?_
  refine x_iconst rfl ?_
  refine x_isub rfl ?_
  refine x_lit (b := 4) (by decide) ?_
  refine x_ialE (j := 4) (u := 0) rfl rfl rfl (by decide) rfl ?_
  refine x_goto rfl ?_
  refine x_iret rfl rfl ?_
  refine x_iret rfl rfl ?_
  exact hP _ (Fm0)
set_option maxRecDepth 20000 in
set_option maxHeartbeats 8000000 in
theorem cm_count11 {d : Nat} {P : Post} {VI : VIT} (hF : Fm VI) (hP : PM P 0) : Ex (d + 2) mi278 0 (entL [.ref 74, .int 11] 2) [] (LY ++ []) VI ZL (vr ZR) 0 0 P := by
  refine x_iload_n rfl rfl ?_
  refine x_swIn (tgt := 149) rfl (by decide) (by decide) rfl (by decide) ?_
  refine x_aload_n rfl rfl ?_
  refine x_getR (u := .ref _) rfl rfl rfl rfl ?_
  refine x_iconst rfl ?_
  refine x_ialE (j := 5) (u := 0) rfl rfl rfl (by decide) (hF.at (by decide) rfl : VI 75 5 = 0) ?_
  refine x_iret rfl rfl ?_
  exact hP _
set_option maxRecDepth 20000 in
set_option maxHeartbeats 8000000 in
theorem cx_count12 {d : Nat} {P : Post} (hP : PX P 0) : Ex (d + 1) mi143 0 (entL [.ref 0, .int 12] 2) [] (LY ++ []) VIm ZL (vr ZR) 0 0 P := by
  refine x_iload_n rfl rfl ?_
  refine x_swIn (tgt := 166) rfl (by decide) (by decide) rfl (by decide) ?_
  refine x_aload_n rfl rfl ?_
  refine x_bipush rfl ?_
  refine x_callV (M' := mi146) (As := [_]) (bc1 := 0) (bs1 := 0) (bc2 := 0) (bs2 := 0) rfl rfl rfl rfl ok146 rfl rfl (by decide) rfl rfl rfl rfl rfl rfl ?_
  refine x_iload_n rfl rfl ?_
  refine x_if_ge rfl (fun c => ?_) (fun c => ?_)
  · exact absurd c (by decide)
  refine x_iload_n rfl rfl ?_
  refine x_bipush rfl ?_
  refine x_icmp_lt rfl (fun c => ?_) (fun c => ?_)
  · exact absurd c (by decide)
  refine x_aload_n rfl rfl ?_
  refine x_getR (u := .ref _) rfl rfl rfl rfl ?_
  refine x_iload_n rfl rfl ?_
  refine x_ineg rfl ?_
  refine x_lit (b := 6) (by decide) ?_
  refine x_iconst rfl ?_
  refine x_isub rfl ?_
  refine x_lit (b := 5) (by decide) ?_
  refine x_ialE (j := 5) (u := 0) rfl rfl rfl (by decide) rfl ?_
  refine x_goto rfl ?_
  refine x_iret rfl rfl ?_
  refine x_iret rfl rfl ?_
  exact hP _ (Fm0)
set_option maxRecDepth 20000 in
set_option maxHeartbeats 8000000 in
theorem cm_count12 {d : Nat} {P : Post} {VI : VIT} (hF : Fm VI) (hP : PM P 0) : Ex (d + 2) mi278 0 (entL [.ref 74, .int 12] 2) [] (LY ++ []) VI ZL (vr ZR) 0 0 P := by
  refine x_iload_n rfl rfl ?_
  refine x_swIn (tgt := 156) rfl (by decide) (by decide) rfl (by decide) ?_
  refine x_aload_n rfl rfl ?_
  refine x_getR (u := .ref _) rfl rfl rfl rfl ?_
  refine x_bipush rfl ?_
  refine x_ialE (j := 6) (u := 0) rfl rfl rfl (by decide) (hF.at (by decide) rfl : VI 75 6 = 0) ?_
  refine x_iret rfl rfl ?_
  exact hP _
set_option maxRecDepth 20000 in
set_option maxHeartbeats 8000000 in
theorem cx_count13 {d : Nat} {P : Post} (hP : PX P (-1)) : Ex (d + 1) mi143 0 (entL [.ref 0, .int 13] 2) [] (LY ++ []) VIm ZL (vr ZR) 0 0 P := by
  refine x_iload_n rfl rfl ?_
  refine x_swIn (tgt := 173) rfl (by decide) (by decide) rfl (by decide) ?_
  refine x_aload_n rfl rfl ?_
  refine x_getR (u := .ref _) rfl rfl rfl rfl ?_
  refine x_getE (y := 15) (u := (-1)) rfl rfl rfl rfl ?_
  refine x_iret rfl rfl ?_
  exact hP _ (Fm0)
set_option maxRecDepth 20000 in
set_option maxHeartbeats 8000000 in
theorem cm_count13 {d : Nat} {P : Post} {VI : VIT} (hF : Fm VI) (hP : PM P (-1)) : Ex (d + 2) mi278 0 (entL [.ref 74, .int 13] 2) [] (LY ++ []) VI ZL (vr ZR) 0 0 P := by
  refine x_iload_n rfl rfl ?_
  refine x_swIn (tgt := 164) rfl (by decide) (by decide) rfl (by decide) ?_
  refine x_aload_n rfl rfl ?_
  refine x_getR (u := .ref _) rfl rfl rfl rfl ?_
  refine x_bipush rfl ?_
  refine x_ialE (j := 97) (u := (-1)) rfl rfl rfl (by decide) (hF.at (by decide) rfl : VI 76 97 = (-1)) ?_
  refine x_iret rfl rfl ?_
  exact hP _
set_option maxRecDepth 20000 in
set_option maxHeartbeats 8000000 in
theorem cx_count14 {d : Nat} {P : Post} (hP : PX P 0) : Ex (d + 1) mi143 0 (entL [.ref 0, .int 14] 2) [] (LY ++ []) VIm ZL (vr ZR) 0 0 P := by
  refine x_iload_n rfl rfl ?_
  refine x_swOut (tgt := 181) rfl (by decide) (by decide) ?_
  refine x_iload_n rfl rfl ?_
  refine x_bipush rfl ?_
  refine x_icmp_lt rfl (fun c => ?_) (fun c => ?_)
  · exact absurd c (by decide)
  refine x_iload_n rfl rfl ?_
  refine x_bipush rfl ?_
  refine x_icmp_ge rfl (fun c => ?_) (fun c => ?_)
  · exact absurd c (by decide)
  refine x_aload_n rfl rfl ?_
  refine x_getR (u := .ref _) rfl rfl rfl rfl ?_
  refine x_getR (u := .ref _) rfl rfl rfl rfl ?_
  refine x_iload_n rfl rfl ?_
  refine x_bipush rfl ?_
  refine x_isub rfl ?_
  refine x_lit (b := 0) (by decide) ?_
  refine x_ialE (j := 0) (u := 0) rfl rfl rfl (by decide) rfl ?_
  refine x_goto rfl ?_
  refine x_iret rfl rfl ?_
  exact hP _ (Fm0)
set_option maxRecDepth 20000 in
set_option maxHeartbeats 8000000 in
theorem cm_count14 {d : Nat} {P : Post} {VI : VIT} (hF : Fm VI) (hP : PM P 0) : Ex (d + 2) mi278 0 (entL [.ref 74, .int 14] 2) [] (LY ++ []) VI ZL (vr ZR) 0 0 P := by
  refine x_iload_n rfl rfl ?_
  refine x_swIn (tgt := 172) rfl (by decide) (by decide) rfl (by decide) ?_
  refine x_aload_n rfl rfl ?_
  refine x_getR (u := .ref _) rfl rfl rfl rfl ?_
  refine x_bipush rfl ?_
  refine x_ialE (j := 38) (u := 0) rfl rfl rfl (by decide) (hF.at (by decide) rfl : VI 76 38 = 0) ?_
  refine x_iret rfl rfl ?_
  exact hP _
set_option maxRecDepth 20000 in
set_option maxHeartbeats 8000000 in
theorem cx_count15 {d : Nat} {P : Post} (hP : PX P 2) : Ex (d + 1) mi143 0 (entL [.ref 0, .int 15] 2) [] (LY ++ []) VIm ZL (vr ZR) 0 0 P := by
  refine x_iload_n rfl rfl ?_
  refine x_swOut (tgt := 181) rfl (by decide) (by decide) ?_
  refine x_iload_n rfl rfl ?_
  refine x_bipush rfl ?_
  refine x_icmp_lt rfl (fun c => ?_) (fun c => ?_)
  · exact absurd c (by decide)
  refine x_iload_n rfl rfl ?_
  refine x_bipush rfl ?_
  refine x_icmp_ge rfl (fun c => ?_) (fun c => ?_)
  · exact absurd c (by decide)
  refine x_aload_n rfl rfl ?_
  refine x_getR (u := .ref _) rfl rfl rfl rfl ?_
  refine x_getR (u := .ref _) rfl rfl rfl rfl ?_
  refine x_iload_n rfl rfl ?_
  refine x_bipush rfl ?_
  refine x_isub rfl ?_
  refine x_lit (b := 1) (by decide) ?_
  refine x_ialE (j := 1) (u := 2) rfl rfl rfl (by decide) rfl ?_
  refine x_goto rfl ?_
  refine x_iret rfl rfl ?_
  exact hP _ (Fm0)
set_option maxRecDepth 20000 in
set_option maxHeartbeats 8000000 in
theorem cm_count15 {d : Nat} {P : Post} {VI : VIT} (hF : Fm VI) (hP : PM P 2) : Ex (d + 2) mi278 0 (entL [.ref 74, .int 15] 2) [] (LY ++ []) VI ZL (vr ZR) 0 0 P := by
  refine x_iload_n rfl rfl ?_
  refine x_swIn (tgt := 180) rfl (by decide) (by decide) rfl (by decide) ?_
  refine x_aload_n rfl rfl ?_
  refine x_getR (u := .ref _) rfl rfl rfl rfl ?_
  refine x_bipush rfl ?_
  refine x_iload_n rfl rfl ?_
  refine x_iadd rfl ?_
  refine x_lit (b := 106) (by decide) ?_
  refine x_bipush rfl ?_
  refine x_isub rfl ?_
  refine x_lit (b := 91) (by decide) ?_
  refine x_ialE (j := 91) (u := 2) rfl rfl rfl (by decide) (hF.at (by decide) rfl : VI 76 91 = 2) ?_
  refine x_iret rfl rfl ?_
  exact hP _
set_option maxRecDepth 20000 in
set_option maxHeartbeats 8000000 in
theorem cx_count16 {d : Nat} {P : Post} (hP : PX P 0) : Ex (d + 1) mi143 0 (entL [.ref 0, .int 16] 2) [] (LY ++ []) VIm ZL (vr ZR) 0 0 P := by
  refine x_iload_n rfl rfl ?_
  refine x_swOut (tgt := 181) rfl (by decide) (by decide) ?_
  refine x_iload_n rfl rfl ?_
  refine x_bipush rfl ?_
  refine x_icmp_lt rfl (fun c => ?_) (fun c => ?_)
  · exact absurd c (by decide)
  refine x_iload_n rfl rfl ?_
  refine x_bipush rfl ?_
  refine x_icmp_ge rfl (fun c => ?_) (fun c => ?_)
  · exact absurd c (by decide)
  refine x_aload_n rfl rfl ?_
  refine x_getR (u := .ref _) rfl rfl rfl rfl ?_
  refine x_getR (u := .ref _) rfl rfl rfl rfl ?_
  refine x_iload_n rfl rfl ?_
  refine x_bipush rfl ?_
  refine x_isub rfl ?_
  refine x_lit (b := 2) (by decide) ?_
  refine x_ialE (j := 2) (u := 0) rfl rfl rfl (by decide) rfl ?_
  refine x_goto rfl ?_
  refine x_iret rfl rfl ?_
  exact hP _ (Fm0)
set_option maxRecDepth 20000 in
set_option maxHeartbeats 8000000 in
theorem cm_count16 {d : Nat} {P : Post} {VI : VIT} (hF : Fm VI) (hP : PM P 0) : Ex (d + 2) mi278 0 (entL [.ref 74, .int 16] 2) [] (LY ++ []) VI ZL (vr ZR) 0 0 P := by
  refine x_iload_n rfl rfl ?_
  refine x_swIn (tgt := 180) rfl (by decide) (by decide) rfl (by decide) ?_
  refine x_aload_n rfl rfl ?_
  refine x_getR (u := .ref _) rfl rfl rfl rfl ?_
  refine x_bipush rfl ?_
  refine x_iload_n rfl rfl ?_
  refine x_iadd rfl ?_
  refine x_lit (b := 107) (by decide) ?_
  refine x_bipush rfl ?_
  refine x_isub rfl ?_
  refine x_lit (b := 92) (by decide) ?_
  refine x_ialE (j := 92) (u := 0) rfl rfl rfl (by decide) (hF.at (by decide) rfl : VI 76 92 = 0) ?_
  refine x_iret rfl rfl ?_
  exact hP _
set_option maxRecDepth 20000 in
set_option maxHeartbeats 8000000 in
theorem cx_terms0 {d : Nat} {P : Post} {v : Int32} (h0 : ¬ v < 0) (h1 : v ≤ 999) (hP : PX P 0) : Ex (d + 1) mi113 0 (entL [.ref 0, .int 0, .int v] 4) [] (LY ++ []) VIm ZL (vr ZR) 0 0 P := by
  refine x_iload_n rfl rfl ?_
  refine x_if_lt rfl (fun c => ?_) (fun c => ?_)
  · exact absurd c (by decide)
  refine x_iload_n rfl rfl ?_
  refine x_iconst rfl ?_
  refine x_icmp_ge rfl (fun c => ?_) (fun c => ?_)
  · exact absurd c (by decide)
  refine x_iload_n rfl rfl ?_
  refine x_if_lt rfl (fun c => ?_) (fun c => ?_)
  · exact absurd c h0
  refine x_iload_n rfl rfl ?_
  refine x_iload_n rfl rfl ?_
  refine x_callS (M' := mi151) (As := [_]) (bc1 := 0) (bs1 := 0) (bc2 := 0) (bs2 := 0) rfl rfl rfl rfl ok151 rfl rfl rfl rfl rfl rfl ?_
  refine x_iload_n rfl rfl ?_
  refine x_if_ne rfl (fun c => ?_) (fun c => ?_)
  · exact absurd c (by decide)
  refine x_sipush rfl ?_
  refine x_iret rfl rfl ?_
  refine x_icmp_le rfl (fun c => ?_) (fun c => ?_)
  rotate_left
  · exact absurd h1 c
  refine x_aload_n rfl rfl ?_
  refine x_getR (u := .ref _) rfl rfl rfl rfl ?_
  refine x_callV (M' := mi6) (As := []) (bc1 := 0) (bs1 := 0) (bc2 := 0) (bs2 := 0) rfl rfl rfl rfl ok6 rfl rfl (by decide) rfl rfl rfl rfl rfl rfl ?_
  refine x_aload_n rfl rfl ?_
  refine x_iconst rfl ?_
  refine x_putI rfl rfl rfl rfl ?_
  refine x_vret rfl rfl ?_
  refine x_aload_n rfl rfl ?_
  refine x_getR (u := .ref _) rfl rfl rfl rfl ?_
  refine x_getR (u := .ref _) rfl rfl rfl rfl ?_
  refine x_iload_n rfl rfl ?_
  refine x_ialE (j := 0) (u := 0) rfl rfl rfl (by decide) rfl ?_
  refine x_istore_n (ls' := [_, _, _, _]) rfl rfl rfl ?_
  refine x_aload_n rfl rfl ?_
  refine x_getR (u := .ref _) rfl rfl rfl rfl ?_
  refine x_getR (u := .ref _) rfl rfl rfl rfl ?_
  refine x_iload_n rfl rfl ?_
  refine x_iload_n rfl rfl ?_
  refine x_iasN (j := 0) rfl rfl rfl (by decide) ?_
  refine x_aload_n rfl rfl ?_
  refine x_iload_n rfl rfl ?_
  refine x_callV (M' := mi145) (As := [_]) (bc1 := 0) (bs1 := 0) (bc2 := 0) (bs2 := 0) rfl rfl rfl rfl ok145 rfl rfl (by decide) rfl rfl rfl rfl rfl rfl ?_
  refine x_aload_n rfl rfl ?_
  refine x_iload_n rfl rfl ?_
  refine x_iconst rfl ?_
  refine x_min rfl rfl ?_
  refine x_lit (b := 0) (by decide) ?_
  refine x_putI rfl rfl rfl rfl ?_
  refine x_iload_n rfl rfl ?_
  refine x_if_ge rfl (fun c => ?_) (fun c => ?_)
  rotate_left
  · exact absurd c (by decide)
  refine x_iload_n rfl rfl ?_
  refine x_iret rfl rfl ?_
  refine x_iret rfl rfl ?_
  exact hP _ (Fm_up (Fm_up (Fm_up (Fm0) (by decide)) (by decide)) (by decide))
set_option maxRecDepth 20000 in
set_option maxHeartbeats 8000000 in
theorem cm_terms0 {d : Nat} {P : Post} {v : Int32} (h0 : ¬ v < 0) (h1 : ¬ 999 < v) {VI : VIT} (hF : Fm VI) (hP : PM P 0) : Ex (d + 2) mi185 0 (entL [.ref 74, .int 0, .int v] 5) [] (LY ++ []) VI ZL (vr ZR) 0 0 P := by
  refine x_iload_n rfl rfl ?_
  refine x_iload_n rfl rfl ?_
  refine x_callS (M' := mi184) (As := [_, _]) (bc1 := 0) (bs1 := 0) (bc2 := 0) (bs2 := 0) rfl rfl rfl rfl ok184 rfl rfl rfl rfl rfl rfl ?_
  refine x_iload_n rfl rfl ?_
  refine x_swIn (tgt := 28) rfl (by decide) (by decide) rfl (by decide) ?_
  refine x_iload_n rfl rfl ?_
  refine x_iconst rfl ?_
  refine x_sipush rfl ?_
  refine x_callS (M' := mi152) (As := [_, _, _]) (bc1 := 0) (bs1 := 0) (bc2 := 0) (bs2 := 0) rfl rfl rfl rfl ok152 rfl rfl rfl rfl rfl rfl ?_
  refine x_iload_n rfl rfl ?_
  refine x_iload_n rfl rfl ?_
  refine x_icmp_lt rfl (fun c => ?_) (fun c => ?_)
  · exact absurd c h0
  refine x_iload_n rfl rfl ?_
  refine x_iload_n rfl rfl ?_
  refine x_icmp_gt rfl (fun c => ?_) (fun c => ?_)
  · exact absurd c h1
  refine x_iconst rfl ?_
  refine x_goto rfl ?_
  refine x_zret rfl rfl (by first | exact Or.inl rfl | exact Or.inr rfl) ?_
  refine x_zret rfl rfl (by first | exact Or.inl rfl | exact Or.inr rfl) ?_
  refine x_if_ne rfl (fun c => ?_) (fun c => ?_)
  rotate_left
  · exact absurd c (by decide)
  refine x_iload_n rfl rfl ?_
  refine x_if_ne rfl (fun c => ?_) (fun c => ?_)
  · exact absurd c (by decide)
  refine x_bipush rfl ?_
  refine x_goto rfl ?_
  refine x_istore_n (ls' := [_, _, _, _, _]) rfl rfl rfl ?_
  refine x_aload_n rfl rfl ?_
  refine x_getR (u := .ref _) rfl rfl rfl rfl ?_
  refine x_iload_n rfl rfl ?_
  refine x_ialE (j := 38) (u := 0) rfl rfl rfl (by decide) (hF.at (by decide) rfl : VI 76 38 = 0) ?_
  refine x_istore (ls' := [_, _, _, _, _]) rfl rfl rfl ?_
  refine x_aload_n rfl rfl ?_
  refine x_getR (u := .ref _) rfl rfl rfl rfl ?_
  refine x_iload_n rfl rfl ?_
  refine x_iload_n rfl rfl ?_
  refine x_iasN (j := 38) rfl rfl rfl (by decide) ?_
  refine x_aload_n rfl rfl ?_
  refine x_iload rfl rfl ?_
  refine x_callV (M' := mi156) (As := [_]) (bc1 := 0) (bs1 := 0) (bc2 := 0) (bs2 := 0) rfl rfl rfl rfl ok156 rfl rfl (by decide) rfl rfl rfl rfl rfl rfl ?_
  refine x_aload_n rfl rfl ?_
  refine x_iconst rfl ?_
  refine x_putI rfl rfl rfl rfl ?_
  refine x_aload_n rfl rfl ?_
  refine x_iload_n rfl rfl ?_
  refine x_callV (M' := mi155) (As := [_]) (bc1 := 0) (bs1 := 0) (bc2 := 0) (bs2 := 0) rfl rfl rfl rfl ok155 rfl rfl (by decide) rfl rfl rfl rfl rfl rfl ?_
  refine x_aload_n rfl rfl ?_
  refine x_iconst rfl ?_
  refine x_putI rfl rfl rfl rfl ?_
  refine x_iload_n rfl rfl ?_
  refine x_iret rfl rfl ?_
  refine x_iret rfl rfl ?_
  refine x_iret rfl rfl ?_
  exact hP _
set_option maxRecDepth 20000 in
set_option maxHeartbeats 8000000 in
theorem cx_terms1 {d : Nat} {P : Post} {v : Int32} (h0 : ¬ v < 0) (h1 : v ≤ 10) (hP : PX P 2) : Ex (d + 1) mi113 0 (entL [.ref 0, .int 1, .int v] 4) [] (LY ++ []) VIm ZL (vr ZR) 0 0 P := by
  refine x_iload_n rfl rfl ?_
  refine x_if_lt rfl (fun c => ?_) (fun c => ?_)
  · exact absurd c (by decide)
  refine x_iload_n rfl rfl ?_
  refine x_iconst rfl ?_
  refine x_icmp_ge rfl (fun c => ?_) (fun c => ?_)
  · exact absurd c (by decide)
  refine x_iload_n rfl rfl ?_
  refine x_if_lt rfl (fun c => ?_) (fun c => ?_)
  · exact absurd c h0
  refine x_iload_n rfl rfl ?_
  refine x_iload_n rfl rfl ?_
  refine x_callS (M' := mi151) (As := [_]) (bc1 := 0) (bs1 := 0) (bc2 := 0) (bs2 := 0) rfl rfl rfl rfl ok151 rfl rfl rfl rfl rfl rfl ?_
  refine x_iload_n rfl rfl ?_
  refine x_if_ne rfl (fun c => ?_) (fun c => ?_)
  rotate_left
  · exact absurd c (by decide)
  refine x_iload_n rfl rfl ?_
  refine x_iconst rfl ?_
  refine x_icmp_ne rfl (fun c => ?_) (fun c => ?_)
  · exact absurd c (by decide)
  refine x_bipush rfl ?_
  refine x_goto rfl ?_
  refine x_iret rfl rfl ?_
  refine x_icmp_le rfl (fun c => ?_) (fun c => ?_)
  rotate_left
  · exact absurd h1 c
  refine x_aload_n rfl rfl ?_
  refine x_getR (u := .ref _) rfl rfl rfl rfl ?_
  refine x_callV (M' := mi6) (As := []) (bc1 := 0) (bs1 := 0) (bc2 := 0) (bs2 := 0) rfl rfl rfl rfl ok6 rfl rfl (by decide) rfl rfl rfl rfl rfl rfl ?_
  refine x_aload_n rfl rfl ?_
  refine x_iconst rfl ?_
  refine x_putI rfl rfl rfl rfl ?_
  refine x_vret rfl rfl ?_
  refine x_aload_n rfl rfl ?_
  refine x_getR (u := .ref _) rfl rfl rfl rfl ?_
  refine x_getR (u := .ref _) rfl rfl rfl rfl ?_
  refine x_iload_n rfl rfl ?_
  refine x_ialE (j := 1) (u := 2) rfl rfl rfl (by decide) rfl ?_
  refine x_istore_n (ls' := [_, _, _, _]) rfl rfl rfl ?_
  refine x_aload_n rfl rfl ?_
  refine x_getR (u := .ref _) rfl rfl rfl rfl ?_
  refine x_getR (u := .ref _) rfl rfl rfl rfl ?_
  refine x_iload_n rfl rfl ?_
  refine x_iload_n rfl rfl ?_
  refine x_iasN (j := 1) rfl rfl rfl (by decide) ?_
  refine x_aload_n rfl rfl ?_
  refine x_iload_n rfl rfl ?_
  refine x_callV (M' := mi145) (As := [_]) (bc1 := 0) (bs1 := 0) (bc2 := 0) (bs2 := 0) rfl rfl rfl rfl ok145 rfl rfl (by decide) rfl rfl rfl rfl rfl rfl ?_
  refine x_aload_n rfl rfl ?_
  refine x_iload_n rfl rfl ?_
  refine x_iconst rfl ?_
  refine x_min rfl rfl ?_
  refine x_lit (b := 0) (by decide) ?_
  refine x_putI rfl rfl rfl rfl ?_
  refine x_iload_n rfl rfl ?_
  refine x_if_ge rfl (fun c => ?_) (fun c => ?_)
  rotate_left
  · exact absurd c (by decide)
  refine x_iload_n rfl rfl ?_
  refine x_iret rfl rfl ?_
  refine x_iret rfl rfl ?_
  exact hP _ (Fm_up (Fm_up (Fm_up (Fm0) (by decide)) (by decide)) (by decide))
set_option maxRecDepth 20000 in
set_option maxHeartbeats 8000000 in
theorem cm_terms1 {d : Nat} {P : Post} {v : Int32} (h0 : ¬ v < 0) (h1 : ¬ 10 < v) {VI : VIT} (hF : Fm VI) (hP : PM P 2) : Ex (d + 2) mi185 0 (entL [.ref 74, .int 1, .int v] 5) [] (LY ++ []) VI ZL (vr ZR) 0 0 P := by
  refine x_iload_n rfl rfl ?_
  refine x_iload_n rfl rfl ?_
  refine x_callS (M' := mi184) (As := [_, _]) (bc1 := 0) (bs1 := 0) (bc2 := 0) (bs2 := 0) rfl rfl rfl rfl ok184 rfl rfl rfl rfl rfl rfl ?_
  refine x_iload_n rfl rfl ?_
  refine x_swIn (tgt := 37) rfl (by decide) (by decide) rfl (by decide) ?_
  refine x_iload_n rfl rfl ?_
  refine x_iconst rfl ?_
  refine x_bipush rfl ?_
  refine x_callS (M' := mi152) (As := [_, _, _]) (bc1 := 0) (bs1 := 0) (bc2 := 0) (bs2 := 0) rfl rfl rfl rfl ok152 rfl rfl rfl rfl rfl rfl ?_
  refine x_iload_n rfl rfl ?_
  refine x_iload_n rfl rfl ?_
  refine x_icmp_lt rfl (fun c => ?_) (fun c => ?_)
  · exact absurd c h0
  refine x_iload_n rfl rfl ?_
  refine x_iload_n rfl rfl ?_
  refine x_icmp_gt rfl (fun c => ?_) (fun c => ?_)
  · exact absurd c h1
  refine x_iconst rfl ?_
  refine x_goto rfl ?_
  refine x_zret rfl rfl (by first | exact Or.inl rfl | exact Or.inr rfl) ?_
  refine x_zret rfl rfl (by first | exact Or.inl rfl | exact Or.inr rfl) ?_
  refine x_if_ne rfl (fun c => ?_) (fun c => ?_)
  rotate_left
  · exact absurd c (by decide)
  refine x_iload_n rfl rfl ?_
  refine x_if_ne rfl (fun c => ?_) (fun c => ?_)
  rotate_left
  · exact absurd c (by decide)
  refine x_bipush rfl ?_
  refine x_iload_n rfl rfl ?_
  refine x_iadd rfl ?_
  refine x_lit (b := 92) (by decide) ?_
  refine x_iconst rfl ?_
  refine x_isub rfl ?_
  refine x_lit (b := 91) (by decide) ?_
  refine x_istore_n (ls' := [_, _, _, _, _]) rfl rfl rfl ?_
  refine x_aload_n rfl rfl ?_
  refine x_getR (u := .ref _) rfl rfl rfl rfl ?_
  refine x_iload_n rfl rfl ?_
  refine x_ialE (j := 91) (u := 2) rfl rfl rfl (by decide) (hF.at (by decide) rfl : VI 76 91 = 2) ?_
  refine x_istore (ls' := [_, _, _, _, _]) rfl rfl rfl ?_
  refine x_aload_n rfl rfl ?_
  refine x_getR (u := .ref _) rfl rfl rfl rfl ?_
  refine x_iload_n rfl rfl ?_
  refine x_iload_n rfl rfl ?_
  refine x_iasN (j := 91) rfl rfl rfl (by decide) ?_
  refine x_aload_n rfl rfl ?_
  refine x_iload rfl rfl ?_
  refine x_callV (M' := mi156) (As := [_]) (bc1 := 0) (bs1 := 0) (bc2 := 0) (bs2 := 0) rfl rfl rfl rfl ok156 rfl rfl (by decide) rfl rfl rfl rfl rfl rfl ?_
  refine x_aload_n rfl rfl ?_
  refine x_iconst rfl ?_
  refine x_putI rfl rfl rfl rfl ?_
  refine x_aload_n rfl rfl ?_
  refine x_iload_n rfl rfl ?_
  refine x_callV (M' := mi155) (As := [_]) (bc1 := 0) (bs1 := 0) (bc2 := 0) (bs2 := 0) rfl rfl rfl rfl ok155 rfl rfl (by decide) rfl rfl rfl rfl rfl rfl ?_
  refine x_aload_n rfl rfl ?_
  refine x_iconst rfl ?_
  refine x_putI rfl rfl rfl rfl ?_
  refine x_iload_n rfl rfl ?_
  refine x_iret rfl rfl ?_
  refine x_iret rfl rfl ?_
  refine x_iret rfl rfl ?_
  exact hP _
set_option maxRecDepth 20000 in
set_option maxHeartbeats 8000000 in
theorem cx_terms2 {d : Nat} {P : Post} {v : Int32} (h0 : ¬ v < 0) (h1 : v ≤ 9) (hP : PX P 0) : Ex (d + 1) mi113 0 (entL [.ref 0, .int 2, .int v] 4) [] (LY ++ []) VIm ZL (vr ZR) 0 0 P := by
  refine x_iload_n rfl rfl ?_
  refine x_if_lt rfl (fun c => ?_) (fun c => ?_)
  · exact absurd c (by decide)
  refine x_iload_n rfl rfl ?_
  refine x_iconst rfl ?_
  refine x_icmp_ge rfl (fun c => ?_) (fun c => ?_)
  · exact absurd c (by decide)
  refine x_iload_n rfl rfl ?_
  refine x_if_lt rfl (fun c => ?_) (fun c => ?_)
  · exact absurd c h0
  refine x_iload_n rfl rfl ?_
  refine x_iload_n rfl rfl ?_
  refine x_callS (M' := mi151) (As := [_]) (bc1 := 0) (bs1 := 0) (bc2 := 0) (bs2 := 0) rfl rfl rfl rfl ok151 rfl rfl rfl rfl rfl rfl ?_
  refine x_iload_n rfl rfl ?_
  refine x_if_ne rfl (fun c => ?_) (fun c => ?_)
  rotate_left
  · exact absurd c (by decide)
  refine x_iload_n rfl rfl ?_
  refine x_iconst rfl ?_
  refine x_icmp_ne rfl (fun c => ?_) (fun c => ?_)
  rotate_left
  · exact absurd c (by decide)
  refine x_bipush rfl ?_
  refine x_iret rfl rfl ?_
  refine x_icmp_le rfl (fun c => ?_) (fun c => ?_)
  rotate_left
  · exact absurd h1 c
  refine x_aload_n rfl rfl ?_
  refine x_getR (u := .ref _) rfl rfl rfl rfl ?_
  refine x_callV (M' := mi6) (As := []) (bc1 := 0) (bs1 := 0) (bc2 := 0) (bs2 := 0) rfl rfl rfl rfl ok6 rfl rfl (by decide) rfl rfl rfl rfl rfl rfl ?_
  refine x_aload_n rfl rfl ?_
  refine x_iconst rfl ?_
  refine x_putI rfl rfl rfl rfl ?_
  refine x_vret rfl rfl ?_
  refine x_aload_n rfl rfl ?_
  refine x_getR (u := .ref _) rfl rfl rfl rfl ?_
  refine x_getR (u := .ref _) rfl rfl rfl rfl ?_
  refine x_iload_n rfl rfl ?_
  refine x_ialE (j := 2) (u := 0) rfl rfl rfl (by decide) rfl ?_
  refine x_istore_n (ls' := [_, _, _, _]) rfl rfl rfl ?_
  refine x_aload_n rfl rfl ?_
  refine x_getR (u := .ref _) rfl rfl rfl rfl ?_
  refine x_getR (u := .ref _) rfl rfl rfl rfl ?_
  refine x_iload_n rfl rfl ?_
  refine x_iload_n rfl rfl ?_
  refine x_iasN (j := 2) rfl rfl rfl (by decide) ?_
  refine x_aload_n rfl rfl ?_
  refine x_iload_n rfl rfl ?_
  refine x_callV (M' := mi145) (As := [_]) (bc1 := 0) (bs1 := 0) (bc2 := 0) (bs2 := 0) rfl rfl rfl rfl ok145 rfl rfl (by decide) rfl rfl rfl rfl rfl rfl ?_
  refine x_aload_n rfl rfl ?_
  refine x_iload_n rfl rfl ?_
  refine x_iconst rfl ?_
  refine x_min rfl rfl ?_
  refine x_lit (b := 0) (by decide) ?_
  refine x_putI rfl rfl rfl rfl ?_
  refine x_iload_n rfl rfl ?_
  refine x_if_ge rfl (fun c => ?_) (fun c => ?_)
  rotate_left
  · exact absurd c (by decide)
  refine x_iload_n rfl rfl ?_
  refine x_iret rfl rfl ?_
  refine x_iret rfl rfl ?_
  exact hP _ (Fm_up (Fm_up (Fm_up (Fm0) (by decide)) (by decide)) (by decide))
set_option maxRecDepth 20000 in
set_option maxHeartbeats 8000000 in
theorem cm_terms2 {d : Nat} {P : Post} {v : Int32} (h0 : ¬ v < 0) (h1 : ¬ 9 < v) {VI : VIT} (hF : Fm VI) (hP : PM P 0) : Ex (d + 2) mi185 0 (entL [.ref 74, .int 2, .int v] 5) [] (LY ++ []) VI ZL (vr ZR) 0 0 P := by
  refine x_iload_n rfl rfl ?_
  refine x_iload_n rfl rfl ?_
  refine x_callS (M' := mi184) (As := [_, _]) (bc1 := 0) (bs1 := 0) (bc2 := 0) (bs2 := 0) rfl rfl rfl rfl ok184 rfl rfl rfl rfl rfl rfl ?_
  refine x_iload_n rfl rfl ?_
  refine x_swIn (tgt := 45) rfl (by decide) (by decide) rfl (by decide) ?_
  refine x_iload_n rfl rfl ?_
  refine x_iconst rfl ?_
  refine x_bipush rfl ?_
  refine x_callS (M' := mi152) (As := [_, _, _]) (bc1 := 0) (bs1 := 0) (bc2 := 0) (bs2 := 0) rfl rfl rfl rfl ok152 rfl rfl rfl rfl rfl rfl ?_
  refine x_iload_n rfl rfl ?_
  refine x_iload_n rfl rfl ?_
  refine x_icmp_lt rfl (fun c => ?_) (fun c => ?_)
  · exact absurd c h0
  refine x_iload_n rfl rfl ?_
  refine x_iload_n rfl rfl ?_
  refine x_icmp_gt rfl (fun c => ?_) (fun c => ?_)
  · exact absurd c h1
  refine x_iconst rfl ?_
  refine x_goto rfl ?_
  refine x_zret rfl rfl (by first | exact Or.inl rfl | exact Or.inr rfl) ?_
  refine x_zret rfl rfl (by first | exact Or.inl rfl | exact Or.inr rfl) ?_
  refine x_if_ne rfl (fun c => ?_) (fun c => ?_)
  rotate_left
  · exact absurd c (by decide)
  refine x_iload_n rfl rfl ?_
  refine x_if_ne rfl (fun c => ?_) (fun c => ?_)
  rotate_left
  · exact absurd c (by decide)
  refine x_bipush rfl ?_
  refine x_iload_n rfl rfl ?_
  refine x_iadd rfl ?_
  refine x_lit (b := 93) (by decide) ?_
  refine x_iconst rfl ?_
  refine x_isub rfl ?_
  refine x_lit (b := 92) (by decide) ?_
  refine x_istore_n (ls' := [_, _, _, _, _]) rfl rfl rfl ?_
  refine x_aload_n rfl rfl ?_
  refine x_getR (u := .ref _) rfl rfl rfl rfl ?_
  refine x_iload_n rfl rfl ?_
  refine x_ialE (j := 92) (u := 0) rfl rfl rfl (by decide) (hF.at (by decide) rfl : VI 76 92 = 0) ?_
  refine x_istore (ls' := [_, _, _, _, _]) rfl rfl rfl ?_
  refine x_aload_n rfl rfl ?_
  refine x_getR (u := .ref _) rfl rfl rfl rfl ?_
  refine x_iload_n rfl rfl ?_
  refine x_iload_n rfl rfl ?_
  refine x_iasN (j := 92) rfl rfl rfl (by decide) ?_
  refine x_aload_n rfl rfl ?_
  refine x_iload rfl rfl ?_
  refine x_callV (M' := mi156) (As := [_]) (bc1 := 0) (bs1 := 0) (bc2 := 0) (bs2 := 0) rfl rfl rfl rfl ok156 rfl rfl (by decide) rfl rfl rfl rfl rfl rfl ?_
  refine x_aload_n rfl rfl ?_
  refine x_iconst rfl ?_
  refine x_putI rfl rfl rfl rfl ?_
  refine x_aload_n rfl rfl ?_
  refine x_iload_n rfl rfl ?_
  refine x_callV (M' := mi155) (As := [_]) (bc1 := 0) (bs1 := 0) (bc2 := 0) (bs2 := 0) rfl rfl rfl rfl ok155 rfl rfl (by decide) rfl rfl rfl rfl rfl rfl ?_
  refine x_aload_n rfl rfl ?_
  refine x_iconst rfl ?_
  refine x_putI rfl rfl rfl rfl ?_
  refine x_iload_n rfl rfl ?_
  refine x_iret rfl rfl ?_
  refine x_iret rfl rfl ?_
  refine x_iret rfl rfl ?_
  exact hP _
