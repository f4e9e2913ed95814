/-! ===== a fresh object: were, ask, chatter ===== -/
set_option maxRecDepth 20000 in
set_option maxHeartbeats 8000000 in
theorem cx_gather {d : Nat} {P : Post} {q : Int32} (hP : ∀ VI', Fm VI' → VI' 3 0 = 0 → VI' 67 4 = 1 → P none (LY ++ []) VI' ZL (vr ZR)) : Ex (d + 6) mi64 0 (entL [.ref 67, .int q] 6) [] (LY ++ []) VIm ZL (vr ZR) 0 0 P := by
  refine x_aload_n rfl rfl ?_
  refine x_getR (u := .ref _) rfl rfl rfl rfl ?_
  refine x_iload_n rfl rfl ?_
  refine x_callV (M' := mi35) (As := [_]) (bc1 := 0) (bs1 := 0) (bc2 := 0) (bs2 := 0) rfl rfl rfl rfl ok35 rfl rfl (by decide) rfl rfl rfl rfl rfl rfl ?_
  refine s_openG (fun VI hG => ?_) (fun _ _ _ => rfl)
  refine x_aload_n rfl rfl ?_
  refine x_iconst rfl ?_
  refine x_putI rfl rfl rfl rfl ?_
  refine x_aload_n rfl rfl ?_
  refine x_getR (u := .ref _) rfl rfl rfl rfl ?_
  refine x_iload_n rfl rfl ?_
  refine x_callV (M' := mi105) (As := [_]) (bc1 := 0) (bs1 := 0) (bc2 := 0) (bs2 := 0) rfl rfl rfl rfl ok105 rfl rfl (by decide) rfl rfl rfl rfl rfl rfl ?_
  refine x_iconst rfl ?_
  refine x_istore_n (ls' := [_, _, _, _]) rfl rfl rfl ?_
  refine x_iconst rfl ?_
  refine x_istore_n (ls' := [_, _, _, _]) rfl rfl rfl ?_
  refine x_iload_n rfl rfl ?_
  refine x_aload_n rfl rfl ?_
  refine x_getE (y := 0) (u := 0) rfl rfl rfl (hG.at (by decide) (by decide) rfl : VI 3 0 = 0) ?_
  refine x_icmp_ge rfl (fun c => ?_) (fun c => ?_)
  rotate_left
  · exact absurd c (by decide)
  refine x_iload_n rfl rfl ?_
  refine x_iret rfl rfl ?_
  refine x_istore_n (ls' := [_, _, _, _, _, _]) rfl rfl rfl ?_
  refine x_aload_n rfl rfl ?_
  refine x_iload_n rfl rfl ?_
  refine x_callV (M' := mi68) (As := [_]) (bc1 := 0) (bs1 := 0) (bc2 := 0) (bs2 := 0) rfl rfl rfl rfl ok68 rfl rfl (by decide) rfl rfl rfl rfl rfl rfl ?_
  refine x_iconst rfl ?_
  refine x_iconst rfl ?_
  refine x_aload_n rfl rfl ?_
  refine x_getR (u := .ref _) rfl rfl rfl rfl ?_
  refine x_getE (y := 0) (u := 0) rfl rfl rfl (hG.at (by decide) (by decide) rfl : VI 3 0 = 0) ?_
  refine x_imul rfl ?_
  refine x_lit (b := 0) (by decide) ?_
  refine x_ishl rfl ?_
  refine x_lit (b := 1) (by decide) ?_
  refine x_iconst rfl ?_
  refine x_isub rfl ?_
  refine x_lit (b := 0) (by decide) ?_
  refine x_istore_n (ls' := [_, _, _, _]) rfl rfl rfl ?_
  refine x_iconst rfl ?_
  refine x_istore_n (ls' := [_, _, _, _]) rfl rfl rfl ?_
  refine x_iload_n rfl rfl ?_
  refine x_aload_n rfl rfl ?_
  refine x_getR (u := .ref _) rfl rfl rfl rfl ?_
  refine x_getE (y := 9) (u := 0) rfl rfl rfl (hG.at (by decide) (by decide) rfl : VI 3 9 = 0) ?_
  refine x_icmp_ge rfl (fun c => ?_) (fun c => ?_)
  rotate_left
  · exact absurd c (by decide)
  refine x_iload_n rfl rfl ?_
  refine x_iret rfl rfl ?_
  refine x_istore_n (ls' := [_, _, _, _, _, _]) rfl rfl rfl ?_
  refine x_iconst rfl ?_
  refine x_iconst rfl ?_
  refine x_aload_n rfl rfl ?_
  refine x_getR (u := .ref _) rfl rfl rfl rfl ?_
  refine x_getE (y := 0) (u := 0) rfl rfl rfl (hG.at (by decide) (by decide) rfl : VI 3 0 = 0) ?_
  refine x_imul rfl ?_
  refine x_lit (b := 0) (by decide) ?_
  refine x_ishl rfl ?_
  refine x_lit (b := 1) (by decide) ?_
  refine x_sipush rfl ?_
  refine x_min rfl rfl ?_
  refine x_lit (b := 1) (by decide) ?_
  refine x_istore (ls' := [_, _, _, _, _, _]) rfl rfl rfl ?_
  refine x_iconst rfl ?_
  refine x_istore (ls' := [_, _, _, _, _, _]) rfl rfl rfl ?_
  refine x_iload rfl rfl ?_
  refine x_iload rfl rfl ?_
  refine x_icmp_ge rfl (fun c => ?_) (fun c => ?_)
  · exact absurd c (by decide)
  refine x_iload rfl rfl ?_
  refine x_iload_n rfl rfl ?_
  refine x_ixor rfl ?_
  refine x_lit (b := 0) (by decide) ?_
  refine x_iload_n rfl rfl ?_
  refine x_iand rfl ?_
  refine x_lit (b := 0) (by decide) ?_
  refine x_if_ne rfl (fun c => ?_) (fun c => ?_)
  · exact absurd c (by decide)
  refine x_aload_n rfl rfl ?_
  refine x_iload rfl rfl ?_
  refine x_iload_n rfl rfl ?_
  refine x_callV (M' := mi69) (As := [_, _]) (bc1 := 0) (bs1 := 0) (bc2 := 0) (bs2 := 0) rfl rfl rfl rfl ok69 rfl rfl (by decide) rfl rfl rfl rfl rfl rfl ?_
  refine x_iload_n rfl rfl ?_
  refine x_istore_n (ls' := [_, _, _, _, _, _]) rfl rfl rfl ?_
  refine x_iconst rfl ?_
  refine x_istore (ls' := [_, _, _, _, _, _]) rfl rfl rfl ?_
  refine x_iload rfl rfl ?_
  refine x_aload_n rfl rfl ?_
  refine x_getR (u := .ref _) rfl rfl rfl rfl ?_
  refine x_getE (y := 9) (u := 0) rfl rfl rfl (hG.at (by decide) (by decide) rfl : VI 3 9 = 0) ?_
  refine x_icmp_ge rfl (fun c => ?_) (fun c => ?_)
  rotate_left
  · exact absurd c (by decide)
  refine x_iload_n rfl rfl ?_
  refine x_iret rfl rfl ?_
  refine x_iload_n rfl rfl ?_
  refine x_icmp_ne rfl (fun c => ?_) (fun c => ?_)
  · exact absurd c (by decide)
  refine x_aload_n rfl rfl ?_
  refine x_getR (u := .ref _) rfl rfl rfl rfl ?_
  refine x_aload_n rfl rfl ?_
  refine x_getE (y := 4) (u := 0) rfl rfl rfl rfl ?_
  refine x_iload rfl rfl ?_
  refine x_iasN (j := 0) rfl rfl rfl (by decide) ?_
  refine x_aload_n rfl rfl ?_
  refine x_dup rfl rfl ?_
  refine x_getE (y := 4) (u := 0) rfl rfl rfl rfl ?_
  refine x_iconst rfl ?_
  refine x_iadd rfl ?_
  refine x_lit (b := 1) (by decide) ?_
  refine x_putI rfl rfl rfl rfl ?_
  refine x_iinc (ls' := [_, _, _, _, _, _]) rfl rfl rfl rfl ?_
  refine x_goto rfl ?_
  refine x_iload rfl rfl ?_
  refine x_iload rfl rfl ?_
  refine x_icmp_ge rfl (fun c => ?_) (fun c => ?_)
  rotate_left
  · exact absurd c (by decide)
  refine x_vret rfl rfl ?_
  exact hP _ (Fm_up (Fm_up (Fm_up ((Fm_of hG)) (by decide)) (by decide)) (by decide)) (hG.at (by decide) (by decide) rfl : VI 3 0 = 0) rfl
set_option maxRecDepth 20000 in
set_option maxHeartbeats 8000000 in
theorem cx_were {d : Nat} {P : Post} {q : Int32} (hd : hasF 4 q = 1) {p : Int32} (hP : PX P 1) : Ex (d + 7) mi135 0 (entL [.ref 0, .int q, .int (-1), .int p] 4) [] (LY ++ []) VIm ZL (vr ZR) 0 0 P := by
  refine x_iload_n rfl rfl ?_
  refine x_callS (M' := mi150) (As := [_]) (bc1 := 0) (bs1 := 0) (bc2 := 0) (bs2 := 0) rfl rfl rfl rfl ok150 rfl rfl rfl rfl rfl rfl ?_
  refine s_isDay ?_
  rw [hd]
  refine x_if_ne rfl (fun c => ?_) (fun c => ?_)
  rotate_left
  · exact absurd c (by decide)
  refine x_aload_n rfl rfl ?_
  refine x_getR (u := .ref _) rfl rfl rfl rfl ?_
  refine x_iload_n rfl rfl ?_
  refine x_callV (M' := mi64) (As := [_]) (bc1 := 0) (bs1 := 0) (bc2 := 0) (bs2 := 0) rfl rfl rfl rfl ok64 rfl rfl (by decide) rfl rfl rfl rfl rfl rfl ?_
  refine x_aload_n rfl rfl ?_
  refine x_getR (u := .ref _) rfl rfl rfl rfl ?_
  refine x_iload_n rfl rfl ?_
  refine x_callV (M' := mi35) (As := [_]) (bc1 := 0) (bs1 := 0) (bc2 := 0) (bs2 := 0) rfl rfl rfl rfl ok35 rfl rfl (by decide) rfl rfl rfl rfl rfl rfl ?_
  refine s_openG (fun VI hG => ?_) (fun _ _ _ => rfl)
  refine x_aload_n rfl rfl ?_
  refine x_iconst rfl ?_
  refine x_putI rfl rfl rfl rfl ?_
  refine x_aload_n rfl rfl ?_
  refine x_getR (u := .ref _) rfl rfl rfl rfl ?_
  refine x_iload_n rfl rfl ?_
  refine x_callV (M' := mi105) (As := [_]) (bc1 := 0) (bs1 := 0) (bc2 := 0) (bs2 := 0) rfl rfl rfl rfl ok105 rfl rfl (by decide) rfl rfl rfl rfl rfl rfl ?_
  refine x_iconst rfl ?_
  refine x_istore_n (ls' := [_, _, _, _]) rfl rfl rfl ?_
  refine x_iconst rfl ?_
  refine x_istore_n (ls' := [_, _, _, _]) rfl rfl rfl ?_
  refine x_iload_n rfl rfl ?_
  refine x_aload_n rfl rfl ?_
  refine x_getE (y := 0) (u := 0) rfl rfl rfl (hG.at (by decide) (by decide) rfl : VI 3 0 = 0) ?_
  refine x_icmp_ge rfl (fun c => ?_) (fun c => ?_)
  rotate_left
  · exact absurd c (by decide)
  refine x_iload_n rfl rfl ?_
  refine x_iret rfl rfl ?_
  refine x_istore_n (ls' := [_, _, _, _, _, _]) rfl rfl rfl ?_
  refine x_aload_n rfl rfl ?_
  refine x_iload_n rfl rfl ?_
  refine x_callV (M' := mi68) (As := [_]) (bc1 := 0) (bs1 := 0) (bc2 := 0) (bs2 := 0) rfl rfl rfl rfl ok68 rfl rfl (by decide) rfl rfl rfl rfl rfl rfl ?_
  refine x_iconst rfl ?_
  refine x_iconst rfl ?_
  refine x_aload_n rfl rfl ?_
  refine x_getR (u := .ref _) rfl rfl rfl rfl ?_
  refine x_getE (y := 0) (u := 0) rfl rfl rfl (hG.at (by decide) (by decide) rfl : VI 3 0 = 0) ?_
  refine x_imul rfl ?_
  refine x_lit (b := 0) (by decide) ?_
  refine x_ishl rfl ?_
  refine x_lit (b := 1) (by decide) ?_
  refine x_iconst rfl ?_
  refine x_isub rfl ?_
  refine x_lit (b := 0) (by decide) ?_
  refine x_istore_n (ls' := [_, _, _, _]) rfl rfl rfl ?_
  refine x_iconst rfl ?_
  refine x_istore_n (ls' := [_, _, _, _]) rfl rfl rfl ?_
  refine x_iload_n rfl rfl ?_
  refine x_aload_n rfl rfl ?_
  refine x_getR (u := .ref _) rfl rfl rfl rfl ?_
  refine x_getE (y := 9) (u := 0) rfl rfl rfl (hG.at (by decide) (by decide) rfl : VI 3 9 = 0) ?_
  refine x_icmp_ge rfl (fun c => ?_) (fun c => ?_)
  rotate_left
  · exact absurd c (by decide)
  refine x_iload_n rfl rfl ?_
  refine x_iret rfl rfl ?_
  refine x_istore_n (ls' := [_, _, _, _, _, _]) rfl rfl rfl ?_
  refine x_iconst rfl ?_
  refine x_iconst rfl ?_
  refine x_aload_n rfl rfl ?_
  refine x_getR (u := .ref _) rfl rfl rfl rfl ?_
  refine x_getE (y := 0) (u := 0) rfl rfl rfl (hG.at (by decide) (by decide) rfl : VI 3 0 = 0) ?_
  refine x_imul rfl ?_
  refine x_lit (b := 0) (by decide) ?_
  refine x_ishl rfl ?_
  refine x_lit (b := 1) (by decide) ?_
  refine x_sipush rfl ?_
  refine x_min rfl rfl ?_
  refine x_lit (b := 1) (by decide) ?_
  refine x_istore (ls' := [_, _, _, _, _, _]) rfl rfl rfl ?_
  refine x_iconst rfl ?_
  refine x_istore (ls' := [_, _, _, _, _, _]) rfl rfl rfl ?_
  refine x_iload rfl rfl ?_
  refine x_iload rfl rfl ?_
  refine x_icmp_ge rfl (fun c => ?_) (fun c => ?_)
  · exact absurd c (by decide)
  refine x_iload rfl rfl ?_
  refine x_iload_n rfl rfl ?_
  refine x_ixor rfl ?_
  refine x_lit (b := 0) (by decide) ?_
  refine x_iload_n rfl rfl ?_
  refine x_iand rfl ?_
  refine x_lit (b := 0) (by decide) ?_
  refine x_if_ne rfl (fun c => ?_) (fun c => ?_)
  · exact absurd c (by decide)
  refine x_aload_n rfl rfl ?_
  refine x_iload rfl rfl ?_
  refine x_iload_n rfl rfl ?_
  refine x_callV (M' := mi69) (As := [_, _]) (bc1 := 0) (bs1 := 0) (bc2 := 0) (bs2 := 0) rfl rfl rfl rfl ok69 rfl rfl (by decide) rfl rfl rfl rfl rfl rfl ?_
  refine x_iload_n rfl rfl ?_
  refine x_istore_n (ls' := [_, _, _, _, _, _]) rfl rfl rfl ?_
  refine x_iconst rfl ?_
  refine x_istore (ls' := [_, _, _, _, _, _]) rfl rfl rfl ?_
  refine x_iload rfl rfl ?_
  refine x_aload_n rfl rfl ?_
  refine x_getR (u := .ref _) rfl rfl rfl rfl ?_
  refine x_getE (y := 9) (u := 0) rfl rfl rfl (hG.at (by decide) (by decide) rfl : VI 3 9 = 0) ?_
  refine x_icmp_ge rfl (fun c => ?_) (fun c => ?_)
  rotate_left
  · exact absurd c (by decide)
  refine x_iload_n rfl rfl ?_
  refine x_iret rfl rfl ?_
  refine x_iload_n rfl rfl ?_
  refine x_icmp_ne rfl (fun c => ?_) (fun c => ?_)
  · exact absurd c (by decide)
  refine x_aload_n rfl rfl ?_
  refine x_getR (u := .ref _) rfl rfl rfl rfl ?_
  refine x_aload_n rfl rfl ?_
  refine x_getE (y := 4) (u := 0) rfl rfl rfl rfl ?_
  refine x_iload rfl rfl ?_
  refine x_iasN (j := 0) rfl rfl rfl (by decide) ?_
  refine x_aload_n rfl rfl ?_
  refine x_dup rfl rfl ?_
  refine x_getE (y := 4) (u := 0) rfl rfl rfl rfl ?_
  refine x_iconst rfl ?_
  refine x_iadd rfl ?_
  refine x_lit (b := 1) (by decide) ?_
  refine x_putI rfl rfl rfl rfl ?_
  refine x_iinc (ls' := [_, _, _, _, _, _]) rfl rfl rfl rfl ?_
  refine x_goto rfl ?_
  refine x_iload rfl rfl ?_
  refine x_iload rfl rfl ?_
  refine x_icmp_ge rfl (fun c => ?_) (fun c => ?_)
  rotate_left
  · exact absurd c (by decide)
  refine x_vret rfl rfl ?_
  refine x_iload_n rfl rfl ?_
  refine x_iconst rfl ?_
  refine x_icmp_ne rfl (fun c => ?_) (fun c => ?_)
  · exact absurd c (by decide)
  refine x_aload_n rfl rfl ?_
  refine x_getR (u := .ref _) rfl rfl rfl rfl ?_
  refine x_getE (y := 4) (u := 1) rfl rfl rfl rfl ?_
  refine x_goto rfl ?_
  refine x_iret rfl rfl ?_
  exact hP _ (Fm_up (Fm_up (Fm_up ((Fm_of hG)) (by decide)) (by decide)) (by decide))
set_option maxRecDepth 20000 in
set_option maxHeartbeats 8000000 in
theorem cm_were {d : Nat} {P : Post} {q : Int32} (hd : hasF 4 q = 1) {p : Int32} {VI : VIT} (hF : Fm VI) (hP : PM P 1) : Ex (d + 18) mi262 0 (entL [.ref 74, .int q, .int (-1), .int p] 6) [] (LY ++ []) VI ZL (vr ZR) 0 0 P := by
  refine x_iload_n rfl rfl ?_
  refine x_callS (M' := mi166) (As := [_]) (bc1 := 0) (bs1 := 0) (bc2 := 0) (bs2 := 0) rfl rfl rfl rfl ok166 rfl rfl rfl rfl rfl rfl ?_
  refine m_isDay ?_
  rw [dayEq, hd]
  refine x_if_eq rfl (fun c => ?_) (fun c => ?_)
  · exact absurd c (by decide)
  refine x_iload_n rfl rfl ?_
  refine x_iconst rfl ?_
  refine x_icmp_lt rfl (fun c => ?_) (fun c => ?_)
  · exact absurd c (by decide)
  refine x_iload_n rfl rfl ?_
  refine x_iconst rfl ?_
  refine x_icmp_le rfl (fun c => ?_) (fun c => ?_)
  rotate_left
  · exact absurd c (by decide)
  refine x_aload_n rfl rfl ?_
  refine x_iload_n rfl rfl ?_
  refine x_callV (M' := mi233) (As := [_]) (bc1 := 0) (bs1 := 0) (bc2 := 0) (bs2 := 0) rfl rfl rfl rfl ok233 rfl rfl (by decide) rfl rfl rfl rfl rfl rfl ?_
  refine x_iconst rfl ?_
  refine x_istore_n (ls' := [_, _, _, _, _]) rfl rfl rfl ?_
  refine x_iload_n rfl rfl ?_
  refine x_aload_n rfl rfl ?_
  refine x_getR (u := .ref _) rfl rfl rfl rfl ?_
  refine x_bipush rfl ?_
  refine x_ialE (j := 93) (u := 0) rfl rfl rfl (by decide) (hF.at (by decide) rfl : VI 76 93 = 0) ?_
  refine x_icmp_ge rfl (fun c => ?_) (fun c => ?_)
  rotate_left
  · exact absurd c (by decide)
  refine x_vret rfl rfl ?_
  refine x_iconst rfl ?_
  refine x_istore (ls' := [_, _, _, _, _, _]) rfl rfl rfl ?_
  refine x_iconst rfl ?_
  refine x_istore (ls' := [_, _, _, _, _, _]) rfl rfl rfl ?_
  refine x_iload rfl rfl ?_
  refine x_sipush rfl ?_
  refine x_icmp_ge rfl (fun c => ?_) (fun c => ?_)
  · exact absurd c (by decide)
  refine x_aload_n rfl rfl ?_
  refine x_iload rfl rfl ?_
  refine x_iload_n rfl rfl ?_
  refine x_callV (M' := mi260) (As := [_, _]) (bc1 := 0) (bs1 := 0) (bc2 := 0) (bs2 := 0) rfl rfl rfl rfl ok260 rfl rfl (by decide) rfl rfl rfl rfl rfl rfl ?_
  refine x_iload_n rfl rfl ?_
  refine x_istore_n (ls' := [_, _, _, _, _, _, _]) rfl rfl rfl ?_
  refine x_iconst rfl ?_
  refine x_istore (ls' := [_, _, _, _, _, _, _]) rfl rfl rfl ?_
  refine x_iload rfl rfl ?_
  refine x_aload_n rfl rfl ?_
  refine x_getR (u := .ref _) rfl rfl rfl rfl ?_
  refine x_bipush rfl ?_
  refine x_ialE (j := 95) (u := 0) rfl rfl rfl (by decide) (hF.at (by decide) rfl : VI 76 95 = 0) ?_
  refine x_icmp_ge rfl (fun c => ?_) (fun c => ?_)
  rotate_left
  · exact absurd c (by decide)
  refine x_iload_n rfl rfl ?_
  refine x_aload_n rfl rfl ?_
  refine x_iload_n rfl rfl ?_
  refine x_callV (M' := mi181) (As := [_]) (bc1 := 0) (bs1 := 0) (bc2 := 0) (bs2 := 0) rfl rfl rfl rfl ok181 rfl rfl (by decide) rfl rfl rfl rfl rfl rfl ?_
  refine x_iconst rfl ?_
  refine x_istore_n (ls' := [_, _, _, _]) rfl rfl rfl ?_
  refine x_iconst rfl ?_
  refine x_istore_n (ls' := [_, _, _, _]) rfl rfl rfl ?_
  refine x_iload_n rfl rfl ?_
  refine x_aload_n rfl rfl ?_
  refine x_getR (u := .ref _) rfl rfl rfl rfl ?_
  refine x_bipush rfl ?_
  refine x_ialE (j := 93) (u := 0) rfl rfl rfl (by decide) (hF.at (by decide) rfl : VI 76 93 = 0) ?_
  refine x_icmp_ge rfl (fun c => ?_) (fun c => ?_)
  rotate_left
  · exact absurd c (by decide)
  refine x_iload_n rfl rfl ?_
  refine x_iret rfl rfl ?_
  refine x_icmp_ne rfl (fun c => ?_) (fun c => ?_)
  · exact absurd c (by decide)
  refine x_iconst rfl ?_
  refine x_goto rfl ?_
  refine x_zret rfl rfl (by first | exact Or.inl rfl | exact Or.inr rfl) ?_
  refine x_if_ne rfl (fun c => ?_) (fun c => ?_)
  rotate_left
  · exact absurd c (by decide)
  refine x_iload rfl rfl ?_
  refine x_iload_n rfl rfl ?_
  refine x_icmp_ne rfl (fun c => ?_) (fun c => ?_)
  rotate_left
  · exact absurd c (by decide)
  refine x_iinc (ls' := [_, _, _, _, _, _]) rfl rfl rfl rfl ?_
  refine x_iload rfl rfl ?_
  refine x_aload_n rfl rfl ?_
  refine x_callV (M' := mi261) (As := []) (bc1 := 0) (bs1 := 0) (bc2 := 0) (bs2 := 0) rfl rfl rfl rfl ok261 rfl rfl (by decide) rfl rfl rfl rfl rfl rfl ?_
  refine x_iconst rfl ?_
  refine x_iconst rfl ?_
  refine x_bipush rfl ?_
  refine x_aload_n rfl rfl ?_
  refine x_getR (u := .ref _) rfl rfl rfl rfl ?_
  refine x_bipush rfl ?_
  refine x_ialE (j := 93) (u := 0) rfl rfl rfl (by decide) (hF.at (by decide) rfl : VI 76 93 = 0) ?_
  refine x_isub rfl ?_
  refine x_lit (b := 6) (by decide) ?_
  refine x_imul rfl ?_
  refine x_lit (b := 12) (by decide) ?_
  refine x_ishl rfl ?_
  refine x_lit (b := 4096) (by decide) ?_
  refine x_iret rfl rfl ?_
  refine x_iadd rfl ?_
  refine x_lit (b := 4096) (by decide) ?_
  refine x_istore (ls' := [_, _, _, _, _, _]) rfl rfl rfl ?_
  refine x_goto rfl ?_
  refine x_iload rfl rfl ?_
  refine x_sipush rfl ?_
  refine x_icmp_ge rfl (fun c => ?_) (fun c => ?_)
  rotate_left
  · exact absurd c (by decide)
  refine x_iload_n rfl rfl ?_
  refine x_iconst rfl ?_
  refine x_icmp_ne rfl (fun c => ?_) (fun c => ?_)
  · exact absurd c (by decide)
  refine x_iload rfl rfl ?_
  refine x_goto rfl ?_
  refine x_iret rfl rfl ?_
  exact hP _
set_option maxRecDepth 20000 in
set_option maxHeartbeats 8000000 in
theorem cx_ask0 {d : Nat} {P : Post} {q : Int32} (hd : hasF 4 q = 1) (hP : PX P (-1)) : Ex (d + 7) mi136 0 (entL [.ref 0, .int q, .int 0] 4) [] (LY ++ []) VIm ZL (vr ZR) 0 0 P := by
  refine x_iload_n rfl rfl ?_
  refine x_callS (M' := mi150) (As := [_]) (bc1 := 0) (bs1 := 0) (bc2 := 0) (bs2 := 0) rfl rfl rfl rfl ok150 rfl rfl rfl rfl rfl rfl ?_
  refine s_isDay ?_
  rw [hd]
  refine x_if_eq rfl (fun c => ?_) (fun c => ?_)
  · exact absurd c (by decide)
  refine x_iload_n rfl rfl ?_
  refine x_if_lt rfl (fun c => ?_) (fun c => ?_)
  · exact absurd c (by decide)
  refine x_iload_n rfl rfl ?_
  refine x_iconst rfl ?_
  refine x_icmp_le rfl (fun c => ?_) (fun c => ?_)
  rotate_left
  · exact absurd c (by decide)
  refine x_aload_n rfl rfl ?_
  refine x_getR (u := .ref _) rfl rfl rfl rfl ?_
  refine x_iload_n rfl rfl ?_
  refine x_callV (M' := mi64) (As := [_]) (bc1 := 0) (bs1 := 0) (bc2 := 0) (bs2 := 0) rfl rfl rfl rfl ok64 rfl rfl (by decide) rfl rfl rfl rfl rfl rfl ?_
  refine x_aload_n rfl rfl ?_
  refine x_getR (u := .ref _) rfl rfl rfl rfl ?_
  refine x_iload_n rfl rfl ?_
  refine x_callV (M' := mi35) (As := [_]) (bc1 := 0) (bs1 := 0) (bc2 := 0) (bs2 := 0) rfl rfl rfl rfl ok35 rfl rfl (by decide) rfl rfl rfl rfl rfl rfl ?_
  refine s_openG (fun VI hG => ?_) (fun _ _ _ => rfl)
  refine x_aload_n rfl rfl ?_
  refine x_iconst rfl ?_
  refine x_putI rfl rfl rfl rfl ?_
  refine x_aload_n rfl rfl ?_
  refine x_getR (u := .ref _) rfl rfl rfl rfl ?_
  refine x_iload_n rfl rfl ?_
  refine x_callV (M' := mi105) (As := [_]) (bc1 := 0) (bs1 := 0) (bc2 := 0) (bs2 := 0) rfl rfl rfl rfl ok105 rfl rfl (by decide) rfl rfl rfl rfl rfl rfl ?_
  refine x_iconst rfl ?_
  refine x_istore_n (ls' := [_, _, _, _]) rfl rfl rfl ?_
  refine x_iconst rfl ?_
  refine x_istore_n (ls' := [_, _, _, _]) rfl rfl rfl ?_
  refine x_iload_n rfl rfl ?_
  refine x_aload_n rfl rfl ?_
  refine x_getE (y := 0) (u := 0) rfl rfl rfl (hG.at (by decide) (by decide) rfl : VI 3 0 = 0) ?_
  refine x_icmp_ge rfl (fun c => ?_) (fun c => ?_)
  rotate_left
  · exact absurd c (by decide)
  refine x_iload_n rfl rfl ?_
  refine x_iret rfl rfl ?_
  refine x_istore_n (ls' := [_, _, _, _, _, _]) rfl rfl rfl ?_
  refine x_aload_n rfl rfl ?_
  refine x_iload_n rfl rfl ?_
  refine x_callV (M' := mi68) (As := [_]) (bc1 := 0) (bs1 := 0) (bc2 := 0) (bs2 := 0) rfl rfl rfl rfl ok68 rfl rfl (by decide) rfl rfl rfl rfl rfl rfl ?_
  refine x_iconst rfl ?_
  refine x_iconst rfl ?_
  refine x_aload_n rfl rfl ?_
  refine x_getR (u := .ref _) rfl rfl rfl rfl ?_
  refine x_getE (y := 0) (u := 0) rfl rfl rfl (hG.at (by decide) (by decide) rfl : VI 3 0 = 0) ?_
  refine x_imul rfl ?_
  refine x_lit (b := 0) (by decide) ?_
  refine x_ishl rfl ?_
  refine x_lit (b := 1) (by decide) ?_
  refine x_iconst rfl ?_
  refine x_isub rfl ?_
  refine x_lit (b := 0) (by decide) ?_
  refine x_istore_n (ls' := [_, _, _, _]) rfl rfl rfl ?_
  refine x_iconst rfl ?_
  refine x_istore_n (ls' := [_, _, _, _]) rfl rfl rfl ?_
  refine x_iload_n rfl rfl ?_
  refine x_aload_n rfl rfl ?_
  refine x_getR (u := .ref _) rfl rfl rfl rfl ?_
  refine x_getE (y := 9) (u := 0) rfl rfl rfl (hG.at (by decide) (by decide) rfl : VI 3 9 = 0) ?_
  refine x_icmp_ge rfl (fun c => ?_) (fun c => ?_)
  rotate_left
  · exact absurd c (by decide)
  refine x_iload_n rfl rfl ?_
  refine x_iret rfl rfl ?_
  refine x_istore_n (ls' := [_, _, _, _, _, _]) rfl rfl rfl ?_
  refine x_iconst rfl ?_
  refine x_iconst rfl ?_
  refine x_aload_n rfl rfl ?_
  refine x_getR (u := .ref _) rfl rfl rfl rfl ?_
  refine x_getE (y := 0) (u := 0) rfl rfl rfl (hG.at (by decide) (by decide) rfl : VI 3 0 = 0) ?_
  refine x_imul rfl ?_
  refine x_lit (b := 0) (by decide) ?_
  refine x_ishl rfl ?_
  refine x_lit (b := 1) (by decide) ?_
  refine x_sipush rfl ?_
  refine x_min rfl rfl ?_
  refine x_lit (b := 1) (by decide) ?_
  refine x_istore (ls' := [_, _, _, _, _, _]) rfl rfl rfl ?_
  refine x_iconst rfl ?_
  refine x_istore (ls' := [_, _, _, _, _, _]) rfl rfl rfl ?_
  refine x_iload rfl rfl ?_
  refine x_iload rfl rfl ?_
  refine x_icmp_ge rfl (fun c => ?_) (fun c => ?_)
  · exact absurd c (by decide)
  refine x_iload rfl rfl ?_
  refine x_iload_n rfl rfl ?_
  refine x_ixor rfl ?_
  refine x_lit (b := 0) (by decide) ?_
  refine x_iload_n rfl rfl ?_
  refine x_iand rfl ?_
  refine x_lit (b := 0) (by decide) ?_
  refine x_if_ne rfl (fun c => ?_) (fun c => ?_)
  · exact absurd c (by decide)
  refine x_aload_n rfl rfl ?_
  refine x_iload rfl rfl ?_
  refine x_iload_n rfl rfl ?_
  refine x_callV (M' := mi69) (As := [_, _]) (bc1 := 0) (bs1 := 0) (bc2 := 0) (bs2 := 0) rfl rfl rfl rfl ok69 rfl rfl (by decide) rfl rfl rfl rfl rfl rfl ?_
  refine x_iload_n rfl rfl ?_
  refine x_istore_n (ls' := [_, _, _, _, _, _]) rfl rfl rfl ?_
  refine x_iconst rfl ?_
  refine x_istore (ls' := [_, _, _, _, _, _]) rfl rfl rfl ?_
  refine x_iload rfl rfl ?_
  refine x_aload_n rfl rfl ?_
  refine x_getR (u := .ref _) rfl rfl rfl rfl ?_
  refine x_getE (y := 9) (u := 0) rfl rfl rfl (hG.at (by decide) (by decide) rfl : VI 3 9 = 0) ?_
  refine x_icmp_ge rfl (fun c => ?_) (fun c => ?_)
  rotate_left
  · exact absurd c (by decide)
  refine x_iload_n rfl rfl ?_
  refine x_iret rfl rfl ?_
  refine x_iload_n rfl rfl ?_
  refine x_icmp_ne rfl (fun c => ?_) (fun c => ?_)
  · exact absurd c (by decide)
  refine x_aload_n rfl rfl ?_
  refine x_getR (u := .ref _) rfl rfl rfl rfl ?_
  refine x_aload_n rfl rfl ?_
  refine x_getE (y := 4) (u := 0) rfl rfl rfl rfl ?_
  refine x_iload rfl rfl ?_
  refine x_iasN (j := 0) rfl rfl rfl (by decide) ?_
  refine x_aload_n rfl rfl ?_
  refine x_dup rfl rfl ?_
  refine x_getE (y := 4) (u := 0) rfl rfl rfl rfl ?_
  refine x_iconst rfl ?_
  refine x_iadd rfl ?_
  refine x_lit (b := 1) (by decide) ?_
  refine x_putI rfl rfl rfl rfl ?_
  refine x_iinc (ls' := [_, _, _, _, _, _]) rfl rfl rfl rfl ?_
  refine x_goto rfl ?_
  refine x_iload rfl rfl ?_
  refine x_iload rfl rfl ?_
  refine x_icmp_ge rfl (fun c => ?_) (fun c => ?_)
  rotate_left
  · exact absurd c (by decide)
  refine x_vret rfl rfl ?_
  refine x_aload_n rfl rfl ?_
  refine x_getR (u := .ref _) rfl rfl rfl rfl ?_
  refine x_callV (M' := mi66) (As := []) (bc1 := 0) (bs1 := 0) (bc2 := 0) (bs2 := 0) rfl rfl rfl rfl ok66 rfl rfl (by decide) rfl rfl rfl rfl rfl rfl ?_
  refine x_iconst rfl ?_
  refine x_istore_n (ls' := [_, _, _, _, _]) rfl rfl rfl ?_
  refine x_iconst rfl ?_
  refine x_istore_n (ls' := [_, _, _, _, _]) rfl rfl rfl ?_
  refine x_iconst rfl ?_
  refine x_istore_n (ls' := [_, _, _, _, _]) rfl rfl rfl ?_
  refine x_iload_n rfl rfl ?_
  refine x_aload_n rfl rfl ?_
  refine x_getR (u := .ref _) rfl rfl rfl rfl ?_
  refine x_getE (y := 0) (u := 0) rfl rfl rfl (hG.at (by decide) (by decide) rfl : VI 3 0 = 0) ?_
  refine x_icmp_ge rfl (fun c => ?_) (fun c => ?_)
  rotate_left
  · exact absurd c (by decide)
  refine x_iload_n rfl rfl ?_
  refine x_iret rfl rfl ?_
  refine x_istore_n (ls' := [_, _, _, _]) rfl rfl rfl ?_
  refine x_iload_n rfl rfl ?_
  refine x_iconst rfl ?_
  refine x_icmp_eq rfl (fun c => ?_) (fun c => ?_)
  rotate_left
  · exact absurd c (by decide)
  refine x_iload_n rfl rfl ?_
  refine x_goto rfl ?_
  refine x_iret rfl rfl ?_
  exact hP _ (Fm_up (Fm_up (Fm_up ((Fm_of hG)) (by decide)) (by decide)) (by decide))
set_option maxRecDepth 20000 in
set_option maxHeartbeats 8000000 in
theorem cm_ask0 {d : Nat} {P : Post} {q : Int32} (hd : hasF 4 q = 1) {VI : VIT} (hF : Fm VI) (hP : PM P (-1)) : Ex (d + 18) mi263 0 (entL [.ref 74, .int q, .int 0] 9) [] (LY ++ []) VI ZL (vr ZR) 0 0 P := by
  refine x_iload_n rfl rfl ?_
  refine x_callS (M' := mi166) (As := [_]) (bc1 := 0) (bs1 := 0) (bc2 := 0) (bs2 := 0) rfl rfl rfl rfl ok166 rfl rfl rfl rfl rfl rfl ?_
  refine m_isDay ?_
  rw [dayEq, hd]
  refine x_if_eq rfl (fun c => ?_) (fun c => ?_)
  · exact absurd c (by decide)
  refine x_iload_n rfl rfl ?_
  refine x_iconst rfl ?_
  refine x_iconst rfl ?_
  refine x_callS (M' := mi152) (As := [_, _, _]) (bc1 := 0) (bs1 := 0) (bc2 := 0) (bs2 := 0) rfl rfl rfl rfl ok152 rfl rfl rfl rfl rfl rfl ?_
  refine x_iload_n rfl rfl ?_
  refine x_iload_n rfl rfl ?_
  refine x_icmp_lt rfl (fun c => ?_) (fun c => ?_)
  · exact absurd c (by decide)
  refine x_iload_n rfl rfl ?_
  refine x_iload_n rfl rfl ?_
  refine x_icmp_gt rfl (fun c => ?_) (fun c => ?_)
  · exact absurd c (by decide)
  refine x_iconst rfl ?_
  refine x_goto rfl ?_
  refine x_zret rfl rfl (by first | exact Or.inl rfl | exact Or.inr rfl) ?_
  refine x_if_ne rfl (fun c => ?_) (fun c => ?_)
  rotate_left
  · exact absurd c (by decide)
  refine x_aload_n rfl rfl ?_
  refine x_iload_n rfl rfl ?_
  refine x_callV (M' := mi233) (As := [_]) (bc1 := 0) (bs1 := 0) (bc2 := 0) (bs2 := 0) rfl rfl rfl rfl ok233 rfl rfl (by decide) rfl rfl rfl rfl rfl rfl ?_
  refine x_iconst rfl ?_
  refine x_istore_n (ls' := [_, _, _, _, _]) rfl rfl rfl ?_
  refine x_iload_n rfl rfl ?_
  refine x_aload_n rfl rfl ?_
  refine x_getR (u := .ref _) rfl rfl rfl rfl ?_
  refine x_bipush rfl ?_
  refine x_ialE (j := 93) (u := 0) rfl rfl rfl (by decide) (hF.at (by decide) rfl : VI 76 93 = 0) ?_
  refine x_icmp_ge rfl (fun c => ?_) (fun c => ?_)
  rotate_left
  · exact absurd c (by decide)
  refine x_vret rfl rfl ?_
  refine x_iconst rfl ?_
  refine x_istore_n (ls' := [_, _, _, _, _, _, _, _, _]) rfl rfl rfl ?_
  refine x_iconst rfl ?_
  refine x_istore (ls' := [_, _, _, _, _, _, _, _, _]) rfl rfl rfl ?_
  refine x_iload rfl rfl ?_
  refine x_bipush rfl ?_
  refine x_icmp_ge rfl (fun c => ?_) (fun c => ?_)
  · exact absurd c (by decide)
  refine x_aload_n rfl rfl ?_
  refine x_getR (u := .ref _) rfl rfl rfl rfl ?_
  refine x_iload rfl rfl ?_
  refine x_iconst rfl ?_
  refine x_iasN (j := 0) rfl rfl rfl (by decide) ?_
  refine x_iinc (ls' := [_, _, _, _, _, _, _, _, _]) rfl rfl rfl rfl ?_
  refine x_goto rfl ?_
  refine x_iload rfl rfl ?_
  refine x_bipush rfl ?_
  refine x_icmp_ge rfl (fun c => ?_) (fun c => ?_)
  · exact absurd c (by decide)
  refine x_aload_n rfl rfl ?_
  refine x_getR (u := .ref _) rfl rfl rfl rfl ?_
  refine x_iload rfl rfl ?_
  refine x_iconst rfl ?_
  refine x_iasN (j := 1) rfl rfl rfl (by decide) ?_
  refine x_iinc (ls' := [_, _, _, _, _, _, _, _, _]) rfl rfl rfl rfl ?_
  refine x_goto rfl ?_
  refine x_iload rfl rfl ?_
  refine x_bipush rfl ?_
  refine x_icmp_ge rfl (fun c => ?_) (fun c => ?_)
  · exact absurd c (by decide)
  refine x_aload_n rfl rfl ?_
  refine x_getR (u := .ref _) rfl rfl rfl rfl ?_
  refine x_iload rfl rfl ?_
  refine x_iconst rfl ?_
  refine x_iasN (j := 2) rfl rfl rfl (by decide) ?_
  refine x_iinc (ls' := [_, _, _, _, _, _, _, _, _]) rfl rfl rfl rfl ?_
  refine x_goto rfl ?_
  refine x_iload rfl rfl ?_
  refine x_bipush rfl ?_
  refine x_icmp_ge rfl (fun c => ?_) (fun c => ?_)
  · exact absurd c (by decide)
  refine x_aload_n rfl rfl ?_
  refine x_getR (u := .ref _) rfl rfl rfl rfl ?_
  refine x_iload rfl rfl ?_
  refine x_iconst rfl ?_
  refine x_iasN (j := 3) rfl rfl rfl (by decide) ?_
  refine x_iinc (ls' := [_, _, _, _, _, _, _, _, _]) rfl rfl rfl rfl ?_
  refine x_goto rfl ?_
  refine x_iload rfl rfl ?_
  refine x_bipush rfl ?_
  refine x_icmp_ge rfl (fun c => ?_) (fun c => ?_)
  · exact absurd c (by decide)
  refine x_aload_n rfl rfl ?_
  refine x_getR (u := .ref _) rfl rfl rfl rfl ?_
  refine x_iload rfl rfl ?_
  refine x_iconst rfl ?_
  refine x_iasN (j := 4) rfl rfl rfl (by decide) ?_
  refine x_iinc (ls' := [_, _, _, _, _, _, _, _, _]) rfl rfl rfl rfl ?_
  refine x_goto rfl ?_
  refine x_iload rfl rfl ?_
  refine x_bipush rfl ?_
  refine x_icmp_ge rfl (fun c => ?_) (fun c => ?_)
  · exact absurd c (by decide)
  refine x_aload_n rfl rfl ?_
  refine x_getR (u := .ref _) rfl rfl rfl rfl ?_
  refine x_iload rfl rfl ?_
  refine x_iconst rfl ?_
  refine x_iasN (j := 5) rfl rfl rfl (by decide) ?_
  refine x_iinc (ls' := [_, _, _, _, _, _, _, _, _]) rfl rfl rfl rfl ?_
  refine x_goto rfl ?_
  refine x_iload rfl rfl ?_
  refine x_bipush rfl ?_
  refine x_icmp_ge rfl (fun c => ?_) (fun c => ?_)
  · exact absurd c (by decide)
  refine x_aload_n rfl rfl ?_
  refine x_getR (u := .ref _) rfl rfl rfl rfl ?_
  refine x_iload rfl rfl ?_
  refine x_iconst rfl ?_
  refine x_iasN (j := 6) rfl rfl rfl (by decide) ?_
  refine x_iinc (ls' := [_, _, _, _, _, _, _, _, _]) rfl rfl rfl rfl ?_
  refine x_goto rfl ?_
  refine x_iload rfl rfl ?_
  refine x_bipush rfl ?_
  refine x_icmp_ge rfl (fun c => ?_) (fun c => ?_)
  · exact absurd c (by decide)
  refine x_aload_n rfl rfl ?_
  refine x_getR (u := .ref _) rfl rfl rfl rfl ?_
  refine x_iload rfl rfl ?_
  refine x_iconst rfl ?_
  refine x_iasN (j := 7) rfl rfl rfl (by decide) ?_
  refine x_iinc (ls' := [_, _, _, _, _, _, _, _, _]) rfl rfl rfl rfl ?_
  refine x_goto rfl ?_
  refine x_iload rfl rfl ?_
  refine x_bipush rfl ?_
  refine x_icmp_ge rfl (fun c => ?_) (fun c => ?_)
  · exact absurd c (by decide)
  refine x_aload_n rfl rfl ?_
  refine x_getR (u := .ref _) rfl rfl rfl rfl ?_
  refine x_iload rfl rfl ?_
  refine x_iconst rfl ?_
  refine x_iasN (j := 8) rfl rfl rfl (by decide) ?_
  refine x_iinc (ls' := [_, _, _, _, _, _, _, _, _]) rfl rfl rfl rfl ?_
  refine x_goto rfl ?_
  refine x_iload rfl rfl ?_
  refine x_bipush rfl ?_
  refine x_icmp_ge rfl (fun c => ?_) (fun c => ?_)
  · exact absurd c (by decide)
  refine x_aload_n rfl rfl ?_
  refine x_getR (u := .ref _) rfl rfl rfl rfl ?_
  refine x_iload rfl rfl ?_
  refine x_iconst rfl ?_
  refine x_iasN (j := 9) rfl rfl rfl (by decide) ?_
  refine x_iinc (ls' := [_, _, _, _, _, _, _, _, _]) rfl rfl rfl rfl ?_
  refine x_goto rfl ?_
  refine x_iload rfl rfl ?_
  refine x_bipush rfl ?_
  refine x_icmp_ge rfl (fun c => ?_) (fun c => ?_)
  · exact absurd c (by decide)
  refine x_aload_n rfl rfl ?_
  refine x_getR (u := .ref _) rfl rfl rfl rfl ?_
  refine x_iload rfl rfl ?_
  refine x_iconst rfl ?_
  refine x_iasN (j := 10) rfl rfl rfl (by decide) ?_
  refine x_iinc (ls' := [_, _, _, _, _, _, _, _, _]) rfl rfl rfl rfl ?_
  refine x_goto rfl ?_
  refine x_iload rfl rfl ?_
  refine x_bipush rfl ?_
  refine x_icmp_ge rfl (fun c => ?_) (fun c => ?_)
  · exact absurd c (by decide)
  refine x_aload_n rfl rfl ?_
  refine x_getR (u := .ref _) rfl rfl rfl rfl ?_
  refine x_iload rfl rfl ?_
  refine x_iconst rfl ?_
  refine x_iasN (j := 11) rfl rfl rfl (by decide) ?_
  refine x_iinc (ls' := [_, _, _, _, _, _, _, _, _]) rfl rfl rfl rfl ?_
  refine x_goto rfl ?_
  refine x_iload rfl rfl ?_
  refine x_bipush rfl ?_
  refine x_icmp_ge rfl (fun c => ?_) (fun c => ?_)
  · exact absurd c (by decide)
  refine x_aload_n rfl rfl ?_
  refine x_getR (u := .ref _) rfl rfl rfl rfl ?_
  refine x_iload rfl rfl ?_
  refine x_iconst rfl ?_
  refine x_iasN (j := 12) rfl rfl rfl (by decide) ?_
  refine x_iinc (ls' := [_, _, _, _, _, _, _, _, _]) rfl rfl rfl rfl ?_
  refine x_goto rfl ?_
  refine x_iload rfl rfl ?_
  refine x_bipush rfl ?_
  refine x_icmp_ge rfl (fun c => ?_) (fun c => ?_)
  · exact absurd c (by decide)
  refine x_aload_n rfl rfl ?_
  refine x_getR (u := .ref _) rfl rfl rfl rfl ?_
  refine x_iload rfl rfl ?_
  refine x_iconst rfl ?_
  refine x_iasN (j := 13) rfl rfl rfl (by decide) ?_
  refine x_iinc (ls' := [_, _, _, _, _, _, _, _, _]) rfl rfl rfl rfl ?_
  refine x_goto rfl ?_
  refine x_iload rfl rfl ?_
  refine x_bipush rfl ?_
  refine x_icmp_ge rfl (fun c => ?_) (fun c => ?_)
  · exact absurd c (by decide)
  refine x_aload_n rfl rfl ?_
  refine x_getR (u := .ref _) rfl rfl rfl rfl ?_
  refine x_iload rfl rfl ?_
  refine x_iconst rfl ?_
  refine x_iasN (j := 14) rfl rfl rfl (by decide) ?_
  refine x_iinc (ls' := [_, _, _, _, _, _, _, _, _]) rfl rfl rfl rfl ?_
  refine x_goto rfl ?_
  refine x_iload rfl rfl ?_
  refine x_bipush rfl ?_
  refine x_icmp_ge rfl (fun c => ?_) (fun c => ?_)
  · exact absurd c (by decide)
  refine x_aload_n rfl rfl ?_
  refine x_getR (u := .ref _) rfl rfl rfl rfl ?_
  refine x_iload rfl rfl ?_
  refine x_iconst rfl ?_
  refine x_iasN (j := 15) rfl rfl rfl (by decide) ?_
  refine x_iinc (ls' := [_, _, _, _, _, _, _, _, _]) rfl rfl rfl rfl ?_
  refine x_goto rfl ?_
  refine x_iload rfl rfl ?_
  refine x_bipush rfl ?_
  refine x_icmp_ge rfl (fun c => ?_) (fun c => ?_)
  · exact absurd c (by decide)
  refine x_aload_n rfl rfl ?_
  refine x_getR (u := .ref _) rfl rfl rfl rfl ?_
  refine x_iload rfl rfl ?_
  refine x_iconst rfl ?_
  refine x_iasN (j := 16) rfl rfl rfl (by decide) ?_
  refine x_iinc (ls' := [_, _, _, _, _, _, _, _, _]) rfl rfl rfl rfl ?_
  refine x_goto rfl ?_
  refine x_iload rfl rfl ?_
  refine x_bipush rfl ?_
  refine x_icmp_ge rfl (fun c => ?_) (fun c => ?_)
  · exact absurd c (by decide)
  refine x_aload_n rfl rfl ?_
  refine x_getR (u := .ref _) rfl rfl rfl rfl ?_
  refine x_iload rfl rfl ?_
  refine x_iconst rfl ?_
  refine x_iasN (j := 17) rfl rfl rfl (by decide) ?_
  refine x_iinc (ls' := [_, _, _, _, _, _, _, _, _]) rfl rfl rfl rfl ?_
  refine x_goto rfl ?_
  refine x_iload rfl rfl ?_
  refine x_bipush rfl ?_
  refine x_icmp_ge rfl (fun c => ?_) (fun c => ?_)
  · exact absurd c (by decide)
  refine x_aload_n rfl rfl ?_
  refine x_getR (u := .ref _) rfl rfl rfl rfl ?_
  refine x_iload rfl rfl ?_
  refine x_iconst rfl ?_
  refine x_iasN (j := 18) rfl rfl rfl (by decide) ?_
  refine x_iinc (ls' := [_, _, _, _, _, _, _, _, _]) rfl rfl rfl rfl ?_
  refine x_goto rfl ?_
  refine x_iload rfl rfl ?_
  refine x_bipush rfl ?_
  refine x_icmp_ge rfl (fun c => ?_) (fun c => ?_)
  · exact absurd c (by decide)
  refine x_aload_n rfl rfl ?_
  refine x_getR (u := .ref _) rfl rfl rfl rfl ?_
  refine x_iload rfl rfl ?_
  refine x_iconst rfl ?_
  refine x_iasN (j := 19) rfl rfl rfl (by decide) ?_
  refine x_iinc (ls' := [_, _, _, _, _, _, _, _, _]) rfl rfl rfl rfl ?_
  refine x_goto rfl ?_
  refine x_iload rfl rfl ?_
  refine x_bipush rfl ?_
  refine x_icmp_ge rfl (fun c => ?_) (fun c => ?_)
  · exact absurd c (by decide)
  refine x_aload_n rfl rfl ?_
  refine x_getR (u := .ref _) rfl rfl rfl rfl ?_
  refine x_iload rfl rfl ?_
  refine x_iconst rfl ?_
  refine x_iasN (j := 20) rfl rfl rfl (by decide) ?_
  refine x_iinc (ls' := [_, _, _, _, _, _, _, _, _]) rfl rfl rfl rfl ?_
  refine x_goto rfl ?_
  refine x_iload rfl rfl ?_
  refine x_bipush rfl ?_
  refine x_icmp_ge rfl (fun c => ?_) (fun c => ?_)
  · exact absurd c (by decide)
  refine x_aload_n rfl rfl ?_
  refine x_getR (u := .ref _) rfl rfl rfl rfl ?_
  refine x_iload rfl rfl ?_
  refine x_iconst rfl ?_
  refine x_iasN (j := 21) rfl rfl rfl (by decide) ?_
  refine x_iinc (ls' := [_, _, _, _, _, _, _, _, _]) rfl rfl rfl rfl ?_
  refine x_goto rfl ?_
  refine x_iload rfl rfl ?_
  refine x_bipush rfl ?_
  refine x_icmp_ge rfl (fun c => ?_) (fun c => ?_)
  · exact absurd c (by decide)
  refine x_aload_n rfl rfl ?_
  refine x_getR (u := .ref _) rfl rfl rfl rfl ?_
  refine x_iload rfl rfl ?_
  refine x_iconst rfl ?_
  refine x_iasN (j := 22) rfl rfl rfl (by decide) ?_
  refine x_iinc (ls' := [_, _, _, _, _, _, _, _, _]) rfl rfl rfl rfl ?_
  refine x_goto rfl ?_
  refine x_iload rfl rfl ?_
  refine x_bipush rfl ?_
  refine x_icmp_ge rfl (fun c => ?_) (fun c => ?_)
  · exact absurd c (by decide)
  refine x_aload_n rfl rfl ?_
  refine x_getR (u := .ref _) rfl rfl rfl rfl ?_
  refine x_iload rfl rfl ?_
  refine x_iconst rfl ?_
  refine x_iasN (j := 23) rfl rfl rfl (by decide) ?_
  refine x_iinc (ls' := [_, _, _, _, _, _, _, _, _]) rfl rfl rfl rfl ?_
  refine x_goto rfl ?_
  refine x_iload rfl rfl ?_
  refine x_bipush rfl ?_
  refine x_icmp_ge rfl (fun c => ?_) (fun c => ?_)
  rotate_left
  · exact absurd c (by decide)
  refine x_iconst rfl ?_
  refine x_istore (ls' := [_, _, _, _, _, _, _, _, _]) rfl rfl rfl ?_
  refine x_iload rfl rfl ?_
  refine x_sipush rfl ?_
  refine x_icmp_ge rfl (fun c => ?_) (fun c => ?_)
  · exact absurd c (by decide)
  refine x_aload_n rfl rfl ?_
  refine x_iload rfl rfl ?_
  refine x_iload_n rfl rfl ?_
  refine x_callV (M' := mi260) (As := [_, _]) (bc1 := 0) (bs1 := 0) (bc2 := 0) (bs2 := 0) rfl rfl rfl rfl ok260 rfl rfl (by decide) rfl rfl rfl rfl rfl rfl ?_
  refine x_iload_n rfl rfl ?_
  refine x_istore_n (ls' := [_, _, _, _, _, _, _]) rfl rfl rfl ?_
  refine x_iconst rfl ?_
  refine x_istore (ls' := [_, _, _, _, _, _, _]) rfl rfl rfl ?_
  refine x_iload rfl rfl ?_
  refine x_aload_n rfl rfl ?_
  refine x_getR (u := .ref _) rfl rfl rfl rfl ?_
  refine x_bipush rfl ?_
  refine x_ialE (j := 95) (u := 0) rfl rfl rfl (by decide) (hF.at (by decide) rfl : VI 76 95 = 0) ?_
  refine x_icmp_ge rfl (fun c => ?_) (fun c => ?_)
  rotate_left
  · exact absurd c (by decide)
  refine x_iload_n rfl rfl ?_
  refine x_aload_n rfl rfl ?_
  refine x_iload_n rfl rfl ?_
  refine x_callV (M' := mi181) (As := [_]) (bc1 := 0) (bs1 := 0) (bc2 := 0) (bs2 := 0) rfl rfl rfl rfl ok181 rfl rfl (by decide) rfl rfl rfl rfl rfl rfl ?_
  refine x_iconst rfl ?_
  refine x_istore_n (ls' := [_, _, _, _]) rfl rfl rfl ?_
  refine x_iconst rfl ?_
  refine x_istore_n (ls' := [_, _, _, _]) rfl rfl rfl ?_
  refine x_iload_n rfl rfl ?_
  refine x_aload_n rfl rfl ?_
  refine x_getR (u := .ref _) rfl rfl rfl rfl ?_
  refine x_bipush rfl ?_
  refine x_ialE (j := 93) (u := 0) rfl rfl rfl (by decide) (hF.at (by decide) rfl : VI 76 93 = 0) ?_
  refine x_icmp_ge rfl (fun c => ?_) (fun c => ?_)
  rotate_left
  · exact absurd c (by decide)
  refine x_iload_n rfl rfl ?_
  refine x_iret rfl rfl ?_
  refine x_icmp_ne rfl (fun c => ?_) (fun c => ?_)
  · exact absurd c (by decide)
  refine x_iconst rfl ?_
  refine x_goto rfl ?_
  refine x_zret rfl rfl (by first | exact Or.inl rfl | exact Or.inr rfl) ?_
  refine x_if_ne rfl (fun c => ?_) (fun c => ?_)
  rotate_left
  · exact absurd c (by decide)
  refine x_iinc (ls' := [_, _, _, _, _, _, _, _, _]) rfl rfl rfl rfl ?_
  refine x_iconst rfl ?_
  refine x_istore (ls' := [_, _, _, _, _, _, _, _, _]) rfl rfl rfl ?_
  refine x_iload rfl rfl ?_
  refine x_aload_n rfl rfl ?_
  refine x_getR (u := .ref _) rfl rfl rfl rfl ?_
  refine x_bipush rfl ?_
  refine x_ialE (j := 93) (u := 0) rfl rfl rfl (by decide) (hF.at (by decide) rfl : VI 76 93 = 0) ?_
  refine x_icmp_ge rfl (fun c => ?_) (fun c => ?_)
  rotate_left
  · exact absurd c (by decide)
  refine x_iload rfl rfl ?_
  refine x_aload_n rfl rfl ?_
  refine x_callV (M' := mi261) (As := []) (bc1 := 0) (bs1 := 0) (bc2 := 0) (bs2 := 0) rfl rfl rfl rfl ok261 rfl rfl (by decide) rfl rfl rfl rfl rfl rfl ?_
  refine x_iconst rfl ?_
  refine x_iconst rfl ?_
  refine x_bipush rfl ?_
  refine x_aload_n rfl rfl ?_
  refine x_getR (u := .ref _) rfl rfl rfl rfl ?_
  refine x_bipush rfl ?_
  refine x_ialE (j := 93) (u := 0) rfl rfl rfl (by decide) (hF.at (by decide) rfl : VI 76 93 = 0) ?_
  refine x_isub rfl ?_
  refine x_lit (b := 6) (by decide) ?_
  refine x_imul rfl ?_
  refine x_lit (b := 12) (by decide) ?_
  refine x_ishl rfl ?_
  refine x_lit (b := 4096) (by decide) ?_
  refine x_iret rfl rfl ?_
  refine x_iadd rfl ?_
  refine x_lit (b := 4096) (by decide) ?_
  refine x_istore (ls' := [_, _, _, _, _, _, _, _, _]) rfl rfl rfl ?_
  refine x_goto rfl ?_
  refine x_iload rfl rfl ?_
  refine x_sipush rfl ?_
  refine x_icmp_ge rfl (fun c => ?_) (fun c => ?_)
  rotate_left
  · exact absurd c (by decide)
  refine x_iconst rfl ?_
  refine x_istore (ls' := [_, _, _, _, _, _, _, _, _]) rfl rfl rfl ?_
  refine x_ldc rfl ?_
  refine x_istore (ls' := [_, _, _, _, _, _, _, _, _]) rfl rfl rfl ?_
  refine x_iconst rfl ?_
  refine x_istore (ls' := [_, _, _, _, _, _, _, _, _]) rfl rfl rfl ?_
  refine x_iload rfl rfl ?_
  refine x_aload_n rfl rfl ?_
  refine x_getR (u := .ref _) rfl rfl rfl rfl ?_
  refine x_bipush rfl ?_
  refine x_ialE (j := 93) (u := 0) rfl rfl rfl (by decide) (hF.at (by decide) rfl : VI 76 93 = 0) ?_
  refine x_icmp_ge rfl (fun c => ?_) (fun c => ?_)
  rotate_left
  · exact absurd c (by decide)
  refine x_iload rfl rfl ?_
  refine x_iconst rfl ?_
  refine x_icmp_eq rfl (fun c => ?_) (fun c => ?_)
  rotate_left
  · exact absurd c (by decide)
  refine x_iload rfl rfl ?_
  refine x_goto rfl ?_
  refine x_iret rfl rfl ?_
  exact hP _
set_option maxRecDepth 20000 in
set_option maxHeartbeats 8000000 in
theorem cx_ask1 {d : Nat} {P : Post} {q : Int32} (hd : hasF 4 q = 1) (hP : PX P (-1)) : Ex (d + 7) mi136 0 (entL [.ref 0, .int q, .int 1] 4) [] (LY ++ []) VIm ZL (vr ZR) 0 0 P := by
  refine x_iload_n rfl rfl ?_
  refine x_callS (M' := mi150) (As := [_]) (bc1 := 0) (bs1 := 0) (bc2 := 0) (bs2 := 0) rfl rfl rfl rfl ok150 rfl rfl rfl rfl rfl rfl ?_
  refine s_isDay ?_
  rw [hd]
  refine x_if_eq rfl (fun c => ?_) (fun c => ?_)
  · exact absurd c (by decide)
  refine x_iload_n rfl rfl ?_
  refine x_if_lt rfl (fun c => ?_) (fun c => ?_)
  · exact absurd c (by decide)
  refine x_iload_n rfl rfl ?_
  refine x_iconst rfl ?_
  refine x_icmp_le rfl (fun c => ?_) (fun c => ?_)
  rotate_left
  · exact absurd c (by decide)
  refine x_aload_n rfl rfl ?_
  refine x_getR (u := .ref _) rfl rfl rfl rfl ?_
  refine x_iload_n rfl rfl ?_
  refine x_callV (M' := mi64) (As := [_]) (bc1 := 0) (bs1 := 0) (bc2 := 0) (bs2 := 0) rfl rfl rfl rfl ok64 rfl rfl (by decide) rfl rfl rfl rfl rfl rfl ?_
  refine x_aload_n rfl rfl ?_
  refine x_getR (u := .ref _) rfl rfl rfl rfl ?_
  refine x_iload_n rfl rfl ?_
  refine x_callV (M' := mi35) (As := [_]) (bc1 := 0) (bs1 := 0) (bc2 := 0) (bs2 := 0) rfl rfl rfl rfl ok35 rfl rfl (by decide) rfl rfl rfl rfl rfl rfl ?_
  refine s_openG (fun VI hG => ?_) (fun _ _ _ => rfl)
  refine x_aload_n rfl rfl ?_
  refine x_iconst rfl ?_
  refine x_putI rfl rfl rfl rfl ?_
  refine x_aload_n rfl rfl ?_
  refine x_getR (u := .ref _) rfl rfl rfl rfl ?_
  refine x_iload_n rfl rfl ?_
  refine x_callV (M' := mi105) (As := [_]) (bc1 := 0) (bs1 := 0) (bc2 := 0) (bs2 := 0) rfl rfl rfl rfl ok105 rfl rfl (by decide) rfl rfl rfl rfl rfl rfl ?_
  refine x_iconst rfl ?_
  refine x_istore_n (ls' := [_, _, _, _]) rfl rfl rfl ?_
  refine x_iconst rfl ?_
  refine x_istore_n (ls' := [_, _, _, _]) rfl rfl rfl ?_
  refine x_iload_n rfl rfl ?_
  refine x_aload_n rfl rfl ?_
  refine x_getE (y := 0) (u := 0) rfl rfl rfl (hG.at (by decide) (by decide) rfl : VI 3 0 = 0) ?_
  refine x_icmp_ge rfl (fun c => ?_) (fun c => ?_)
  rotate_left
  · exact absurd c (by decide)
  refine x_iload_n rfl rfl ?_
  refine x_iret rfl rfl ?_
  refine x_istore_n (ls' := [_, _, _, _, _, _]) rfl rfl rfl ?_
  refine x_aload_n rfl rfl ?_
  refine x_iload_n rfl rfl ?_
  refine x_callV (M' := mi68) (As := [_]) (bc1 := 0) (bs1 := 0) (bc2 := 0) (bs2 := 0) rfl rfl rfl rfl ok68 rfl rfl (by decide) rfl rfl rfl rfl rfl rfl ?_
  refine x_iconst rfl ?_
  refine x_iconst rfl ?_
  refine x_aload_n rfl rfl ?_
  refine x_getR (u := .ref _) rfl rfl rfl rfl ?_
  refine x_getE (y := 0) (u := 0) rfl rfl rfl (hG.at (by decide) (by decide) rfl : VI 3 0 = 0) ?_
  refine x_imul rfl ?_
  refine x_lit (b := 0) (by decide) ?_
  refine x_ishl rfl ?_
  refine x_lit (b := 1) (by decide) ?_
  refine x_iconst rfl ?_
  refine x_isub rfl ?_
  refine x_lit (b := 0) (by decide) ?_
  refine x_istore_n (ls' := [_, _, _, _]) rfl rfl rfl ?_
  refine x_iconst rfl ?_
  refine x_istore_n (ls' := [_, _, _, _]) rfl rfl rfl ?_
  refine x_iload_n rfl rfl ?_
  refine x_aload_n rfl rfl ?_
  refine x_getR (u := .ref _) rfl rfl rfl rfl ?_
  refine x_getE (y := 9) (u := 0) rfl rfl rfl (hG.at (by decide) (by decide) rfl : VI 3 9 = 0) ?_
  refine x_icmp_ge rfl (fun c => ?_) (fun c => ?_)
  rotate_left
  · exact absurd c (by decide)
  refine x_iload_n rfl rfl ?_
  refine x_iret rfl rfl ?_
  refine x_istore_n (ls' := [_, _, _, _, _, _]) rfl rfl rfl ?_
  refine x_iconst rfl ?_
  refine x_iconst rfl ?_
  refine x_aload_n rfl rfl ?_
  refine x_getR (u := .ref _) rfl rfl rfl rfl ?_
  refine x_getE (y := 0) (u := 0) rfl rfl rfl (hG.at (by decide) (by decide) rfl : VI 3 0 = 0) ?_
  refine x_imul rfl ?_
  refine x_lit (b := 0) (by decide) ?_
  refine x_ishl rfl ?_
  refine x_lit (b := 1) (by decide) ?_
  refine x_sipush rfl ?_
  refine x_min rfl rfl ?_
  refine x_lit (b := 1) (by decide) ?_
  refine x_istore (ls' := [_, _, _, _, _, _]) rfl rfl rfl ?_
  refine x_iconst rfl ?_
  refine x_istore (ls' := [_, _, _, _, _, _]) rfl rfl rfl ?_
  refine x_iload rfl rfl ?_
  refine x_iload rfl rfl ?_
  refine x_icmp_ge rfl (fun c => ?_) (fun c => ?_)
  · exact absurd c (by decide)
  refine x_iload rfl rfl ?_
  refine x_iload_n rfl rfl ?_
  refine x_ixor rfl ?_
  refine x_lit (b := 0) (by decide) ?_
  refine x_iload_n rfl rfl ?_
  refine x_iand rfl ?_
  refine x_lit (b := 0) (by decide) ?_
  refine x_if_ne rfl (fun c => ?_) (fun c => ?_)
  · exact absurd c (by decide)
  refine x_aload_n rfl rfl ?_
  refine x_iload rfl rfl ?_
  refine x_iload_n rfl rfl ?_
  refine x_callV (M' := mi69) (As := [_, _]) (bc1 := 0) (bs1 := 0) (bc2 := 0) (bs2 := 0) rfl rfl rfl rfl ok69 rfl rfl (by decide) rfl rfl rfl rfl rfl rfl ?_
  refine x_iload_n rfl rfl ?_
  refine x_istore_n (ls' := [_, _, _, _, _, _]) rfl rfl rfl ?_
  refine x_iconst rfl ?_
  refine x_istore (ls' := [_, _, _, _, _, _]) rfl rfl rfl ?_
  refine x_iload rfl rfl ?_
  refine x_aload_n rfl rfl ?_
  refine x_getR (u := .ref _) rfl rfl rfl rfl ?_
  refine x_getE (y := 9) (u := 0) rfl rfl rfl (hG.at (by decide) (by decide) rfl : VI 3 9 = 0) ?_
  refine x_icmp_ge rfl (fun c => ?_) (fun c => ?_)
  rotate_left
  · exact absurd c (by decide)
  refine x_iload_n rfl rfl ?_
  refine x_iret rfl rfl ?_
  refine x_iload_n rfl rfl ?_
  refine x_icmp_ne rfl (fun c => ?_) (fun c => ?_)
  · exact absurd c (by decide)
  refine x_aload_n rfl rfl ?_
  refine x_getR (u := .ref _) rfl rfl rfl rfl ?_
  refine x_aload_n rfl rfl ?_
  refine x_getE (y := 4) (u := 0) rfl rfl rfl rfl ?_
  refine x_iload rfl rfl ?_
  refine x_iasN (j := 0) rfl rfl rfl (by decide) ?_
  refine x_aload_n rfl rfl ?_
  refine x_dup rfl rfl ?_
  refine x_getE (y := 4) (u := 0) rfl rfl rfl rfl ?_
  refine x_iconst rfl ?_
  refine x_iadd rfl ?_
  refine x_lit (b := 1) (by decide) ?_
  refine x_putI rfl rfl rfl rfl ?_
  refine x_iinc (ls' := [_, _, _, _, _, _]) rfl rfl rfl rfl ?_
  refine x_goto rfl ?_
  refine x_iload rfl rfl ?_
  refine x_iload rfl rfl ?_
  refine x_icmp_ge rfl (fun c => ?_) (fun c => ?_)
  rotate_left
  · exact absurd c (by decide)
  refine x_vret rfl rfl ?_
  refine x_aload_n rfl rfl ?_
  refine x_getR (u := .ref _) rfl rfl rfl rfl ?_
  refine x_callV (M' := mi66) (As := []) (bc1 := 0) (bs1 := 0) (bc2 := 0) (bs2 := 0) rfl rfl rfl rfl ok66 rfl rfl (by decide) rfl rfl rfl rfl rfl rfl ?_
  refine x_iconst rfl ?_
  refine x_istore_n (ls' := [_, _, _, _, _]) rfl rfl rfl ?_
  refine x_iconst rfl ?_
  refine x_istore_n (ls' := [_, _, _, _, _]) rfl rfl rfl ?_
  refine x_iconst rfl ?_
  refine x_istore_n (ls' := [_, _, _, _, _]) rfl rfl rfl ?_
  refine x_iload_n rfl rfl ?_
  refine x_aload_n rfl rfl ?_
  refine x_getR (u := .ref _) rfl rfl rfl rfl ?_
  refine x_getE (y := 0) (u := 0) rfl rfl rfl (hG.at (by decide) (by decide) rfl : VI 3 0 = 0) ?_
  refine x_icmp_ge rfl (fun c => ?_) (fun c => ?_)
  rotate_left
  · exact absurd c (by decide)
  refine x_iload_n rfl rfl ?_
  refine x_iret rfl rfl ?_
  refine x_istore_n (ls' := [_, _, _, _]) rfl rfl rfl ?_
  refine x_iload_n rfl rfl ?_
  refine x_iconst rfl ?_
  refine x_icmp_eq rfl (fun c => ?_) (fun c => ?_)
  rotate_left
  · exact absurd c (by decide)
  refine x_iload_n rfl rfl ?_
  refine x_goto rfl ?_
  refine x_iret rfl rfl ?_
  exact hP _ (Fm_up (Fm_up (Fm_up ((Fm_of hG)) (by decide)) (by decide)) (by decide))
set_option maxRecDepth 20000 in
set_option maxHeartbeats 8000000 in
theorem cm_ask1 {d : Nat} {P : Post} {q : Int32} (hd : hasF 4 q = 1) {VI : VIT} (hF : Fm VI) (hP : PM P (-1)) : Ex (d + 18) mi263 0 (entL [.ref 74, .int q, .int 1] 9) [] (LY ++ []) VI ZL (vr ZR) 0 0 P := by
  refine x_iload_n rfl rfl ?_
  refine x_callS (M' := mi166) (As := [_]) (bc1 := 0) (bs1 := 0) (bc2 := 0) (bs2 := 0) rfl rfl rfl rfl ok166 rfl rfl rfl rfl rfl rfl ?_
  refine m_isDay ?_
  rw [dayEq, hd]
  refine x_if_eq rfl (fun c => ?_) (fun c => ?_)
  · exact absurd c (by decide)
  refine x_iload_n rfl rfl ?_
  refine x_iconst rfl ?_
  refine x_iconst rfl ?_
  refine x_callS (M' := mi152) (As := [_, _, _]) (bc1 := 0) (bs1 := 0) (bc2 := 0) (bs2 := 0) rfl rfl rfl rfl ok152 rfl rfl rfl rfl rfl rfl ?_
  refine x_iload_n rfl rfl ?_
  refine x_iload_n rfl rfl ?_
  refine x_icmp_lt rfl (fun c => ?_) (fun c => ?_)
  · exact absurd c (by decide)
  refine x_iload_n rfl rfl ?_
  refine x_iload_n rfl rfl ?_
  refine x_icmp_gt rfl (fun c => ?_) (fun c => ?_)
  · exact absurd c (by decide)
  refine x_iconst rfl ?_
  refine x_goto rfl ?_
  refine x_zret rfl rfl (by first | exact Or.inl rfl | exact Or.inr rfl) ?_
  refine x_if_ne rfl (fun c => ?_) (fun c => ?_)
  rotate_left
  · exact absurd c (by decide)
  refine x_aload_n rfl rfl ?_
  refine x_iload_n rfl rfl ?_
  refine x_callV (M' := mi233) (As := [_]) (bc1 := 0) (bs1 := 0) (bc2 := 0) (bs2 := 0) rfl rfl rfl rfl ok233 rfl rfl (by decide) rfl rfl rfl rfl rfl rfl ?_
  refine x_iconst rfl ?_
  refine x_istore_n (ls' := [_, _, _, _, _]) rfl rfl rfl ?_
  refine x_iload_n rfl rfl ?_
  refine x_aload_n rfl rfl ?_
  refine x_getR (u := .ref _) rfl rfl rfl rfl ?_
  refine x_bipush rfl ?_
  refine x_ialE (j := 93) (u := 0) rfl rfl rfl (by decide) (hF.at (by decide) rfl : VI 76 93 = 0) ?_
  refine x_icmp_ge rfl (fun c => ?_) (fun c => ?_)
  rotate_left
  · exact absurd c (by decide)
  refine x_vret rfl rfl ?_
  refine x_iconst rfl ?_
  refine x_istore_n (ls' := [_, _, _, _, _, _, _, _, _]) rfl rfl rfl ?_
  refine x_iconst rfl ?_
  refine x_istore (ls' := [_, _, _, _, _, _, _, _, _]) rfl rfl rfl ?_
  refine x_iload rfl rfl ?_
  refine x_bipush rfl ?_
  refine x_icmp_ge rfl (fun c => ?_) (fun c => ?_)
  · exact absurd c (by decide)
  refine x_aload_n rfl rfl ?_
  refine x_getR (u := .ref _) rfl rfl rfl rfl ?_
  refine x_iload rfl rfl ?_
  refine x_iconst rfl ?_
  refine x_iasN (j := 0) rfl rfl rfl (by decide) ?_
  refine x_iinc (ls' := [_, _, _, _, _, _, _, _, _]) rfl rfl rfl rfl ?_
  refine x_goto rfl ?_
  refine x_iload rfl rfl ?_
  refine x_bipush rfl ?_
  refine x_icmp_ge rfl (fun c => ?_) (fun c => ?_)
  · exact absurd c (by decide)
  refine x_aload_n rfl rfl ?_
  refine x_getR (u := .ref _) rfl rfl rfl rfl ?_
  refine x_iload rfl rfl ?_
  refine x_iconst rfl ?_
  refine x_iasN (j := 1) rfl rfl rfl (by decide) ?_
  refine x_iinc (ls' := [_, _, _, _, _, _, _, _, _]) rfl rfl rfl rfl ?_
  refine x_goto rfl ?_
  refine x_iload rfl rfl ?_
  refine x_bipush rfl ?_
  refine x_icmp_ge rfl (fun c => ?_) (fun c => ?_)
  · exact absurd c (by decide)
  refine x_aload_n rfl rfl ?_
  refine x_getR (u := .ref _) rfl rfl rfl rfl ?_
  refine x_iload rfl rfl ?_
  refine x_iconst rfl ?_
  refine x_iasN (j := 2) rfl rfl rfl (by decide) ?_
  refine x_iinc (ls' := [_, _, _, _, _, _, _, _, _]) rfl rfl rfl rfl ?_
  refine x_goto rfl ?_
  refine x_iload rfl rfl ?_
  refine x_bipush rfl ?_
  refine x_icmp_ge rfl (fun c => ?_) (fun c => ?_)
  · exact absurd c (by decide)
  refine x_aload_n rfl rfl ?_
  refine x_getR (u := .ref _) rfl rfl rfl rfl ?_
  refine x_iload rfl rfl ?_
  refine x_iconst rfl ?_
  refine x_iasN (j := 3) rfl rfl rfl (by decide) ?_
  refine x_iinc (ls' := [_, _, _, _, _, _, _, _, _]) rfl rfl rfl rfl ?_
  refine x_goto rfl ?_
  refine x_iload rfl rfl ?_
  refine x_bipush rfl ?_
  refine x_icmp_ge rfl (fun c => ?_) (fun c => ?_)
  · exact absurd c (by decide)
  refine x_aload_n rfl rfl ?_
  refine x_getR (u := .ref _) rfl rfl rfl rfl ?_
  refine x_iload rfl rfl ?_
  refine x_iconst rfl ?_
  refine x_iasN (j := 4) rfl rfl rfl (by decide) ?_
  refine x_iinc (ls' := [_, _, _, _, _, _, _, _, _]) rfl rfl rfl rfl ?_
  refine x_goto rfl ?_
  refine x_iload rfl rfl ?_
  refine x_bipush rfl ?_
  refine x_icmp_ge rfl (fun c => ?_) (fun c => ?_)
  · exact absurd c (by decide)
  refine x_aload_n rfl rfl ?_
  refine x_getR (u := .ref _) rfl rfl rfl rfl ?_
  refine x_iload rfl rfl ?_
  refine x_iconst rfl ?_
  refine x_iasN (j := 5) rfl rfl rfl (by decide) ?_
  refine x_iinc (ls' := [_, _, _, _, _, _, _, _, _]) rfl rfl rfl rfl ?_
  refine x_goto rfl ?_
  refine x_iload rfl rfl ?_
  refine x_bipush rfl ?_
  refine x_icmp_ge rfl (fun c => ?_) (fun c => ?_)
  · exact absurd c (by decide)
  refine x_aload_n rfl rfl ?_
  refine x_getR (u := .ref _) rfl rfl rfl rfl ?_
  refine x_iload rfl rfl ?_
  refine x_iconst rfl ?_
  refine x_iasN (j := 6) rfl rfl rfl (by decide) ?_
  refine x_iinc (ls' := [_, _, _, _, _, _, _, _, _]) rfl rfl rfl rfl ?_
  refine x_goto rfl ?_
  refine x_iload rfl rfl ?_
  refine x_bipush rfl ?_
  refine x_icmp_ge rfl (fun c => ?_) (fun c => ?_)
  · exact absurd c (by decide)
  refine x_aload_n rfl rfl ?_
  refine x_getR (u := .ref _) rfl rfl rfl rfl ?_
  refine x_iload rfl rfl ?_
  refine x_iconst rfl ?_
  refine x_iasN (j := 7) rfl rfl rfl (by decide) ?_
  refine x_iinc (ls' := [_, _, _, _, _, _, _, _, _]) rfl rfl rfl rfl ?_
  refine x_goto rfl ?_
  refine x_iload rfl rfl ?_
  refine x_bipush rfl ?_
  refine x_icmp_ge rfl (fun c => ?_) (fun c => ?_)
  · exact absurd c (by decide)
  refine x_aload_n rfl rfl ?_
  refine x_getR (u := .ref _) rfl rfl rfl rfl ?_
  refine x_iload rfl rfl ?_
  refine x_iconst rfl ?_
  refine x_iasN (j := 8) rfl rfl rfl (by decide) ?_
  refine x_iinc (ls' := [_, _, _, _, _, _, _, _, _]) rfl rfl rfl rfl ?_
  refine x_goto rfl ?_
  refine x_iload rfl rfl ?_
  refine x_bipush rfl ?_
  refine x_icmp_ge rfl (fun c => ?_) (fun c => ?_)
  · exact absurd c (by decide)
  refine x_aload_n rfl rfl ?_
  refine x_getR (u := .ref _) rfl rfl rfl rfl ?_
  refine x_iload rfl rfl ?_
  refine x_iconst rfl ?_
  refine x_iasN (j := 9) rfl rfl rfl (by decide) ?_
  refine x_iinc (ls' := [_, _, _, _, _, _, _, _, _]) rfl rfl rfl rfl ?_
  refine x_goto rfl ?_
  refine x_iload rfl rfl ?_
  refine x_bipush rfl ?_
  refine x_icmp_ge rfl (fun c => ?_) (fun c => ?_)
  · exact absurd c (by decide)
  refine x_aload_n rfl rfl ?_
  refine x_getR (u := .ref _) rfl rfl rfl rfl ?_
  refine x_iload rfl rfl ?_
  refine x_iconst rfl ?_
  refine x_iasN (j := 10) rfl rfl rfl (by decide) ?_
  refine x_iinc (ls' := [_, _, _, _, _, _, _, _, _]) rfl rfl rfl rfl ?_
  refine x_goto rfl ?_
  refine x_iload rfl rfl ?_
  refine x_bipush rfl ?_
  refine x_icmp_ge rfl (fun c => ?_) (fun c => ?_)
  · exact absurd c (by decide)
  refine x_aload_n rfl rfl ?_
  refine x_getR (u := .ref _) rfl rfl rfl rfl ?_
  refine x_iload rfl rfl ?_
  refine x_iconst rfl ?_
  refine x_iasN (j := 11) rfl rfl rfl (by decide) ?_
  refine x_iinc (ls' := [_, _, _, _, _, _, _, _, _]) rfl rfl rfl rfl ?_
  refine x_goto rfl ?_
  refine x_iload rfl rfl ?_
  refine x_bipush rfl ?_
  refine x_icmp_ge rfl (fun c => ?_) (fun c => ?_)
  · exact absurd c (by decide)
  refine x_aload_n rfl rfl ?_
  refine x_getR (u := .ref _) rfl rfl rfl rfl ?_
  refine x_iload rfl rfl ?_
  refine x_iconst rfl ?_
  refine x_iasN (j := 12) rfl rfl rfl (by decide) ?_
  refine x_iinc (ls' := [_, _, _, _, _, _, _, _, _]) rfl rfl rfl rfl ?_
  refine x_goto rfl ?_
  refine x_iload rfl rfl ?_
  refine x_bipush rfl ?_
  refine x_icmp_ge rfl (fun c => ?_) (fun c => ?_)
  · exact absurd c (by decide)
  refine x_aload_n rfl rfl ?_
  refine x_getR (u := .ref _) rfl rfl rfl rfl ?_
  refine x_iload rfl rfl ?_
  refine x_iconst rfl ?_
  refine x_iasN (j := 13) rfl rfl rfl (by decide) ?_
  refine x_iinc (ls' := [_, _, _, _, _, _, _, _, _]) rfl rfl rfl rfl ?_
  refine x_goto rfl ?_
  refine x_iload rfl rfl ?_
  refine x_bipush rfl ?_
  refine x_icmp_ge rfl (fun c => ?_) (fun c => ?_)
  · exact absurd c (by decide)
  refine x_aload_n rfl rfl ?_
  refine x_getR (u := .ref _) rfl rfl rfl rfl ?_
  refine x_iload rfl rfl ?_
  refine x_iconst rfl ?_
  refine x_iasN (j := 14) rfl rfl rfl (by decide) ?_
  refine x_iinc (ls' := [_, _, _, _, _, _, _, _, _]) rfl rfl rfl rfl ?_
  refine x_goto rfl ?_
  refine x_iload rfl rfl ?_
  refine x_bipush rfl ?_
  refine x_icmp_ge rfl (fun c => ?_) (fun c => ?_)
  · exact absurd c (by decide)
  refine x_aload_n rfl rfl ?_
  refine x_getR (u := .ref _) rfl rfl rfl rfl ?_
  refine x_iload rfl rfl ?_
  refine x_iconst rfl ?_
  refine x_iasN (j := 15) rfl rfl rfl (by decide) ?_
  refine x_iinc (ls' := [_, _, _, _, _, _, _, _, _]) rfl rfl rfl rfl ?_
  refine x_goto rfl ?_
  refine x_iload rfl rfl ?_
  refine x_bipush rfl ?_
  refine x_icmp_ge rfl (fun c => ?_) (fun c => ?_)
  · exact absurd c (by decide)
  refine x_aload_n rfl rfl ?_
  refine x_getR (u := .ref _) rfl rfl rfl rfl ?_
  refine x_iload rfl rfl ?_
  refine x_iconst rfl ?_
  refine x_iasN (j := 16) rfl rfl rfl (by decide) ?_
  refine x_iinc (ls' := [_, _, _, _, _, _, _, _, _]) rfl rfl rfl rfl ?_
  refine x_goto rfl ?_
  refine x_iload rfl rfl ?_
  refine x_bipush rfl ?_
  refine x_icmp_ge rfl (fun c => ?_) (fun c => ?_)
  · exact absurd c (by decide)
  refine x_aload_n rfl rfl ?_
  refine x_getR (u := .ref _) rfl rfl rfl rfl ?_
  refine x_iload rfl rfl ?_
  refine x_iconst rfl ?_
  refine x_iasN (j := 17) rfl rfl rfl (by decide) ?_
  refine x_iinc (ls' := [_, _, _, _, _, _, _, _, _]) rfl rfl rfl rfl ?_
  refine x_goto rfl ?_
  refine x_iload rfl rfl ?_
  refine x_bipush rfl ?_
  refine x_icmp_ge rfl (fun c => ?_) (fun c => ?_)
  · exact absurd c (by decide)
  refine x_aload_n rfl rfl ?_
  refine x_getR (u := .ref _) rfl rfl rfl rfl ?_
  refine x_iload rfl rfl ?_
  refine x_iconst rfl ?_
  refine x_iasN (j := 18) rfl rfl rfl (by decide) ?_
  refine x_iinc (ls' := [_, _, _, _, _, _, _, _, _]) rfl rfl rfl rfl ?_
  refine x_goto rfl ?_
  refine x_iload rfl rfl ?_
  refine x_bipush rfl ?_
  refine x_icmp_ge rfl (fun c => ?_) (fun c => ?_)
  · exact absurd c (by decide)
  refine x_aload_n rfl rfl ?_
  refine x_getR (u := .ref _) rfl rfl rfl rfl ?_
  refine x_iload rfl rfl ?_
  refine x_iconst rfl ?_
  refine x_iasN (j := 19) rfl rfl rfl (by decide) ?_
  refine x_iinc (ls' := [_, _, _, _, _, _, _, _, _]) rfl rfl rfl rfl ?_
  refine x_goto rfl ?_
  refine x_iload rfl rfl ?_
  refine x_bipush rfl ?_
  refine x_icmp_ge rfl (fun c => ?_) (fun c => ?_)
  · exact absurd c (by decide)
  refine x_aload_n rfl rfl ?_
  refine x_getR (u := .ref _) rfl rfl rfl rfl ?_
  refine x_iload rfl rfl ?_
  refine x_iconst rfl ?_
  refine x_iasN (j := 20) rfl rfl rfl (by decide) ?_
  refine x_iinc (ls' := [_, _, _, _, _, _, _, _, _]) rfl rfl rfl rfl ?_
  refine x_goto rfl ?_
  refine x_iload rfl rfl ?_
  refine x_bipush rfl ?_
  refine x_icmp_ge rfl (fun c => ?_) (fun c => ?_)
  · exact absurd c (by decide)
  refine x_aload_n rfl rfl ?_
  refine x_getR (u := .ref _) rfl rfl rfl rfl ?_
  refine x_iload rfl rfl ?_
  refine x_iconst rfl ?_
  refine x_iasN (j := 21) rfl rfl rfl (by decide) ?_
  refine x_iinc (ls' := [_, _, _, _, _, _, _, _, _]) rfl rfl rfl rfl ?_
  refine x_goto rfl ?_
  refine x_iload rfl rfl ?_
  refine x_bipush rfl ?_
  refine x_icmp_ge rfl (fun c => ?_) (fun c => ?_)
  · exact absurd c (by decide)
  refine x_aload_n rfl rfl ?_
  refine x_getR (u := .ref _) rfl rfl rfl rfl ?_
  refine x_iload rfl rfl ?_
  refine x_iconst rfl ?_
  refine x_iasN (j := 22) rfl rfl rfl (by decide) ?_
  refine x_iinc (ls' := [_, _, _, _, _, _, _, _, _]) rfl rfl rfl rfl ?_
  refine x_goto rfl ?_
  refine x_iload rfl rfl ?_
  refine x_bipush rfl ?_
  refine x_icmp_ge rfl (fun c => ?_) (fun c => ?_)
  · exact absurd c (by decide)
  refine x_aload_n rfl rfl ?_
  refine x_getR (u := .ref _) rfl rfl rfl rfl ?_
  refine x_iload rfl rfl ?_
  refine x_iconst rfl ?_
  refine x_iasN (j := 23) rfl rfl rfl (by decide) ?_
  refine x_iinc (ls' := [_, _, _, _, _, _, _, _, _]) rfl rfl rfl rfl ?_
  refine x_goto rfl ?_
  refine x_iload rfl rfl ?_
  refine x_bipush rfl ?_
  refine x_icmp_ge rfl (fun c => ?_) (fun c => ?_)
  rotate_left
  · exact absurd c (by decide)
  refine x_iconst rfl ?_
  refine x_istore (ls' := [_, _, _, _, _, _, _, _, _]) rfl rfl rfl ?_
  refine x_iload rfl rfl ?_
  refine x_sipush rfl ?_
  refine x_icmp_ge rfl (fun c => ?_) (fun c => ?_)
  · exact absurd c (by decide)
  refine x_aload_n rfl rfl ?_
  refine x_iload rfl rfl ?_
  refine x_iload_n rfl rfl ?_
  refine x_callV (M' := mi260) (As := [_, _]) (bc1 := 0) (bs1 := 0) (bc2 := 0) (bs2 := 0) rfl rfl rfl rfl ok260 rfl rfl (by decide) rfl rfl rfl rfl rfl rfl ?_
  refine x_iload_n rfl rfl ?_
  refine x_istore_n (ls' := [_, _, _, _, _, _, _]) rfl rfl rfl ?_
  refine x_iconst rfl ?_
  refine x_istore (ls' := [_, _, _, _, _, _, _]) rfl rfl rfl ?_
  refine x_iload rfl rfl ?_
  refine x_aload_n rfl rfl ?_
  refine x_getR (u := .ref _) rfl rfl rfl rfl ?_
  refine x_bipush rfl ?_
  refine x_ialE (j := 95) (u := 0) rfl rfl rfl (by decide) (hF.at (by decide) rfl : VI 76 95 = 0) ?_
  refine x_icmp_ge rfl (fun c => ?_) (fun c => ?_)
  rotate_left
  · exact absurd c (by decide)
  refine x_iload_n rfl rfl ?_
  refine x_aload_n rfl rfl ?_
  refine x_iload_n rfl rfl ?_
  refine x_callV (M' := mi181) (As := [_]) (bc1 := 0) (bs1 := 0) (bc2 := 0) (bs2 := 0) rfl rfl rfl rfl ok181 rfl rfl (by decide) rfl rfl rfl rfl rfl rfl ?_
  refine x_iconst rfl ?_
  refine x_istore_n (ls' := [_, _, _, _]) rfl rfl rfl ?_
  refine x_iconst rfl ?_
  refine x_istore_n (ls' := [_, _, _, _]) rfl rfl rfl ?_
  refine x_iload_n rfl rfl ?_
  refine x_aload_n rfl rfl ?_
  refine x_getR (u := .ref _) rfl rfl rfl rfl ?_
  refine x_bipush rfl ?_
  refine x_ialE (j := 93) (u := 0) rfl rfl rfl (by decide) (hF.at (by decide) rfl : VI 76 93 = 0) ?_
  refine x_icmp_ge rfl (fun c => ?_) (fun c => ?_)
  rotate_left
  · exact absurd c (by decide)
  refine x_iload_n rfl rfl ?_
  refine x_iret rfl rfl ?_
  refine x_icmp_ne rfl (fun c => ?_) (fun c => ?_)
  · exact absurd c (by decide)
  refine x_iconst rfl ?_
  refine x_goto rfl ?_
  refine x_zret rfl rfl (by first | exact Or.inl rfl | exact Or.inr rfl) ?_
  refine x_if_ne rfl (fun c => ?_) (fun c => ?_)
  rotate_left
  · exact absurd c (by decide)
  refine x_iinc (ls' := [_, _, _, _, _, _, _, _, _]) rfl rfl rfl rfl ?_
  refine x_iconst rfl ?_
  refine x_istore (ls' := [_, _, _, _, _, _, _, _, _]) rfl rfl rfl ?_
  refine x_iload rfl rfl ?_
  refine x_aload_n rfl rfl ?_
  refine x_getR (u := .ref _) rfl rfl rfl rfl ?_
  refine x_bipush rfl ?_
  refine x_ialE (j := 93) (u := 0) rfl rfl rfl (by decide) (hF.at (by decide) rfl : VI 76 93 = 0) ?_
  refine x_icmp_ge rfl (fun c => ?_) (fun c => ?_)
  rotate_left
  · exact absurd c (by decide)
  refine x_iload rfl rfl ?_
  refine x_aload_n rfl rfl ?_
  refine x_callV (M' := mi261) (As := []) (bc1 := 0) (bs1 := 0) (bc2 := 0) (bs2 := 0) rfl rfl rfl rfl ok261 rfl rfl (by decide) rfl rfl rfl rfl rfl rfl ?_
  refine x_iconst rfl ?_
  refine x_iconst rfl ?_
  refine x_bipush rfl ?_
  refine x_aload_n rfl rfl ?_
  refine x_getR (u := .ref _) rfl rfl rfl rfl ?_
  refine x_bipush rfl ?_
  refine x_ialE (j := 93) (u := 0) rfl rfl rfl (by decide) (hF.at (by decide) rfl : VI 76 93 = 0) ?_
  refine x_isub rfl ?_
  refine x_lit (b := 6) (by decide) ?_
  refine x_imul rfl ?_
  refine x_lit (b := 12) (by decide) ?_
  refine x_ishl rfl ?_
  refine x_lit (b := 4096) (by decide) ?_
  refine x_iret rfl rfl ?_
  refine x_iadd rfl ?_
  refine x_lit (b := 4096) (by decide) ?_
  refine x_istore (ls' := [_, _, _, _, _, _, _, _, _]) rfl rfl rfl ?_
  refine x_goto rfl ?_
  refine x_iload rfl rfl ?_
  refine x_sipush rfl ?_
  refine x_icmp_ge rfl (fun c => ?_) (fun c => ?_)
  rotate_left
  · exact absurd c (by decide)
  refine x_iconst rfl ?_
  refine x_istore (ls' := [_, _, _, _, _, _, _, _, _]) rfl rfl rfl ?_
  refine x_ldc rfl ?_
  refine x_istore (ls' := [_, _, _, _, _, _, _, _, _]) rfl rfl rfl ?_
  refine x_iconst rfl ?_
  refine x_istore (ls' := [_, _, _, _, _, _, _, _, _]) rfl rfl rfl ?_
  refine x_iload rfl rfl ?_
  refine x_aload_n rfl rfl ?_
  refine x_getR (u := .ref _) rfl rfl rfl rfl ?_
  refine x_bipush rfl ?_
  refine x_ialE (j := 93) (u := 0) rfl rfl rfl (by decide) (hF.at (by decide) rfl : VI 76 93 = 0) ?_
  refine x_icmp_ge rfl (fun c => ?_) (fun c => ?_)
  rotate_left
  · exact absurd c (by decide)
  refine x_iload rfl rfl ?_
  refine x_iconst rfl ?_
  refine x_icmp_eq rfl (fun c => ?_) (fun c => ?_)
  rotate_left
  · exact absurd c (by decide)
  refine x_iload rfl rfl ?_
  refine x_goto rfl ?_
  refine x_iret rfl rfl ?_
  exact hP _
set_option maxRecDepth 20000 in
set_option maxHeartbeats 8000000 in
theorem cx_chatter {d : Nat} {P : Post} {q : Int32} (hd : hasF 4 q = 1) (hP : PX P 1) : Ex (d + 7) mi137 0 (entL [.ref 0, .int q, .int (-1)] 4) [] (LY ++ []) VIm ZL (vr ZR) 0 0 P := by
  refine x_iload_n rfl rfl ?_
  refine x_callS (M' := mi150) (As := [_]) (bc1 := 0) (bs1 := 0) (bc2 := 0) (bs2 := 0) rfl rfl rfl rfl ok150 rfl rfl rfl rfl rfl rfl ?_
  refine s_isDay ?_
  rw [hd]
  refine x_if_eq rfl (fun c => ?_) (fun c => ?_)
  · exact absurd c (by decide)
  refine x_iload_n rfl rfl ?_
  refine x_iconst rfl ?_
  refine x_icmp_eq rfl (fun c => ?_) (fun c => ?_)
  rotate_left
  · exact absurd c (by decide)
  refine x_aload_n rfl rfl ?_
  refine x_getR (u := .ref _) rfl rfl rfl rfl ?_
  refine x_iload_n rfl rfl ?_
  refine x_callV (M' := mi37) (As := [_]) (bc1 := 0) (bs1 := 0) (bc2 := 0) (bs2 := 0) rfl rfl rfl rfl ok37 rfl rfl (by decide) rfl rfl rfl rfl rfl rfl ?_
  refine x_aload_n rfl rfl ?_
  refine x_iload_n rfl rfl ?_
  refine x_callV (M' := mi35) (As := [_]) (bc1 := 0) (bs1 := 0) (bc2 := 0) (bs2 := 0) rfl rfl rfl rfl ok35 rfl rfl (by decide) rfl rfl rfl rfl rfl rfl ?_
  refine s_openG (fun VI hG => ?_) (fun _ _ _ => rfl)
  refine x_aload_n rfl rfl ?_
  refine x_aload_n rfl rfl ?_
  refine x_getR (u := .ref _) rfl rfl rfl rfl ?_
  refine x_iload_n rfl rfl ?_
  refine x_callV (M' := mi105) (As := [_]) (bc1 := 0) (bs1 := 0) (bc2 := 0) (bs2 := 0) rfl rfl rfl rfl ok105 rfl rfl (by decide) rfl rfl rfl rfl rfl rfl ?_
  refine x_iconst rfl ?_
  refine x_istore_n (ls' := [_, _, _, _]) rfl rfl rfl ?_
  refine x_iconst rfl ?_
  refine x_istore_n (ls' := [_, _, _, _]) rfl rfl rfl ?_
  refine x_iload_n rfl rfl ?_
  refine x_aload_n rfl rfl ?_
  refine x_getE (y := 0) (u := 0) rfl rfl rfl (hG.at (by decide) (by decide) rfl : VI 3 0 = 0) ?_
  refine x_icmp_ge rfl (fun c => ?_) (fun c => ?_)
  rotate_left
  · exact absurd c (by decide)
  refine x_iload_n rfl rfl ?_
  refine x_iret rfl rfl ?_
  refine x_putI rfl rfl rfl rfl ?_
  refine x_iconst rfl ?_
  refine x_istore_n (ls' := [_, _, _]) rfl rfl rfl ?_
  refine x_iload_n rfl rfl ?_
  refine x_bipush rfl ?_
  refine x_icmp_gt rfl (fun c => ?_) (fun c => ?_)
  · exact absurd c (by decide)
  refine x_aload_n rfl rfl ?_
  refine x_callV (M' := mi38) (As := []) (bc1 := 0) (bs1 := 0) (bc2 := 0) (bs2 := 0) rfl rfl rfl rfl ok38 rfl rfl (by decide) rfl rfl rfl rfl rfl rfl ?_
  refine x_iconst rfl ?_
  refine x_istore_n (ls' := [_, _, _, _, _]) rfl rfl rfl ?_
  refine x_iconst rfl ?_
  refine x_istore_n (ls' := [_, _, _, _, _]) rfl rfl rfl ?_
  refine x_iload_n rfl rfl ?_
  refine x_aload_n rfl rfl ?_
  refine x_getR (u := .ref _) rfl rfl rfl rfl ?_
  refine x_getE (y := 0) (u := 0) rfl rfl rfl (hG.at (by decide) (by decide) rfl : VI 3 0 = 0) ?_
  refine x_icmp_ge rfl (fun c => ?_) (fun c => ?_)
  rotate_left
  · exact absurd c (by decide)
  refine x_iload_n rfl rfl ?_
  refine x_zret rfl rfl (by first | exact Or.inl rfl | exact Or.inr rfl) ?_
  refine x_if_ne rfl (fun c => ?_) (fun c => ?_)
  · exact absurd c (by decide)
  refine x_iload_n rfl rfl ?_
  refine x_iret rfl rfl ?_
  refine x_istore_n (ls' := [_, _, _, _]) rfl rfl rfl ?_
  refine x_iload_n rfl rfl ?_
  refine x_iconst rfl ?_
  refine x_icmp_eq rfl (fun c => ?_) (fun c => ?_)
  · exact absurd c (by decide)
  refine x_iload_n rfl rfl ?_
  refine x_iconst rfl ?_
  refine x_icmp_ne rfl (fun c => ?_) (fun c => ?_)
  · exact absurd c (by decide)
  refine x_iload_n rfl rfl ?_
  refine x_goto rfl ?_
  refine x_iret rfl rfl ?_
  exact hP _ (Fm_up ((Fm_of hG)) (by decide))
set_option maxRecDepth 20000 in
set_option maxHeartbeats 8000000 in
theorem cm_chatter {d : Nat} {P : Post} {q : Int32} (hd : hasF 4 q = 1) {VI : VIT} (hF : Fm VI) (hP : PM P 1) : Ex (d + 18) mi264 0 (entL [.ref 74, .int q, .int (-1)] 9) [] (LY ++ []) VI ZL (vr ZR) 0 0 P := by
  refine x_iload_n rfl rfl ?_
  refine x_callS (M' := mi166) (As := [_]) (bc1 := 0) (bs1 := 0) (bc2 := 0) (bs2 := 0) rfl rfl rfl rfl ok166 rfl rfl rfl rfl rfl rfl ?_
  refine m_isDay ?_
  rw [dayEq, hd]
  refine x_if_eq rfl (fun c => ?_) (fun c => ?_)
  · exact absurd c (by decide)
  refine x_iload_n rfl rfl ?_
  refine x_iconst rfl ?_
  refine x_icmp_eq rfl (fun c => ?_) (fun c => ?_)
  rotate_left
  · exact absurd c (by decide)
  refine x_aload_n rfl rfl ?_
  refine x_iload_n rfl rfl ?_
  refine x_callV (M' := mi233) (As := [_]) (bc1 := 0) (bs1 := 0) (bc2 := 0) (bs2 := 0) rfl rfl rfl rfl ok233 rfl rfl (by decide) rfl rfl rfl rfl rfl rfl ?_
  refine x_iconst rfl ?_
  refine x_istore_n (ls' := [_, _, _, _, _]) rfl rfl rfl ?_
  refine x_iload_n rfl rfl ?_
  refine x_aload_n rfl rfl ?_
  refine x_getR (u := .ref _) rfl rfl rfl rfl ?_
  refine x_bipush rfl ?_
  refine x_ialE (j := 93) (u := 0) rfl rfl rfl (by decide) (hF.at (by decide) rfl : VI 76 93 = 0) ?_
  refine x_icmp_ge rfl (fun c => ?_) (fun c => ?_)
  rotate_left
  · exact absurd c (by decide)
  refine x_vret rfl rfl ?_
  refine x_aload_n rfl rfl ?_
  refine x_iload_n rfl rfl ?_
  refine x_callV (M' := mi181) (As := [_]) (bc1 := 0) (bs1 := 0) (bc2 := 0) (bs2 := 0) rfl rfl rfl rfl ok181 rfl rfl (by decide) rfl rfl rfl rfl rfl rfl ?_
  refine x_iconst rfl ?_
  refine x_istore_n (ls' := [_, _, _, _]) rfl rfl rfl ?_
  refine x_iconst rfl ?_
  refine x_istore_n (ls' := [_, _, _, _]) rfl rfl rfl ?_
  refine x_iload_n rfl rfl ?_
  refine x_aload_n rfl rfl ?_
  refine x_getR (u := .ref _) rfl rfl rfl rfl ?_
  refine x_bipush rfl ?_
  refine x_ialE (j := 93) (u := 0) rfl rfl rfl (by decide) (hF.at (by decide) rfl : VI 76 93 = 0) ?_
  refine x_icmp_ge rfl (fun c => ?_) (fun c => ?_)
  rotate_left
  · exact absurd c (by decide)
  refine x_iload_n rfl rfl ?_
  refine x_iret rfl rfl ?_
  refine x_istore_n (ls' := [_, _, _, _, _, _, _, _, _]) rfl rfl rfl ?_
  refine x_iconst rfl ?_
  refine x_istore (ls' := [_, _, _, _, _, _, _, _, _]) rfl rfl rfl ?_
  refine x_iload rfl rfl ?_
  refine x_bipush rfl ?_
  refine x_icmp_gt rfl (fun c => ?_) (fun c => ?_)
  · exact absurd c (by decide)
  refine x_iconst rfl ?_
  refine x_istore (ls' := [_, _, _, _, _, _, _, _, _]) rfl rfl rfl ?_
  refine x_iconst rfl ?_
  refine x_istore (ls' := [_, _, _, _, _, _, _, _, _]) rfl rfl rfl ?_
  refine x_iload rfl rfl ?_
  refine x_aload_n rfl rfl ?_
  refine x_getR (u := .ref _) rfl rfl rfl rfl ?_
  refine x_bipush rfl ?_
  refine x_ialE (j := 93) (u := 0) rfl rfl rfl (by decide) (hF.at (by decide) rfl : VI 76 93 = 0) ?_
  refine x_icmp_ge rfl (fun c => ?_) (fun c => ?_)
  rotate_left
  · exact absurd c (by decide)
  refine x_iload rfl rfl ?_
  refine x_if_ne rfl (fun c => ?_) (fun c => ?_)
  · exact absurd c (by decide)
  refine x_iload_n rfl rfl ?_
  refine x_iconst rfl ?_
  refine x_icmp_ne rfl (fun c => ?_) (fun c => ?_)
  · exact absurd c (by decide)
  refine x_iload rfl rfl ?_
  refine x_goto rfl ?_
  refine x_iret rfl rfl ?_
  exact hP _
